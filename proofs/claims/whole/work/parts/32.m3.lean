/-! the reference: feed -/
section M3
variable {G : sG} {d : sD}
/-- the word that the k-th byte is of -/
def fdW (a b c e f : Int) (k : Nat) : Int := if k < 4 then a else if k < 8 then b else if k < 12 then c else if k < 16 then e else f
def fdB (a b c e f : Int) (k : Nat) : Int := i_and (i_shr (fdW a b c e f k) (24 - 8 * ((k : Int) % 4))) 255
def fdF (d : sD) (t : Nat) (a b c e f : Int) (i : Nat) : sD := up (ups d 272 (10 + t) (10 + t + i) (fun j => fdB a b c e f (j - (10 + t)))) 272 4 ((t : Int) + i)
theorem fdF_4 {t : Nat} {a b c e f : Int} {i : Nat} : fdF d t a b c e f i 272 4 = (t : Int) + i := up_same
theorem fdF_s {t : Nat} {a b c e f x : Int} {i : Nat} (hx : x = fdB a b c e f i) : up (up (fdF d t a b c e f i) 272 (10 + t + i) x) 272 4 ((t : Int) + i + 1) = fdF d t a b c e f (i + 1) := by
  unfold fdF
  rw [up_comm (a := 272) (i := 4) (b := 272) (j := 10 + t + i) (by omega), up_up, ups_push (by omega) (by show x = fdB a b c e f (10 + t + i - (10 + t)); rw [Nat.add_sub_cancel_left]; exact hx)]
  rw [show (t : Int) + i + 1 = (t : Int) + ((i + 1 : Nat) : Int) by omega, Nat.add_assoc (10 + t)]

theorem t_X12_feed_20 {a b c e f : Int} {t : Nat} (h : t + 20 ≤ 600) : ∀ i : Nat, i ≤ 20 → tB G mX12_feed 20 [vR 271, vI a, vI b, vI c, vI e, vI f, vI i, vU 0] [] (fdF d t a b c e f i) (fun r d' => r = some (vI ((t : Int) + 20)) ∧ d' = fdF d t a b c e f 20) := by
  refine T_loop (α := Nat) 20 (fun i => [vR 271, vI a, vI b, vI c, vI e, vI f, vI i, vU 0]) (fun i => fdF d t a b c e f i) (fun i => i ≤ 20) (fun i => 20 - i) ?_
  rintro i hI ih
  have h73 : ∀ w : Int, w = fdW a b c e f i → i < 20 → tB G mX12_feed 73 [vR 271, vI a, vI b, vI c, vI e, vI f, vI i, vU 0] [vI w] (fdF d t a b c e f i) (fun r d' => r = some (vI ((t : Int) + 20)) ∧ d' = fdF d t a b c e f 20) := by
    intro w hw hi
    refine T_ist dX12_feed_73 (by decide) rfl ?_
    refine T_aload_n dX12_feed_75 rfl ?_
    refine T_getR dX12_feed_76 fX12_7 rfl k271 r271_0 ?_
    refine T_bipush dX12_feed_79 (by decide) ?_
    refine T_aload_n dX12_feed_81 rfl ?_
    refine T_getR dX12_feed_82 fX12_7 rfl k271 r271_0 ?_
    refine T_iconst dX12_feed_85 (by decide) ?_
    refine T_iald dX12_feed_86 k272 l272 (by omega) (j := 4) rfl ?_
    refine T_add dX12_feed_87 (by rw [fdF_4]; omega) ?_
    refine T_iload dX12_feed_88 rfl ?_
    refine T_bipush dX12_feed_90 (by decide) ?_
    refine T_bipush dX12_feed_92 (by decide) ?_
    refine T_iload dX12_feed_94 rfl ?_
    refine T_iconst dX12_feed_96 (by decide) ?_
    refine T_rem dX12_feed_97 (by omega) (by omega) ?_
    refine T_mul dX12_feed_98 (by omega) ?_
    refine T_sub dX12_feed_99 (by omega) ?_
    refine T_ishr dX12_feed_100 ?_
    refine T_sipush dX12_feed_101 (by decide) ?_
    refine T_iand dX12_feed_104 ?_
    refine T_iast dX12_feed_105 k272 l272 (by rw [fdF_4]; omega) (j := 10 + t + i) (by rw [fdF_4]; omega) ?_
    refine T_aload_n dX12_feed_106 rfl ?_
    refine T_getR dX12_feed_107 fX12_7 rfl k271 r271_0 ?_
    refine T_iconst dX12_feed_110 (by decide) ?_
    refine T_dup2 dX12_feed_111 rfl rfl ?_
    refine T_iald dX12_feed_112 k272 l272 (by omega) (j := 4) rfl ?_
    refine T_iconst dX12_feed_113 (by decide) ?_
    refine T_add dX12_feed_114 (by rw [up_nej (by omega), fdF_4]; omega) ?_
    refine T_iast dX12_feed_115 k272 l272 (by omega) (j := 4) rfl ?_
    refine T_inc dX12_feed_116 rfl (by decide) rfl (by omega) ?_
    refine T_goto (tgt := 20) dX12_feed_119 (by decide) ?_
    refine T_drop 7 ?_
    refine T_eq ?_ (ih (i + 1) (by omega) (by omega))
    rw [up_nej (by omega), fdF_4]
    exact fdF_s (by rw [hw]; rfl)
  refine T_iload dX12_feed_20 rfl ?_
  refine T_bipush dX12_feed_22 (by decide) ?_
  refine T_icmp_ge (tgt := 122) dX12_feed_24 (by decide) (fun c24 => ?_) (fun c24 => ?_)
  · refine T_aload_n dX12_feed_122 rfl ?_
    refine T_getR dX12_feed_123 fX12_7 rfl k271 r271_0 ?_
    refine T_iconst dX12_feed_126 (by decide) ?_
    refine T_iald dX12_feed_127 k272 l272 (by omega) (j := 4) rfl ?_
    exact T_ireturn dX12_feed_128 rfl ⟨by rw [show i = 20 by omega, fdF_4]; rfl, by rw [show i = 20 by omega]⟩
  · refine T_iload dX12_feed_27 rfl ?_
    refine T_iconst dX12_feed_29 (by decide) ?_
    refine T_icmp_ge (tgt := 37) dX12_feed_30 (by decide) (fun c30 => ?_) (fun c30 => ?_)
    · refine T_iload dX12_feed_37 rfl ?_
      refine T_bipush dX12_feed_39 (by decide) ?_
      refine T_icmp_ge (tgt := 48) dX12_feed_41 (by decide) (fun c41 => ?_) (fun c41 => ?_)
      · refine T_iload dX12_feed_48 rfl ?_
        refine T_bipush dX12_feed_50 (by decide) ?_
        refine T_icmp_ge (tgt := 59) dX12_feed_52 (by decide) (fun c52 => ?_) (fun c52 => ?_)
        · refine T_iload dX12_feed_59 rfl ?_
          refine T_bipush dX12_feed_61 (by decide) ?_
          refine T_icmp_ge (tgt := 71) dX12_feed_63 (by decide) (fun c63 => ?_) (fun c63 => ?_)
          · refine T_iload dX12_feed_71 rfl ?_
            exact h73 _ (by unfold fdW; (repeat' split) <;> first | rfl | omega) (by omega)
          · refine T_iload dX12_feed_66 rfl ?_
            refine T_goto (tgt := 73) dX12_feed_68 (by decide) ?_
            exact h73 _ (by unfold fdW; (repeat' split) <;> first | rfl | omega) (by omega)
        · refine T_iload_n dX12_feed_55 rfl ?_
          refine T_goto (tgt := 73) dX12_feed_56 (by decide) ?_
          exact h73 _ (by unfold fdW; (repeat' split) <;> first | rfl | omega) (by omega)
      · refine T_iload_n dX12_feed_44 rfl ?_
        refine T_goto (tgt := 73) dX12_feed_45 (by decide) ?_
        exact h73 _ (by unfold fdW; (repeat' split) <;> first | rfl | omega) (by omega)
    · refine T_iload_n dX12_feed_33 rfl ?_
      refine T_goto (tgt := 73) dX12_feed_34 (by decide) ?_
      exact h73 _ (by unfold fdW; (repeat' split) <;> first | rfl | omega) (by omega)
theorem t_X12_feed {a b c e f : Int} {t : Nat} (ht : d 272 4 = t) (hs : t ≤ 600) : tB G mX12_feed 0 [vR 271, vI a, vI b, vI c, vI e, vI f, vU 0, vU 0] [] d (fun r d' => (600 < t + 20 ∧ r = some (vI (-1)) ∧ d = d') ∨ (t + 20 ≤ 600 ∧ r = some (vI ((t : Int) + 20)) ∧ d' = fdF d t a b c e f 20)) := by
  refine T_aload_n dX12_feed_0 rfl ?_
  refine T_getR dX12_feed_1 fX12_7 rfl k271 r271_0 ?_
  refine T_iconst dX12_feed_4 (by decide) ?_
  refine T_iald dX12_feed_5 k272 l272 (by omega) (j := 4) rfl ?_
  refine T_bipush dX12_feed_6 (by decide) ?_
  refine T_add dX12_feed_8 (by omega) ?_
  refine T_sipush dX12_feed_9 (by decide) ?_
  refine T_icmp_le (tgt := 17) dX12_feed_12 (by decide) (fun c12 => ?_) (fun c12 => ?_)
  · refine T_iconst dX12_feed_17 (by decide) ?_
    refine T_ist dX12_feed_18 (by decide) rfl ?_
    have h := t_X12_feed_20 (G := G) (d := d) (a := a) (b := b) (c := c) (e := e) (f := f) (t := t) (by omega) 0 (by decide)
    refine tB.mono (T_eq ?_ h) (fun r d' q => Or.inr ⟨by omega, q⟩)
    unfold fdF
    rw [Nat.add_zero, ups_nil]
    funext x y
    unfold up
    split
    · next e => rw [e.1, e.2, ht]; rfl
    · rfl
  · refine T_iconst dX12_feed_15 (by decide) ?_
    exact T_ireturn dX12_feed_16 rfl (Or.inl ⟨by omega, rfl, rfl⟩)

end M3
