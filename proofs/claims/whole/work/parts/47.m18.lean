/-! the reference: is a hearing so, bribes, what was meant, the truce -/
section M18
variable {G : sG} {d : sD} {w g h s : Nat → Int}
def Hh (d : sD) (h : Nat → Int) : Prop := ∃ p : Nat, d 271 25 = (p : Int) ∧ p + 14 ≤ 3736 ∧ ∀ x, x < 14 → d 272 (p + x) = h x
theorem Hh_ag {cs fs : List Nat} {d d' : sD} (H : Hh d h) (hA : Ag cs fs d d') (h1 : 272 ∉ cs) (h2 : 25 ∉ fs) : Hh d' h := by
  obtain ⟨p, q1, q2, q3⟩ := H
  exact ⟨p, (hA.2 25 h2).trans q1, q2, fun x hx => (hA.1 272 _ h1 (by decide)).trans (q3 x hx)⟩
theorem isHh {k : Nat} (hk : k < 2) : Hh (up d 271 25 (840 + 14 * (k : Int))) (hvD d k) := ⟨840 + 14 * k, by rw [up_same]; omega, by omega, fun x _ => by rw [up_nea (by decide)]; rfl⟩
abbrev soL (w h : Nat → Int) (a : Nat) (ml : List (Nat × Nat)) : Prop := h a = -1 ∨ ((ml.length : Int) = h a ∧ ∀ i, i < ml.length → w (17 + 36 * a + 6 * (ml.getD i (0, 0)).1) = h (2 + 6 * a + i))
abbrev soM (w s : Nat → Int) (n : Nat) (h : Nat → Int) (a : Nat) : Prop := soL w h a (mkS w s n a 24 0).1
abbrev soK (w s : Nat → Int) (n : Nat) (h : Nat → Int) (a : Nat) : Prop := ∀ b, b < a → soM w s n h b
abbrev soI (w s : Nat → Int) (n : Nat) (h : Nat → Int) (a i : Nat) : Prop := soK w s n h a ∧ ((mkS w s n a 24 0).1.length : Int) = h a ∧ ∀ j, j < i → w (17 + 36 * a + 6 * ((mkS w s n a 24 0).1.getD j (0, 0)).1) = h (2 + 6 * a + j)
theorem soK_skip {n a : Nat} (e : h a = -1) : soK w s n h (a + 1) ↔ soK w s n h a := by
  constructor
  · intro q b hb; exact q b (by omega)
  · intro q b hb
    rcases (show b < a ∨ b = a by omega) with z | rfl
    · exact q b z
    · exact Or.inl e
theorem soK_full {n a : Nat} (e : ¬ h a = -1) : soK w s n h (a + 1) ↔ soI w s n h a (mkS w s n a 24 0).1.length := by
  constructor
  · intro q
    have q2 := (q a (by omega)).resolve_left e
    exact ⟨fun b hb => q b (by omega), q2.1, q2.2⟩
  · intro q b hb
    rcases (show b < a ∨ b = a by omega) with z | rfl
    · exact q.1 b z
    · exact Or.inr ⟨q.2.1, q.2.2⟩
theorem t_isSo {n : Nat} (hW : Wd d w) (hV : WV w) (hH : Hh d h) (hHV : HV h) (hn : d 271 18 = (n : Int)) (hn24 : n ≤ 24) : tB G mX12_isSo 0 [vR 271, vU 0, vU 0, vU 0] [] d (fun r d' => r = some (vI (bI (soK w (d 279) n h 2))) ∧ Ag [281, 282, 283, 284, 285] [] d d') := by
  have h4 : ∀ x : Nat × sD, (x.1 ≤ 2 ∧ Ag [281, 282, 283, 284, 285] [] d x.2) → tB G mX12_isSo 4 [vR 271, vI (bI (soK w (d 279) n h x.1)), vI x.1, vU 0] [] x.2 (fun r d' => r = some (vI (bI (soK w (d 279) n h 2))) ∧ Ag [281, 282, 283, 284, 285] [] d d') := by
    refine T_loop (α := Nat × sD) 4 (fun x => [vR 271, vI (bI (soK w (d 279) n h x.1)), vI x.1, vU 0]) (fun x => x.2) (fun x => x.1 ≤ 2 ∧ Ag [281, 282, 283, 284, 285] [] d x.2) (fun x => 2 - x.1) ?_
    rintro ⟨a, e⟩ ⟨ha, hA⟩ ih
    try dsimp only at ha hA ih ⊢
    have h01 := bI_01 (soK w (d 279) n h a)
    have hWe := Wd_ag hW hA (by decide) (by decide)
    obtain ⟨p, q1, q2, q3⟩ := Hh_ag hH hA (by decide) (by decide)
    have e279 : e 279 = d 279 := funext fun j => hA.1 279 j (by decide) (by decide)
    refine T_iload_n dX12_isSo_4 rfl ?_
    refine T_iconst dX12_isSo_5 (by decide) ?_
    refine T_icmp_ge (tgt := 128) dX12_isSo_6 (by decide) (fun c6 => ?_) (fun c6 => ?_)
    · refine T_iload_n dX12_isSo_128 rfl ?_
      exact T_zreturn dX12_isSo_129 rfl (by omega) ⟨by rw [show a = 2 by omega], hA⟩
    · refine T_aload_n dX12_isSo_9 rfl ?_
      refine T_getR dX12_isSo_10 fX12_7 rfl k271 r271_0 ?_
      refine T_aload_n dX12_isSo_13 rfl ?_
      refine T_getIv dX12_isSo_14 fX12_308 rfl k271 (x := (p : Int)) q1 ?_
      refine T_iload_n dX12_isSo_17 rfl ?_
      refine T_add dX12_isSo_18 (by omega) ?_
      refine T_ialdv dX12_isSo_19 k272 l272 (by omega) (j := p + a) (by omega) (x := h a) (q3 a (by omega)) ?_
      refine T_iconst dX12_isSo_20 (by decide) ?_
      refine T_icmp_ne (tgt := 27) dX12_isSo_21 (by decide) (fun c21 => ?_) (fun c21 => ?_)
      · refine T_aload_n dX12_isSo_27 rfl ?_
        refine T_iload_n dX12_isSo_28 rfl ?_
        refine T_callV dX12_isSo_29 lX12_270 (As := [_]) (rest := _) rfl rfl k271 (by decide) (Nat.le_of_ble_eq_true rfl) (Nat.le_of_ble_eq_true rfl) (t_makes hWe hV ((hA.2 18 (by decide)).trans hn) hn24 (by omega)) ?_
        rintro _ e2 ⟨rfl, hK, hF⟩
        rw [e279] at hK
        have hA2 := hA.trans hF.1 (cs := [281, 282, 283, 284, 285]) (fs := []) (by decide) (by decide) (by decide) (by decide)
        have hO := (mkS_MlOk (s := d 279) hV (n := n) (a := a) (by omega) hn24).1
        have hha := (hHV a (by omega)).1
        have q1' : e2 271 25 = (p : Int) := (hF.1.2 25 (by decide)).trans q1
        have q3' : ∀ x, x < 14 → e2 272 (p + x) = h x := fun x hx => (hF.1.1 272 _ (by decide) (by decide)).trans (q3 x hx)
        have hfull := soK_full (w := w) (s := d 279) (n := n) c21
        have h64 : ∀ i : Nat, i ≤ (mkS w (d 279) n a 24 0).1.length → tB G mX12_isSo 64 [vR 271, vI (bI (soI w (d 279) n h a i)), vI a, vI i] [] e2 (fun r d' => r = some (vI (bI (soK w (d 279) n h 2))) ∧ Ag [281, 282, 283, 284, 285] [] d d') := by
          refine T_loop (α := Nat) 64 (fun i => [vR 271, vI (bI (soI w (d 279) n h a i)), vI a, vI i]) (fun _ => e2) (fun i => i ≤ (mkS w (d 279) n a 24 0).1.length) (fun i => (mkS w (d 279) n a 24 0).1.length - i) ?_
          intro i hi ih2
          try dsimp only at ih2 ⊢
          have h115 : ∀ z : Int, z = bI (soI w (d 279) n h a (i + 1)) → i < (mkS w (d 279) n a 24 0).1.length → tB G mX12_isSo 115 [vR 271, vI (bI (soI w (d 279) n h a i)), vI a, vI i] [vI z] e2 (fun r d' => r = some (vI (bI (soK w (d 279) n h 2))) ∧ Ag [281, 282, 283, 284, 285] [] d d') := by
            rintro _ rfl hlt
            refine T_ist_n dX12_isSo_115 (by decide) rfl ?_
            refine T_inc dX12_isSo_116 rfl (by decide) rfl (by omega) ?_
            refine T_goto (tgt := 64) dX12_isSo_119 (by decide) ?_
            exact ih2 (i + 1) (by omega) (by omega)
          refine T_iload_n dX12_isSo_64 rfl ?_
          refine T_aload_n dX12_isSo_65 rfl ?_
          refine T_getR dX12_isSo_66 fX12_47 rfl k271 r271_22 ?_
          refine T_iload_n dX12_isSo_69 rfl ?_
          refine T_ialdv dX12_isSo_70 k284 l284 (by omega) (j := a) rfl (x := ((mkS w (d 279) n a 24 0).1.length : Int)) hK.1 ?_
          refine T_icmp_ge (tgt := 122) dX12_isSo_71 (by decide) (fun c71 => ?_) (fun c71 => ?_)
          · refine T_inc dX12_isSo_122 rfl (by decide) rfl (by omega) ?_
            refine T_goto (tgt := 4) dX12_isSo_125 (by decide) ?_
            refine T_drop 3 (T_leq ?_ (ih (a + 1, e2) ⟨by omega, hA2⟩ (by omega)))
            rw [bI_congr hfull, show i = (mkS w (d 279) n a 24 0).1.length by omega]; rfl
          · refine T_iload_n dX12_isSo_74 rfl ?_
            refine T_if_eq (tgt := 122) dX12_isSo_75 (by decide) (fun c75 => ?_) (fun c75 => ?_)
            · refine T_inc dX12_isSo_122 rfl (by decide) rfl (by omega) ?_
              refine T_goto (tgt := 4) dX12_isSo_125 (by decide) ?_
              refine T_drop 3 (T_leq ?_ (ih (a + 1, e2) ⟨by omega, hA2⟩ (by omega)))
              rw [c75, bI_f (fun z => bI_0 c75 ⟨(hfull.mp z).1, (hfull.mp z).2.1, fun j hj => (hfull.mp z).2.2 j (by omega)⟩)]; rfl
            · have h75 := bI_1 c75
              have hle := h75.2.1
              refine T_aload_n dX12_isSo_78 rfl ?_
              refine T_getR dX12_isSo_79 fX12_38 rfl k271 r271_19 ?_
              refine T_bipush dX12_isSo_82 (by decide) ?_
              refine T_iload_n dX12_isSo_84 rfl ?_
              refine T_mul dX12_isSo_85 (by omega) ?_
              refine T_iload_n dX12_isSo_86 rfl ?_
              refine T_add dX12_isSo_87 (by omega) ?_
              refine T_ialdv dX12_isSo_88 k281 l281 (by omega) (j := 24 * a + i) (by omega) (x := w (17 + 36 * a + 6 * ((mkS w (d 279) n a 24 0).1.getD i (0, 0)).1)) (hK.2.2 i (by omega)).1 ?_
              refine T_aload_n dX12_isSo_89 rfl ?_
              refine T_getR dX12_isSo_90 fX12_7 rfl k271 r271_0 ?_
              refine T_aload_n dX12_isSo_93 rfl ?_
              refine T_getIv dX12_isSo_94 fX12_308 rfl k271 (x := (p : Int)) q1' ?_
              refine T_iconst dX12_isSo_97 (by decide) ?_
              refine T_add dX12_isSo_98 (by omega) ?_
              refine T_bipush dX12_isSo_99 (by decide) ?_
              refine T_iload_n dX12_isSo_101 rfl ?_
              refine T_mul dX12_isSo_102 (by omega) ?_
              refine T_add dX12_isSo_103 (by omega) ?_
              refine T_iload_n dX12_isSo_104 rfl ?_
              refine T_add dX12_isSo_105 (by omega) ?_
              refine T_ialdv dX12_isSo_106 k272 l272 (by omega) (j := p + (2 + 6 * a + i)) (by omega) (x := h (2 + 6 * a + i)) (q3' _ (by omega)) ?_
              refine T_icmp_ne (tgt := 114) dX12_isSo_107 (by decide) (fun c107 => ?_) (fun c107 => ?_)
              · refine T_iconst dX12_isSo_114 (by decide) ?_
                exact h115 0 (bI_f (fun z => c107 (z.2.2 i (by omega)))).symm (by omega)
              · refine T_iconst dX12_isSo_110 (by decide) ?_
                refine T_goto (tgt := 115) dX12_isSo_111 (by decide) ?_
                have hI : soI w (d 279) n h a (i + 1) := ⟨h75.1, hle, fun j hj => by
                  rcases (show j < i ∨ j = i by omega) with z | rfl
                  · exact h75.2.2 j z
                  · exact c107⟩
                exact h115 1 (bI_t hI).symm (by omega)
        have h61 : ∀ z : Int, z = bI (soI w (d 279) n h a 0) → tB G mX12_isSo 61 [vR 271, vI (bI (soK w (d 279) n h a)), vI a, vU 0] [vI z] e2 (fun r d' => r = some (vI (bI (soK w (d 279) n h 2))) ∧ Ag [281, 282, 283, 284, 285] [] d d') := by
          rintro _ rfl
          refine T_ist_n dX12_isSo_61 (by decide) rfl ?_
          refine T_iconst dX12_isSo_62 (by decide) ?_
          refine T_ist_n dX12_isSo_63 (by decide) rfl ?_
          exact h64 0 (Nat.zero_le _)
        refine T_iload_n dX12_isSo_32 rfl ?_
        refine T_if_eq (tgt := 60) dX12_isSo_33 (by decide) (fun c33 => ?_) (fun c33 => ?_)
        · refine T_iconst dX12_isSo_60 (by decide) ?_
          exact h61 0 (bI_f (fun z => bI_0 c33 z.1)).symm
        · refine T_aload_n dX12_isSo_36 rfl ?_
          refine T_getR dX12_isSo_37 fX12_47 rfl k271 r271_22 ?_
          refine T_iload_n dX12_isSo_40 rfl ?_
          refine T_ialdv dX12_isSo_41 k284 l284 (by omega) (j := a) rfl (x := ((mkS w (d 279) n a 24 0).1.length : Int)) hK.1 ?_
          refine T_aload_n dX12_isSo_42 rfl ?_
          refine T_getR dX12_isSo_43 fX12_7 rfl k271 r271_0 ?_
          refine T_aload_n dX12_isSo_46 rfl ?_
          refine T_getIv dX12_isSo_47 fX12_308 rfl k271 (x := (p : Int)) q1' ?_
          refine T_iload_n dX12_isSo_50 rfl ?_
          refine T_add dX12_isSo_51 (by omega) ?_
          refine T_ialdv dX12_isSo_52 k272 l272 (by omega) (j := p + a) (by omega) (x := h a) (q3' a (by omega)) ?_
          refine T_icmp_ne (tgt := 60) dX12_isSo_53 (by decide) (fun c53 => ?_) (fun c53 => ?_)
          · refine T_iconst dX12_isSo_60 (by decide) ?_
            exact h61 0 (bI_f (fun z => c53 z.2.1)).symm
          · refine T_iconst dX12_isSo_56 (by decide) ?_
            refine T_goto (tgt := 61) dX12_isSo_57 (by decide) ?_
            exact h61 1 (bI_t ⟨bI_1 c33, c53, fun j hj => absurd hj (Nat.not_lt_zero j)⟩).symm
      · refine T_goto (tgt := 122) dX12_isSo_24 (by decide) ?_
        refine T_inc dX12_isSo_122 rfl (by decide) rfl (by omega) ?_
        refine T_goto (tgt := 4) dX12_isSo_125 (by decide) ?_
        refine T_leq ?_ (ih (a + 1, e) ⟨by omega, hA⟩ (by omega))
        rw [bI_congr (soK_skip c21)]; rfl
  refine T_iconst dX12_isSo_0 (by decide) ?_
  refine T_ist_n dX12_isSo_1 (by decide) rfl ?_
  refine T_iconst dX12_isSo_2 (by decide) ?_
  refine T_ist_n dX12_isSo_3 (by decide) rfl ?_
  refine T_leq ?_ (h4 (0, d) ⟨Nat.zero_le _, Ag.rf⟩)
  rw [bI_t (fun j hj => absurd hj (Nat.not_lt_zero j))]; rfl

end M18
