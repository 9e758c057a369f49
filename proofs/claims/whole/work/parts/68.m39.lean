/-! the reference: the draft is cleared -/
section M39
variable {G : sG} {d : sD}
def clS (s : Int) (x : Nat) : Int := if s = 0 then (if x = 0 then 1 else if 3 ≤ x ∧ x < 7 then (x : Int) - 3 else if x = 9 ∨ x = 10 then 1 else if x = 14 then 10 else 0) else if s = 2 then (if x < 2 then -1 else 0) else 0
abbrev clQ (d : sD) (s : Int) : Option sV → sD → Prop := fun r d' => r = none ∧ (∀ x, x < 89 → d' 274 x = clS s x) ∧ Ag [274] [] d d'
theorem t_clears {s : Int} : tB G mX12_clears 0 [vR 271, vI s, vU 0] [] d (clQ d s) := by
  have h34 : s = 0 → ∀ i : Nat, i ≤ 4 → tB G mX12_clears 34 [vR 271, vI s, vI i] [] (ups (up (ups d 274 0 89 (fun _ => 0)) 274 0 1) 274 3 (3 + i) (fun x => (x : Int) - 3)) (clQ d s) := by
    intro hs0
    refine T_loop (α := Nat) 34 (fun i => [vR 271, vI s, vI i]) (fun i => ups (up (ups d 274 0 89 (fun _ => 0)) 274 0 1) 274 3 (3 + i) (fun x => (x : Int) - 3)) (fun i => i ≤ 4) (fun i => 4 - i) ?_
    intro i hi ih
    try dsimp only at ih ⊢
    refine T_iload_n dX12_clears_34 rfl ?_
    refine T_iconst dX12_clears_35 (by decide) ?_
    refine T_icmp_ge (tgt := 54) dX12_clears_36 (by decide) (fun c36 => ?_) (fun c36 => ?_)
    · refine T_aload_n dX12_clears_54 rfl ?_
      refine T_getR dX12_clears_55 fX12_17 rfl k271 r271_9 ?_
      refine T_bipush dX12_clears_58 (by decide) ?_
      refine T_iconst dX12_clears_60 (by decide) ?_
      refine T_iast dX12_clears_61 k274 l274 (by omega) (j := 9) rfl ?_
      refine T_aload_n dX12_clears_62 rfl ?_
      refine T_getR dX12_clears_63 fX12_17 rfl k271 r271_9 ?_
      refine T_bipush dX12_clears_66 (by decide) ?_
      refine T_iconst dX12_clears_68 (by decide) ?_
      refine T_iast dX12_clears_69 k274 l274 (by omega) (j := 10) rfl ?_
      refine T_aload_n dX12_clears_70 rfl ?_
      refine T_getR dX12_clears_71 fX12_17 rfl k271 r271_9 ?_
      refine T_bipush dX12_clears_74 (by decide) ?_
      refine T_bipush dX12_clears_76 (by decide) ?_
      refine T_iast dX12_clears_78 k274 l274 (by omega) (j := 14) rfl ?_
      refine T_iload_n dX12_clears_79 rfl ?_
      refine T_iconst dX12_clears_80 (by decide) ?_
      refine T_icmp_ne (tgt := 98) dX12_clears_81 (by decide) (fun c81 => ?_) (fun c81 => absurd c81 (by omega))
      exact T_return dX12_clears_98 rfl (by
      obtain rfl : i = 4 := by omega
      refine ⟨rfl, fun x hx => ?_, Ag_up (Ag_up (Ag_up (Ag_ups (Ag_up (Ag_ups Ag.rf (by decide)) (by decide)) (by decide)) (by decide)) (by decide)) (by decide)⟩
      unfold clS; rw [if_pos hs0]
      unfold up ups; dsimp only; (repeat' split) <;> omega)
    · refine T_aload_n dX12_clears_39 rfl ?_
      refine T_getR dX12_clears_40 fX12_17 rfl k271 r271_9 ?_
      refine T_iconst dX12_clears_43 (by decide) ?_
      refine T_iload_n dX12_clears_44 rfl ?_
      refine T_add dX12_clears_45 (by omega) ?_
      refine T_iload_n dX12_clears_46 rfl ?_
      refine T_iast dX12_clears_47 k274 l274 (by omega) (j := 3 + i) (by omega) ?_
      refine T_inc dX12_clears_48 rfl (by decide) rfl (by omega) ?_
      refine T_goto (tgt := 34) dX12_clears_51 (by decide) ?_
      exact T_eq (ups_push (by omega) (by omega)) (ih (i + 1) (by omega) (by omega))
  have h2 : ∀ k : Nat, k ≤ 89 → tB G mX12_clears 2 [vR 271, vI s, vI k] [] (ups d 274 0 k (fun _ => 0)) (clQ d s) := by
    refine T_loop (α := Nat) 2 (fun k => [vR 271, vI s, vI k]) (fun k => ups d 274 0 k (fun _ => 0)) (fun k => k ≤ 89) (fun k => 89 - k) ?_
    intro k hk ih
    try dsimp only at ih ⊢
    refine T_iload_n dX12_clears_2 rfl ?_
    refine T_bipush dX12_clears_3 (by decide) ?_
    refine T_icmp_ge (tgt := 21) dX12_clears_5 (by decide) (fun c5 => ?_) (fun c5 => ?_)
    · obtain rfl : k = 89 := by omega
      refine T_iload_n dX12_clears_21 rfl ?_
      refine T_if_ne (tgt := 79) dX12_clears_22 (by decide) (fun c22 => ?_) (fun c22 => ?_)
      · refine T_iload_n dX12_clears_79 rfl ?_
        refine T_iconst dX12_clears_80 (by decide) ?_
        refine T_icmp_ne (tgt := 98) dX12_clears_81 (by decide) (fun c81 => ?_) (fun c81 => ?_)
        · exact T_return dX12_clears_98 rfl (by
        refine ⟨rfl, fun x hx => ?_, Ag_ups Ag.rf (by decide)⟩
        unfold clS; rw [if_neg c22, if_neg c81]; exact ups_in (by omega))
        · refine T_aload_n dX12_clears_84 rfl ?_
          refine T_getR dX12_clears_85 fX12_17 rfl k271 r271_9 ?_
          refine T_iconst dX12_clears_88 (by decide) ?_
          refine T_iconst dX12_clears_89 (by decide) ?_
          refine T_iast dX12_clears_90 k274 l274 (by omega) (j := 0) rfl ?_
          refine T_aload_n dX12_clears_91 rfl ?_
          refine T_getR dX12_clears_92 fX12_17 rfl k271 r271_9 ?_
          refine T_iconst dX12_clears_95 (by decide) ?_
          refine T_iconst dX12_clears_96 (by decide) ?_
          refine T_iast dX12_clears_97 k274 l274 (by omega) (j := 1) rfl ?_
          exact T_return dX12_clears_98 rfl (by
        refine ⟨rfl, fun x hx => ?_, Ag_up (Ag_up (Ag_ups Ag.rf (by decide)) (by decide)) (by decide)⟩
        unfold clS; rw [if_neg c22, if_pos c81]
        unfold up ups; dsimp only; (repeat' split) <;> omega)
      · refine T_aload_n dX12_clears_25 rfl ?_
        refine T_getR dX12_clears_26 fX12_17 rfl k271 r271_9 ?_
        refine T_iconst dX12_clears_29 (by decide) ?_
        refine T_iconst dX12_clears_30 (by decide) ?_
        refine T_iast dX12_clears_31 k274 l274 (by omega) (j := 0) rfl ?_
        refine T_iconst dX12_clears_32 (by decide) ?_
        refine T_ist_n dX12_clears_33 (by decide) rfl ?_
        exact T_eq (ups_nil).symm (h34 c22 0 (Nat.zero_le _))
    · refine T_aload_n dX12_clears_8 rfl ?_
      refine T_getR dX12_clears_9 fX12_17 rfl k271 r271_9 ?_
      refine T_iload_n dX12_clears_12 rfl ?_
      refine T_iconst dX12_clears_13 (by decide) ?_
      refine T_iast dX12_clears_14 k274 l274 (by omega) (j := k) rfl ?_
      refine T_inc dX12_clears_15 rfl (by decide) rfl (by omega) ?_
      refine T_goto (tgt := 2) dX12_clears_18 (by decide) ?_
      exact T_eq (ups_push (Nat.zero_le _) rfl) (ih (k + 1) (by omega) (by omega))
  refine T_iconst dX12_clears_0 (by decide) ?_
  refine T_ist_n dX12_clears_1 (by decide) rfl ?_
  exact T_eq ups_nil.symm (h2 0 (Nat.zero_le _))

end M39
