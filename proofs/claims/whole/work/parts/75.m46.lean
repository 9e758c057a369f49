/-! the reference: a word, a number, the end of a line are taken -/
section M46
variable {G : sG} {d : sD} {T : Nat → Int} {n p : Nat}
/-- a word of some is at hand -/
abbrev wdP (d : sD) (T : Nat → Int) (n p : Nat) (lo hi : Int) : Prop := d 271 8 = 0 ∧ kdT T n p = 3 ∧ lo ≤ woT T n p ∧ woT T n p ≤ hi
theorem t_takes {lo hi : Int} (hT : Tp d n T) (h : At d T n p) : tB G mX12_takes 0 [vR 271, vI lo, vI hi, vU 0] [] d (fun r d' => (wdP d T n p lo hi ∧ r = some (vI (woT T n p)) ∧ At d' T n (avT T n p) ∧ Ag [] tkF d d') ∨ (¬ wdP d T n p lo hi ∧ r = some (vI 0) ∧ d' = enD d)) := by
  refine T_aload_n dX12_takes_0 rfl ?_
  refine T_getI dX12_takes_1 fX12_138 rfl k271 ?_
  refine T_if_ne (tgt := 27) dX12_takes_4 (by decide) (fun c4 => ?_) (fun c4 => ?_)
  · refine T_aload_n dX12_takes_27 rfl ?_
    refine T_callV dX12_takes_28 lX12_142 (As := []) (rest := _) rfl rfl k271 (by decide) (Nat.le_of_ble_eq_true rfl) (Nat.le_of_ble_eq_true rfl) t_ends ?_
    rintro _ _ ⟨rfl, rfl⟩
    refine T_iconst dX12_takes_31 (by decide) ?_
    exact T_ireturn dX12_takes_32 rfl (Or.inr ⟨fun z => c4 z.1, rfl, rfl⟩)
  · refine T_aload_n dX12_takes_7 rfl ?_
    refine T_getIv dX12_takes_8 fX12_115 rfl k271 (x := kdT T n p) h.2.1.2.2 ?_
    refine T_iconst dX12_takes_11 (by decide) ?_
    refine T_icmp_ne (tgt := 27) dX12_takes_12 (by decide) (fun c12 => ?_) (fun c12 => ?_)
    · refine T_aload_n dX12_takes_27 rfl ?_
      refine T_callV dX12_takes_28 lX12_142 (As := []) (rest := _) rfl rfl k271 (by decide) (Nat.le_of_ble_eq_true rfl) (Nat.le_of_ble_eq_true rfl) t_ends ?_
      rintro _ _ ⟨rfl, rfl⟩
      refine T_iconst dX12_takes_31 (by decide) ?_
      exact T_ireturn dX12_takes_32 rfl (Or.inr ⟨fun z => c12 z.2.1, rfl, rfl⟩)
    · refine T_aload_n dX12_takes_15 rfl ?_
      refine T_getIv dX12_takes_16 fX12_129 rfl k271 (x := woT T n p) (h.2.2.2 c12) ?_
      refine T_iload_n dX12_takes_19 rfl ?_
      refine T_iload_n dX12_takes_20 rfl ?_
      refine T_callS dX12_takes_21 lX12_145 (As := [_, _, _]) (rest := _) rfl rfl (by decide) (Nat.le_of_ble_eq_true rfl) (Nat.le_of_ble_eq_true rfl) t_X12_isIn ?_
      rintro _ _ ⟨rfl, rfl⟩
      refine T_if_ne (tgt := 33) dX12_takes_24 (by decide) (fun c24 => ?_) (fun c24 => ?_)
      · refine T_aload_n dX12_takes_33 rfl ?_
        refine T_getIv dX12_takes_34 fX12_129 rfl k271 (x := woT T n p) (h.2.2.2 c12) ?_
        refine T_ist_n dX12_takes_37 (by decide) rfl ?_
        refine T_aload_n dX12_takes_38 rfl ?_
        refine T_callV dX12_takes_39 lX12_153 (As := []) (rest := _) rfl rfl k271 (by decide) (Nat.le_of_ble_eq_true rfl) (Nat.le_of_ble_eq_true rfl) (t_advAt hT h) ?_
        rintro _ d1 ⟨rfl, hAt, hA⟩
        refine T_iload_n dX12_takes_42 rfl ?_
        exact T_ireturn dX12_takes_43 rfl (Or.inl ⟨⟨c4, c12, bI_1 c24⟩, rfl, hAt, hA⟩)
      · refine T_aload_n dX12_takes_27 rfl ?_
        refine T_callV dX12_takes_28 lX12_142 (As := []) (rest := _) rfl rfl k271 (by decide) (Nat.le_of_ble_eq_true rfl) (Nat.le_of_ble_eq_true rfl) t_ends ?_
        rintro _ _ ⟨rfl, rfl⟩
        refine T_iconst dX12_takes_31 (by decide) ?_
        exact T_ireturn dX12_takes_32 rfl (Or.inr ⟨fun z => bI_0 c24 z.2.2, rfl, rfl⟩)

theorem t_endsLine (hT : Tp d n T) (h : At d T n p) : tB G mX12_endsLine 0 [vR 271] [] d (fun r d' => r = none ∧ ((d 271 8 = 0 ∧ kdT T n p = 2 ∧ At d' T n (avT T n p) ∧ Ag [] tkF d d') ∨ (¬ (d 271 8 = 0 ∧ kdT T n p = 2) ∧ d' = enD d))) := by
  refine T_aload_n dX12_endsLine_0 rfl ?_
  refine T_getI dX12_endsLine_1 fX12_138 rfl k271 ?_
  refine T_if_ne (tgt := 22) dX12_endsLine_4 (by decide) (fun c4 => ?_) (fun c4 => ?_)
  · refine T_aload_n dX12_endsLine_22 rfl ?_
    refine T_callV dX12_endsLine_23 lX12_142 (As := []) (rest := _) rfl rfl k271 (by decide) (Nat.le_of_ble_eq_true rfl) (Nat.le_of_ble_eq_true rfl) t_ends ?_
    rintro _ _ ⟨rfl, rfl⟩
    exact T_return dX12_endsLine_26 rfl ⟨rfl, Or.inr ⟨fun z => c4 z.1, rfl⟩⟩
  · refine T_aload_n dX12_endsLine_7 rfl ?_
    refine T_getIv dX12_endsLine_8 fX12_115 rfl k271 (x := kdT T n p) h.2.1.2.2 ?_
    refine T_iconst dX12_endsLine_11 (by decide) ?_
    refine T_icmp_ne (tgt := 22) dX12_endsLine_12 (by decide) (fun c12 => ?_) (fun c12 => ?_)
    · refine T_aload_n dX12_endsLine_22 rfl ?_
      refine T_callV dX12_endsLine_23 lX12_142 (As := []) (rest := _) rfl rfl k271 (by decide) (Nat.le_of_ble_eq_true rfl) (Nat.le_of_ble_eq_true rfl) t_ends ?_
      rintro _ _ ⟨rfl, rfl⟩
      exact T_return dX12_endsLine_26 rfl ⟨rfl, Or.inr ⟨fun z => c12 z.2, rfl⟩⟩
    · refine T_aload_n dX12_endsLine_15 rfl ?_
      refine T_callV dX12_endsLine_16 lX12_153 (As := []) (rest := _) rfl rfl k271 (by decide) (Nat.le_of_ble_eq_true rfl) (Nat.le_of_ble_eq_true rfl) (t_advAt hT h) ?_
      rintro _ d1 ⟨rfl, hAt, hA⟩
      refine T_goto (tgt := 26) dX12_endsLine_19 (by decide) ?_
      exact T_return dX12_endsLine_26 rfl ⟨rfl, Or.inl ⟨c4, c12, hAt, hA⟩⟩

theorem t_beatTold (hT : Tp d n T) (h : At d T n p) : tB G mX12_beatTold 0 [vR 271] [] d (fun r d' => (wdP d T n p 10 13 ∧ r = some (vI (woT T n p - 10)) ∧ At d' T n (avT T n p) ∧ Ag [] tkF d d') ∨ (¬ wdP d T n p 10 13 ∧ r = some (vI (-10)) ∧ d' = enD d)) := by
  refine T_aload_n dX12_beatTold_0 rfl ?_
  refine T_bipush dX12_beatTold_1 (by decide) ?_
  refine T_bipush dX12_beatTold_3 (by decide) ?_
  refine T_callV dX12_beatTold_5 lX12_156 (As := [_, _]) (rest := _) rfl rfl k271 (by decide) (Nat.le_of_ble_eq_true rfl) (Nat.le_of_ble_eq_true rfl) (t_takes hT h) ?_
  rintro _ d1 (⟨hw, rfl, hAt, hA⟩ | ⟨hw, rfl, rfl⟩)
  · obtain ⟨hw1, hw2, hw3⟩ := hw
    refine T_bipush dX12_beatTold_8 (by decide) ?_
    refine T_sub dX12_beatTold_10 (by omega) ?_
    exact T_ireturn dX12_beatTold_11 rfl (Or.inl ⟨⟨hw1, hw2, hw3⟩, rfl, hAt, hA⟩)
  ·
    refine T_bipush dX12_beatTold_8 (by decide) ?_
    refine T_sub dX12_beatTold_10 (by omega) ?_
    exact T_ireturn dX12_beatTold_11 rfl (Or.inr ⟨hw, rfl, rfl⟩)

/-- a number is at hand -/
abbrev nmP (d : sD) (T : Nat → Int) (n p : Nat) : Prop := d 271 8 = 0 ∧ kdT T n p = 1
theorem alD_Ag {k q : Int} : Ag [272] [] d (alD d k q) := by
  unfold alD; split
  · exact Ag.rf
  · split
    · exact Ag_up (Ag_up Ag.rf (by decide)) (by decide)
    · exact Ag.rf
theorem alD_tp {k q : Int} (h : Tp d n T) : Tp (alD d k q) n T := by
  have h0 : alD d k q 271 2 = d 271 2 := (alD_Ag (d := d) (k := k) (q := q)).2 2 (by decide)
  have h1 : ∀ i, alD d k q 272 (10 + i) = d 272 (10 + i) := fun i => by
    unfold alD; split
    · rfl
    · split
      · rw [up_nej (by omega), up_nej (by omega)]
      · rfl
  refine ⟨h0.trans h.1, h.2.1, ?_, h.2.2.2⟩
  rw [← h.2.2.1]; funext i; unfold byS; rw [h0, h1]
theorem t_numbered {lo hi : Int} (hT : Tp d n T) (h : At d T n p) : tB G mX12_numbered 0 [vR 271, vI lo, vI hi, vU 0] [] d (fun r d' => (nmP d T n p ∧ (lo ≤ nmT T n p ∧ nmT T n p ≤ hi) ∧ r = some (vI (nmT T n p)) ∧ At d' T n (avT T n p) ∧ Ag [] tkF d d') ∨ (nmP d T n p ∧ ¬ (lo ≤ nmT T n p ∧ nmT T n p ≤ hi) ∧ r = some (vI lo) ∧ At d' T n (avT T n p) ∧ Ag [] tkF (alD d 2 p) d') ∨ (¬ nmP d T n p ∧ r = some (vI lo) ∧ d' = enD d)) := by
  refine T_aload_n dX12_numbered_0 rfl ?_
  refine T_getI dX12_numbered_1 fX12_138 rfl k271 ?_
  refine T_if_ne (tgt := 15) dX12_numbered_4 (by decide) (fun c4 => ?_) (fun c4 => ?_)
  · refine T_aload_n dX12_numbered_15 rfl ?_
    refine T_callV dX12_numbered_16 lX12_142 (As := []) (rest := _) rfl rfl k271 (by decide) (Nat.le_of_ble_eq_true rfl) (Nat.le_of_ble_eq_true rfl) t_ends ?_
    rintro _ _ ⟨rfl, rfl⟩
    refine T_iload_n dX12_numbered_19 rfl ?_
    exact T_ireturn dX12_numbered_20 rfl (Or.inr (Or.inr ⟨fun z => c4 z.1, rfl, rfl⟩))
  · refine T_aload_n dX12_numbered_7 rfl ?_
    refine T_getIv dX12_numbered_8 fX12_115 rfl k271 (x := kdT T n p) h.2.1.2.2 ?_
    refine T_iconst dX12_numbered_11 (by decide) ?_
    refine T_icmp_eq (tgt := 21) dX12_numbered_12 (by decide) (fun c12 => ?_) (fun c12 => ?_)
    · refine T_aload_n dX12_numbered_21 rfl ?_
      refine T_getIv dX12_numbered_22 fX12_135 rfl k271 (x := nmT T n p) (h.2.2.1 c12) ?_
      refine T_ist_n dX12_numbered_25 (by decide) rfl ?_
      refine T_iload_n dX12_numbered_26 rfl ?_
      refine T_iload_n dX12_numbered_27 rfl ?_
      refine T_iload_n dX12_numbered_28 rfl ?_
      refine T_callS dX12_numbered_29 lX12_145 (As := [_, _, _]) (rest := _) rfl rfl (by decide) (Nat.le_of_ble_eq_true rfl) (Nat.le_of_ble_eq_true rfl) t_X12_isIn ?_
      rintro _ _ ⟨rfl, rfl⟩
      refine T_if_ne (tgt := 44) dX12_numbered_32 (by decide) (fun c32 => ?_) (fun c32 => ?_)
      · refine T_aload_n dX12_numbered_44 rfl ?_
        refine T_callV dX12_numbered_45 lX12_153 (As := []) (rest := _) rfl rfl k271 (by decide) (Nat.le_of_ble_eq_true rfl) (Nat.le_of_ble_eq_true rfl) (t_advAt hT h) ?_
        rintro _ d1 ⟨rfl, hAt, hA⟩
        refine T_iload_n dX12_numbered_48 rfl ?_
        refine T_iload_n dX12_numbered_49 rfl ?_
        refine T_iload_n dX12_numbered_50 rfl ?_
        refine T_callS dX12_numbered_51 lX12_145 (As := [_, _, _]) (rest := _) rfl rfl (by decide) (Nat.le_of_ble_eq_true rfl) (Nat.le_of_ble_eq_true rfl) t_X12_isIn ?_
        rintro _ _ ⟨rfl, rfl⟩
        refine T_if_eq (tgt := 61) dX12_numbered_54 (by decide) (fun c54 => ?_) (fun c54 => ?_)
        · refine T_iload_n dX12_numbered_61 rfl ?_
          exact T_ireturn dX12_numbered_62 rfl (absurd (bI_1 c32) (bI_0 c54))
        · refine T_iload_n dX12_numbered_57 rfl ?_
          refine T_goto (tgt := 62) dX12_numbered_58 (by decide) ?_
          exact T_ireturn dX12_numbered_62 rfl (Or.inl ⟨⟨c4, c12⟩, bI_1 c32, rfl, hAt, hA⟩)
      · refine T_aload_n dX12_numbered_35 rfl ?_
        refine T_iconst dX12_numbered_36 (by decide) ?_
        refine T_aload_n dX12_numbered_37 rfl ?_
        refine T_getIv dX12_numbered_38 fX12_112 rfl k271 (x := (p : Int)) h.2.1.1 ?_
        refine T_callV dX12_numbered_41 lX12_149 (As := [_, _]) (rest := _) rfl rfl k271 (by decide) (Nat.le_of_ble_eq_true rfl) (Nat.le_of_ble_eq_true rfl) t_also ?_
        rintro _ _ ⟨rfl, rfl⟩
        refine T_aload_n dX12_numbered_44 rfl ?_
        refine T_callV dX12_numbered_45 lX12_153 (As := []) (rest := _) rfl rfl k271 (by decide) (Nat.le_of_ble_eq_true rfl) (Nat.le_of_ble_eq_true rfl) (t_advAt (alD_tp hT) (At_ag h alD_Ag (by decide))) ?_
        rintro _ d1 ⟨rfl, hAt, hA⟩
        refine T_iload_n dX12_numbered_48 rfl ?_
        refine T_iload_n dX12_numbered_49 rfl ?_
        refine T_iload_n dX12_numbered_50 rfl ?_
        refine T_callS dX12_numbered_51 lX12_145 (As := [_, _, _]) (rest := _) rfl rfl (by decide) (Nat.le_of_ble_eq_true rfl) (Nat.le_of_ble_eq_true rfl) t_X12_isIn ?_
        rintro _ _ ⟨rfl, rfl⟩
        refine T_if_eq (tgt := 61) dX12_numbered_54 (by decide) (fun c54 => ?_) (fun c54 => ?_)
        · refine T_iload_n dX12_numbered_61 rfl ?_
          exact T_ireturn dX12_numbered_62 rfl (Or.inr (Or.inl ⟨⟨c4, c12⟩, bI_0 c32, rfl, hAt, hA⟩))
        · refine T_iload_n dX12_numbered_57 rfl ?_
          refine T_goto (tgt := 62) dX12_numbered_58 (by decide) ?_
          exact T_ireturn dX12_numbered_62 rfl (absurd (bI_1 c54) (bI_0 c32))
    · refine T_aload_n dX12_numbered_15 rfl ?_
      refine T_callV dX12_numbered_16 lX12_142 (As := []) (rest := _) rfl rfl k271 (by decide) (Nat.le_of_ble_eq_true rfl) (Nat.le_of_ble_eq_true rfl) t_ends ?_
      rintro _ _ ⟨rfl, rfl⟩
      refine T_iload_n dX12_numbered_19 rfl ?_
      exact T_ireturn dX12_numbered_20 rfl (Or.inr (Or.inr ⟨fun z => c12 z.2, rfl, rfl⟩))

end M46
