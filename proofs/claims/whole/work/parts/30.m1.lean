/-! the reference: small methods -/
section M1
variable {G : sG} {d : sD}
def bI (p : Prop) [Decidable p] : Int := if p then 1 else 0
theorem bI_t {p : Prop} [Decidable p] (h : p) : bI p = 1 := if_pos h
theorem bI_f {p : Prop} [Decidable p] (h : ¬ p) : bI p = 0 := if_neg h
theorem bI_01 (p : Prop) [Decidable p] : bI p = 0 ∨ bI p = 1 := by unfold bI; split <;> simp
theorem bI_0 {p : Prop} [Decidable p] (h : bI p = 0) : ¬ p := fun q => by rw [bI_t q] at h; cases h
theorem bI_1 {p : Prop} [Decidable p] (h : ¬ bI p = 0) : p := by
  by_cases q : p
  · exact q
  · exact absurd (bI_f q) h

theorem t_X12_isIn {v a b : Int} : tB G mX12_isIn 0 [vI v, vI a, vI b] [] d (fun r d' => r = some (vI (bI (a ≤ v ∧ v ≤ b))) ∧ d = d') := by
  refine T_iload_n dX12_isIn_0 rfl ?_
  refine T_iload_n dX12_isIn_1 rfl ?_
  refine T_icmp_lt (tgt := 14) dX12_isIn_2 (by decide) (fun c2 => ?_) (fun c2 => ?_)
  · refine T_iconst dX12_isIn_14 (by decide) ?_
    exact T_zreturn dX12_isIn_15 rfl (by omega) (by refine ⟨?_, rfl⟩; first | rfl | (refine congrArg (fun z => some (vI z)) ?_; first | omega | (simp only [bI]; (repeat' split) <;> omega)))
  · refine T_iload_n dX12_isIn_5 rfl ?_
    refine T_iload_n dX12_isIn_6 rfl ?_
    refine T_icmp_gt (tgt := 14) dX12_isIn_7 (by decide) (fun c7 => ?_) (fun c7 => ?_)
    · refine T_iconst dX12_isIn_14 (by decide) ?_
      exact T_zreturn dX12_isIn_15 rfl (by omega) (by refine ⟨?_, rfl⟩; first | rfl | (refine congrArg (fun z => some (vI z)) ?_; first | omega | (simp only [bI]; (repeat' split) <;> omega)))
    · refine T_iconst dX12_isIn_10 (by decide) ?_
      refine T_goto (tgt := 15) dX12_isIn_11 (by decide) ?_
      exact T_zreturn dX12_isIn_15 rfl (by omega) (by refine ⟨?_, rfl⟩; first | rfl | (refine congrArg (fun z => some (vI z)) ?_; first | omega | (simp only [bI]; (repeat' split) <;> omega)))

theorem t_X12_isLetter {c : Int} : tB G mX12_isLetter 0 [vI c] [] d (fun r d' => r = some (vI (bI (97 ≤ c ∧ c ≤ 122))) ∧ d = d') := by
  refine T_iload_n dX12_isLetter_0 rfl ?_
  refine T_bipush dX12_isLetter_1 (by decide) ?_
  refine T_icmp_lt (tgt := 16) dX12_isLetter_3 (by decide) (fun c3 => ?_) (fun c3 => ?_)
  · refine T_iconst dX12_isLetter_16 (by decide) ?_
    exact T_zreturn dX12_isLetter_17 rfl (by omega) (by refine ⟨?_, rfl⟩; first | rfl | (refine congrArg (fun z => some (vI z)) ?_; first | omega | (simp only [bI]; (repeat' split) <;> omega)))
  · refine T_iload_n dX12_isLetter_6 rfl ?_
    refine T_bipush dX12_isLetter_7 (by decide) ?_
    refine T_icmp_gt (tgt := 16) dX12_isLetter_9 (by decide) (fun c9 => ?_) (fun c9 => ?_)
    · refine T_iconst dX12_isLetter_16 (by decide) ?_
      exact T_zreturn dX12_isLetter_17 rfl (by omega) (by refine ⟨?_, rfl⟩; first | rfl | (refine congrArg (fun z => some (vI z)) ?_; first | omega | (simp only [bI]; (repeat' split) <;> omega)))
    · refine T_iconst dX12_isLetter_12 (by decide) ?_
      refine T_goto (tgt := 17) dX12_isLetter_13 (by decide) ?_
      exact T_zreturn dX12_isLetter_17 rfl (by omega) (by refine ⟨?_, rfl⟩; first | rfl | (refine congrArg (fun z => some (vI z)) ?_; first | omega | (simp only [bI]; (repeat' split) <;> omega)))

theorem t_X12_isDigit {c : Int} : tB G mX12_isDigit 0 [vI c] [] d (fun r d' => r = some (vI (bI (48 ≤ c ∧ c ≤ 57))) ∧ d = d') := by
  refine T_iload_n dX12_isDigit_0 rfl ?_
  refine T_bipush dX12_isDigit_1 (by decide) ?_
  refine T_icmp_lt (tgt := 16) dX12_isDigit_3 (by decide) (fun c3 => ?_) (fun c3 => ?_)
  · refine T_iconst dX12_isDigit_16 (by decide) ?_
    exact T_zreturn dX12_isDigit_17 rfl (by omega) (by refine ⟨?_, rfl⟩; first | rfl | (refine congrArg (fun z => some (vI z)) ?_; first | omega | (simp only [bI]; (repeat' split) <;> omega)))
  · refine T_iload_n dX12_isDigit_6 rfl ?_
    refine T_bipush dX12_isDigit_7 (by decide) ?_
    refine T_icmp_gt (tgt := 16) dX12_isDigit_9 (by decide) (fun c9 => ?_) (fun c9 => ?_)
    · refine T_iconst dX12_isDigit_16 (by decide) ?_
      exact T_zreturn dX12_isDigit_17 rfl (by omega) (by refine ⟨?_, rfl⟩; first | rfl | (refine congrArg (fun z => some (vI z)) ?_; first | omega | (simp only [bI]; (repeat' split) <;> omega)))
    · refine T_iconst dX12_isDigit_12 (by decide) ?_
      refine T_goto (tgt := 17) dX12_isDigit_13 (by decide) ?_
      exact T_zreturn dX12_isDigit_17 rfl (by omega) (by refine ⟨?_, rfl⟩; first | rfl | (refine congrArg (fun z => some (vI z)) ?_; first | omega | (simp only [bI]; (repeat' split) <;> omega)))

theorem t_X12_isArmy {a : Int} : tB G mX12_isArmy 0 [vI a] [] d (fun r d' => r = some (vI (bI (0 ≤ a ∧ a ≤ 1))) ∧ d = d') := by
  refine T_iload_n dX12_isArmy_0 rfl ?_
  refine T_iconst dX12_isArmy_1 (by decide) ?_
  refine T_iconst dX12_isArmy_2 (by decide) ?_
  refine T_callS dX12_isArmy_3 lX12_145 (As := [_, _, _]) (rest := _) rfl rfl (by decide) (Nat.le_of_ble_eq_true rfl) (Nat.le_of_ble_eq_true rfl) (t_X12_isIn) ?_
  rintro _ _ ⟨rfl, rfl⟩
  exact T_zreturn dX12_isArmy_6 rfl (bI_01 _) ⟨rfl, rfl⟩

theorem t_X12_lesser {a b : Int} : tB G mX12_lesser 0 [vI a, vI b] [] d (fun r d' => r = some (vI (min a b)) ∧ d = d') := by
  refine T_iload_n dX12_lesser_0 rfl ?_
  refine T_iload_n dX12_lesser_1 rfl ?_
  refine T_icmp_ge (tgt := 9) dX12_lesser_2 (by decide) (fun c2 => ?_) (fun c2 => ?_)
  · refine T_iload_n dX12_lesser_9 rfl ?_
    exact T_ireturn dX12_lesser_10 rfl (by refine ⟨?_, rfl⟩; first | rfl | (refine congrArg (fun z => some (vI z)) ?_; first | omega | (simp only [bI]; (repeat' split) <;> omega)))
  · refine T_iload_n dX12_lesser_5 rfl ?_
    refine T_goto (tgt := 10) dX12_lesser_6 (by decide) ?_
    exact T_ireturn dX12_lesser_10 rfl (by refine ⟨?_, rfl⟩; first | rfl | (refine congrArg (fun z => some (vI z)) ?_; first | omega | (simp only [bI]; (repeat' split) <;> omega)))

theorem t_X12_isOf {s k : Int} (hs : 0 ≤ s ∧ s ≤ 3) (hc : 0 ≤ d 272 s.toNat ∧ d 272 s.toNat ≤ 2) : tB G mX12_isOf 0 [vR 271, vI s, vI k] [] d (fun r d' => r = some (vI (bI (0 ≤ k ∧ k ≤ d 272 s.toNat - 1))) ∧ d = d') := by
  refine T_iload_n dX12_isOf_0 rfl ?_
  refine T_iconst dX12_isOf_1 (by decide) ?_
  refine T_aload_n dX12_isOf_2 rfl ?_
  refine T_getR dX12_isOf_3 fX12_7 rfl k271 r271_0 ?_
  refine T_iload_n dX12_isOf_6 rfl ?_
  refine T_iald dX12_isOf_7 k272 l272 (by omega) rfl ?_
  refine T_iconst dX12_isOf_8 (by decide) ?_
  refine T_sub dX12_isOf_9 (by omega) ?_
  refine T_callS dX12_isOf_10 lX12_145 (As := [_, _, _]) (rest := _) rfl rfl (by decide) (Nat.le_of_ble_eq_true rfl) (Nat.le_of_ble_eq_true rfl) (t_X12_isIn) ?_
  rintro _ _ ⟨rfl, rfl⟩
  exact T_zreturn dX12_isOf_13 rfl (bI_01 _) ⟨rfl, rfl⟩

def plO (s k : Int) : Int := if s = 0 then 610 + 89 * k else if s = 1 then 788 + 26 * k else if s = 2 then 840 + 14 * k else 868 + 33 * k
def szO (s : Int) : Int := if s = 0 then 89 else if s = 1 then 26 else if s = 2 then 14 else 33

theorem t_X12_placeOf {s k : Int} (hk : 0 ≤ k ∧ k ≤ 2) : tB G mX12_placeOf 0 [vI s, vI k] [] d (fun r d' => r = some (vI (plO s k)) ∧ d = d') := by
  refine T_iload_n dX12_placeOf_0 rfl ?_
  refine T_if_ne (tgt := 15) dX12_placeOf_1 (by decide) (fun c1 => ?_) (fun c1 => ?_)
  · refine T_iload_n dX12_placeOf_15 rfl ?_
    refine T_iconst dX12_placeOf_16 (by decide) ?_
    refine T_icmp_ne (tgt := 31) dX12_placeOf_17 (by decide) (fun c17 => ?_) (fun c17 => ?_)
    · refine T_iload_n dX12_placeOf_31 rfl ?_
      refine T_iconst dX12_placeOf_32 (by decide) ?_
      refine T_icmp_ne (tgt := 47) dX12_placeOf_33 (by decide) (fun c33 => ?_) (fun c33 => ?_)
      · refine T_sipush dX12_placeOf_47 (by decide) ?_
        refine T_bipush dX12_placeOf_50 (by decide) ?_
        refine T_iload_n dX12_placeOf_52 rfl ?_
        refine T_mul dX12_placeOf_53 (by omega) ?_
        refine T_add dX12_placeOf_54 (by omega) ?_
        exact T_ireturn dX12_placeOf_55 rfl ⟨by unfold plO; (repeat' split) <;> first | rfl | omega, rfl⟩
      · refine T_sipush dX12_placeOf_36 (by decide) ?_
        refine T_bipush dX12_placeOf_39 (by decide) ?_
        refine T_iload_n dX12_placeOf_41 rfl ?_
        refine T_mul dX12_placeOf_42 (by omega) ?_
        refine T_add dX12_placeOf_43 (by omega) ?_
        refine T_goto (tgt := 55) dX12_placeOf_44 (by decide) ?_
        exact T_ireturn dX12_placeOf_55 rfl ⟨by unfold plO; (repeat' split) <;> first | rfl | omega, rfl⟩
    · refine T_sipush dX12_placeOf_20 (by decide) ?_
      refine T_bipush dX12_placeOf_23 (by decide) ?_
      refine T_iload_n dX12_placeOf_25 rfl ?_
      refine T_mul dX12_placeOf_26 (by omega) ?_
      refine T_add dX12_placeOf_27 (by omega) ?_
      refine T_goto (tgt := 55) dX12_placeOf_28 (by decide) ?_
      exact T_ireturn dX12_placeOf_55 rfl ⟨by unfold plO; (repeat' split) <;> first | rfl | omega, rfl⟩
  · refine T_sipush dX12_placeOf_4 (by decide) ?_
    refine T_bipush dX12_placeOf_7 (by decide) ?_
    refine T_iload_n dX12_placeOf_9 rfl ?_
    refine T_mul dX12_placeOf_10 (by omega) ?_
    refine T_add dX12_placeOf_11 (by omega) ?_
    refine T_goto (tgt := 55) dX12_placeOf_12 (by decide) ?_
    exact T_ireturn dX12_placeOf_55 rfl ⟨by unfold plO; (repeat' split) <;> first | rfl | omega, rfl⟩

theorem t_X12_sizeOf {s : Int} : tB G mX12_sizeOf 0 [vI s] [] d (fun r d' => r = some (vI (szO s)) ∧ d = d') := by
  refine T_iload_n dX12_sizeOf_0 rfl ?_
  refine T_if_ne (tgt := 9) dX12_sizeOf_1 (by decide) (fun c1 => ?_) (fun c1 => ?_)
  · refine T_iload_n dX12_sizeOf_9 rfl ?_
    refine T_iconst dX12_sizeOf_10 (by decide) ?_
    refine T_icmp_ne (tgt := 19) dX12_sizeOf_11 (by decide) (fun c11 => ?_) (fun c11 => ?_)
    · refine T_iload_n dX12_sizeOf_19 rfl ?_
      refine T_iconst dX12_sizeOf_20 (by decide) ?_
      refine T_icmp_ne (tgt := 29) dX12_sizeOf_21 (by decide) (fun c21 => ?_) (fun c21 => ?_)
      · refine T_bipush dX12_sizeOf_29 (by decide) ?_
        exact T_ireturn dX12_sizeOf_31 rfl ⟨by unfold szO; (repeat' split) <;> first | rfl | omega, rfl⟩
      · refine T_bipush dX12_sizeOf_24 (by decide) ?_
        refine T_goto (tgt := 31) dX12_sizeOf_26 (by decide) ?_
        exact T_ireturn dX12_sizeOf_31 rfl ⟨by unfold szO; (repeat' split) <;> first | rfl | omega, rfl⟩
    · refine T_bipush dX12_sizeOf_14 (by decide) ?_
      refine T_goto (tgt := 31) dX12_sizeOf_16 (by decide) ?_
      exact T_ireturn dX12_sizeOf_31 rfl ⟨by unfold szO; (repeat' split) <;> first | rfl | omega, rfl⟩
  · refine T_bipush dX12_sizeOf_4 (by decide) ?_
    refine T_goto (tgt := 31) dX12_sizeOf_6 (by decide) ?_
    exact T_ireturn dX12_sizeOf_31 rfl ⟨by unfold szO; (repeat' split) <;> first | rfl | omega, rfl⟩

theorem t_X12_of {x : Int} (h : 0 ≤ d 271 10 + x ∧ d 271 10 + x < 3736) (h2 : 0 ≤ d 271 10) : tB G mX12_of 0 [vR 271, vI x] [] d (fun r d' => r = some (vI (d 272 (d 271 10 + x).toNat)) ∧ d = d') := by
  refine T_aload_n dX12_of_0 rfl ?_
  refine T_getR dX12_of_1 fX12_7 rfl k271 r271_0 ?_
  refine T_aload_n dX12_of_4 rfl ?_
  refine T_getI dX12_of_5 fX12_209 rfl k271 ?_
  refine T_iload_n dX12_of_8 rfl ?_
  refine T_add dX12_of_9 (by omega) ?_
  refine T_iald dX12_of_10 k272 l272 (by omega) rfl ?_
  exact T_ireturn dX12_of_11 rfl ⟨rfl, rfl⟩

theorem t_X12_isWar {k : Int} (hc : 0 ≤ d 272 0 ∧ d 272 0 ≤ 2) : tB G mX12_isWar 0 [vR 271, vI k] [] d (fun r d' => (¬ (0 ≤ k ∧ k ≤ d 272 0 - 1) ∧ r = some (vI 0) ∧ d = d') ∨ ((0 ≤ k ∧ k ≤ d 272 0 - 1) ∧ r = some (vI 1) ∧ d' = up d 271 10 (610 + 89 * k))) := by
  refine T_aload_n dX12_isWar_0 rfl ?_
  refine T_iconst dX12_isWar_1 (by decide) ?_
  refine T_iload_n dX12_isWar_2 rfl ?_
  refine T_callV dX12_isWar_3 lX12_183 (As := [_, _]) (rest := _) rfl rfl k271 (by decide) (Nat.le_of_ble_eq_true rfl) (Nat.le_of_ble_eq_true rfl) (t_X12_isOf (s := 0) (by decide) hc) ?_
  rintro _ _ ⟨rfl, rfl⟩
  refine T_if_ne (tgt := 11) dX12_isWar_6 (by decide) (fun c6 => ?_) (fun c6 => ?_)
  · refine T_aload_n dX12_isWar_11 rfl ?_
    refine T_iconst dX12_isWar_12 (by decide) ?_
    refine T_iload_n dX12_isWar_13 rfl ?_
    refine T_callS dX12_isWar_14 lX12_206 (As := [_, _]) (rest := _) rfl rfl (by decide) (Nat.le_of_ble_eq_true rfl) (Nat.le_of_ble_eq_true rfl) (t_X12_placeOf (by have h6 : 0 ≤ k ∧ k ≤ d 272 0 - 1 := bI_1 c6; omega)) ?_
    rintro _ _ ⟨rfl, rfl⟩
    refine T_putI dX12_isWar_17 fX12_209 rfl k271 ?_
    refine T_iconst dX12_isWar_20 (by decide) ?_
    exact T_zreturn dX12_isWar_21 rfl (by omega) (Or.inr ⟨bI_1 c6, rfl, rfl⟩)
  · refine T_iconst dX12_isWar_9 (by decide) ?_
    exact T_zreturn dX12_isWar_10 rfl (by omega) (Or.inl ⟨bI_0 c6, rfl, rfl⟩)

theorem t_X12_isScore {k : Int} (hc : 0 ≤ d 272 1 ∧ d 272 1 ≤ 2) : tB G mX12_isScore 0 [vR 271, vI k] [] d (fun r d' => (¬ (0 ≤ k ∧ k ≤ d 272 1 - 1) ∧ r = some (vI 0) ∧ d = d') ∨ ((0 ≤ k ∧ k ≤ d 272 1 - 1) ∧ r = some (vI 1) ∧ d' = up d 271 11 (788 + 26 * k))) := by
  refine T_aload_n dX12_isScore_0 rfl ?_
  refine T_iconst dX12_isScore_1 (by decide) ?_
  refine T_iload_n dX12_isScore_2 rfl ?_
  refine T_callV dX12_isScore_3 lX12_183 (As := [_, _]) (rest := _) rfl rfl k271 (by decide) (Nat.le_of_ble_eq_true rfl) (Nat.le_of_ble_eq_true rfl) (t_X12_isOf (s := 1) (by decide) hc) ?_
  rintro _ _ ⟨rfl, rfl⟩
  refine T_if_ne (tgt := 11) dX12_isScore_6 (by decide) (fun c6 => ?_) (fun c6 => ?_)
  · refine T_aload_n dX12_isScore_11 rfl ?_
    refine T_iconst dX12_isScore_12 (by decide) ?_
    refine T_iload_n dX12_isScore_13 rfl ?_
    refine T_callS dX12_isScore_14 lX12_206 (As := [_, _]) (rest := _) rfl rfl (by decide) (Nat.le_of_ble_eq_true rfl) (Nat.le_of_ble_eq_true rfl) (t_X12_placeOf (by have h6 : 0 ≤ k ∧ k ≤ d 272 1 - 1 := bI_1 c6; omega)) ?_
    rintro _ _ ⟨rfl, rfl⟩
    refine T_putI dX12_isScore_17 fX12_237 rfl k271 ?_
    refine T_iconst dX12_isScore_20 (by decide) ?_
    exact T_zreturn dX12_isScore_21 rfl (by omega) (Or.inr ⟨bI_1 c6, rfl, rfl⟩)
  · refine T_iconst dX12_isScore_9 (by decide) ?_
    exact T_zreturn dX12_isScore_10 rfl (by omega) (Or.inl ⟨bI_0 c6, rfl, rfl⟩)

theorem t_X12_isHearing {k : Int} (hc : 0 ≤ d 272 2 ∧ d 272 2 ≤ 2) : tB G mX12_isHearing 0 [vR 271, vI k] [] d (fun r d' => (¬ (0 ≤ k ∧ k ≤ d 272 2 - 1) ∧ r = some (vI 0) ∧ d = d') ∨ ((0 ≤ k ∧ k ≤ d 272 2 - 1) ∧ r = some (vI 1) ∧ d' = up d 271 25 (840 + 14 * k))) := by
  refine T_aload_n dX12_isHearing_0 rfl ?_
  refine T_iconst dX12_isHearing_1 (by decide) ?_
  refine T_iload_n dX12_isHearing_2 rfl ?_
  refine T_callV dX12_isHearing_3 lX12_183 (As := [_, _]) (rest := _) rfl rfl k271 (by decide) (Nat.le_of_ble_eq_true rfl) (Nat.le_of_ble_eq_true rfl) (t_X12_isOf (s := 2) (by decide) hc) ?_
  rintro _ _ ⟨rfl, rfl⟩
  refine T_if_ne (tgt := 11) dX12_isHearing_6 (by decide) (fun c6 => ?_) (fun c6 => ?_)
  · refine T_aload_n dX12_isHearing_11 rfl ?_
    refine T_iconst dX12_isHearing_12 (by decide) ?_
    refine T_iload_n dX12_isHearing_13 rfl ?_
    refine T_callS dX12_isHearing_14 lX12_206 (As := [_, _]) (rest := _) rfl rfl (by decide) (Nat.le_of_ble_eq_true rfl) (Nat.le_of_ble_eq_true rfl) (t_X12_placeOf (by have h6 : 0 ≤ k ∧ k ≤ d 272 2 - 1 := bI_1 c6; omega)) ?_
    rintro _ _ ⟨rfl, rfl⟩
    refine T_putI dX12_isHearing_17 fX12_308 rfl k271 ?_
    refine T_iconst dX12_isHearing_20 (by decide) ?_
    exact T_zreturn dX12_isHearing_21 rfl (by omega) (Or.inr ⟨bI_1 c6, rfl, rfl⟩)
  · refine T_iconst dX12_isHearing_9 (by decide) ?_
    exact T_zreturn dX12_isHearing_10 rfl (by omega) (Or.inl ⟨bI_0 c6, rfl, rfl⟩)

theorem t_X12_areVillages {k : Int} (hc : 0 ≤ d 272 3 ∧ d 272 3 ≤ 2) : tB G mX12_areVillages 0 [vR 271, vI k] [] d (fun r d' => (¬ (0 ≤ k ∧ k ≤ d 272 3 - 1) ∧ r = some (vI 0) ∧ d = d') ∨ ((0 ≤ k ∧ k ≤ d 272 3 - 1) ∧ r = some (vI 1) ∧ d' = up d 271 29 (868 + 33 * k))) := by
  refine T_aload_n dX12_areVillages_0 rfl ?_
  refine T_iconst dX12_areVillages_1 (by decide) ?_
  refine T_iload_n dX12_areVillages_2 rfl ?_
  refine T_callV dX12_areVillages_3 lX12_183 (As := [_, _]) (rest := _) rfl rfl k271 (by decide) (Nat.le_of_ble_eq_true rfl) (Nat.le_of_ble_eq_true rfl) (t_X12_isOf (s := 3) (by decide) hc) ?_
  rintro _ _ ⟨rfl, rfl⟩
  refine T_if_ne (tgt := 11) dX12_areVillages_6 (by decide) (fun c6 => ?_) (fun c6 => ?_)
  · refine T_aload_n dX12_areVillages_11 rfl ?_
    refine T_iconst dX12_areVillages_12 (by decide) ?_
    refine T_iload_n dX12_areVillages_13 rfl ?_
    refine T_callS dX12_areVillages_14 lX12_206 (As := [_, _]) (rest := _) rfl rfl (by decide) (Nat.le_of_ble_eq_true rfl) (Nat.le_of_ble_eq_true rfl) (t_X12_placeOf (by have h6 : 0 ≤ k ∧ k ≤ d 272 3 - 1 := bI_1 c6; omega)) ?_
    rintro _ _ ⟨rfl, rfl⟩
    refine T_putI dX12_areVillages_17 fX12_331 rfl k271 ?_
    refine T_iconst dX12_areVillages_20 (by decide) ?_
    exact T_zreturn dX12_areVillages_21 rfl (by omega) (Or.inr ⟨bI_1 c6, rfl, rfl⟩)
  · refine T_iconst dX12_areVillages_9 (by decide) ?_
    exact T_zreturn dX12_areVillages_10 rfl (by omega) (Or.inl ⟨bI_0 c6, rfl, rfl⟩)

end M1
