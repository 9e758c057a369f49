/-! the reference: tape, fault, counts, images -/
section M2
variable {G : sG} {d : sD}

theorem t_X12_end {n : Int} : tB G mX12_end 0 [vR 271, vI n] [] d (fun r d' => (¬ (0 ≤ n ∧ n ≤ d 272 4) ∧ r = some (vI (-1)) ∧ d = d') ∨ ((0 ≤ n ∧ n ≤ d 272 4) ∧ r = some (vI n) ∧ d' = up d 272 4 n)) := by
  refine T_iload_n dX12_end_0 rfl ?_
  refine T_if_lt (tgt := 14) dX12_end_1 (by decide) (fun c1 => ?_) (fun c1 => ?_)
  · refine T_iconst dX12_end_14 (by decide) ?_
    exact T_ireturn dX12_end_15 rfl (Or.inl ⟨by omega, rfl, rfl⟩)
  · refine T_iload_n dX12_end_4 rfl ?_
    refine T_aload_n dX12_end_5 rfl ?_
    refine T_getR dX12_end_6 fX12_7 rfl k271 r271_0 ?_
    refine T_iconst dX12_end_9 (by decide) ?_
    refine T_iald dX12_end_10 k272 l272 (by omega) (j := 4) rfl ?_
    refine T_icmp_le (tgt := 16) dX12_end_11 (by decide) (fun c11 => ?_) (fun c11 => ?_)
    · refine T_aload_n dX12_end_16 rfl ?_
      refine T_getR dX12_end_17 fX12_7 rfl k271 r271_0 ?_
      refine T_iconst dX12_end_20 (by decide) ?_
      refine T_iload_n dX12_end_21 rfl ?_
      refine T_iast dX12_end_22 k272 l272 (by omega) (j := 4) rfl ?_
      refine T_iload_n dX12_end_23 rfl ?_
      exact T_ireturn dX12_end_24 rfl (Or.inr ⟨by omega, rfl, rfl⟩)
    · refine T_iconst dX12_end_14 (by decide) ?_
      exact T_ireturn dX12_end_15 rfl (Or.inl ⟨by omega, rfl, rfl⟩)

theorem t_X12_fault {x : Int} : tB G mX12_fault 0 [vR 271, vI x] [] d (fun r d' => r = some (vI (if x = 0 then d 272 5 else if x = 1 then d 272 6 else -1)) ∧ d = d') := by
  refine T_iload_n dX12_fault_0 rfl ?_
  refine T_if_ne (tgt := 13) dX12_fault_1 (by decide) (fun c1 => ?_) (fun c1 => ?_)
  · refine T_iload_n dX12_fault_13 rfl ?_
    refine T_iconst dX12_fault_14 (by decide) ?_
    refine T_icmp_ne (tgt := 28) dX12_fault_15 (by decide) (fun c15 => ?_) (fun c15 => ?_)
    · refine T_iconst dX12_fault_28 (by decide) ?_
      exact T_ireturn dX12_fault_29 rfl ⟨by (repeat' split) <;> first | rfl | omega, rfl⟩
    · refine T_aload_n dX12_fault_18 rfl ?_
      refine T_getR dX12_fault_19 fX12_7 rfl k271 r271_0 ?_
      refine T_bipush dX12_fault_22 (by decide) ?_
      refine T_iald dX12_fault_24 k272 l272 (by omega) (j := 6) rfl ?_
      refine T_goto (tgt := 29) dX12_fault_25 (by decide) ?_
      exact T_ireturn dX12_fault_29 rfl ⟨by (repeat' split) <;> first | rfl | omega, rfl⟩
  · refine T_aload_n dX12_fault_4 rfl ?_
    refine T_getR dX12_fault_5 fX12_7 rfl k271 r271_0 ?_
    refine T_iconst dX12_fault_8 (by decide) ?_
    refine T_iald dX12_fault_9 k272 l272 (by omega) (j := 5) rfl ?_
    refine T_goto (tgt := 29) dX12_fault_10 (by decide) ?_
    exact T_ireturn dX12_fault_29 rfl ⟨by (repeat' split) <;> first | rfl | omega, rfl⟩

theorem t_X12_count {s : Int} : tB G mX12_count 0 [vR 271, vI s] [] d (fun r d' => r = some (vI (if 0 ≤ s ∧ s ≤ 3 then d 272 s.toNat else -2)) ∧ d = d') := by
  refine T_iload_n dX12_count_0 rfl ?_
  refine T_iconst dX12_count_1 (by decide) ?_
  refine T_iconst dX12_count_2 (by decide) ?_
  refine T_callS dX12_count_3 lX12_145 (As := [_, _, _]) (rest := _) rfl rfl (by decide) (Nat.le_of_ble_eq_true rfl) (Nat.le_of_ble_eq_true rfl) t_X12_isIn ?_
  rintro _ _ ⟨rfl, rfl⟩
  refine T_if_eq (tgt := 18) dX12_count_6 (by decide) (fun c6 => ?_) (fun c6 => ?_)
  · refine T_bipush dX12_count_18 (by decide) ?_
    exact T_ireturn dX12_count_20 rfl ⟨by rw [if_neg (bI_0 c6)], rfl⟩
  · refine T_aload_n dX12_count_9 rfl ?_
    refine T_getR dX12_count_10 fX12_7 rfl k271 r271_0 ?_
    refine T_iload_n dX12_count_13 rfl ?_
    refine T_iald dX12_count_14 k272 l272 (by have := bI_1 c6; omega) rfl ?_
    refine T_goto (tgt := 20) dX12_count_15 (by decide) ?_
    exact T_ireturn dX12_count_20 rfl ⟨by rw [if_pos (bI_1 c6)], rfl⟩

def imF (d : sD) (k i : Nat) : sD := ups d 272 (934 * (k + 1)) (934 * (k + 1) + i) (fun j => d 272 (j - 934 * (k + 1)))
theorem imF_0 {d : sD} {k : Nat} : imF d k 0 = d := ups_nil
theorem t_X12_image_20 {k : Nat} (hk : k ≤ 2) : ∀ x : Nat, (fun i => i ≤ 934) x → tB G mX12_image 20 ((fun i => [vR 271, vI k, vI i]) x) [] ((fun i => imF d k i) x) (fun r d' => r = some (vI 1) ∧ d' = imF d k 934) := by
  refine T_loop (α := Nat) 20 (fun i => [vR 271, vI k, vI i]) (fun i => imF d k i) (fun i => i ≤ 934) (fun i => 934 - i) ?_
  rintro i hI ih
  try dsimp only at hI ih ⊢
  refine T_iload_n dX12_image_20 rfl ?_
  refine T_sipush dX12_image_21 (by decide) ?_
  refine T_icmp_ge (tgt := 53) dX12_image_24 (by decide) (fun c24 => ?_) (fun c24 => ?_)
  · refine T_iconst dX12_image_53 (by decide) ?_
    exact T_zreturn dX12_image_54 rfl (by omega) ⟨rfl, by rw [show i = 934 by omega]⟩
  · refine T_aload_n dX12_image_27 rfl ?_
    refine T_getR dX12_image_28 fX12_7 rfl k271 r271_0 ?_
    refine T_sipush dX12_image_31 (by decide) ?_
    refine T_iload_n dX12_image_34 rfl ?_
    refine T_iconst dX12_image_35 (by decide) ?_
    refine T_add dX12_image_36 (by omega) ?_
    refine T_mul dX12_image_37 (by omega) ?_
    refine T_iload_n dX12_image_38 rfl ?_
    refine T_add dX12_image_39 (by omega) ?_
    refine T_aload_n dX12_image_40 rfl ?_
    refine T_getR dX12_image_41 fX12_7 rfl k271 r271_0 ?_
    refine T_iload_n dX12_image_44 rfl ?_
    refine T_iald dX12_image_45 k272 l272 (by omega) rfl ?_
    refine T_iast dX12_image_46 k272 l272 (by omega) (j := 934 * (k + 1) + i) (by omega) ?_
    refine T_inc dX12_image_47 rfl (by decide) rfl (by omega) ?_
    refine T_goto (tgt := 20) dX12_image_50 (by decide) ?_
    refine T_eq ?_ (ih (i + 1) (by omega) (by omega))
    exact ups_push (by omega) (by unfold imF; rw [ups_out (by omega)]; show d 272 i = d 272 (934 * (k + 1) + i - 934 * (k + 1)); rw [Nat.add_sub_cancel_left])

theorem t_X12_image {k : Int} : tB G mX12_image 0 [vR 271, vI k, vU 0] [] d (fun r d' => (¬ (0 ≤ k ∧ k ≤ 2) ∧ r = some (vI 0) ∧ d = d') ∨ ((0 ≤ k ∧ k ≤ 2) ∧ r = some (vI 1) ∧ d' = imF (up d 273 k.toNat 1) k.toNat 934)) := by
  refine T_iload_n dX12_image_0 rfl ?_
  refine T_iconst dX12_image_1 (by decide) ?_
  refine T_iconst dX12_image_2 (by decide) ?_
  refine T_callS dX12_image_3 lX12_145 (As := [_, _, _]) (rest := _) rfl rfl (by decide) (Nat.le_of_ble_eq_true rfl) (Nat.le_of_ble_eq_true rfl) t_X12_isIn ?_
  rintro _ _ ⟨rfl, rfl⟩
  refine T_if_ne (tgt := 11) dX12_image_6 (by decide) (fun c6 => ?_) (fun c6 => ?_)
  · refine T_aload_n dX12_image_11 rfl ?_
    refine T_getR dX12_image_12 fX12_13 rfl k271 r271_1 ?_
    refine T_iload_n dX12_image_15 rfl ?_
    refine T_iconst dX12_image_16 (by decide) ?_
    refine T_zast dX12_image_17 k273 l273 (by have := bI_1 c6; omega) rfl (by omega) ?_
    refine T_iconst dX12_image_18 (by decide) ?_
    refine T_ist_n dX12_image_19 (by decide) rfl ?_
    have h6 := bI_1 c6
    have e : k = (k.toNat : Int) := by omega
    refine tB.mono (Q := fun r d' => r = some (vI 1) ∧ d' = imF (up d 273 k.toNat 1) k.toNat 934) ?_ (fun r d' q => Or.inr ⟨h6, q⟩)
    have h := t_X12_image_20 (G := G) (d := up d 273 k.toNat 1) (k := k.toNat) (by omega) 0 (by decide)
    dsimp only at h
    rw [imF_0, ← e] at h
    exact h
  · refine T_iconst dX12_image_9 (by decide) ?_
    exact T_zreturn dX12_image_10 rfl (by omega) (Or.inl ⟨bI_0 c6, rfl, rfl⟩)

def agF (d : sD) (k i : Nat) : sD := ups d 272 0 i (fun j => d 272 (934 * (k + 1) + j))
theorem agF_0 {d : sD} {k : Nat} : agF d k 0 = d := ups_nil
theorem t_X12_again_22 {k : Nat} (hk : k ≤ 2) : ∀ x : Nat, (fun i => i ≤ 934) x → tB G mX12_again 22 ((fun i => [vR 271, vI k, vI i]) x) [] ((fun i => agF d k i) x) (fun r d' => r = some (vI 1) ∧ d' = agF d k 934) := by
  refine T_loop (α := Nat) 22 (fun i => [vR 271, vI k, vI i]) (fun i => agF d k i) (fun i => i ≤ 934) (fun i => 934 - i) ?_
  rintro i hI ih
  try dsimp only at hI ih ⊢
  refine T_iload_n dX12_again_22 rfl ?_
  refine T_sipush dX12_again_23 (by decide) ?_
  refine T_icmp_ge (tgt := 55) dX12_again_26 (by decide) (fun c26 => ?_) (fun c26 => ?_)
  · refine T_iconst dX12_again_55 (by decide) ?_
    exact T_zreturn dX12_again_56 rfl (by omega) ⟨rfl, by rw [show i = 934 by omega]⟩
  · refine T_aload_n dX12_again_29 rfl ?_
    refine T_getR dX12_again_30 fX12_7 rfl k271 r271_0 ?_
    refine T_iload_n dX12_again_33 rfl ?_
    refine T_aload_n dX12_again_34 rfl ?_
    refine T_getR dX12_again_35 fX12_7 rfl k271 r271_0 ?_
    refine T_sipush dX12_again_38 (by decide) ?_
    refine T_iload_n dX12_again_41 rfl ?_
    refine T_iconst dX12_again_42 (by decide) ?_
    refine T_add dX12_again_43 (by omega) ?_
    refine T_mul dX12_again_44 (by omega) ?_
    refine T_iload_n dX12_again_45 rfl ?_
    refine T_add dX12_again_46 (by omega) ?_
    refine T_iald dX12_again_47 k272 l272 (by omega) (j := 934 * (k + 1) + i) (by omega) ?_
    refine T_iast dX12_again_48 k272 l272 (by omega) rfl ?_
    refine T_inc dX12_again_49 rfl (by decide) rfl (by omega) ?_
    refine T_goto (tgt := 22) dX12_again_52 (by decide) ?_
    refine T_eq ?_ (ih (i + 1) (by omega) (by omega))
    exact ups_push (by omega) (by unfold agF; rw [ups_out (by omega)])

theorem t_X12_again {k : Int} : tB G mX12_again 0 [vR 271, vI k, vU 0] [] d (fun r d' => (¬ ((0 ≤ k ∧ k ≤ 2) ∧ d 273 k.toNat ≠ 0) ∧ r = some (vI 0) ∧ d = d') ∨ (((0 ≤ k ∧ k ≤ 2) ∧ d 273 k.toNat ≠ 0) ∧ r = some (vI 1) ∧ d' = agF d k.toNat 934)) := by
  refine T_iload_n dX12_again_0 rfl ?_
  refine T_iconst dX12_again_1 (by decide) ?_
  refine T_iconst dX12_again_2 (by decide) ?_
  refine T_callS dX12_again_3 lX12_145 (As := [_, _, _]) (rest := _) rfl rfl (by decide) (Nat.le_of_ble_eq_true rfl) (Nat.le_of_ble_eq_true rfl) t_X12_isIn ?_
  rintro _ _ ⟨rfl, rfl⟩
  refine T_if_eq (tgt := 18) dX12_again_6 (by decide) (fun c6 => ?_) (fun c6 => ?_)
  · refine T_iconst dX12_again_18 (by decide) ?_
    exact T_zreturn dX12_again_19 rfl (by omega) (Or.inl ⟨fun q => bI_0 c6 q.1, rfl, rfl⟩)
  · refine T_aload_n dX12_again_9 rfl ?_
    refine T_getR dX12_again_10 fX12_13 rfl k271 r271_1 ?_
    refine T_iload_n dX12_again_13 rfl ?_
    refine T_zald dX12_again_14 k273 l273 (by have := bI_1 c6; omega) rfl ?_
    refine T_if_ne (tgt := 20) dX12_again_15 (by decide) (fun c15 => ?_) (fun c15 => ?_)
    · refine T_iconst dX12_again_20 (by decide) ?_
      refine T_ist_n dX12_again_21 (by decide) rfl ?_
      have h6 := bI_1 c6
      have e : k = (k.toNat : Int) := by omega
      refine tB.mono (Q := fun r d' => r = some (vI 1) ∧ d' = agF d k.toNat 934) ?_ (fun r d' q => Or.inr ⟨⟨h6, c15⟩, q⟩)
      have h := t_X12_again_22 (G := G) (d := d) (k := k.toNat) (by omega) 0 (by decide)
      dsimp only at h
      rw [agF_0, ← e] at h
      exact h
    · refine T_iconst dX12_again_18 (by decide) ?_
      exact T_zreturn dX12_again_19 rfl (by omega) (Or.inl ⟨fun q => q.2 c15, rfl, rfl⟩)

end M2
