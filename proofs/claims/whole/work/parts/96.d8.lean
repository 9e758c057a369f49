/-! the class: codes, shared, village -/
section C17
variable {G : sG} {d d' : sD} {w v x y : Nat → Int} {wo vo e n a : Nat}
theorem T_args4 {M : sM} {pc : Nat} {r : Nat} {z z2 z3 : sV} {x : Int} {y : Nat} {l : List sV} {Q : Option sV → sD → Prop} (h : x = (y : Int)) (k : tB G M pc (vR r :: z :: z2 :: z3 :: vI (y : Int) :: l) [] d Q) : tB G M pc (vR r :: z :: z2 :: z3 :: vI x :: l) [] d Q := by rw [h]; exact k
theorem edS_ss {i j : Nat} : edS x y (i + 1) (j + 1) = min (edS x y i j + (if x i = y j then 0 else 1)) (min (edS x y i (j + 1)) (edS x y (i + 1) j) + 1) := rfl
theorem edS_sym : ∀ s i j : Nat, i + j ≤ s → edS x y i j = edS y x j i
  | _, 0, j, _ => by rw [edS_0]; rfl
  | _, i + 1, 0, _ => by rw [edS_0]; rfl
  | 0, i + 1, j + 1, h => by omega
  | s + 1, i + 1, j + 1, h => by
    rw [edS_ss, edS_ss, edS_sym s i j (by omega), edS_sym s i (j + 1) (by omega), edS_sym s (i + 1) j (by omega), Int.min_comm (edS y x (j + 1) i)]
    by_cases q : x i = y j
    · rw [if_pos q, if_pos q.symm]
    · rw [if_neg q, if_neg (fun z => q z.symm)]
theorem frS_sym (o q : Nat) : frS w a o q = frS w a q o := edS_sym _ _ _ (Nat.le_refl _)
theorem cdM_s {i j : Nat} {s : Int} : cdM w a i s (j + 1) = if w (17 + 36 * a + 6 * j) = w (17 + 36 * a + 6 * i) then cdM w a i s j else if cdM w a i s j = -1 then frS w a j i else min (cdM w a i s j) (frS w a j i) := rfl
theorem t_safety (hw : kn S0 wo = 10) (hO : Wo d wo w) (hV : WV w) (ha : a < 2) : tB G mX0_safety 0 [vR 102, vR wo, vI a, vU 0, vU 0, vU 0, vU 0, vU 0, vU 0] [] d (fun r d' => r = some (vI (cdL w a ((w (15 + a)).toNat - 1))) ∧ Fr 106 109 d d') := by
  have hat := at_W hw
  have hac := (hV.a ha).2.2.2.2
  have h5 : ∀ z : Nat × sD, ((z.1 : Int) ≤ w (15 + a) ∧ Fr 106 109 d z.2) → tB G mX0_safety 5 [vR 102, vR wo, vI a, vI (cdL w a (z.1 - 1)), vI z.1, vU 0, vU 0, vU 0, vU 0] [] (z.2) (fun r d' => r = some (vI (cdL w a ((w (15 + a)).toNat - 1))) ∧ Fr 106 109 d d') := by
    refine T_loop (α := Nat × sD) 5 (fun z => [vR 102, vR wo, vI a, vI (cdL w a (z.1 - 1)), vI z.1, vU 0, vU 0, vU 0, vU 0]) (fun z => z.2) (fun z => (z.1 : Int) ≤ w (15 + a) ∧ Fr 106 109 d z.2) (fun z => 7 - z.1) ?_
    rintro ⟨i, b⟩ ⟨h1, h2⟩ ih
    try dsimp only at h1 h2 ih ⊢
    have hOb := Wo_fr hO h2 (by omega)
    have h19 : (i : Int) < w (15 + a) → ∀ z : Nat × sD, (z.1 ≤ i ∧ Fr 106 109 d z.2) → tB G mX0_safety 19 [vR 102, vR wo, vI a, vI (cdM w a i (cdL w a (i - 1)) z.1), vI i, vI z.1, vU 0, vU 0, vU 0] [] z.2 (fun r d' => r = some (vI (cdL w a ((w (15 + a)).toNat - 1))) ∧ Fr 106 109 d d') := by
      intro hi
      refine T_loop (α := Nat × sD) 19 (fun z => [vR 102, vR wo, vI a, vI (cdM w a i (cdL w a (i - 1)) z.1), vI i, vI z.1, vU 0, vU 0, vU 0]) (fun z => z.2) (fun z => z.1 ≤ i ∧ Fr 106 109 d z.2) (fun z => i - z.1) ?_
      rintro ⟨j, b2⟩ ⟨g1, g2⟩ ih2
      try dsimp only at g1 g2 ih2 ⊢
      have hO2 := Wo_fr hO g2 (by omega)
      have h87 : ∀ (y : Int) (b3 : sD), y = cdM w a i (cdL w a (i - 1)) (j + 1) → j < i → Fr 106 109 d b3 → tB G mX0_safety 87 [vR 102, vR wo, vI a, vI y, vI i, vI j, vI ((6 * a + i : Nat) : Int), vI ((6 * a + j : Nat) : Int), vU 0] [] b3 (fun r d' => r = some (vI (cdL w a ((w (15 + a)).toNat - 1))) ∧ Fr 106 109 d d') := by
        rintro _ b3 rfl hj f3
        refine T_inc dX0_safety_87 rfl (by decide) rfl (by omega) ?_
        refine T_drop 6 (T_drop 7 ?_)
        refine T_goto (tgt := 19) dX0_safety_90 (by decide) ?_
        exact ih2 (j + 1, b3) ⟨by dsimp only; omega, f3⟩ (by dsimp only; omega)
      have h86 : ∀ (y : Int) (b3 : sD), y = cdM w a i (cdL w a (i - 1)) (j + 1) → j < i → Fr 106 109 d b3 → tB G mX0_safety 86 [vR 102, vR wo, vI a, vI (cdM w a i (cdL w a (i - 1)) j), vI i, vI j, vI ((6 * a + i : Nat) : Int), vI ((6 * a + j : Nat) : Int), vI (frS w a i j)] [vI y] b3 (fun r d' => r = some (vI (cdL w a ((w (15 + a)).toNat - 1))) ∧ Fr 106 109 d d') := by
        intro y b3 hy hj f3
        refine T_ist_n dX0_safety_86 (by decide) rfl ?_
        exact T_drop 8 (h87 _ b3 hy hj f3)
      refine T_iload dX0_safety_19 rfl ?_
      refine T_iload dX0_safety_21 rfl ?_
      refine T_icmp_ge (tgt := 93) dX0_safety_23 (by decide) (fun c23 => ?_) (fun c23 => ?_)
      · refine T_inc dX0_safety_93 rfl (by decide) rfl (by omega) ?_
        refine T_goto (tgt := 5) dX0_safety_96 (by decide) ?_
        refine T_drop 5 ?_
        refine T_leq (ls' := [vR 102, vR wo, vI a, vI (cdL w a (i + 1 - 1)), vI ((i + 1 : Nat) : Int), vU 0, vU 0, vU 0, vU 0]) ?_ (ih (i + 1, b2) ⟨by dsimp only; omega, g2⟩ (by dsimp only; omega))
        obtain rfl : j = i := by omega
        have hcd : cdM w a j (cdL w a (j - 1)) j = cdL w a (j + 1 - 1) := by
          cases j with
          | zero => rfl
          | succ j => rfl
        rw [hcd]; rfl
      · refine T_iload_n dX0_safety_26 rfl ?_
        refine T_iload dX0_safety_27 rfl ?_
        refine T_callS dX0_safety_29 lX0_63 (As := [_, _]) (rest := _) rfl rfl (by decide) (Nat.le_of_ble_eq_true rfl) (Nat.le_of_ble_eq_true rfl) (t_slot (k := i) ha (by omega)) ?_
        rintro _ _ ⟨rfl, rfl⟩
        refine T_ist dX0_safety_32 (by decide) rfl ?_
        refine T_iload_n dX0_safety_34 rfl ?_
        refine T_iload dX0_safety_35 rfl ?_
        refine T_callS dX0_safety_37 lX0_63 (As := [_, _]) (rest := _) rfl rfl (by decide) (Nat.le_of_ble_eq_true rfl) (Nat.le_of_ble_eq_true rfl) (t_slot (k := j) ha (by omega)) ?_
        rintro _ _ ⟨rfl, rfl⟩
        refine T_ist dX0_safety_40 (by decide) rfl ?_
        refine T_aload_n dX0_safety_42 rfl ?_
        refine T_getR dX0_safety_43 fX0_66 rfl hw (rW9 hw) ?_
        refine T_iload dX0_safety_46 rfl ?_
        refine T_ialdv dX0_safety_48 (kW9 hw) (lW9 hw) (by omega) (j := 6 * a + i) (by omega) (x := w (17 + 36 * a + 6 * i)) (hO2.mv ha hi) ?_
        refine T_aload_n dX0_safety_49 rfl ?_
        refine T_getR dX0_safety_50 fX0_66 rfl hw (rW9 hw) ?_
        refine T_iload dX0_safety_53 rfl ?_
        refine T_ialdv dX0_safety_55 (kW9 hw) (lW9 hw) (by omega) (j := 6 * a + j) (by omega) (x := w (17 + 36 * a + 6 * j)) (hO2.mv ha (by omega)) ?_
        refine T_icmp_eq (tgt := 87) dX0_safety_56 (by decide) (fun c56 => ?_) (fun c56 => ?_)
        · exact h87 _ b2 (by rw [cdM_s, if_pos c56.symm]) (by omega) g2
        · refine T_aload_n dX0_safety_59 rfl ?_
          refine T_aload_n dX0_safety_60 rfl ?_
          refine T_iload dX0_safety_61 rfl ?_
          refine T_iload dX0_safety_63 rfl ?_
          refine T_callV dX0_safety_65 lX0_69 (As := [_, _, _]) (rest := _) rfl rfl k102 (by decide) (Nat.le_of_ble_eq_true rfl) (Nat.le_of_ble_eq_true rfl) (t_farness hw hO2 hV ha hi (by omega)) ?_
          rintro _ b3 ⟨rfl, f3⟩
          have f4 := g2.trans f3
          refine T_ist dX0_safety_68 (by decide) rfl ?_
          refine T_iload_n dX0_safety_70 rfl ?_
          refine T_iconst dX0_safety_71 (by decide) ?_
          refine T_icmp_ne (tgt := 80) dX0_safety_72 (by decide) (fun c72 => ?_) (fun c72 => ?_)
          · refine T_iload_n dX0_safety_80 rfl ?_
            refine T_iload dX0_safety_81 rfl ?_
            refine T_min dX0_safety_83 lX0_38 (by decide) (Nat.le_of_ble_eq_true rfl) ?_
            exact h86 _ b3 (by rw [cdM_s, if_neg (fun q => c56 q.symm), if_neg c72, frS_sym]) (by omega) f4
          · refine T_iload dX0_safety_75 rfl ?_
            refine T_goto (tgt := 86) dX0_safety_77 (by decide) ?_
            exact h86 _ b3 (by rw [cdM_s, if_neg (fun q => c56 q.symm), if_pos c72, frS_sym]) (by omega) f4
    refine T_iload dX0_safety_5 rfl ?_
    refine T_aload_n dX0_safety_7 rfl ?_
    refine T_getR dX0_safety_8 fX0_60 rfl hw (rW8 hw) ?_
    refine T_iload_n dX0_safety_11 rfl ?_
    refine T_ialdv dX0_safety_12 (kW8 hw) (lW8 hw) (by omega) (j := a) (by omega) (x := w (15 + a)) (hOb.ct ha) ?_
    refine T_icmp_ge (tgt := 99) dX0_safety_13 (by decide) (fun c13 => ?_) (fun c13 => ?_)
    · refine T_iload_n dX0_safety_99 rfl ?_
      exact T_ireturn dX0_safety_100 rfl ⟨by rw [show (w (15 + a)).toNat = i by omega], h2⟩
    · refine T_iconst dX0_safety_16 (by decide) ?_
      refine T_ist dX0_safety_17 (by decide) rfl ?_
      exact h19 (by omega) (0, b) ⟨Nat.zero_le _, h2⟩
  refine T_iconst dX0_safety_0 (by decide) ?_
  refine T_ist_n dX0_safety_1 (by decide) rfl ?_
  refine T_iconst dX0_safety_2 (by decide) ?_
  refine T_ist dX0_safety_3 (by decide) rfl ?_
  exact h5 (0, d) ⟨by dsimp only; omega, Fr.rf⟩

theorem ag_cd {i j : Nat} : bI (agP w a i 0 a j (min (lnW w a i) (lnW w a j))) = cdB w a i j := bI_congr ⟨fun q => by
    by_cases h : lnW w a i ≤ lnW w a j
    · exact Or.inl ⟨h, fun k hk => by have := q.2.2 k (by omega); rw [Nat.zero_add] at this; exact this.symm⟩
    · exact Or.inr ⟨by omega, fun k hk => by have := q.2.2 k (by omega); rw [Nat.zero_add] at this; exact this⟩, fun q => ⟨by omega, by omega, fun k hk => by
    rw [Nat.zero_add]
    rcases q with q | q
    · exact (q.2 k (by omega)).symm
    · exact q.2 k (by omega)⟩⟩
theorem t_heads (hw : kn S0 wo = 10) (hO : Wo d wo w) (hV : WV w) (ha : a < 2) : tB G mX0_heads 0 [vR 102, vR wo, vI a, vU 0, vU 0, vU 0, vU 0, vU 0, vU 0] [] d (fun r d' => r = some (vI (cdC w a ((w (15 + a)).toNat - 1))) ∧ d = d') := by
  have hac := (hV.a ha).2.2.2.2
  have h5 : ∀ z : Nat, ((z : Int) ≤ w (15 + a)) → tB G mX0_heads 5 [vR 102, vR wo, vI a, vI (cdC w a (z - 1)), vI z, vU 0, vU 0, vU 0, vU 0] [] (d) (fun r d' => r = some (vI (cdC w a ((w (15 + a)).toNat - 1))) ∧ d = d') := by
    refine T_loop (α := Nat) 5 (fun z => [vR 102, vR wo, vI a, vI (cdC w a (z - 1)), vI z, vU 0, vU 0, vU 0, vU 0]) (fun z => d) (fun z => (z : Int) ≤ w (15 + a)) (fun z => 7 - z) ?_
    rintro i h1 ih
    try dsimp only at h1 ih ⊢
    have hrg := cdC_rg w a (i - 1)
    have hi6 : i ≤ 6 := by omega
    have hsq : (((i - 1 : Nat) : Int)) * ((i - 1 : Nat) : Int) ≤ 25 := Int.le_trans (Int.mul_le_mul (c := 5) (d := 5) (by omega) (by omega) (by omega) (by omega)) (by decide)
    have h19 : (i : Int) < w (15 + a) → ∀ z : Nat, z ≤ i → tB G mX0_heads 19 [vR 102, vR wo, vI a, vI (cdC w a (i - 1) + sumN (cdB w a i) z), vI i, vI z, vU 0, vU 0, vU 0] [] d (fun r d' => r = some (vI (cdC w a ((w (15 + a)).toNat - 1))) ∧ d = d') := by
      intro hi
      refine T_loop (α := Nat) 19 (fun z => [vR 102, vR wo, vI a, vI (cdC w a (i - 1) + sumN (cdB w a i) z), vI i, vI z, vU 0, vU 0, vU 0]) (fun z => d) (fun z => z ≤ i) (fun z => i - z) ?_
      rintro j g1 ih2
      try dsimp only at g1 ih2 ⊢
      have hsm : 0 ≤ sumN (cdB w a i) j ∧ sumN (cdB w a i) j ≤ j := sumN_rg (fun _ _ => bI_01 _)
      have h81 : ∀ (y : Int), y = cdB w a i j → j < i → tB G mX0_heads 81 [vR 102, vR wo, vI a, vI (cdC w a (i - 1) + sumN (cdB w a i) j), vI i, vI j, vI ((6 * a + i : Nat) : Int), vI ((6 * a + j : Nat) : Int), vI (min (lnW w a i : Int) (lnW w a j))] [vI y, vI (cdC w a (i - 1) + sumN (cdB w a i) j)] d (fun r d' => r = some (vI (cdC w a ((w (15 + a)).toNat - 1))) ∧ d = d') := by
        intro y hy hj
        have hy2 : y = 0 ∨ y = 1 := by rw [hy]; exact bI_01 _
        refine T_add dX0_heads_81 (by omega) ?_
        refine T_top (y := cdC w a (i - 1) + sumN (cdB w a i) (j + 1)) (by show _ = cdC w a (i - 1) + (sumN (cdB w a i) j + cdB w a i j); rw [hy]; omega) ?_
        refine T_ist_n dX0_heads_82 (by decide) rfl ?_
        refine T_inc dX0_heads_83 rfl (by decide) rfl (by omega) ?_
        refine T_drop 6 (T_drop 7 (T_drop 8 ?_))
        refine T_goto (tgt := 19) dX0_heads_86 (by decide) ?_
        exact ih2 (j + 1) (by omega) (by omega)
      refine T_iload dX0_heads_19 rfl ?_
      refine T_iload dX0_heads_21 rfl ?_
      refine T_icmp_ge (tgt := 89) dX0_heads_23 (by decide) (fun c23 => ?_) (fun c23 => ?_)
      · refine T_inc dX0_heads_89 rfl (by decide) rfl (by omega) ?_
        refine T_goto (tgt := 5) dX0_heads_92 (by decide) ?_
        refine T_drop 5 ?_
        refine T_leq (ls' := [vR 102, vR wo, vI a, vI (cdC w a (i + 1 - 1)), vI ((i + 1 : Nat) : Int), vU 0, vU 0, vU 0, vU 0]) ?_ (ih (i + 1) (by omega) (by omega))
        obtain rfl : j = i := by omega
        have hcd : cdC w a (j - 1) + sumN (cdB w a j) j = cdC w a (j + 1 - 1) := by
          cases j with
          | zero => rfl
          | succ j => rfl
        rw [hcd]; rfl
      · refine T_iload_n dX0_heads_26 rfl ?_
        refine T_iload dX0_heads_27 rfl ?_
        refine T_callS dX0_heads_29 lX0_63 (As := [_, _]) (rest := _) rfl rfl (by decide) (Nat.le_of_ble_eq_true rfl) (Nat.le_of_ble_eq_true rfl) (t_slot (k := i) ha (by omega)) ?_
        rintro _ _ ⟨rfl, rfl⟩
        refine T_ist dX0_heads_32 (by decide) rfl ?_
        refine T_iload_n dX0_heads_34 rfl ?_
        refine T_iload dX0_heads_35 rfl ?_
        refine T_callS dX0_heads_37 lX0_63 (As := [_, _]) (rest := _) rfl rfl (by decide) (Nat.le_of_ble_eq_true rfl) (Nat.le_of_ble_eq_true rfl) (t_slot (k := j) ha (by omega)) ?_
        rintro _ _ ⟨rfl, rfl⟩
        refine T_ist dX0_heads_40 (by decide) rfl ?_
        refine T_aload_n dX0_heads_42 rfl ?_
        refine T_getR dX0_heads_43 fX0_49 rfl hw (rW10 hw) ?_
        refine T_iload dX0_heads_46 rfl ?_
        refine T_ialdv dX0_heads_48 (kW10 hw) (lW10 hw) (by omega) (j := 6 * a + i) (by omega) (x := (lnW w a i : Int)) (hO.ln hV ha hi) ?_
        refine T_aload_n dX0_heads_49 rfl ?_
        refine T_getR dX0_heads_50 fX0_49 rfl hw (rW10 hw) ?_
        refine T_iload dX0_heads_53 rfl ?_
        refine T_ialdv dX0_heads_55 (kW10 hw) (lW10 hw) (by omega) (j := 6 * a + j) (by omega) (x := (lnW w a j : Int)) (hO.ln hV ha (by omega)) ?_
        refine T_min dX0_heads_56 lX0_38 (by decide) (Nat.le_of_ble_eq_true rfl) ?_
        refine T_ist dX0_heads_59 (by decide) rfl ?_
        refine T_iload_n dX0_heads_61 rfl ?_
        refine T_aload_n dX0_heads_62 rfl ?_
        refine T_iload dX0_heads_63 rfl ?_
        refine T_iconst dX0_heads_65 (by decide) ?_
        refine T_iload dX0_heads_66 rfl ?_
        refine T_iload dX0_heads_68 rfl ?_
        refine T_callV dX0_heads_70 lX0_73 (As := [_, _, _, _]) (rest := _) rfl rfl hw (by decide) (Nat.le_of_ble_eq_true rfl) (Nat.le_of_ble_eq_true rfl) (T_args4 (y := min (lnW w a i) (lnW w a j)) (by omega) (t_agree (f := 0) (m := min (lnW w a i) (lnW w a j)) hw hO hV ha ha hi (by omega) (by omega) (by have := (hV.ln ha hi).2.1; omega))) ?_
        rintro _ _ ⟨rfl, rfl⟩
        refine T_if_eq (tgt := 80) dX0_heads_73 (by decide) (fun c73 => ?_) (fun c73 => ?_)
        · refine T_iconst dX0_heads_80 (by decide) ?_
          exact h81 _ (by rw [← ag_cd]; exact c73.symm) (by omega)
        · refine T_iconst dX0_heads_76 (by decide) ?_
          refine T_goto (tgt := 81) dX0_heads_77 (by decide) ?_
          exact h81 _ (by rw [← ag_cd]; exact ((bI_01 _).resolve_left c73).symm) (by omega)
    refine T_iload dX0_heads_5 rfl ?_
    refine T_aload_n dX0_heads_7 rfl ?_
    refine T_getR dX0_heads_8 fX0_60 rfl hw (rW8 hw) ?_
    refine T_iload_n dX0_heads_11 rfl ?_
    refine T_ialdv dX0_heads_12 (kW8 hw) (lW8 hw) (by omega) (j := a) (by omega) (x := w (15 + a)) (hO.ct ha) ?_
    refine T_icmp_ge (tgt := 95) dX0_heads_13 (by decide) (fun c13 => ?_) (fun c13 => ?_)
    · refine T_iload_n dX0_heads_95 rfl ?_
      exact T_ireturn dX0_heads_96 rfl ⟨by rw [show (w (15 + a)).toNat = i by omega], rfl⟩
    · refine T_iconst dX0_heads_16 (by decide) ?_
      refine T_ist dX0_heads_17 (by decide) rfl ?_
      refine T_leq ?_ (h19 (by omega) 0 (Nat.zero_le _))
      show _ = [vR 102, vR wo, vI a, vI (cdC w a (i - 1) + 0), vI i, vI ((0 : Nat) : Int), vU 0, vU 0, vU 0]
      rw [Int.add_zero]; rfl
  refine T_iconst dX0_heads_0 (by decide) ?_
  refine T_ist_n dX0_heads_1 (by decide) rfl ?_
  refine T_iconst dX0_heads_2 (by decide) ?_
  refine T_ist dX0_heads_3 (by decide) rfl ?_
  exact h5 0 (by omega)

theorem t_C_codes {k a x : Int} (hM : MS d) (hC : CS d) : tB G mX11_codes 0 [vR 1, vI k, vI a, vI x, vU 0] [] d (cQ d (if Vd d 0 k then qCodes (wvD d k.toNat) a x else -2)) := by
  have hc0 := hM.1 0 (by decide)
  refine T_aload_n dX11_codes_0 rfl ?_
  refine T_iload_n dX11_codes_1 rfl ?_
  refine T_callV dX11_codes_2 lX11_165 (As := [_]) (rest := _) rfl rfl k1 (by decide) (Nat.le_of_ble_eq_true rfl) (Nat.le_of_ble_eq_true rfl) (t_warAt hM hC) ?_
  rintro _ _ (⟨hv, rfl, rfl⟩ | ⟨hv, rfl, rfl⟩)
  ·
    refine T_ast dX11_codes_5 (by decide) rfl ?_
    refine T_aload dX11_codes_7 rfl ?_
    refine T_ifnull (tgt := 19) dX11_codes_9 (by decide) (fun c9 => ?_) (fun c9 => absurd rfl c9)
    refine T_bipush dX11_codes_19 (by decide) ?_
    exact T_ireturn dX11_codes_21 rfl ⟨by rw [if_neg hv], Cf.rf⟩
  · have hw := (kn_w k.toNat (by omega)).1
    have hO := hC.2.1 k.toNat (by omega)
    have hV := hM.2.1 k.toNat (by omega)
    rw [if_pos hv]
    generalize wvD d k.toNat = w at *
    refine T_ast dX11_codes_5 (by decide) rfl ?_
    refine T_aload dX11_codes_7 rfl ?_
    refine T_ifnull (tgt := 19) dX11_codes_9 (by decide) (fun c9 => absurd c9 (by omega)) (fun c9 => ?_)
    refine T_iload_n dX11_codes_12 rfl ?_
    refine T_callS dX11_codes_13 lX11_181 (As := [_]) (rest := _) rfl rfl (by decide) (Nat.le_of_ble_eq_true rfl) (Nat.le_of_ble_eq_true rfl) t_isArmy ?_
    rintro _ _ ⟨rfl, rfl⟩
    refine T_if_ne (tgt := 22) dX11_codes_16 (by decide) (fun c16 => ?_) (fun c16 => ?_)
    · have h16 := bI_1 c16
      obtain ⟨a, rfl⟩ : ∃ z : Nat, a = (z : Int) := ⟨a.toNat, by omega⟩
      refine T_iload_n dX11_codes_22 rfl ?_
      refine T_if_ne (tgt := 37) dX11_codes_23 (by decide) (fun c23 => ?_) (fun c23 => ?_)
      · refine T_iload_n dX11_codes_37 rfl ?_
        refine T_iconst dX11_codes_38 (by decide) ?_
        refine T_icmp_ne (tgt := 55) dX11_codes_39 (by decide) (fun c39 => ?_) (fun c39 => ?_)
        · refine T_bipush dX11_codes_55 (by decide) ?_
          exact T_ireturn dX11_codes_57 rfl ⟨by unfold qCodes; rw [if_neg (by omega), if_pos (by omega)], Cf.rf⟩
        · refine T_aload_n dX11_codes_42 rfl ?_
          refine T_getR dX11_codes_43 fX11_68 rfl k1 r1_9 ?_
          refine T_aload dX11_codes_46 rfl ?_
          refine T_iload_n dX11_codes_48 rfl ?_
          refine T_callV dX11_codes_49 lX11_346 (As := [_, _]) (rest := _) rfl rfl k102 (by decide) (Nat.le_of_ble_eq_true rfl) (Nat.le_of_ble_eq_true rfl) (t_heads hw hO hV (by omega)) ?_
          rintro _ _ ⟨rfl, rfl⟩
          refine T_goto (tgt := 57) dX11_codes_52 (by decide) ?_
          exact T_ireturn dX11_codes_57 rfl ⟨by unfold qCodes; rw [if_neg (by omega), if_neg (by omega), if_neg c23, Int.toNat_natCast], Cf.rf⟩
      · refine T_aload_n dX11_codes_26 rfl ?_
        refine T_getR dX11_codes_27 fX11_68 rfl k1 r1_9 ?_
        refine T_aload dX11_codes_30 rfl ?_
        refine T_iload_n dX11_codes_32 rfl ?_
        refine T_callV dX11_codes_33 lX11_342 (As := [_, _]) (rest := _) rfl rfl k102 (by decide) (Nat.le_of_ble_eq_true rfl) (Nat.le_of_ble_eq_true rfl) (t_safety hw hO hV (by omega)) ?_
        rintro _ d1 ⟨rfl, f1⟩
        exact T_ireturn dX11_codes_36 rfl ⟨by unfold qCodes; rw [if_neg (by omega), if_neg (by omega), if_pos c23, Int.toNat_natCast], f1.cf (by omega)⟩
    · have h16 := bI_0 c16
      refine T_bipush dX11_codes_19 (by decide) ?_
      exact T_ireturn dX11_codes_21 rfl ⟨by unfold qCodes; rw [if_pos h16], Cf.rf⟩

theorem sh_iff {i j : Nat} (hi : (i : Int) < w 15) (hj : (j : Int) < w 16) (hj6 : j < 6) : sbP w 0 i 1 j ↔ shP w (6 * i + j) := by
  have e1 : (6 * i + j) / 6 = i := by omega
  have e2 : (6 * i + j) % 6 = j := by omega
  unfold shP
  rw [e1, e2]
  exact ⟨fun q => ⟨⟨hi, hj⟩, q.1, by omega, fun k hk => q.2 k (by omega)⟩, fun q => ⟨q.2.1, fun k hk => q.2.2.2 k (by omega)⟩⟩
theorem cn_skip {p : Nat} : ∀ k : Nat, (∀ q, p ≤ q → q < p + k → ¬ shP w q) → cnN (shP w) (p + k) = cnN (shP w) p
  | 0, _ => rfl
  | k + 1, h => by rw [show p + (k + 1) = (p + k) + 1 by omega, cnN_f (h (p + k) (by omega) (by omega)), cn_skip k (fun q h1 h2 => h q h1 (by omega))]
theorem sh_skip {x : Int} : ∀ (k p f : Nat), (∀ q, p ≤ q → q < p + k → ¬ shP w q) → shS w (f + k) p x = shS w f (p + k) x
  | 0, _, _, _ => rfl
  | k + 1, p, f, h => by
    rw [show f + (k + 1) = (f + k) + 1 by omega, shS_n (h p (Nat.le_refl _) (by omega)), sh_skip k (p + 1) f (fun q h1 h2 => h q (by omega) (by omega)), show p + 1 + k = p + (k + 1) by omega]
theorem sh_none {x : Int} : ∀ (f p : Nat), (∀ q, p ≤ q → ¬ shP w q) → shS w f p x = -1
  | 0, _, _ => rfl
  | f + 1, p, h => by rw [shS_n (h p (Nat.le_refl _)), sh_none f (p + 1) (fun q hq => h q (by omega))]
theorem t_C_shared {k x : Int} (hM : MS d) (hC : CS d) : tB G mX11_shared 0 [vR 1, vI k, vI x, vU 0, vU 0, vU 0, vU 0] [] d (cQ d (if Vd d 0 k then qShared (wvD d k.toNat) x else -1)) := by
  have hc0 := hM.1 0 (by decide)
  refine T_aload_n dX11_shared_0 rfl ?_
  refine T_iload_n dX11_shared_1 rfl ?_
  refine T_callV dX11_shared_2 lX11_165 (As := [_]) (rest := _) rfl rfl k1 (by decide) (Nat.le_of_ble_eq_true rfl) (Nat.le_of_ble_eq_true rfl) (t_warAt hM hC) ?_
  rintro _ _ (⟨hv, rfl, rfl⟩ | ⟨hv, rfl, rfl⟩)
  ·
    refine T_ast_n dX11_shared_5 (by decide) rfl ?_
    refine T_aload_n dX11_shared_6 rfl ?_
    refine T_ifnull (tgt := 15) dX11_shared_7 (by decide) (fun c7 => ?_) (fun c7 => absurd rfl c7)
    refine T_iconst dX11_shared_15 (by decide) ?_
    exact T_ireturn dX11_shared_16 rfl ⟨by rw [if_neg hv], Cf.rf⟩
  · have hw := (kn_w k.toNat (by omega)).1
    have hO := hC.2.1 k.toNat (by omega)
    have hV := hM.2.1 k.toNat (by omega)
    rw [if_pos hv]
    generalize wvD d k.toNat = w at *
    have hc0' : 0 ≤ w 15 ∧ w 15 ≤ 6 := (hV.a (a := 0) (by decide)).2.2.2.2
    have hc1' : 0 ≤ w 16 ∧ w 16 ≤ 6 := (hV.a (a := 1) (by decide)).2.2.2.2
    have hnlo : ∀ i j q : Nat, w 16 ≤ (j : Int) → 6 * i + j ≤ q → q < 6 * i + 6 → ¬ shP w q := fun i j q h1 h2 h3 z => by have := z.1.2; omega
    have hnhi : ∀ i q : Nat, w 15 ≤ (i : Int) → 6 * i ≤ q → ¬ shP w q := fun i q h1 h2 z => by have := z.1.1; omega
    have h23 : ∀ z : Nat, ((z : Int) ≤ w 15 ∧ -1 ≤ x ∧ (0 ≤ x → cnN (shP w) (6 * z) ≤ x ∧ shS w (36 - 6 * z) (6 * z) (x - cnN (shP w) (6 * z)) = shS w 36 0 x)) → tB G mX11_shared 23 [vR 1, vI k, vI x, vR (9 + 21 * k.toNat), vI (cnN (shP w) (6 * z)), vI z, vU 0] [] (d) (cQ d (qShared w x)) := by
      refine T_loop (α := Nat) 23 (fun z => [vR 1, vI k, vI x, vR (9 + 21 * k.toNat), vI (cnN (shP w) (6 * z)), vI z, vU 0]) (fun z => d) (fun z => (z : Int) ≤ w 15 ∧ -1 ≤ x ∧ (0 ≤ x → cnN (shP w) (6 * z) ≤ x ∧ shS w (36 - 6 * z) (6 * z) (x - cnN (shP w) (6 * z)) = shS w 36 0 x)) (fun z => 7 - z) ?_
      rintro i ⟨h1, h2, h3⟩ ih
      try dsimp only at h1 h2 h3 ih ⊢
      have h37 : (i : Int) < w 15 → ∀ z : Nat, ((z : Int) ≤ w 16 ∧ (0 ≤ x → cnN (shP w) (6 * i + z) ≤ x ∧ shS w (36 - (6 * i + z)) (6 * i + z) (x - cnN (shP w) (6 * i + z)) = shS w 36 0 x)) → tB G mX11_shared 37 [vR 1, vI k, vI x, vR (9 + 21 * k.toNat), vI (cnN (shP w) (6 * i + z)), vI i, vI z] [] d (cQ d (qShared w x)) := by
        intro hi
        refine T_loop (α := Nat) 37 (fun z => [vR 1, vI k, vI x, vR (9 + 21 * k.toNat), vI (cnN (shP w) (6 * i + z)), vI i, vI z]) (fun z => d) (fun z => (z : Int) ≤ w 16 ∧ (0 ≤ x → cnN (shP w) (6 * i + z) ≤ x ∧ shS w (36 - (6 * i + z)) (6 * i + z) (x - cnN (shP w) (6 * i + z)) = shS w 36 0 x)) (fun z => 7 - z) ?_
        rintro j ⟨g1, g2⟩ ih2
        try dsimp only at g1 g2 ih2 ⊢
        have hrg := cnN_rg (shP w) (6 * i + j)
        have h85 : ∀ y : Int, y = cnN (shP w) (6 * i + j + 1) → (j : Int) < w 16 → (0 ≤ x → y ≤ x ∧ shS w (36 - (6 * i + j + 1)) (6 * i + j + 1) (x - y) = shS w 36 0 x) → tB G mX11_shared 85 [vR 1, vI k, vI x, vR (9 + 21 * k.toNat), vI y, vI i, vI j] [] d (cQ d (qShared w x)) := by
          rintro _ rfl hj q2
          refine T_inc dX11_shared_85 rfl (by decide) rfl (by omega) ?_
          refine T_goto (tgt := 37) dX11_shared_88 (by decide) ?_
          exact ih2 (j + 1) ⟨by omega, q2⟩ (by omega)
        refine T_iload dX11_shared_37 rfl ?_
        refine T_aload_n dX11_shared_39 rfl ?_
        refine T_getR dX11_shared_40 fX11_200 rfl hw (rW8 hw) ?_
        refine T_iconst dX11_shared_43 (by decide) ?_
        refine T_ialdv dX11_shared_44 (kW8 hw) (lW8 hw) (by omega) (j := 1) rfl (x := w 16) (hO.ct (a := 1) (by decide)) ?_
        refine T_icmp_ge (tgt := 91) dX11_shared_45 (by decide) (fun c45 => ?_) (fun c45 => ?_)
        · refine T_inc dX11_shared_91 rfl (by decide) rfl (by omega) ?_
          refine T_goto (tgt := 23) dX11_shared_94 (by decide) ?_
          refine T_drop 6 ?_
          have hsk := cn_skip (w := w) (p := 6 * i + j) (6 - j) (fun q h1 h2 => hnlo i j q (by omega) h1 (by omega))
          rw [show 6 * i + j + (6 - j) = 6 * (i + 1) by omega] at hsk
          refine T_leq (ls' := [vR 1, vI k, vI x, vR (9 + 21 * k.toNat), vI (cnN (shP w) (6 * (i + 1))), vI ((i + 1 : Nat) : Int), vU 0]) (by rw [hsk]; rfl) (ih (i + 1) ⟨by omega, h2, fun hx => ?_⟩ (by omega))
          have q := g2 hx
          rw [show 36 - (6 * i + j) = (36 - 6 * (i + 1)) + (6 - j) by omega, sh_skip (6 - j) (6 * i + j) _ (fun q h1 h2 => hnlo i j q (by omega) h1 (by omega)), show 6 * i + j + (6 - j) = 6 * (i + 1) by omega, ← hsk] at q
          exact q
        · refine T_aload_n dX11_shared_48 rfl ?_
          refine T_iconst dX11_shared_49 (by decide) ?_
          refine T_iload dX11_shared_50 rfl ?_
          refine T_callS dX11_shared_52 lX11_207 (As := [_, _]) (rest := _) rfl rfl (by decide) (Nat.le_of_ble_eq_true rfl) (Nat.le_of_ble_eq_true rfl) (t_slot (a := 0) (k := i) (by decide) (by omega)) ?_
          rintro _ _ ⟨rfl, rfl⟩
          refine T_iconst dX11_shared_55 (by decide) ?_
          refine T_iload dX11_shared_56 rfl ?_
          refine T_callS dX11_shared_58 lX11_207 (As := [_, _]) (rest := _) rfl rfl (by decide) (Nat.le_of_ble_eq_true rfl) (Nat.le_of_ble_eq_true rfl) (t_slot (a := 1) (k := j) (by decide) (by omega)) ?_
          rintro _ _ ⟨rfl, rfl⟩
          refine T_callV dX11_shared_61 lX11_349 (As := [_, _]) (rest := _) rfl rfl hw (by decide) (Nat.le_of_ble_eq_true rfl) (Nat.le_of_ble_eq_true rfl) (t_sameBeats (a := 0) (b := 1) (o := i) (q := j) hw hO hV (by decide) (by decide) hi (show (j : Int) < w 16 by omega)) ?_
          rintro _ _ ⟨rfl, rfl⟩
          refine T_if_eq (tgt := 85) dX11_shared_64 (by decide) (fun c64 => ?_) (fun c64 => ?_)
          · have h64 := bI_0 c64
            have hsn : ¬ shP w (6 * i + j) := fun z => h64 ((sh_iff hi (by omega) (by omega)).mpr z)
            exact h85 _ (by rw [cnN_f hsn]) (by omega) (fun hx => ⟨(g2 hx).1, by rw [← (g2 hx).2, show 36 - (6 * i + j) = (36 - (6 * i + j + 1)) + 1 by omega, shS_n hsn]⟩)
          · have h64 := bI_1 c64
            have hsp : shP w (6 * i + j) := (sh_iff hi (by omega) (by omega)).mp h64
            refine T_iload dX11_shared_67 rfl ?_
            refine T_iload_n dX11_shared_69 rfl ?_
            refine T_icmp_ne (tgt := 82) dX11_shared_70 (by decide) (fun c70 => ?_) (fun c70 => ?_)
            · refine T_inc dX11_shared_82 rfl (by decide) rfl (by omega) ?_
              exact h85 _ (by rw [cnN_t hsp]) (by omega) (fun hx => ⟨by have := (g2 hx).1; omega, by rw [← (g2 hx).2, show 36 - (6 * i + j) = (36 - (6 * i + j + 1)) + 1 by omega, shS_y hsp, if_neg (by omega), Int.sub_sub]⟩)
            · refine T_bipush dX11_shared_73 (by decide) ?_
              refine T_iload dX11_shared_75 rfl ?_
              refine T_mul dX11_shared_77 (by omega) ?_
              refine T_iload dX11_shared_78 rfl ?_
              refine T_add dX11_shared_80 (by omega) ?_
              exact T_ireturn dX11_shared_81 rfl ⟨by have q := (g2 (by omega)).2; rw [c70, Int.sub_self, show 36 - (6 * i + j) = (36 - (6 * i + j + 1)) + 1 by omega, shS_y hsp, if_pos rfl] at q; unfold qShared; rw [if_neg (by omega), if_neg (by omega), ← q]; first | rfl | (congr 2; omega), Cf.rf⟩
      refine T_iload dX11_shared_23 rfl ?_
      refine T_aload_n dX11_shared_25 rfl ?_
      refine T_getR dX11_shared_26 fX11_200 rfl hw (rW8 hw) ?_
      refine T_iconst dX11_shared_29 (by decide) ?_
      refine T_ialdv dX11_shared_30 (kW8 hw) (lW8 hw) (by omega) (j := 0) rfl (x := w 15) (hO.ct (a := 0) (by decide)) ?_
      refine T_icmp_ge (tgt := 97) dX11_shared_31 (by decide) (fun c31 => ?_) (fun c31 => ?_)
      · have hie : cnN (shP w) 36 = cnN (shP w) (6 * i) := by
          have q := cn_skip (w := w) (p := 6 * i) (36 - 6 * i) (fun q h1 h2 => hnhi i q (by omega) h1)
          rw [show 6 * i + (36 - 6 * i) = 36 by omega] at q; exact q
        refine T_iload_n dX11_shared_97 rfl ?_
        refine T_iconst dX11_shared_98 (by decide) ?_
        refine T_icmp_ne (tgt := 107) dX11_shared_99 (by decide) (fun c99 => ?_) (fun c99 => ?_)
        · refine T_iconst dX11_shared_107 (by decide) ?_
          exact T_ireturn dX11_shared_108 rfl ⟨by unfold qShared; rw [if_neg (by omega), if_neg c99, ← (h3 (by omega)).2, sh_none _ _ (fun q hq => hnhi i q (by omega) hq)], Cf.rf⟩
        · refine T_iload dX11_shared_102 rfl ?_
          refine T_goto (tgt := 108) dX11_shared_104 (by decide) ?_
          exact T_ireturn dX11_shared_108 rfl ⟨by unfold qShared; rw [if_neg (by omega), if_pos c99, hie], Cf.rf⟩
      · refine T_iconst dX11_shared_34 (by decide) ?_
        refine T_ist dX11_shared_35 (by decide) rfl ?_
        exact h37 (by omega) 0 ⟨by omega, h3⟩
    refine T_ast_n dX11_shared_5 (by decide) rfl ?_
    refine T_aload_n dX11_shared_6 rfl ?_
    refine T_ifnull (tgt := 15) dX11_shared_7 (by decide) (fun c7 => absurd c7 (by omega)) (fun c7 => ?_)
    refine T_iload_n dX11_shared_10 rfl ?_
    refine T_iconst dX11_shared_11 (by decide) ?_
    refine T_icmp_ge (tgt := 17) dX11_shared_12 (by decide) (fun c12 => ?_) (fun c12 => ?_)
    · refine T_iconst dX11_shared_17 (by decide) ?_
      refine T_ist dX11_shared_18 (by decide) rfl ?_
      refine T_iconst dX11_shared_20 (by decide) ?_
      refine T_ist dX11_shared_21 (by decide) rfl ?_
      exact h23 0 ⟨by omega, by omega, fun hx => ⟨hx, by show shS w 36 0 (x - 0) = _; rw [Int.sub_zero]⟩⟩
    · refine T_iconst dX11_shared_15 (by decide) ?_
      exact T_ireturn dX11_shared_16 rfl ⟨by unfold qShared; rw [if_pos (by omega)], Cf.rf⟩

theorem t_depth {k : Nat} (hv : kn S0 vo = 9) (hO : Vo d vo v) (hV : VV v) (hk : (k : Int) < v 0) : tB G mX9_depth 0 [vR vo, vI k, vU 0, vU 0, vU 0] [] d (fun r d' => r = some (vI (dpS v k)) ∧ d = d') := by
  have h8 := hV.1
  have h7 : ∀ z : Nat × Nat, (z.1 ≤ k ∧ z.2 + z.1 ≤ k) → tB G mX9_depth 7 [vR vo, vI k, vI (dpS v k - dpS v z.1 + 1), vI z.1, vI z.2] [] (d) (fun r d' => r = some (vI (dpS v k)) ∧ d = d') := by
    refine T_loop (α := Nat × Nat) 7 (fun z => [vR vo, vI k, vI (dpS v k - dpS v z.1 + 1), vI z.1, vI z.2]) (fun z => d) (fun z => z.1 ≤ k ∧ z.2 + z.1 ≤ k) (fun z => z.1) ?_
    rintro ⟨p, i⟩ ⟨h1, h2⟩ ih
    try dsimp only at h1 h2 ih ⊢
    have hp : (p : Int) < v 0 := by omega
    have hpar := hV.par hp
    have hr1 := dpS_rg hV k k (Nat.le_refl _) hk
    have hr2 := dpS_rg hV p p (Nat.le_refl _) hp
    have hrd : d (vo + 1) p = v (1 + 4 * p) := (hO.2 p hp).1
    refine T_iload dX9_depth_7 rfl ?_
    refine T_bipush dX9_depth_9 (by decide) ?_
    refine T_icmp_ge (tgt := 40) dX9_depth_11 (by decide) (fun c11 => absurd c11 (by omega)) (fun c11 => ?_)
    refine T_aload_n dX9_depth_14 rfl ?_
    refine T_getR dX9_depth_15 fX9_15 rfl hv (rV1 hv) ?_
    refine T_iload_n dX9_depth_18 rfl ?_
    refine T_ialdv dX9_depth_19 (kV1 hv) (lV1 hv) (by omega) (j := p) (by omega) (x := v (1 + 4 * p)) hrd ?_
    refine T_iload_n dX9_depth_20 rfl ?_
    refine T_icmp_ge (tgt := 40) dX9_depth_21 (by decide) (fun c21 => ?_) (fun c21 => ?_)
    · refine T_iload_n dX9_depth_40 rfl ?_
      exact T_ireturn dX9_depth_41 rfl ⟨by have := dpS_8 (v := v) (k := p) (by omega); rw [this, show dpS v k - 1 + 1 = dpS v k by omega], rfl⟩
    · obtain ⟨q, hq⟩ : ∃ q : Nat, v (1 + 4 * p) = (q : Int) := ⟨(v (1 + 4 * p)).toNat, by omega⟩
      have hdp := dpS_p hV hp hq (by omega)
      refine T_aload_n dX9_depth_24 rfl ?_
      refine T_getR dX9_depth_25 fX9_15 rfl hv (rV1 hv) ?_
      refine T_iload_n dX9_depth_28 rfl ?_
      refine T_ialdv dX9_depth_29 (kV1 hv) (lV1 hv) (by omega) (j := p) (by omega) (x := v (1 + 4 * p)) hrd ?_
      refine T_ist_n dX9_depth_30 (by decide) rfl ?_
      refine T_inc dX9_depth_31 rfl (by decide) rfl (by omega) ?_
      refine T_leq (ls' := [vR vo, vI k, vI (dpS v k - dpS v q + 1), vI q, vI i]) (by rw [hdp, hq, show dpS v k - (1 + dpS v q) + 1 + 1 = dpS v k - dpS v q + 1 by omega]; rfl) ?_
      refine T_inc dX9_depth_34 rfl (by decide) rfl (by omega) ?_
      refine T_goto (tgt := 7) dX9_depth_37 (by decide) ?_
      exact ih (q, i + 1) ⟨by dsimp only; omega, by dsimp only; omega⟩ (by dsimp only; omega)
  refine T_iconst dX9_depth_0 (by decide) ?_
  refine T_ist_n dX9_depth_1 (by decide) rfl ?_
  refine T_iload_n dX9_depth_2 rfl ?_
  refine T_ist_n dX9_depth_3 (by decide) rfl ?_
  refine T_iconst dX9_depth_4 (by decide) ?_
  refine T_ist dX9_depth_5 (by decide) rfl ?_
  refine T_leq ?_ (h7 (k, 0) ⟨Nat.le_refl _, by dsimp only; omega⟩)
  show _ = [vR vo, vI k, vI (dpS v k - dpS v k + 1), vI k, vI ((0 : Nat) : Int)]
  rw [Int.sub_self]; rfl

theorem t_C_village {k i x : Int} (hM : MS d) (hC : CS d) : tB G mX11_village 0 [vR 1, vI k, vI i, vI x, vU 0] [] d (cQ d (if Vd d 3 k then qVillage (vvD d k.toNat) i x else -2)) := by
  have hc0 := hM.1 3 (by decide)
  refine T_aload_n dX11_village_0 rfl ?_
  refine T_iload_n dX11_village_1 rfl ?_
  refine T_callV dX11_village_2 lX11_352 (As := [_]) (rest := _) rfl rfl k1 (by decide) (Nat.le_of_ble_eq_true rfl) (Nat.le_of_ble_eq_true rfl) (t_villagesAt hM hC) ?_
  rintro _ _ (⟨hu, rfl, rfl⟩ | ⟨hu, rfl, rfl⟩)
  ·
    refine T_ast dX11_village_5 (by decide) rfl ?_
    refine T_aload dX11_village_7 rfl ?_
    refine T_ifnonnull (tgt := 15) dX11_village_9 (by decide) (fun c9 => absurd rfl c9) (fun c9 => ?_)
    refine T_bipush dX11_village_12 (by decide) ?_
    exact T_ireturn dX11_village_14 rfl ⟨by rw [if_neg hu], Cf.rf⟩
  · have hv := (kn_v k.toNat (by omega)).1
    have hO := hC.2.2.2.2 k.toNat (by omega)
    have hV := hM.2.2.2.2 k.toNat (by omega)
    rw [if_pos hu]
    generalize vvD d k.toNat = v at *
    have h8 := hV.1
    refine T_ast dX11_village_5 (by decide) rfl ?_
    refine T_aload dX11_village_7 rfl ?_
    refine T_ifnonnull (tgt := 15) dX11_village_9 (by decide) (fun c9 => ?_) (fun c9 => absurd c9 (by omega))
    refine T_iload_n dX11_village_15 rfl ?_
    refine T_iconst dX11_village_16 (by decide) ?_
    refine T_icmp_ne (tgt := 35) dX11_village_17 (by decide) (fun c17 => ?_) (fun c17 => ?_)
    · refine T_iload_n dX11_village_35 rfl ?_
      refine T_if_lt (tgt := 48) dX11_village_36 (by decide) (fun c36 => ?_) (fun c36 => ?_)
      · refine T_bipush dX11_village_48 (by decide) ?_
        exact T_ireturn dX11_village_50 rfl ⟨by unfold qVillage; rw [if_neg c17, if_pos (by omega)], Cf.rf⟩
      · refine T_iload_n dX11_village_39 rfl ?_
        refine T_aload dX11_village_40 rfl ?_
        refine T_getIv dX11_village_42 fX11_356 rfl hv (x := v 0) hO.1 ?_
        refine T_icmp_lt (tgt := 51) dX11_village_45 (by decide) (fun c45 => ?_) (fun c45 => ?_)
        · have hii : 0 ≤ i ∧ i ≤ v 0 - 1 := by omega
          obtain ⟨i, rfl⟩ : ∃ z : Nat, i = (z : Int) := ⟨i.toNat, by omega⟩
          have hi : (i : Int) < v 0 := by omega
          refine T_iload_n dX11_village_51 rfl ?_
          by_cases hs0 : x = 0
          · subst hs0
            refine T_tabIn (tgt := 88) (off := 36) dX11_village_52 (by decide) (by decide) (by decide) (by decide) ?_
            refine T_aload dX11_village_88 rfl ?_
            refine T_getR dX11_village_90 fX11_359 rfl hv (rV1 hv) ?_
            refine T_iload_n dX11_village_93 rfl ?_
            refine T_ialdv dX11_village_94 (kV1 hv) (lV1 hv) (by omega) (j := i) (by omega) (x := v (1 + 4 * i)) (hO.2 i hi).1 ?_
            exact T_ireturn dX11_village_95 rfl ⟨by unfold qVillage; rw [if_neg (by omega), if_neg (fun z => z hii), Int.toNat_natCast, if_pos (by decide), show 1 + 4 * i + Int.toNat 0 = 1 + 4 * i by omega], Cf.rf⟩
          by_cases hs1 : x = 1
          · subst hs1
            refine T_tabIn (tgt := 96) (off := 44) dX11_village_52 (by decide) (by decide) (by decide) (by decide) ?_
            refine T_aload dX11_village_96 rfl ?_
            refine T_getR dX11_village_98 fX11_362 rfl hv (rV2 hv) ?_
            refine T_iload_n dX11_village_101 rfl ?_
            refine T_ialdv dX11_village_102 (kV2 hv) (lV2 hv) (by omega) (j := i) (by omega) (x := v (2 + 4 * i)) (hO.2 i hi).2.1 ?_
            exact T_ireturn dX11_village_103 rfl ⟨by unfold qVillage; rw [if_neg (by omega), if_neg (fun z => z hii), Int.toNat_natCast, if_pos (by decide), show 1 + 4 * i + Int.toNat 1 = 2 + 4 * i by omega], Cf.rf⟩
          by_cases hs2 : x = 2
          · subst hs2
            refine T_tabIn (tgt := 104) (off := 52) dX11_village_52 (by decide) (by decide) (by decide) (by decide) ?_
            refine T_aload dX11_village_104 rfl ?_
            refine T_getR dX11_village_106 fX11_365 rfl hv (rV3 hv) ?_
            refine T_iload_n dX11_village_109 rfl ?_
            refine T_ialdv dX11_village_110 (kV3 hv) (lV3 hv) (by omega) (j := i) (by omega) (x := v (3 + 4 * i)) (hO.2 i hi).2.2.1 ?_
            exact T_ireturn dX11_village_111 rfl ⟨by unfold qVillage; rw [if_neg (by omega), if_neg (fun z => z hii), Int.toNat_natCast, if_pos (by decide), show 1 + 4 * i + Int.toNat 2 = 3 + 4 * i by omega], Cf.rf⟩
          by_cases hs3 : x = 3
          · subst hs3
            refine T_tabIn (tgt := 112) (off := 60) dX11_village_52 (by decide) (by decide) (by decide) (by decide) ?_
            refine T_aload dX11_village_112 rfl ?_
            refine T_getR dX11_village_114 fX11_366 rfl hv (rV4 hv) ?_
            refine T_iload_n dX11_village_117 rfl ?_
            refine T_ialdv dX11_village_118 (kV4 hv) (lV4 hv) (by omega) (j := i) (by omega) (x := v (4 + 4 * i)) (hO.2 i hi).2.2.2 ?_
            exact T_ireturn dX11_village_119 rfl ⟨by unfold qVillage; rw [if_neg (by omega), if_neg (fun z => z hii), Int.toNat_natCast, if_pos (by decide), show 1 + 4 * i + Int.toNat 3 = 4 + 4 * i by omega], Cf.rf⟩
          by_cases hs4 : x = 4
          · subst hs4
            refine T_tabIn (tgt := 120) (off := 68) dX11_village_52 (by decide) (by decide) (by decide) (by decide) ?_
            refine T_aload dX11_village_120 rfl ?_
            refine T_iload_n dX11_village_122 rfl ?_
            refine T_callV dX11_village_123 lX11_369 (As := [_]) (rest := _) rfl rfl hv (by decide) (Nat.le_of_ble_eq_true rfl) (Nat.le_of_ble_eq_true rfl) (t_depth hv hO hV hi) ?_
            rintro _ _ ⟨rfl, rfl⟩
            exact T_ireturn dX11_village_126 rfl ⟨by unfold qVillage; rw [if_neg (by omega), if_neg (fun z => z hii), Int.toNat_natCast, if_neg (by decide), if_pos rfl], Cf.rf⟩
          refine T_tabOut (tgt := 127) dX11_village_52 (by omega) (by decide) ?_
          refine T_bipush dX11_village_127 (by decide) ?_
          exact T_ireturn dX11_village_129 rfl ⟨by unfold qVillage; rw [if_neg (by omega), if_neg (fun z => z hii), if_neg (by omega), if_neg (by omega)], Cf.rf⟩
        · refine T_bipush dX11_village_48 (by decide) ?_
          exact T_ireturn dX11_village_50 rfl ⟨by unfold qVillage; rw [if_neg c17, if_pos (by omega)], Cf.rf⟩
    · refine T_iload_n dX11_village_20 rfl ?_
      refine T_if_ne (tgt := 32) dX11_village_21 (by decide) (fun c21 => ?_) (fun c21 => ?_)
      · refine T_bipush dX11_village_32 (by decide) ?_
        exact T_ireturn dX11_village_34 rfl ⟨by unfold qVillage; rw [if_pos c17, if_neg c21], Cf.rf⟩
      · refine T_aload dX11_village_24 rfl ?_
        refine T_getIv dX11_village_26 fX11_356 rfl hv (x := v 0) hO.1 ?_
        refine T_goto (tgt := 34) dX11_village_29 (by decide) ?_
        exact T_ireturn dX11_village_34 rfl ⟨by unfold qVillage; rw [if_pos c17, if_pos c21], Cf.rf⟩

end C17
