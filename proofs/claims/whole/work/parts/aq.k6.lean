/-! the law, whole -/
section CON5
theorem getD_out {α : Type} (l : List α) (v : α) {n : Nat} (h : l.length ≤ n) : l.getD n v = v := by rw [List.getD_eq_getElem?_getD, List.getElem?_eq_none h]; rfl
theorem S0_len : kT.length = 297 ∧ lT.length = 297 := by decide +kernel
theorem S0_of {K : Ce} (h : zkK K = true) : shpK 296 K = S0 := by
  unfold zkK at h
  rw [List.all_eq_true] at h
  have g : ∀ a, a < 297 → (kd 296 K a).1 = kT.getD a 99 ∧ (kd 296 K a).2 = lT.getD a 0 := fun a ha => of_decide_eq_true (h a (List.mem_range.mpr ha))
  have l1 := S0_len.1
  have l2 := S0_len.2
  refine Prod.ext rfl (Prod.ext (funext fun a => ?_) (funext fun a => ?_))
  · show kn (shpK 296 K) a = kT.getD a 99
    rw [kd_k.1]
    by_cases z : a < 297
    · exact (g a z).1
    · unfold kd
      rw [if_neg (by omega), getD_out _ _ (by omega)]
  · show ln (shpK 296 K) a = lT.getD a 0
    rw [kd_k.2]
    by_cases z : a < 297
    · exact (g a z).2
    · unfold kd
      rw [if_neg (by omega), getD_out _ _ (by omega)]
theorem sft_40 : ∀ k, k < 13 → (sftab.getD k []).length ≤ 40 := by decide +kernel
theorem rT_10 : ∀ a, a < 297 → 17 ≤ kT.getD a 99 → (rT.getD a []).length ≤ 10 := by decide +kernel
theorem kT_24 : ∀ a, a < 297 → kT.getD a 99 ≠ 99 → kT.getD a 99 < 24 := by decide +kernel
theorem zkW_s {W : Wr} (h : zkW W = true) : ∀ e ∈ W, e.1 ≠ 3 ∧ e.1 ≠ 4 ∧ e.1 ≠ 52 ∧ e.1 ≠ 273 ∧ (e.1 ≠ 272 ∨ e.2.1 = 6) ∧ (kT.getD e.1 99 < 17 ∨ e.2.1 < 10) := by
  unfold zkW at h
  rw [List.all_eq_true] at h
  exact fun e he => of_decide_eq_true (h e he)
theorem RO_of {W : Wr} (h : zkR W = true) (hW : zkW W = true) : RO (mm W) := by
  unfold zkR at h
  rw [List.all_eq_true] at h
  have hs := zkW_s hW
  have l1 := S0_len.1
  intro a j hk hj
  have hk' : kT.getD a 99 ≠ 99 := hk
  have hj' : slT (kT.getD a 99) j = 2 := hj
  have ha : a < 297 := by
    rcases Nat.lt_or_ge a 297 with z | z
    · exact z
    · exact absurd (getD_out _ _ (by omega)) hk'
  have h1 := h a (List.mem_range.mpr ha)
  rw [List.all_eq_true] at h1
  have h24 := kT_24 a ha hk'
  by_cases c1 : kT.getD a 99 < 13
  · rw [if_pos c1] at h1
    have h40 : j < 40 := by
      rcases Nat.lt_or_ge j 40 with z | z
      · exact z
      · have e : slT (kT.getD a 99) j = 0 := by
          unfold slT; rw [if_pos c1]; unfold sft
          exact getD_out _ _ (Nat.le_trans (sft_40 _ c1) z)
        rw [e] at hj'; exact absurd hj' (by decide)
    exact of_decide_eq_true (h1 j (List.mem_range.mpr h40)) hj'
  · by_cases c2 : kT.getD a 99 < 17
    · exact absurd hj' (by
        unfold slT sat
        rw [if_neg c1]
        (repeat' split) <;> omega)
    · rw [if_neg c1, if_neg c2] at h1
      by_cases c3 : j < 10
      · exact of_decide_eq_true (h1 j (List.mem_range.mpr c3)) hj'
      · have e1 : mm W a j = 0 := mm_no W (fun e he z => by
          have := (hs e he).2.2.2.2.2
          rw [z.1] at this
          omega)
        have e2 : rf0 a j = 0 := by
          unfold rf0
          exact getD_out _ _ (Nat.le_trans (rT_10 a ha (by omega)) (by omega))
        rw [e1, e2]; rfl
theorem IV_of {W : Wr} (hI : zkI W = true) (hW : zkW W = true) : IV (mm W) := by
  have hs := zkW_s hW
  have hi : mm W 2 1 = 0 ∧ mm W 2 2 = 0 ∧ mm W 2 3 = -1 ∧ mm W 272 6 = -1 := of_decide_eq_true hI
  have z3 : ∀ j, mm W 3 j = 0 := fun j => mm_no W (fun e he z => (hs e he).1 z.1)
  have z4 : ∀ j, mm W 4 j = 0 := fun j => mm_no W (fun e he z => (hs e he).2.1 z.1)
  have z52 : ∀ j, mm W 52 j = 0 := fun j => mm_no W (fun e he z => (hs e he).2.2.1 z.1)
  have z273 : ∀ j, mm W 273 j = 0 := fun j => mm_no W (fun e he z => (hs e he).2.2.2.1 z.1)
  have z272 : ∀ j, j ≠ 6 → mm W 272 j = 0 := fun j hj => mm_no W (fun e he z => by
    have := (hs e he).2.2.2.2.1
    rcases this with y | y
    · exact y z.1
    · exact hj (z.2.symm.trans y))
  refine ⟨⟨?_, fun i hi2 => ?_, fun s hs4 => ?_, fun k hk => ?_, fun k hk => ?_, fun k hk => ?_, fun k hk => ?_⟩, fun k hk => ⟨?_, fun hn => absurd (z273 k) hn⟩⟩
  · rw [hi.1, hi.2.1, hi.2.2.1, hi.2.2.2, z272 4 (by decide), z272 5 (by decide)]
    exact ⟨⟨rfl, by decide, by decide⟩, rfl, rfl⟩
  · show mm W 3 i = _ ∧ _
    rw [z3, z272 (10 + i) (by omega)]
    exact ⟨by decide +kernel, by decide, by decide⟩
  · show mm W 4 s = _ ∧ _
    rw [z4, z272 s (by omega)]
    exact ⟨rfl, by decide, by decide⟩
  · rw [z272 0 (by decide)] at hk; omega
  · rw [z272 1 (by decide)] at hk; omega
  · rw [z272 2 (by decide)] at hk; omega
  · rw [z272 3 (by decide)] at hk; omega
  · rw [z52, z273]; exact ⟨rfl, Or.inl rfl⟩
theorem S00_k : S00 = shpK 0 [] := Prod.ext rfl (Prod.ext (funext fun a => (if_neg (by omega)).symm) (funext fun a => (if_neg (by omega)).symm))
set_option maxRecDepth 100000 in
theorem law_all {G : sG} (hL : G.2.2.1 ≤ 3072) : sB G mL_law 0 [vU 1, vU 0, vU 0, vU 0] [] S00 d00 600000 7302250 (fun r _ _ => r = some (vI 1)) := by
  have h := zkA_ok
  unfold zkA at h
  cases hf1 : fin1 with
  | none => rw [hf1] at h; exact absurd h (by decide)
  | some R1 =>
    rw [hf1] at h
    dsimp only at h
    rw [Bool.and_eq_true] at h
    obtain ⟨h270, h⟩ := h
    have e270 : R1.1 = 270 := of_decide_eq_true h270
    cases hf2 : fin2 R1 with
    | none => rw [hf2] at h; exact absurd h (by decide)
    | some R2 =>
      rw [hf2] at h
      dsimp only at h
      rw [Bool.and_eq_true, Bool.and_eq_true, Bool.and_eq_true, Bool.and_eq_true] at h
      obtain ⟨⟨⟨⟨hb, hK⟩, hW⟩, hR⟩, hI⟩ := h
      obtain ⟨e296, hc, hsl⟩ := of_decide_eq_true hb
      obtain ⟨a1, a2, a3, a4⟩ := run_tl tabK tabK_ok _ _ _ _ _ _ _ _ _ _ R1 hf1 (fun e he => absurd he (List.not_mem_nil))
      obtain ⟨b1, b2, b3, b4⟩ := run_tl tabK tabK_ok _ _ _ _ _ _ _ _ _ _ R2 hf2 (fun e he => by have := a3 e he; omega)
      have hS : shpK R2.1 R2.2.1 = S0 := by rw [e296]; exact S0_of hK
      have hfin : sB G mL_law 18 [vU 1, vR 1, vR 271, vI 0] [] S0 (mm R2.2.2.1) 0 0 (fun r _ _ => r = some (vI 1)) :=
        (law_loop hL (fun k d h hk kk => lc_text h hL hk kk) (fun k d h hk kk => lc_unique h hL hk kk) (0, mm R2.2.2.1) ⟨IV_of hI hW, Nat.zero_le _⟩ (RO_of hR hW)).mono (fun r S d h => h.2.2)
      have e38 : snf 12 = 38 := by decide
      have e11 : snf 11 = 11 := by decide
      refine sB.less (kc' := (R1.2.2.2.1 - 1) + ((R2.2.2.2.1 - (R1.2.2.2.1 + 1)) + 0 + 1) + 1) (ks' := (R1.2.2.2.2 - 11) + ((R2.2.2.2.2 - (R1.2.2.2.2 + 38)) + 0 + snf 12) + snf 11) (by omega) (by omega) ?_
      rw [S00_k]
      refine B_new (k := 11) (idx := 7) dL_law_0 nL_7 ?_
      rw [alK]
      show sB G mL_law 3 _ (vR 1 :: []) (shpK 1 [(11, 0)]) (upA (mm []) (0 + 1) (fun _ => 0)) _ _ _
      rw [mm_f (n := 0) (W := []) (fun e he => absurd he (List.not_mem_nil))]
      refine B_dup dL_law_3 rfl ?_
      refine B_callI (As := []) (rest := [vR 1]) dL_law_4 lL_9 rfl rfl (by decide) (by decide) (by decide) (Nat.le_of_ble_eq_true rfl) (a4 G (fun r S d => r = none ∧ shpK R1.1 R1.2.1 = S ∧ mm R1.2.2.1 = d) ⟨rfl, rfl, rfl⟩) ?_
      rintro _ _ _ ⟨rfl, rfl, rfl⟩
      refine B_astore_n (r := 1) dL_law_7 (by decide) ?_
      show sB G mL_law 8 [vU 1, vR 1, vU 0, vU 0] [] _ _ _ _ _
      refine B_new (k := 12) (idx := 10) dL_law_8 nL_10 ?_
      rw [alK]
      show sB G mL_law 11 _ (vR (R1.1 + 1) :: []) (shpK (R1.1 + 1) ((12, 0) :: R1.2.1)) (upA (mm R1.2.2.1) (R1.1 + 1) (fun _ => 0)) _ _ _
      rw [mm_f a3, e270]
      refine B_dup dL_law_11 rfl ?_
      show sB G mL_law 12 _ [vR 271, vR 271] _ _ _ _ _
      have hkn : kn (shpK 271 ((12, 0) :: R1.2.1)) 271 ≠ 99 := by
        rw [kd_k.1]
        unfold kd
        rw [if_pos (by decide), Nat.sub_self]
        show ¬ (12 : Nat) = 99
        decide
      refine B_callI (M := mL_law) (M' := mX12_init) (kc' := R2.2.2.2.1 - (R1.2.2.2.1 + 1)) (ks' := R2.2.2.2.2 - (R1.2.2.2.2 + 38)) (kc := 0) (ks := 0) (As := []) (rest := [vR 271]) dL_law_12 lL_12 rfl rfl hkn (by decide) (by decide) (Nat.le_of_ble_eq_true rfl) (b4 G (fun r S d => r = none ∧ shpK R2.1 R2.2.1 = S ∧ mm R2.2.2.1 = d) ⟨rfl, rfl, rfl⟩) ?_
      rintro _ _ _ ⟨rfl, rfl, rfl⟩
      refine B_astore_n (r := 271) dL_law_15 (by decide) ?_
      show sB G mL_law 16 [vU 1, vR 1, vR 271, vU 0] [] _ _ _ _ _
      refine B_iconst dL_law_16 (by decide) ?_
      refine B_istore_n dL_law_17 (by decide) ?_
      show sB G mL_law 18 [vU 1, vR 1, vR 271, vI 0] [] _ _ _ _ _
      rw [hS]
      exact hfin
end CON5
