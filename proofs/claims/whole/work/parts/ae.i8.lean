/-! the class: words -/
section C60
variable {G : sG} {d d' d0 e : sD} {T U : Nat → Int} {n p q : Nat}
def wB (k : Nat) : Nat := [0, 5, 9, 14, 19, 24, 29, 35, 42, 50, 55, 61, 66, 70, 75, 80, 84, 90, 96, 102, 107, 112, 117, 123].getD k 0
def wE (k : Nat) : Nat := [4, 8, 13, 18, 23, 28, 34, 41, 49, 54, 60, 65, 69, 74, 79, 83, 89, 95, 101, 106, 111, 116, 122, 127].getD k 0
theorem tx_sp : ∀ k, k < 24 → ∀ i, i < 128 → wB k ≤ i → i ≤ wE k → (tx i = 32 ↔ i = wE k) := by decide +kernel
theorem wB_s : ∀ k, k < 24 → (k < 23 → wB (k + 1) = wE k + 1) ∧ wB k < wE k ∧ wE k < 128 ∧ wE k - wB k ≤ 7 ∧ (k = 23 → wE k = 127) := by decide +kernel
theorem tx_lt : ∀ k, k < 24 → ∀ j, j < 8 → j < wE k - wB k → 97 ≤ tx (wB k + j) ∧ tx (wB k + j) ≤ 122 := by decide +kernel
theorem tx_rg : ∀ i, i < 128 → 32 ≤ tx i ∧ tx i ≤ 122 := by decide +kernel
/-- a word of the tape is the k-th word -/
def mW (T : Nat → Int) (p L k : Nat) : Prop := L = wE k - wB k ∧ ∀ j, j < L → tx (wB k + j) = T (p + j)
/-- the reference's number of the class's word -/
def vW (k : Nat) : Int := if k < 9 then (k : Int) + 10 else if k < 18 then (k : Int) - 8 else (k : Int) + 1
def cdW (k : Nat) : Int := coN tx (wB k) (wE k - wB k)
theorem vW_ok : ∀ k, k < 24 → (wdS (cdW k) = vW k ∧ cwT (vW k) = (k : Int)) ∧ 1 ≤ vW k ∧ vW k ≤ 24 := by decide +kernel
theorem coN_cg : ∀ L : Nat, (∀ j, j < L → T (p + j) = U (q + j)) → coN T p L = coN U q L
  | 0, _ => rfl
  | L + 1, h => by
    show 32 * coN T p L + T (p + L) - 96 = 32 * coN U q L + U (q + L) - 96
    rw [coN_cg L (fun j hj => h j (by omega)), h L (by omega)]
theorem coN_inj : ∀ (L L' : Nat), (∀ j, j < L → ltP T (p + j)) → (∀ j, j < L' → ltP U (q + j)) → coN T p L = coN U q L' → L = L' ∧ ∀ j, j < L → T (p + j) = U (q + j)
  | 0, 0, _, _, _ => ⟨rfl, fun j hj => absurd hj (by omega)⟩
  | 0, m + 1, _, h2, h => by
    have h3 := (coN_rg m (fun j hj => h2 j (by omega))).1
    have h4 := h2 m (by omega)
    have h5 : (0 : Int) = 32 * coN U q m + U (q + m) - 96 := h
    omega
  | L + 1, 0, h1, _, h => by
    have h3 := (coN_rg L (fun j hj => h1 j (by omega))).1
    have h4 := h1 L (by omega)
    have h5 : 32 * coN T p L + T (p + L) - 96 = (0 : Int) := h
    omega
  | L + 1, m + 1, h1, h2, h => by
    have h5 : 32 * coN T p L + T (p + L) - 96 = 32 * coN U q m + U (q + m) - 96 := h
    have h3 := h1 L (by omega)
    have h4 := h2 m (by omega)
    have e1 : T (p + L) = U (q + m) := by omega
    have e2 : coN T p L = coN U q m := by omega
    obtain ⟨r1, r2⟩ := coN_inj L m (fun j hj => h1 j (by omega)) (fun j hj => h2 j (by omega)) e2
    refine ⟨by omega, fun j hj => ?_⟩
    rcases (show j < L ∨ j = L by omega) with z | z
    · exact r2 j z
    · rw [z, e1, r1]
theorem wdS_in {x : Int} (h : ¬ wdS x = 99) : ∃ k, k < 24 ∧ x = cdW k := by
  unfold wdS at h
  by_cases c0 : x = foS 20 21 18 14
  · exact ⟨9, by decide, c0.trans (by decide +kernel)⟩
  rw [if_neg c0] at h
  by_cases c1 : x = egS 0 0 0 20 9 18 5 4
  · exact ⟨10, by decide, c1.trans (by decide +kernel)⟩
  rw [if_neg c1] at h
  by_cases c2 : x = foS 5 3 8 15
  · exact ⟨11, by decide, c2.trans (by decide +kernel)⟩
  rw [if_neg c2] at h
  by_cases c3 : x = foS 0 23 5 20
  · exact ⟨12, by decide, c3.trans (by decide +kernel)⟩
  rw [if_neg c3] at h
  by_cases c4 : x = foS 6 18 15 13
  · exact ⟨13, by decide, c4.trans (by decide +kernel)⟩
  rw [if_neg c4] at h
  by_cases c5 : x = foS 19 20 5 16
  · exact ⟨14, by decide, c5.trans (by decide +kernel)⟩
  rw [if_neg c5] at h
  by_cases c6 : x = foS 0 12 1 7
  · exact ⟨15, by decide, c6.trans (by decide +kernel)⟩
  rw [if_neg c6] at h
  by_cases c7 : x = egS 0 0 0 16 12 1 3 5
  · exact ⟨16, by decide, c7.trans (by decide +kernel)⟩
  rw [if_neg c7] at h
  by_cases c8 : x = egS 0 0 0 15 18 4 5 18
  · exact ⟨17, by decide, c8.trans (by decide +kernel)⟩
  rw [if_neg c8] at h
  by_cases c9 : x = foS 18 5 19 20
  · exact ⟨0, by decide, c9.trans (by decide +kernel)⟩
  rw [if_neg c9] at h
  by_cases c10 : x = foS 0 20 1 16
  · exact ⟨1, by decide, c10.trans (by decide +kernel)⟩
  rw [if_neg c10] at h
  by_cases c11 : x = foS 6 12 1 13
  · exact ⟨2, by decide, c11.trans (by decide +kernel)⟩
  rw [if_neg c11] at h
  by_cases c12 : x = foS 18 15 12 12
  · exact ⟨3, by decide, c12.trans (by decide +kernel)⟩
  rw [if_neg c12] at h
  unfold owS at h
  by_cases c13 : x = foS 8 1 12 20
  · exact ⟨4, by decide, c13.trans (by decide +kernel)⟩
  rw [if_neg c13] at h
  by_cases c14 : x = foS 12 5 6 20
  · exact ⟨5, by decide, c14.trans (by decide +kernel)⟩
  rw [if_neg c14] at h
  by_cases c15 : x = egS 0 0 0 18 9 7 8 20
  · exact ⟨6, by decide, c15.trans (by decide +kernel)⟩
  rw [if_neg c15] at h
  by_cases c16 : x = egS 0 0 3 8 1 18 7 5
  · exact ⟨7, by decide, c16.trans (by decide +kernel)⟩
  rw [if_neg c16] at h
  by_cases c17 : x = egS 0 18 5 20 18 5 1 20
  · exact ⟨8, by decide, c17.trans (by decide +kernel)⟩
  rw [if_neg c17] at h
  by_cases c18 : x = egS 0 0 0 7 9 22 5 19
  · exact ⟨18, by decide, c18.trans (by decide +kernel)⟩
  rw [if_neg c18] at h
  by_cases c19 : x = foS 13 1 4 5
  · exact ⟨19, by decide, c19.trans (by decide +kernel)⟩
  rw [if_neg c19] at h
  by_cases c20 : x = foS 4 18 15 16
  · exact ⟨20, by decide, c20.trans (by decide +kernel)⟩
  rw [if_neg c20] at h
  by_cases c21 : x = foS 19 23 1 16
  · exact ⟨21, by decide, c21.trans (by decide +kernel)⟩
  rw [if_neg c21] at h
  by_cases c22 : x = egS 0 0 0 20 23 9 3 5
  · exact ⟨22, by decide, c22.trans (by decide +kernel)⟩
  rw [if_neg c22] at h
  by_cases c23 : x = foS 12 1 19 20
  · exact ⟨23, by decide, c23.trans (by decide +kernel)⟩
  rw [if_neg c23] at h
  exact absurd rfl h
theorem wd_yes {L k : Nat} (hk : k < 24) (h : mW T p L k) : wdS (coN T p L) = vW k := by
  rw [← (vW_ok k hk).1.1]
  unfold cdW
  rw [← h.1, coN_cg L (fun j hj => (h.2 j hj).symm)]
theorem wd_no {L : Nat} (hl : ∀ j, j < L → ltP T (p + j)) (h : ∀ k, k < 24 → ¬ mW T p L k) : wdS (coN T p L) = 99 := Classical.byContradiction fun hn => by
  obtain ⟨k, hk, e⟩ := wdS_in hn
  have h7 := (wB_s k hk).2.2.2.1
  obtain ⟨r1, r2⟩ := coN_inj L _ hl (fun j hj => tx_lt k hk j (by omega) hj) e
  exact h k hk ⟨r1, fun j hj => (r2 j hj).symm⟩
/-- the tape as the class holds it -/
def TpC (d : sD) (n : Nat) (T : Nat → Int) : Prop := TV n T ∧ ∀ i, i < n → (d 3 i = T i ∧ T i < 128) ∨ (d 3 i < 0 ∧ 128 ≤ T i)
theorem TpC.lt (h : TpC d n T) {i : Nat} (hi : i < n) : (97 ≤ d 3 i ∧ d 3 i ≤ 122) ↔ ltP T i := by
  rcases h.2 i hi with z | z
  · rw [z.1]
  · exact ⟨fun y => by omega, fun y => by have := y.2; omega⟩
theorem TpC.dt (h : TpC d n T) {i : Nat} (hi : i < n) : (48 ≤ d 3 i ∧ d 3 i ≤ 57) ↔ dtP T i := by
  rcases h.2 i hi with z | z
  · rw [z.1]
  · exact ⟨fun y => by omega, fun y => by have := y.2; omega⟩
theorem TpC.eq (h : TpC d n T) {i : Nat} {c : Int} (hi : i < n) (hc : 0 ≤ c ∧ c < 128) : d 3 i = c ↔ T i = c := by
  rcases h.2 i hi with z | z
  · rw [z.1]
  · exact ⟨fun y => by omega, fun y => by omega⟩
theorem TpC_eq (h : TpC d n T) (he : ∀ i, d' 3 i = d 3 i) : TpC d' n T := ⟨h.1, fun i hi => by rw [he i]; exact h.2 i hi⟩

theorem c_isWord {f b b2 : Nat} (h : TpC d n T) (hb : b ≤ b2) (hb2 : b2 < 128) (hf : f + (b2 - b) ≤ n) : tB G mX5_isWord 0 [vR 3, vI f, vI b, vI b2, vU 0] [] d (fun r d' => ((∀ j, j < b2 - b → tx (b + j) = T (f + j)) ∧ r = some (vI 1) ∧ d = d') ∨ (¬ (∀ j, j < b2 - b → tx (b + j) = T (f + j)) ∧ r = some (vI 0) ∧ d = d')) := by
  have hn := h.1.1
  have h3 : ∀ z : Nat, (b ≤ z ∧ z ≤ b2 ∧ ∀ j, j < z - b → tx (b + j) = T (f + j)) → tB G mX5_isWord 3 [vR 3, vI f, vI b, vI b2, vI z] [] d (fun r d' => ((∀ j, j < b2 - b → tx (b + j) = T (f + j)) ∧ r = some (vI 1) ∧ d = d') ∨ (¬ (∀ j, j < b2 - b → tx (b + j) = T (f + j)) ∧ r = some (vI 0) ∧ d = d')) := by
    refine T_loop (α := Nat) 3 (fun z => [vR 3, vI f, vI b, vI b2, vI z]) (fun _ => d) (fun z => b ≤ z ∧ z ≤ b2 ∧ ∀ j, j < z - b → tx (b + j) = T (f + j)) (fun z => b2 + 1 - z) ?_
    rintro i ⟨h1, h2, h4⟩ ih
    try dsimp only at h1 h2 h4 ih ⊢
    have hr := fun (hi : i < 128) => tx_rg i hi
    refine T_iload dX5_isWord_3 rfl ?_
    refine T_iload_n dX5_isWord_5 rfl ?_
    refine T_icmp_ge (tgt := 35) dX5_isWord_6 (by decide) (fun c6 => ?_) (fun c6 => ?_)
    · refine T_iconst dX5_isWord_35 (by decide) ?_
      exact T_zreturn dX5_isWord_36 rfl (by omega) (Or.inl ⟨fun j hj => h4 j (by omega), rfl, rfl⟩)
    · refine T_ldcS dX5_isWord_9 rfl ?_
      refine T_iload dX5_isWord_11 rfl ?_
      refine T_scharAt dX5_isWord_13 rfl (by decide) (Nat.le_of_ble_eq_true rfl) (by omega) ?_
      refine T_aload_n dX5_isWord_16 rfl ?_
      refine T_iload_n dX5_isWord_17 rfl ?_
      refine T_iload dX5_isWord_18 rfl ?_
      refine T_add dX5_isWord_20 (by omega) ?_
      refine T_iload_n dX5_isWord_21 rfl ?_
      refine T_sub dX5_isWord_22 (by omega) ?_
      refine T_bald dX5_isWord_23 k3 l3 (by omega) (j := f + (i - b)) (by omega) ?_
      refine T_icmp_eq (tgt := 29) dX5_isWord_24 (by decide) (fun c24 => ?_) (fun c24 => ?_)
      · refine T_inc dX5_isWord_29 rfl (by decide) rfl (by omega) ?_
        refine T_goto (tgt := 3) dX5_isWord_32 (by decide) ?_
        refine ih (i + 1) ⟨by omega, by omega, fun j hj => ?_⟩ (by omega)
        rcases (show j < i - b ∨ j = i - b by omega) with z | z
        · exact h4 j z
        · have hr1 := hr (by omega)
          rcases h.2 (f + (i - b)) (by omega) with y | y
          · rw [z, show b + (i - b) = i by omega, ← y.1, ← c24, Int.toNat_natCast]
          · rw [Int.toNat_natCast] at c24; omega
      · refine T_iconst dX5_isWord_27 (by decide) ?_
        refine T_zreturn dX5_isWord_28 rfl (by omega) (Or.inr ⟨fun z => ?_, rfl, rfl⟩)
        have hr1 := hr (by omega)
        have z1 := z (i - b) (by omega)
        rw [show b + (i - b) = i by omega] at z1
        rw [Int.toNat_natCast] at c24
        rcases h.2 (f + (i - b)) (by omega) with y | y
        · omega
        · omega
  refine T_iload_n dX5_isWord_0 rfl ?_
  refine T_ist dX5_isWord_1 (by decide) rfl ?_
  exact h3 b ⟨Nat.le_refl _, hb, fun j hj => absurd hj (by omega)⟩

theorem c_wordNumber {f t : Nat} (h : TpC d n T) (hf : f ≤ t) (ht : t ≤ n) : tB G mX5_wordNumber 0 [vR 3, vI f, vI t, vU 0, vU 0, vU 0] [] d (fun r d' => ((∃ k : Nat, k < 24 ∧ mW T f (t - f) k ∧ r = some (vI (k : Int))) ∨ ((∀ k, k < 24 → ¬ mW T f (t - f) k) ∧ r = some (vI (-1)))) ∧ d = d') := by
  have hn := h.1.1
  have h8 : ∀ z : Nat × Nat, (((z.2 < 24 ∧ wB z.2 ≤ z.1 ∧ z.1 ≤ wE z.2) ∨ (z.2 = 24 ∧ z.1 = 128)) ∧ ∀ k, k < z.2 → ¬ mW T f (t - f) k) → tB G mX5_wordNumber 8 [vR 3, vI f, vI t, vI z.2, vI (if z.2 < 24 then wB z.2 else 128 : Nat), vI z.1] [] d (fun r d' => ((∃ k : Nat, k < 24 ∧ mW T f (t - f) k ∧ r = some (vI (k : Int))) ∨ ((∀ k, k < 24 → ¬ mW T f (t - f) k) ∧ r = some (vI (-1)))) ∧ d = d') := by
    refine T_loop (α := Nat × Nat) 8 (fun z => [vR 3, vI f, vI t, vI z.2, vI (if z.2 < 24 then wB z.2 else 128 : Nat), vI z.1]) (fun _ => d) (fun z => ((z.2 < 24 ∧ wB z.2 ≤ z.1 ∧ z.1 ≤ wE z.2) ∨ (z.2 = 24 ∧ z.1 = 128)) ∧ ∀ k, k < z.2 → ¬ mW T f (t - f) k) (fun z => 128 - z.1) ?_
    rintro ⟨i, k⟩ ⟨h1, h2⟩ ih
    try dsimp only at h1 h2 ih ⊢
    by_cases hk : k < 24
    · have hw := wB_s k hk
      have h1' := h1.resolve_right (by omega)
      rw [if_pos hk]
      have hsp := tx_sp k hk i (by omega) h1'.2.1 h1'.2.2
      have h64 : i = wE k → ¬ mW T f (t - f) k → tB G mX5_wordNumber 55 [vR 3, vI f, vI t, vI k, vI (wB k : Nat), vI i] [] d (fun r d' => ((∃ k : Nat, k < 24 ∧ mW T f (t - f) k ∧ r = some (vI (k : Int))) ∨ ((∀ k, k < 24 → ¬ mW T f (t - f) k) ∧ r = some (vI (-1)))) ∧ d = d') := by
        intro hi hm
        refine T_inc dX5_wordNumber_55 rfl (by decide) rfl (by omega) ?_
        refine T_iload dX5_wordNumber_58 rfl ?_
        refine T_iconst dX5_wordNumber_60 (by decide) ?_
        refine T_add dX5_wordNumber_61 (by omega) ?_
        refine T_ist dX5_wordNumber_62 (by decide) rfl ?_
        refine T_inc dX5_wordNumber_64 rfl (by decide) rfl (by omega) ?_
        refine T_goto (tgt := 8) dX5_wordNumber_67 (by decide) ?_
        have hN : (if k + 1 < 24 then wB (k + 1) else 128) = i + 1 := by
          by_cases y : k + 1 < 24
          · rw [if_pos y, hw.1 (by omega)]; omega
          · rw [if_neg y, hi, hw.2.2.2.2 (by omega)]
        have hi2 := ih (i + 1, k + 1) ⟨by (try dsimp only); rcases (show k < 23 ∨ k = 23 by omega) with y | y; (left; have := hw.1 y; have := (wB_s (k + 1) (by omega)).2.1; omega); (right; have := hw.2.2.2.2 y; omega), fun j hj => by (try dsimp only at hj); rcases (show j < k ∨ j = k by omega) with y | y; exact h2 j y; rw [y]; exact hm⟩ (by (try dsimp only); omega)
        try dsimp only at hi2
        rw [hN] at hi2
        exact hi2
      refine T_iload dX5_wordNumber_8 rfl ?_
      refine T_ldcS dX5_wordNumber_10 rfl ?_
      refine T_slength dX5_wordNumber_12 rfl (by decide) (Nat.le_of_ble_eq_true rfl) ?_
      refine T_icmp_ge (tgt := 70) dX5_wordNumber_15 (by decide) (fun c15 => absurd c15 (by omega)) (fun c15 => ?_)
      refine T_ldcS dX5_wordNumber_18 rfl ?_
      refine T_iload dX5_wordNumber_20 rfl ?_
      refine T_scharAt dX5_wordNumber_22 rfl (by decide) (Nat.le_of_ble_eq_true rfl) (by omega) ?_
      refine T_bipush dX5_wordNumber_25 (by decide) ?_
      refine T_icmp_ne (tgt := 64) dX5_wordNumber_27 (by decide) (fun c27 => ?_) (fun c27 => ?_)
      · refine T_inc dX5_wordNumber_64 rfl (by decide) rfl (by omega) ?_
        refine T_goto (tgt := 8) dX5_wordNumber_67 (by decide) ?_
        rw [Int.toNat_natCast] at c27
        have hi2 := ih (i + 1, k) ⟨by (try dsimp only); left; have : ¬ i = wE k := fun z => c27 (hsp.mpr z); omega, h2⟩ (by (try dsimp only); omega)
        try dsimp only at hi2
        rw [if_pos hk] at hi2
        exact hi2
      · rw [Int.toNat_natCast] at c27
        have hi := hsp.mp c27
        refine T_iload dX5_wordNumber_30 rfl ?_
        refine T_iload dX5_wordNumber_32 rfl ?_
        refine T_sub dX5_wordNumber_34 (by omega) ?_
        refine T_iload_n dX5_wordNumber_35 rfl ?_
        refine T_iload_n dX5_wordNumber_36 rfl ?_
        refine T_sub dX5_wordNumber_37 (by omega) ?_
        refine T_icmp_ne (tgt := 55) dX5_wordNumber_38 (by decide) (fun c38 => ?_) (fun c38 => ?_)
        · exact h64 hi (fun z => by have := z.1; omega)
        · refine T_aload_n dX5_wordNumber_41 rfl ?_
          refine T_iload_n dX5_wordNumber_42 rfl ?_
          refine T_iload dX5_wordNumber_43 rfl ?_
          refine T_iload dX5_wordNumber_45 rfl ?_
          refine T_callS dX5_wordNumber_47 lX5_262 (As := [_, _, _, _]) (rest := _) rfl rfl (by decide) (Nat.le_of_ble_eq_true rfl) (Nat.le_of_ble_eq_true rfl) (c_isWord (f := f) (b := wB k) (b2 := i) h (by omega) (by omega) (by omega)) ?_
          rintro _ _ (⟨hy, rfl, rfl⟩ | ⟨hy, rfl, rfl⟩)
          ·
            refine T_if_eq (tgt := 55) dX5_wordNumber_50 (by decide) (fun c50 => absurd c50 (by decide)) (fun c50 => ?_)
            refine T_iload_n dX5_wordNumber_53 rfl ?_
            exact T_ireturn dX5_wordNumber_54 rfl ⟨Or.inl ⟨k, hk, ⟨by omega, fun j hj => hy j (by omega)⟩, rfl⟩, rfl⟩
          ·
            refine T_if_eq (tgt := 55) dX5_wordNumber_50 (by decide) (fun c50 => ?_) (fun c50 => absurd rfl c50)
            exact h64 hi (fun z => hy (fun j hj => z.2 j (by omega)))
    · have h1' := h1.resolve_left (by omega)
      obtain ⟨rfl, rfl⟩ := h1'
      rw [if_neg (by decide)]
      refine T_iload dX5_wordNumber_8 rfl ?_
      refine T_ldcS dX5_wordNumber_10 rfl ?_
      refine T_slength dX5_wordNumber_12 rfl (by decide) (Nat.le_of_ble_eq_true rfl) ?_
      refine T_icmp_ge (tgt := 70) dX5_wordNumber_15 (by decide) (fun c15 => ?_) (fun c15 => absurd c15 (by decide))
      refine T_iconst dX5_wordNumber_70 (by decide) ?_
      exact T_ireturn dX5_wordNumber_71 rfl ⟨Or.inr ⟨h2, rfl⟩, rfl⟩
  refine T_iconst dX5_wordNumber_0 (by decide) ?_
  refine T_ist_n dX5_wordNumber_1 (by decide) rfl ?_
  refine T_iconst dX5_wordNumber_2 (by decide) ?_
  refine T_ist dX5_wordNumber_3 (by decide) rfl ?_
  refine T_iconst dX5_wordNumber_5 (by decide) ?_
  refine T_ist dX5_wordNumber_6 (by decide) rfl ?_
  have hz := h8 (0, 0) ⟨Or.inl (by decide), fun k hk => absurd hk (by (try dsimp only); omega)⟩
  try dsimp only at hz
  exact hz

end C60
