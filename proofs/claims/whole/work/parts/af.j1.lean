/-! the class: letters, digits, tokens are kept -/
section C61
variable {G : sG} {d d' d0 e : sD} {T U : Nat → Int} {n p q : Nat}
theorem c_isLetter {b : Int} : tB G mX5_isLetter 0 [vI b] [] d (fun r d' => r = some (vI (bI (97 ≤ b ∧ b ≤ 122))) ∧ d = d') := by
  refine T_iload_n dX5_isLetter_0 rfl ?_
  refine T_bipush dX5_isLetter_1 (by decide) ?_
  refine T_icmp_lt (tgt := 16) dX5_isLetter_3 (by decide) (fun c3 => ?_) (fun c3 => ?_)
  · refine T_iconst dX5_isLetter_16 (by decide) ?_
    exact T_zreturn dX5_isLetter_17 rfl (by omega) (by refine ⟨?_, rfl⟩; first | rfl | (refine congrArg (fun z => some (vI z)) ?_; first | omega | (simp only [bI]; (repeat' split) <;> omega)))
  · refine T_iload_n dX5_isLetter_6 rfl ?_
    refine T_bipush dX5_isLetter_7 (by decide) ?_
    refine T_icmp_gt (tgt := 16) dX5_isLetter_9 (by decide) (fun c9 => ?_) (fun c9 => ?_)
    · refine T_iconst dX5_isLetter_16 (by decide) ?_
      exact T_zreturn dX5_isLetter_17 rfl (by omega) (by refine ⟨?_, rfl⟩; first | rfl | (refine congrArg (fun z => some (vI z)) ?_; first | omega | (simp only [bI]; (repeat' split) <;> omega)))
    · refine T_iconst dX5_isLetter_12 (by decide) ?_
      refine T_goto (tgt := 17) dX5_isLetter_13 (by decide) ?_
      exact T_zreturn dX5_isLetter_17 rfl (by omega) (by refine ⟨?_, rfl⟩; first | rfl | (refine congrArg (fun z => some (vI z)) ?_; first | omega | (simp only [bI]; (repeat' split) <;> omega)))

theorem c_isDigit {b : Int} : tB G mX5_isDigit 0 [vI b] [] d (fun r d' => r = some (vI (bI (48 ≤ b ∧ b ≤ 57))) ∧ d = d') := by
  refine T_iload_n dX5_isDigit_0 rfl ?_
  refine T_bipush dX5_isDigit_1 (by decide) ?_
  refine T_icmp_lt (tgt := 16) dX5_isDigit_3 (by decide) (fun c3 => ?_) (fun c3 => ?_)
  · refine T_iconst dX5_isDigit_16 (by decide) ?_
    exact T_zreturn dX5_isDigit_17 rfl (by omega) (by refine ⟨?_, rfl⟩; first | rfl | (refine congrArg (fun z => some (vI z)) ?_; first | omega | (simp only [bI]; (repeat' split) <;> omega)))
  · refine T_iload_n dX5_isDigit_6 rfl ?_
    refine T_bipush dX5_isDigit_7 (by decide) ?_
    refine T_icmp_gt (tgt := 16) dX5_isDigit_9 (by decide) (fun c9 => ?_) (fun c9 => ?_)
    · refine T_iconst dX5_isDigit_16 (by decide) ?_
      exact T_zreturn dX5_isDigit_17 rfl (by omega) (by refine ⟨?_, rfl⟩; first | rfl | (refine congrArg (fun z => some (vI z)) ?_; first | omega | (simp only [bI]; (repeat' split) <;> omega)))
    · refine T_iconst dX5_isDigit_12 (by decide) ?_
      refine T_goto (tgt := 17) dX5_isDigit_13 (by decide) ?_
      exact T_zreturn dX5_isDigit_17 rfl (by omega) (by refine ⟨?_, rfl⟩; first | rfl | (refine congrArg (fun z => some (vI z)) ?_; first | omega | (simp only [bI]; (repeat' split) <;> omega)))

theorem c_behindLetters {f : Nat} (h : TpC d n T) (hf : f ≤ n) : tB G mX5_behindLetters 0 [vR 3, vI f, vI n, vU 0] [] d (fun r d' => r = some (vI (enL T n f : Nat)) ∧ d = d') := by
  have hn := h.1.1
  have h2 : ∀ z : Nat, (f ≤ z ∧ z ≤ n ∧ enL T n z = enL T n f) → tB G mX5_behindLetters 2 [vR 3, vI f, vI n, vI z] [] d (fun r d' => r = some (vI (enL T n f : Nat)) ∧ d = d') := by
    refine T_loop (α := Nat) 2 (fun z => [vR 3, vI f, vI n, vI z]) (fun _ => d) (fun z => f ≤ z ∧ z ≤ n ∧ enL T n z = enL T n f) (fun z => n + 1 - z) ?_
    rintro i ⟨h1, h3, h4⟩ ih
    try dsimp only at h1 h3 h4 ih ⊢
    refine T_iload_n dX5_behindLetters_2 rfl ?_
    refine T_iload_n dX5_behindLetters_3 rfl ?_
    refine T_icmp_ge (tgt := 22) dX5_behindLetters_4 (by decide) (fun c4 => ?_) (fun c4 => ?_)
    · refine T_iload_n dX5_behindLetters_22 rfl ?_
      exact T_ireturn dX5_behindLetters_23 rfl ⟨by rw [← h4, show i = n by omega, show enL T n n = n by unfold enL; rw [Nat.sub_self]; rfl], rfl⟩
    · refine T_aload_n dX5_behindLetters_7 rfl ?_
      refine T_iload_n dX5_behindLetters_8 rfl ?_
      refine T_bald dX5_behindLetters_9 k3 l3 (by omega) (j := i) (by omega) ?_
      refine T_callS dX5_behindLetters_10 lX5_224 (As := [_]) (rest := _) rfl rfl (by decide) (Nat.le_of_ble_eq_true rfl) (Nat.le_of_ble_eq_true rfl) (c_isLetter) ?_
      rintro _ _ ⟨rfl, rfl⟩
      refine T_if_eq (tgt := 22) dX5_behindLetters_13 (by decide) (fun c13 => ?_) (fun c13 => ?_)
      · refine T_iload_n dX5_behindLetters_22 rfl ?_
        exact T_ireturn dX5_behindLetters_23 rfl ⟨by rw [← h4, show enL T n i = i from runE_n (fun z => bI_0 c13 ((h.lt (by omega)).mpr z))], rfl⟩
      · refine T_inc dX5_behindLetters_16 rfl (by decide) rfl (by omega) ?_
        refine T_goto (tgt := 2) dX5_behindLetters_19 (by decide) ?_
        exact ih (i + 1) ⟨by omega, by omega, by (try dsimp only); rw [← h4]; unfold enL; rw [runE_y (f := n - i) ((h.lt (by omega)).mp (bI_1 c13)) (by omega), Nat.sub_sub]⟩ (by omega)
  refine T_iload_n dX5_behindLetters_0 rfl ?_
  refine T_ist_n dX5_behindLetters_1 (by decide) rfl ?_
  exact h2 f ⟨Nat.le_refl _, hf, rfl⟩

theorem c_behindDigits {f : Nat} (h : TpC d n T) (hf : f ≤ n) : tB G mX5_behindDigits 0 [vR 3, vI f, vI n, vU 0] [] d (fun r d' => r = some (vI (enG T n f : Nat)) ∧ d = d') := by
  have hn := h.1.1
  have h2 : ∀ z : Nat, (f ≤ z ∧ z ≤ n ∧ enG T n z = enG T n f) → tB G mX5_behindDigits 2 [vR 3, vI f, vI n, vI z] [] d (fun r d' => r = some (vI (enG T n f : Nat)) ∧ d = d') := by
    refine T_loop (α := Nat) 2 (fun z => [vR 3, vI f, vI n, vI z]) (fun _ => d) (fun z => f ≤ z ∧ z ≤ n ∧ enG T n z = enG T n f) (fun z => n + 1 - z) ?_
    rintro i ⟨h1, h3, h4⟩ ih
    try dsimp only at h1 h3 h4 ih ⊢
    refine T_iload_n dX5_behindDigits_2 rfl ?_
    refine T_iload_n dX5_behindDigits_3 rfl ?_
    refine T_icmp_ge (tgt := 22) dX5_behindDigits_4 (by decide) (fun c4 => ?_) (fun c4 => ?_)
    · refine T_iload_n dX5_behindDigits_22 rfl ?_
      exact T_ireturn dX5_behindDigits_23 rfl ⟨by rw [← h4, show i = n by omega, show enG T n n = n by unfold enG; rw [Nat.sub_self]; rfl], rfl⟩
    · refine T_aload_n dX5_behindDigits_7 rfl ?_
      refine T_iload_n dX5_behindDigits_8 rfl ?_
      refine T_bald dX5_behindDigits_9 k3 l3 (by omega) (j := i) (by omega) ?_
      refine T_callS dX5_behindDigits_10 lX5_238 (As := [_]) (rest := _) rfl rfl (by decide) (Nat.le_of_ble_eq_true rfl) (Nat.le_of_ble_eq_true rfl) (c_isDigit) ?_
      rintro _ _ ⟨rfl, rfl⟩
      refine T_if_eq (tgt := 22) dX5_behindDigits_13 (by decide) (fun c13 => ?_) (fun c13 => ?_)
      · refine T_iload_n dX5_behindDigits_22 rfl ?_
        exact T_ireturn dX5_behindDigits_23 rfl ⟨by rw [← h4, show enG T n i = i from runE_n (fun z => bI_0 c13 ((h.dt (by omega)).mpr z))], rfl⟩
      · refine T_inc dX5_behindDigits_16 rfl (by decide) rfl (by omega) ?_
        refine T_goto (tgt := 2) dX5_behindDigits_19 (by decide) ?_
        exact ih (i + 1) ⟨by omega, by omega, by (try dsimp only); rw [← h4]; unfold enG; rw [runE_y (f := n - i) ((h.dt (by omega)).mp (bI_1 c13)) (by omega), Nat.sub_sub]⟩ (by omega)
  refine T_iload_n dX5_behindDigits_0 rfl ?_
  refine T_ist_n dX5_behindDigits_1 (by decide) rfl ?_
  exact h2 f ⟨Nat.le_refl _, hf, rfl⟩

theorem c_number {f t : Nat} (h : TpC d n T) (hf : f ≤ t) (ht : t ≤ n) (hd : ∀ i, f ≤ i → i < t → dtP T i) : tB G mX5_number 0 [vR 3, vI f, vI t, vU 0, vU 0] [] d (fun r d' => (∃ z : Int, r = some (vI z) ∧ (t - f ≤ 2 → z = nuN T f (t - f))) ∧ d = d') := by
  have hn := h.1.1
  have h5 : ∀ z : Nat × Int, (f ≤ z.1 ∧ z.1 ≤ t ∧ (z.1 - f ≤ 2 → z.2 = nuN T f (z.1 - f))) → tB G mX5_number 5 [vR 3, vI f, vI t, vI z.2, vI z.1] [] d (fun r d' => (∃ z : Int, r = some (vI z) ∧ (t - f ≤ 2 → z = nuN T f (t - f))) ∧ d = d') := by
    refine T_loop (α := Nat × Int) 5 (fun z => [vR 3, vI f, vI t, vI z.2, vI z.1]) (fun _ => d) (fun z => f ≤ z.1 ∧ z.1 ≤ t ∧ (z.1 - f ≤ 2 → z.2 = nuN T f (z.1 - f))) (fun z => t + 1 - z.1) ?_
    rintro ⟨i, s⟩ ⟨h1, h3, h4⟩ ih
    try dsimp only at h1 h3 h4 ih ⊢
    refine T_iload dX5_number_5 rfl ?_
    refine T_iload_n dX5_number_7 rfl ?_
    refine T_icmp_ge (tgt := 30) dX5_number_8 (by decide) (fun c8 => ?_) (fun c8 => ?_)
    · refine T_iload_n dX5_number_30 rfl ?_
      exact T_ireturn dX5_number_31 rfl ⟨⟨s, rfl, fun z => by rw [h4 (by omega), show i = t by omega]⟩, rfl⟩
    · refine T_iload_n dX5_number_11 rfl ?_
      refine T_bipush dX5_number_12 (by decide) ?_
      refine T_imul dX5_number_14 ?_
      refine T_aload_n dX5_number_15 rfl ?_
      refine T_iload dX5_number_16 rfl ?_
      refine T_bald dX5_number_18 k3 l3 (by omega) (j := i) (by omega) ?_
      refine T_iadd dX5_number_19 ?_
      refine T_bipush dX5_number_20 (by decide) ?_
      refine T_isub dX5_number_22 ?_
      refine T_ist_n dX5_number_23 (by decide) rfl ?_
      refine T_inc dX5_number_24 rfl (by decide) rfl (by omega) ?_
      refine T_goto (tgt := 5) dX5_number_27 (by decide) ?_
      refine ih (i + 1, w32 (w32 (w32 (s * 10) + d 3 i) - 48)) ⟨by (try dsimp only); omega, by (try dsimp only); omega, fun z => ?_⟩ (by (try dsimp only); omega)
      try dsimp only at z ⊢
      have hs := h4 (by omega)
      have hdi := hd i h1 (by omega)
      have e3 : d 3 i = T i := by rcases h.2 i (by omega) with y | y; exact y.1; (have := hdi.2; omega)
      have hrg := nuN_rg (T := T) (i := f) (i - f) (fun j hj => hd _ (by omega) (by omega)) (by omega)
      have hs9 : 0 ≤ s ∧ s ≤ 99 := by rw [hs]; exact hrg
      have hdi2 := hdi.2
      have hdi1 := hdi.1
      rw [e3, w32_id (x := s * 10) (by omega) (by omega), w32_id (x := s * 10 + T i) (by omega) (by omega), w32_id (by omega) (by omega), hs, show i + 1 - f = (i - f) + 1 by omega]
      show nuN T f (i - f) * 10 + T i - 48 = 10 * nuN T f (i - f) + T (f + (i - f)) - 48
      rw [show f + (i - f) = i by omega]
      omega
  refine T_iconst dX5_number_0 (by decide) ?_
  refine T_ist_n dX5_number_1 (by decide) rfl ?_
  refine T_iload_n dX5_number_2 rfl ?_
  refine T_ist dX5_number_3 (by decide) rfl ?_
  exact h5 (f, 0) ⟨Nat.le_refl _, hf, fun _ => by (try dsimp only); rw [Nat.sub_self]; rfl⟩

def ktD (e : sD) (N : Nat) (k w v : Int) : sD := up (up (up (up e 75 N k) 76 N w) 77 N v) 53 9 ((N : Int) + 1)
theorem c_keepToken {N : Nat} {k w v : Int} (hN : N ≤ 600) (h9 : d 53 9 = (N : Int)) : tB G mX5_keepToken 0 [vR 53, vI k, vI w, vI v] [] d (fun r d' => r = none ∧ d' = ktD d N k w v) := by
  refine T_aload_n dX5_keepToken_0 rfl ?_
  refine T_getIv dX5_keepToken_1 fX5_56 rfl k53 (x := (N : Int)) h9 ?_
  refine T_sipush dX5_keepToken_4 (by decide) ?_
  refine T_icmp_gt (tgt := 50) dX5_keepToken_7 (by decide) (fun c7 => absurd c7 (by omega)) (fun c7 => ?_)
  refine T_aload_n dX5_keepToken_10 rfl ?_
  refine T_getR dX5_keepToken_11 fX5_46 rfl k53 r53_6 ?_
  refine T_aload_n dX5_keepToken_14 rfl ?_
  refine T_getIv dX5_keepToken_15 fX5_56 rfl k53 (x := (N : Int)) h9 ?_
  refine T_iload_n dX5_keepToken_18 rfl ?_
  refine T_iast dX5_keepToken_19 k75 l75 (by omega) (j := N) (by omega) ?_
  refine T_aload_n dX5_keepToken_20 rfl ?_
  refine T_getR dX5_keepToken_21 fX5_50 rfl k53 r53_7 ?_
  refine T_aload_n dX5_keepToken_24 rfl ?_
  refine T_getIv dX5_keepToken_25 fX5_56 rfl k53 (x := (N : Int)) (by rw [up_nea (by decide)]; exact h9) ?_
  refine T_iload_n dX5_keepToken_28 rfl ?_
  refine T_iast dX5_keepToken_29 k76 l76 (by omega) (j := N) (by omega) ?_
  refine T_aload_n dX5_keepToken_30 rfl ?_
  refine T_getR dX5_keepToken_31 fX5_53 rfl k53 r53_8 ?_
  refine T_aload_n dX5_keepToken_34 rfl ?_
  refine T_getIv dX5_keepToken_35 fX5_56 rfl k53 (x := (N : Int)) (by rw [up_nea (by decide), up_nea (by decide)]; exact h9) ?_
  refine T_iload_n dX5_keepToken_38 rfl ?_
  refine T_iast dX5_keepToken_39 k77 l77 (by omega) (j := N) (by omega) ?_
  refine T_aload_n dX5_keepToken_40 rfl ?_
  refine T_dup dX5_keepToken_41 rfl ?_
  refine T_getIv dX5_keepToken_42 fX5_56 rfl k53 (x := (N : Int)) (by rw [up_nea (by decide), up_nea (by decide), up_nea (by decide)]; exact h9) ?_
  refine T_iconst dX5_keepToken_45 (by decide) ?_
  refine T_add dX5_keepToken_46 (by omega) ?_
  refine T_putI dX5_keepToken_47 fX5_56 rfl k53 ?_
  exact T_return dX5_keepToken_50 rfl ⟨rfl, rfl⟩

/-- so many tokens are kept, up to a place -/
def SI (d e : sD) (T : Nat → Int) (n f N : Nat) : Prop := (f ≤ n ∧ N ≤ f) ∧ e 53 9 = (N : Int) ∧ tkI T n N (bgT T n 0) = bgT T n f ∧ (∀ j, j < N → e 76 j = (tkI T n j (bgT T n 0) : Int) ∧ CK T n (tkI T n j (bgT T n 0)) (e 75 j) (e 77 j)) ∧ (∀ b j, b ≠ 53 → ¬ (75 ≤ b ∧ b ≤ 77) → e b j = d b j) ∧ ∀ j, j ≠ 9 → e 53 j = d 53 j
theorem kt_at {N j : Nat} {k w v : Int} (h : ∀ i, i < N → e 76 i = (tkI T n i p : Int) ∧ CK T n (tkI T n i p) (e 75 i) (e 77 i)) (hw : w = (tkI T n N p : Int)) (hc : CK T n (tkI T n N p) k v) (hj : j < N + 1) : ktD e N k w v 76 j = (tkI T n j p : Int) ∧ CK T n (tkI T n j p) (ktD e N k w v 75 j) (ktD e N k w v 77 j) := by
  unfold ktD
  by_cases z : j = N
  · rw [z, up_nea (by decide), up_nea (by decide), up_same, up_nea (by decide), up_nea (by decide), up_nea (by decide), up_same, up_nea (by decide), up_same]
    exact ⟨hw, hc⟩
  · rw [up_nea (by decide), up_nea (by decide), up_nej z, up_nea (by decide), up_nea (by decide), up_nea (by decide), up_nea (by decide), up_nej z, up_nea (by decide), up_nej z, up_nea (by decide), up_nea (by decide)]
    exact h j (by omega)
theorem SI_kt {f N f2 : Nat} {k w v : Int} (hT : TV n T) (h : SI d e T n f N) (hb : bgT T n f = f) (hf : f < f2) (hf2 : nxT T n f = f2) (hn : f2 ≤ n) (hw : w = (f : Int)) (hc : CK T n f k v) : SI d (ktD e N k w v) T n f2 (N + 1) := by
  obtain ⟨h1, h2, h3, h4, h5, h6⟩ := h
  rw [hb] at h3
  refine ⟨⟨hn, by omega⟩, ?_, ?_, fun j hj => kt_at h4 (by rw [h3]; exact hw) (by rw [h3]; exact hc) hj, fun b j hb hb2 => ?_, fun j hj => ?_⟩
  · unfold ktD; rw [up_same]; omega
  · rw [tkI_s, h3]; unfold avT; rw [hf2]
  · unfold ktD; rw [up_nea hb, up_nea (by omega), up_nea (by omega), up_nea (by omega)]; exact h5 b j hb hb2
  · unfold ktD; rw [up_nej hj, up_nea (by decide), up_nea (by decide), up_nea (by decide)]; exact h6 j hj
theorem SI_bl {f N : Nat} (h : SI d e T n f N) (hf : f < n) (hb : blP T f) : SI d e T n (f + 1) N := by
  obtain ⟨h1, h2, h3, h4, h5, h6⟩ := h
  refine ⟨⟨by omega, by omega⟩, h2, ?_, h4, h5, h6⟩
  rw [h3]; unfold bgT
  rw [runE_y hb (by omega), Nat.sub_sub]
theorem bg_no {f : Nat} (hb : ¬ blP T f) : bgT T n f = f := runE_n hb
theorem CK_word {f : Nat} {z : Int} (hl : ltP T f) (h : (∃ k : Nat, k < 24 ∧ mW T f (enL T n f - f) k ∧ z = (k : Int)) ∨ ((∀ k, k < 24 → ¬ mW T f (enL T n f - f) k) ∧ z = -1)) : CK T n f 1 z := by
  have hl1 := hl.1
  have hk : kdT T n f = if woT T n f = 99 then 4 else 3 := by
    unfold kdT
    rw [if_neg (by omega), if_pos hl]
  have hall : ∀ j, j < enL T n f - f → ltP T (f + j) := fun j hj => runE_all (q := ltP T) (n - f) f (f + j) (by omega) (by
    have : enL T n f = runE (ltP T) (n - f) f := rfl
    omega)
  rcases h with ⟨k, hk24, hm, rfl⟩ | ⟨hno, rfl⟩
  · have h7 := (wB_s k hk24).2.2.2.1
    have hv := vW_ok k hk24
    have hw : woT T n f = vW k := by
      unfold woT
      rw [if_neg (by have := hm.1; omega)]
      exact wd_yes hk24 hm
    refine Or.inr (Or.inr (Or.inr (Or.inl ⟨by rw [hk, if_neg (by omega)], rfl, by rw [hw]; exact hv.1.2.symm, by omega, by omega⟩)))
  · have hw : woT T n f = 99 := by
      unfold woT
      by_cases y : 8 < enL T n f - f
      · rw [if_pos y]
      · rw [if_neg y]; exact wd_no hall hno
    exact Or.inr (Or.inr (Or.inr (Or.inr ⟨by rw [hk, if_pos hw], Or.inr ⟨rfl, rfl⟩⟩)))
theorem CK_num {f : Nat} {z : Int} (hl : dtP T f) (hz : enG T n f - f ≤ 2 → z = nuN T f (enG T n f - f)) : CK T n f (if enG T n f - f ≤ 2 then 2 else 4) z := by
  have hl1 := hl.1
  have hl2 := hl.2
  have hk : kdT T n f = if 2 < enG T n f - f then 4 else 1 := by
    unfold kdT
    rw [if_neg (by omega), if_neg (fun y => by have := y.1; omega), if_pos hl]
  by_cases y : enG T n f - f ≤ 2
  · rw [if_pos y]
    refine Or.inr (Or.inl ⟨by rw [hk, if_neg (by omega)], rfl, ?_⟩)
    rw [hz y]
    show _ = nuN T f (min (enG T n f - f) 2)
    rw [Nat.min_eq_left y]
  · rw [if_neg y]
    exact Or.inr (Or.inr (Or.inr (Or.inr ⟨by rw [hk, if_pos (by omega)], Or.inl rfl⟩)))
theorem nx_l {f : Nat} (hl : ltP T f) : nxT T n f = enL T n f := by
  have := hl.1
  unfold nxT; rw [if_neg (by omega), if_pos hl]
theorem nx_d {f : Nat} (hl : dtP T f) : nxT T n f = enG T n f := by
  have := hl.1
  have := hl.2
  unfold nxT; rw [if_neg (by omega), if_neg (fun y => by have := y.1; omega), if_pos hl]
theorem nx_o {f : Nat} (h0 : 0 ≤ T f) (h1 : ¬ ltP T f) (h2 : ¬ dtP T f) : nxT T n f = f + 1 := by
  unfold nxT; rw [if_neg (by omega), if_neg h1, if_neg h2]
theorem en_l {f : Nat} (hf : f < n) (hl : ltP T f) : enL T n (f + 1) = enL T n f ∧ f + 1 ≤ enL T n f ∧ enL T n f ≤ n := by
  have e1 : enL T n f = enL T n (f + 1) := by unfold enL; rw [runE_y hl (by omega), Nat.sub_sub]
  have r := runE_rg (q := ltP T) (n - (f + 1)) (f + 1)
  have e2 : enL T n (f + 1) = runE (ltP T) (n - (f + 1)) (f + 1) := rfl
  exact ⟨e1.symm, by omega, by omega⟩
theorem en_d {f : Nat} (hf : f < n) (hl : dtP T f) : enG T n (f + 1) = enG T n f ∧ f + 1 ≤ enG T n f ∧ enG T n f ≤ n := by
  have e1 : enG T n f = enG T n (f + 1) := by unfold enG; rw [runE_y hl (by omega), Nat.sub_sub]
  have r := runE_rg (q := dtP T) (n - (f + 1)) (f + 1)
  have e2 : enG T n (f + 1) = runE (dtP T) (n - (f + 1)) (f + 1) := rfl
  exact ⟨e1.symm, by omega, by omega⟩

end C61
