/-! the class: an order -/
section C55
variable {G : sG} {d d' d0 d1 e : sD} {T : Nat → Int} {n p q : Nat} {x : Int × Int} {dr : Nat → Int}
theorem Wo_nf (h : Wo d 54 dr) (hN : NF d d') : Wo d' 54 dr := Wo_eq h (fun x j hx => hN _ _ (by omega))
def BC0 (d : sD) : Prop := ∀ a, a < 2 → 0 ≤ d 60 a ∧ d 60 a ≤ 6
theorem BC0_nf (h : BC0 d) (hN : NF d d') : BC0 d' := fun a ha => by rw [hN 60 a (by decide)]; exact h a ha
theorem gEnd_f {g : Bool × Nat} (h : g = (false, q)) : gEnd T n g = (false, q) := by rw [h]; exact if_neg (show ¬ (false = true) by decide)
theorem gEnd_t {g : Bool × Nat} (h : g = (true, q)) : gEnd T n g = gSem T n q := by rw [h]; exact if_pos rfl
theorem dOl_o {a k j i : Nat} {mv : Int} (h1 : i ≠ 15 + a) (h2 : ¬ (k ≤ i ∧ i < k + 6)) : dOl T n dr a k mv p j i = dr i := by
  show (if _ then _ else if _ then _ else if _ then _ else if _ then _ else _) = _
  rw [if_neg h1, if_neg (by omega), if_neg (by omega), if_neg (by omega)]
theorem dOl_a {a k j : Nat} {mv : Int} : dOl T n dr a k mv p j (15 + a) = dr (15 + a) + 1 := if_pos rfl
theorem dOl_l {a k j : Nat} {mv : Int} (h : 17 ≤ k) (ha : a < 2) : dOl T n dr a k mv p j (k + 1) = ((min j 4 : Nat) : Int) := by
  show (if _ then _ else if _ then _ else if _ then _ else if _ then _ else _) = _
  rw [if_neg (by omega), if_pos rfl]
theorem dOl_m {a k j : Nat} {mv : Int} (h : 17 ≤ k) (ha : a < 2) : dOl T n dr a k mv p j k = mv := by
  show (if _ then _ else if _ then _ else if _ then _ else if _ then _ else _) = _
  rw [if_neg (by omega), if_neg (by omega), if_pos rfl]
theorem dOl_b {a k j i : Nat} {mv : Int} (h : 17 ≤ k) (ha : a < 2) (hi : i < min j 4) : dOl T n dr a k mv p j (k + 2 + i) = woT T n (tkI T n i p) - 10 := by
  show (if _ then _ else if _ then _ else if _ then _ else if _ then _ else _) = _
  rw [if_neg (by omega), if_neg (by omega), if_neg (by omega), if_pos (by omega), show k + 2 + i - (k + 2) = i by omega]
theorem WV_ol {a c j : Nat} {mv : Int} (hV : WV dr) (ha : a < 2) (hc : dr (15 + a) = (c : Int)) (h6 : c < 6) (hj : 1 ≤ j) (hm : 0 ≤ mv ∧ mv ≤ 4) (hb : ∀ i, i < j → 0 ≤ woT T n (tkI T n i p) - 10 ∧ woT T n (tkI T n i p) - 10 ≤ 3) : WV (dOl T n dr a (17 + 36 * a + 6 * c) mv p j) := by
  obtain ⟨v1, v2, v3, v4, v5, v6⟩ := hV
  refine ⟨by rw [dOl_o (by omega) (by omega)]; exact v1, by rw [dOl_o (by omega) (by omega)]; exact v2, by rw [dOl_o (by omega) (by omega)]; exact v3, fun b hb => by rw [dOl_o (by omega) (by omega)]; exact v4 b hb, fun a' ha' => ?_, fun a' k' ha' hk' => ?_⟩
  · obtain ⟨w1, w2, w3, w4, w5⟩ := v5 a' ha'
    refine ⟨by rw [dOl_o (by omega) (by omega)]; exact w1, by rw [dOl_o (by omega) (by omega)]; exact w2, by rw [dOl_o (by omega) (by omega)]; exact w3, by rw [dOl_o (by omega) (by omega)]; exact w4, ?_⟩
    by_cases z : a' = a
    · rw [z, dOl_a]; omega
    · rw [dOl_o (by omega) (by omega)]; exact w5
  · by_cases z : a' = a ∧ k' = c
    · obtain ⟨rfl, rfl⟩ := z
      refine ⟨by rw [dOl_m (by omega) ha]; exact hm, ?_, fun i hi => ?_⟩
      · rw [show 18 + 36 * a' + 6 * k' = 17 + 36 * a' + 6 * k' + 1 by omega, dOl_l (by omega) ha]; omega
      · rw [show 18 + 36 * a' + 6 * k' = 17 + 36 * a' + 6 * k' + 1 by omega, dOl_l (by omega) ha] at hi
        rw [show 19 + 36 * a' + 6 * k' + i = 17 + 36 * a' + 6 * k' + 2 + i by omega, dOl_b (by omega) ha (by omega)]
        exact hb i (by omega)
    · have hk2 : (k' : Int) < dr (15 + a') := by
        by_cases y : a' = a
        · rw [y, dOl_a] at hk'
          have : ¬ k' = c := fun u => z ⟨y, u⟩
          rw [y]; omega
        · rw [dOl_o (by omega) (by omega)] at hk'; exact hk'
      have h5 := (v5 a' ha').2.2.2.2
      obtain ⟨w1, w2, w3⟩ := v6 a' k' ha' hk2
      have hne : ∀ t, t < 6 → ¬ (17 + 36 * a + 6 * c ≤ 17 + 36 * a' + 6 * k' + t ∧ 17 + 36 * a' + 6 * k' + t < 17 + 36 * a + 6 * c + 6) := fun t ht => by
        by_cases y : a' = a
        · have : ¬ k' = c := fun u => z ⟨y, u⟩
          omega
        · omega
      have n0 := hne 0 (by omega)
      have n1 := hne 1 (by omega)
      refine ⟨by rw [dOl_o (by omega) (by omega)]; exact w1, by rw [dOl_o (by omega) (by omega)]; exact w2, fun i hi => ?_⟩
      rw [dOl_o (by omega) (by omega)] at hi
      have n2 := hne (2 + i) (by omega)
      rw [dOl_o (by omega) (by omega)]; exact w3 i hi
theorem Wo_ol {a c j : Nat} {mv : Int} (hV : WV dr) (hO : Wo d 54 dr) (ha : a < 2) (hc : dr (15 + a) = (c : Int)) (h6 : c < 6) (hj : j ≤ 4) (e0 : ∀ i, e 54 i = d 54 i) (e1 : ∀ b i, 55 ≤ b ∧ b ≤ 59 → e b i = d b i) (e2 : ∀ i, e 60 i = if i = a then (c : Int) + 1 else d 60 i) (e3 : ∀ i, e 61 i = if i = 6 * a + c then mv else d 61 i) (e4 : ∀ i, e 62 i = if i = 6 * a + c then (j : Int) else d 62 i) (e5 : ∀ i, ¬ (4 * (6 * a + c) ≤ i ∧ i < 4 * (6 * a + c) + 4) → e 63 i = d 63 i) (e6 : ∀ i, i < j → e 63 (4 * (6 * a + c) + i) = woT T n (tkI T n i p) - 10) : Wo e 54 (dOl T n dr a (17 + 36 * a + 6 * c) mv p j) := by
  obtain ⟨⟨o1, o2, o3⟩, o4, o5, o6⟩ := hO
  refine ⟨⟨by rw [dOl_o (by omega) (by omega), e0]; exact o1, by rw [dOl_o (by omega) (by omega), e0]; exact o2, by rw [dOl_o (by omega) (by omega), e0]; exact o3⟩, fun b hb => by rw [dOl_o (by omega) (by omega), e1 (54 + 1) b (by omega)]; exact o4 b hb, fun a' ha' => ?_, fun a' k' ha' hk' => ?_⟩
  · obtain ⟨w1, w2, w3, w4, w5⟩ := o5 a' ha'
    refine ⟨by rw [dOl_o (by omega) (by omega), e1 (54 + 2) a' (by omega)]; exact w1, by rw [dOl_o (by omega) (by omega), e1 (54 + 3) a' (by omega)]; exact w2, by rw [dOl_o (by omega) (by omega), e1 (54 + 4) a' (by omega)]; exact w3, by rw [dOl_o (by omega) (by omega), e1 (54 + 5) a' (by omega)]; exact w4, ?_⟩
    show e 60 a' = _
    rw [e2]
    by_cases z : a' = a
    · rw [if_pos z, z, dOl_a, hc]
    · rw [if_neg z, dOl_o (by omega) (by omega)]; exact w5
  · show e 61 (6 * a' + k') = _ ∧ e 62 (6 * a' + k') = _ ∧ ∀ i : Nat, (i : Int) < _ → e 63 (24 * a' + 4 * k' + i) = _
    have h5 := (hV.2.2.2.2.1 a' ha').2.2.2.2
    by_cases z : a' = a ∧ k' = c
    · obtain ⟨rfl, rfl⟩ := z
      refine ⟨by rw [dOl_m (by omega) ha, e3, if_pos rfl], ?_, fun i hi => ?_⟩
      · rw [show 18 + 36 * a' + 6 * k' = 17 + 36 * a' + 6 * k' + 1 by omega, dOl_l (by omega) ha, e4, if_pos rfl]; omega
      · rw [show 18 + 36 * a' + 6 * k' = 17 + 36 * a' + 6 * k' + 1 by omega, dOl_l (by omega) ha] at hi
        rw [show 19 + 36 * a' + 6 * k' + i = 17 + 36 * a' + 6 * k' + 2 + i by omega, dOl_b (by omega) ha (by omega), show 24 * a' + 4 * k' + i = 4 * (6 * a' + k') + i by omega]
        exact e6 i (by omega)
    · have hk2 : (k' : Int) < dr (15 + a') := by
        by_cases y : a' = a
        · rw [y, dOl_a] at hk'
          have : ¬ k' = c := fun u => z ⟨y, u⟩
          rw [y]; omega
        · rw [dOl_o (by omega) (by omega)] at hk'; exact hk'
      obtain ⟨w1, w2, w3⟩ := o6 a' k' ha' hk2
      have hl := (hV.2.2.2.2.2 a' k' ha' hk2).2.1
      have hsl : ¬ 6 * a' + k' = 6 * a + c := by
        by_cases y : a' = a
        · have : ¬ k' = c := fun u => z ⟨y, u⟩
          omega
        · omega
      have hne : ∀ t, t < 6 → ¬ (17 + 36 * a + 6 * c ≤ 17 + 36 * a' + 6 * k' + t ∧ 17 + 36 * a' + 6 * k' + t < 17 + 36 * a + 6 * c + 6) := fun t ht => by
        by_cases y : a' = a
        · have : ¬ k' = c := fun u => z ⟨y, u⟩
          omega
        · omega
      have n0 := hne 0 (by omega)
      have n1 := hne 1 (by omega)
      refine ⟨by rw [dOl_o (by omega) (by omega), e3, if_neg hsl]; exact w1, by rw [dOl_o (by omega) (by omega), e4, if_neg hsl]; exact w2, fun i hi => ?_⟩
      rw [dOl_o (by omega) (by omega)] at hi
      have n2 := hne (2 + i) (by omega)
      rw [dOl_o (by omega) (by omega), e5 _ (by omega)]; exact w3 i hi

theorem c_ob4 {s p3 : Nat} {sl : Int} {y : Int × Int} (hp3 : p3 ≤ n) (hs : s < 12) (hsl : sl = -1 ∨ sl = (s : Int)) : ∀ z : Nat × Nat × sD, (z.1 ≤ nbT T n 10 13 p3 ∧ z.2.1 = min z.1 4 ∧ CR d0 z.2.2 T n (tkI T n z.1 p3) (xMj T n 4 y p3 z.1) ∧ NL (xMj T n 4 y p3 z.1) (tkI T n z.1 p3 : Nat) ∧ (∀ b j, b ≠ 53 → b ≠ 63 → z.2.2 b j = d1 b j) ∧ (∀ i, ¬ (4 * s ≤ i ∧ i < 4 * s + 4) → z.2.2 63 i = d1 63 i) ∧ (sl = (s : Int) → ∀ i, i < z.2.1 → z.2.2 63 (4 * s + i) = woT T n (tkI T n i p3) - 10)) → tB G mX5_readOrderBeats 4 [vR 53, vI sl, vI z.2.1, vI z.1] [] z.2.2 (fun r d' => r = some (vI ((min (nbT T n 10 13 p3) 4 : Nat) : Int)) ∧ CR d0 d' T n (tkI T n (nbT T n 10 13 p3) p3) (xMj T n 4 y p3 (nbT T n 10 13 p3)) ∧ NL (xMj T n 4 y p3 (nbT T n 10 13 p3)) (tkI T n (nbT T n 10 13 p3) p3 : Nat) ∧ (∀ b j, b ≠ 53 → b ≠ 63 → d' b j = d1 b j) ∧ (∀ i, ¬ (4 * s ≤ i ∧ i < 4 * s + 4) → d' 63 i = d1 63 i) ∧ (sl = (s : Int) → ∀ i, i < min (nbT T n 10 13 p3) 4 → d' 63 (4 * s + i) = woT T n (tkI T n i p3) - 10)) := by
  refine T_loop (α := Nat × Nat × sD) 4 (fun z => [vR 53, vI sl, vI z.2.1, vI z.1]) (fun z => z.2.2) (fun z => z.1 ≤ nbT T n 10 13 p3 ∧ z.2.1 = min z.1 4 ∧ CR d0 z.2.2 T n (tkI T n z.1 p3) (xMj T n 4 y p3 z.1) ∧ NL (xMj T n 4 y p3 z.1) (tkI T n z.1 p3 : Nat) ∧ (∀ b j, b ≠ 53 → b ≠ 63 → z.2.2 b j = d1 b j) ∧ (∀ i, ¬ (4 * s ≤ i ∧ i < 4 * s + 4) → z.2.2 63 i = d1 63 i) ∧ (sl = (s : Int) → ∀ i, i < z.2.1 → z.2.2 63 (4 * s + i) = woT T n (tkI T n i p3) - 10)) (fun z => nbT T n 10 13 p3 + 1 - z.1) ?_
  rintro ⟨j, m, e⟩ ⟨h1, hm, h2, h3, h4, h5, h6⟩ ih
  try dsimp only at h1 hm h2 h3 h4 h5 h6 ih ⊢
  have hT := h2.tv
  have hn6 := hT.1
  have hnb := nbT_le (lo := 10) (hi := 13) hT n p3 (by omega) hp3
  have hp := h2.le
  have hstop : ¬ isW T n (tkI T n j p3) 10 13 → j = nbT T n 10 13 p3 := fun hn => by
    rcases Nat.lt_or_ge j (nbT T n 10 13 p3) with z | z
    · exact absurd ((isW_tk hT hp3 h1).mpr z) hn
    · omega
  have hs1 : isW T n (tkI T n j p3) 10 13 → j < nbT T n 10 13 p3 ∧ tkI T n j p3 < avT T n (tkI T n j p3) := fun hw => ⟨(isW_tk hT hp3 h1).mp hw, tk_lt hT hp hw⟩
  have hend : j = nbT T n 10 13 p3 → (fun r d' => r = some (vI ((min (nbT T n 10 13 p3) 4 : Nat) : Int)) ∧ CR d0 d' T n (tkI T n (nbT T n 10 13 p3) p3) (xMj T n 4 y p3 (nbT T n 10 13 p3)) ∧ NL (xMj T n 4 y p3 (nbT T n 10 13 p3)) (tkI T n (nbT T n 10 13 p3) p3 : Nat) ∧ (∀ b j, b ≠ 53 → b ≠ 63 → d' b j = d1 b j) ∧ (∀ i, ¬ (4 * s ≤ i ∧ i < 4 * s + 4) → d' 63 i = d1 63 i) ∧ (sl = (s : Int) → ∀ i, i < min (nbT T n 10 13 p3) 4 → d' 63 (4 * s + i) = woT T n (tkI T n i p3) - 10)) (some (vI (m : Int))) e := fun hj => by
    (try dsimp only)
    rw [← hj]
    exact ⟨by rw [hm], h2, h3, h4, h5, fun z i hi => h6 z i (by omega)⟩
  have h60 : ∀ (m1 : Nat) (e1 : sD), isW T n (tkI T n j p3) 10 13 → m1 = min (j + 1) 4 → CR d0 e1 T n (tkI T n j p3) (xMj T n 4 y p3 (j + 1)) → NL (xMj T n 4 y p3 (j + 1)) (avT T n (tkI T n j p3) : Nat) → (∀ b j, b ≠ 53 → b ≠ 63 → e1 b j = d1 b j) → (∀ i, ¬ (4 * s ≤ i ∧ i < 4 * s + 4) → e1 63 i = d1 63 i) → (sl = (s : Int) → ∀ i, i < m1 → e1 63 (4 * s + i) = woT T n (tkI T n i p3) - 10) → tB G mX5_readOrderBeats 60 [vR 53, vI sl, vI m1, vI j] [] e1 (fun r d' => r = some (vI ((min (nbT T n 10 13 p3) 4 : Nat) : Int)) ∧ CR d0 d' T n (tkI T n (nbT T n 10 13 p3) p3) (xMj T n 4 y p3 (nbT T n 10 13 p3)) ∧ NL (xMj T n 4 y p3 (nbT T n 10 13 p3)) (tkI T n (nbT T n 10 13 p3) p3 : Nat) ∧ (∀ b j, b ≠ 53 → b ≠ 63 → d' b j = d1 b j) ∧ (∀ i, ¬ (4 * s ≤ i ∧ i < 4 * s + 4) → d' 63 i = d1 63 i) ∧ (sl = (s : Int) → ∀ i, i < min (nbT T n 10 13 p3) 4 → d' 63 (4 * s + i) = woT T n (tkI T n i p3) - 10)) := by
    intro m1 e1 hw k0 k1 k2 k3 k4 k5
    obtain ⟨hj, hlt⟩ := hs1 hw
    refine T_aload_n dX5_readOrderBeats_60 rfl ?_
    refine T_callV dX5_readOrderBeats_61 lX5_87 (As := []) (rest := _) rfl rfl k53 (by decide) (Nat.le_of_ble_eq_true rfl) (Nat.le_of_ble_eq_true rfl) (c_nextR k1) ?_
    rintro _ e2 ⟨rfl, hR2, hN2, h14b⟩
    refine T_inc dX5_readOrderBeats_64 rfl (by decide) rfl (by omega) ?_
    refine T_goto (tgt := 4) dX5_readOrderBeats_67 (by decide) ?_
    exact ih (j + 1, m1, e2) ⟨by omega, k0, by (try dsimp only); rw [tkI_s]; exact hR2, by (try dsimp only); rw [tkI_s]; exact k2, fun b i hb hb2 => by (try dsimp only); rw [hN2 b i hb]; exact k3 b i hb hb2, fun i hi => by (try dsimp only); rw [hN2 63 i (by decide)]; exact k4 i hi, fun z i hi => by (try dsimp only); rw [hN2 63 _ (by decide)]; exact k5 z i hi⟩ (by omega)
  refine T_iload_n dX5_readOrderBeats_4 rfl ?_
  refine T_sipush dX5_readOrderBeats_5 (by decide) ?_
  refine T_icmp_ge (tgt := 70) dX5_readOrderBeats_8 (by decide) (fun c8 => ?_) (fun c8 => ?_)
  · refine T_iload_n dX5_readOrderBeats_70 rfl ?_
    exact T_ireturn dX5_readOrderBeats_71 rfl (hend (by omega))
  · refine T_aload_n dX5_readOrderBeats_11 rfl ?_
    refine T_callV dX5_readOrderBeats_12 lX5_177 (As := []) (rest := _) rfl rfl k53 (by decide) (Nat.le_of_ble_eq_true rfl) (Nat.le_of_ble_eq_true rfl) (c_beatR h2) ?_
    rintro _ _ ⟨rfl, rfl⟩
    refine T_if_eq (tgt := 70) dX5_readOrderBeats_15 (by decide) (fun c15 => ?_) (fun c15 => ?_)
    · refine T_iload_n dX5_readOrderBeats_70 rfl ?_
      exact T_ireturn dX5_readOrderBeats_71 rfl (hend (hstop (bI_0 c15)))
    · refine T_iload_n dX5_readOrderBeats_18 rfl ?_
      refine T_iconst dX5_readOrderBeats_19 (by decide) ?_
      refine T_icmp_lt (tgt := 35) dX5_readOrderBeats_20 (by decide) (fun c20 => ?_) (fun c20 => ?_)
      · refine T_iload_n dX5_readOrderBeats_35 rfl ?_
        refine T_iconst dX5_readOrderBeats_36 (by decide) ?_
        refine T_icmp_eq (tgt := 57) dX5_readOrderBeats_37 (by decide) (fun c37 => ?_) (fun c37 => ?_)
        · refine T_inc dX5_readOrderBeats_57 rfl (by decide) rfl (by omega) ?_
          have hw := bI_1 c15
          obtain ⟨hj, hlt⟩ := hs1 hw
          refine h60 (m + 1) e hw (by omega) (by rw [xMj_s0 (by omega)]; exact h2) (by rw [xMj_s0 (by omega)]; exact h3.mono (by omega)) h4 h5 (fun z => by omega)
        · have hgg : sl = (s : Int) := hsl.resolve_left c37
          subst hgg
          have hw := bI_1 c15
          have hv := (CK_bv h2.ck ⟨hw.1, by have := hw.2; omega, by have := hw.2; omega⟩).2
          refine T_aload_n dX5_readOrderBeats_40 rfl ?_
          refine T_getR dX5_readOrderBeats_41 fX5_12 rfl k53 r53_0 ?_
          refine T_getR dX5_readOrderBeats_44 fX5_189 rfl k54 r54_11 ?_
          refine T_iload_n dX5_readOrderBeats_47 rfl ?_
          refine T_iconst dX5_readOrderBeats_48 (by decide) ?_
          refine T_mul dX5_readOrderBeats_49 (by omega) ?_
          refine T_iload_n dX5_readOrderBeats_50 rfl ?_
          refine T_add dX5_readOrderBeats_51 (by omega) ?_
          refine T_aload_n dX5_readOrderBeats_52 rfl ?_
          refine T_getIv dX5_readOrderBeats_53 fX5_68 rfl k53 (x := woT T n (tkI T n j p3) - 10) hv ?_
          refine T_iast dX5_readOrderBeats_56 k63 l63 (by omega) (j := 4 * s + m) (by omega) ?_
          refine T_inc dX5_readOrderBeats_57 rfl (by decide) rfl (by omega) ?_
          obtain ⟨hj, hlt⟩ := hs1 hw
          refine h60 (m + 1) _ hw (by omega) (by rw [xMj_s0 (by omega)]; exact CR_df h2 (by decide)) (by rw [xMj_s0 (by omega)]; exact h3.mono (by omega)) (fun b i hb hb2 => by rw [up_nea hb2]; exact h4 b i hb hb2) (fun i hi => by rw [up_nej (by omega)]; exact h5 i hi) (fun z i hi => ?_)
          by_cases y : i = m
          · rw [y, up_same, show m = j by omega]
          · rw [up_nej (by omega)]; exact h6 rfl i (by omega)
      · refine T_aload_n dX5_readOrderBeats_23 rfl ?_
        refine T_iconst dX5_readOrderBeats_24 (by decide) ?_
        refine T_aload_n dX5_readOrderBeats_25 rfl ?_
        refine T_getIv dX5_readOrderBeats_26 fX5_65 rfl k53 (x := (tkI T n j p3 : Nat)) h2.pl ?_
        refine T_callV dX5_readOrderBeats_29 lX5_170 (As := [_, _]) (rest := _) rfl rfl k53 (by decide) (Nat.le_of_ble_eq_true rfl) (Nat.le_of_ble_eq_true rfl) (c_noteR h2 h3) ?_
        rintro _ e1 ⟨rfl, k1, k2, k3⟩
        refine T_goto (tgt := 60) dX5_readOrderBeats_32 (by decide) ?_
        have hw := bI_1 c15
        obtain ⟨hj, hlt⟩ := hs1 hw
        refine h60 m e1 hw (by omega) (by rw [← xMj_s1 (by omega)]; exact k1) (by rw [← xMj_s1 (by omega)]; exact NL_a (h3.mono (by omega)) (by omega)) (fun b i hb hb2 => by rw [k2 b i hb]; exact h4 b i hb hb2) (fun i hi => by rw [k2 63 i (by decide)]; exact h5 i hi) (fun z i hi => by rw [k2 63 _ (by decide)]; exact h6 z i hi)

theorem c_readOrderBeats {s p3 : Nat} {sl : Int} {y : Int × Int} (h : CR d0 d1 T n p3 y) (hy : NL y p3) (hs : s < 12) (hsl : sl = -1 ∨ sl = (s : Int)) : tB G mX5_readOrderBeats 0 [vR 53, vI sl, vU 0, vU 0] [] d1 (fun r d' => r = some (vI ((min (nbT T n 10 13 p3) 4 : Nat) : Int)) ∧ CR d0 d' T n (tkI T n (nbT T n 10 13 p3) p3) (xMj T n 4 y p3 (nbT T n 10 13 p3)) ∧ NL (xMj T n 4 y p3 (nbT T n 10 13 p3)) (tkI T n (nbT T n 10 13 p3) p3 : Nat) ∧ (∀ b j, b ≠ 53 → b ≠ 63 → d' b j = d1 b j) ∧ (∀ i, ¬ (4 * s ≤ i ∧ i < 4 * s + 4) → d' 63 i = d1 63 i) ∧ (sl = (s : Int) → ∀ i, i < min (nbT T n 10 13 p3) 4 → d' 63 (4 * s + i) = woT T n (tkI T n i p3) - 10)) := by
  refine T_iconst dX5_readOrderBeats_0 (by decide) ?_
  refine T_ist_n dX5_readOrderBeats_1 (by decide) rfl ?_
  refine T_iconst dX5_readOrderBeats_2 (by decide) ?_
  refine T_ist_n dX5_readOrderBeats_3 (by decide) rfl ?_
  exact c_ob4 h.le hs hsl (0, 0, d1) ⟨Nat.zero_le _, rfl, by (try dsimp only); rw [xMj_z]; exact h, by (try dsimp only); rw [xMj_z]; exact hy, fun _ _ _ _ => rfl, fun _ _ => rfl, fun z i hi => absurd hi (by (try dsimp only); omega)⟩

end C55
