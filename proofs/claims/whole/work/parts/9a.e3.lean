/-! the class: drawn -/
section C21
variable {G : sG} {d d' : sD} {w g s t x y : Nat → Int} {wo vo e n a : Nat}
theorem orNn {a b : Nat} (ha : a < 2147483648) (hb : b < 2147483648) : i_or (a : Int) (b : Int) = ((a ||| b : Nat) : Int) := by
  have e : i_or (a : Int) (b : Int) = ((Int32.ofInt (a : Int)).toBitVec ||| (Int32.ofInt (b : Int)).toBitVec).toInt := rfl
  have hlt : a ||| b < 2 ^ 31 := Nat.or_lt_two_pow (by omega) (by omega)
  rw [e, BitVec.toInt_eq_toNat_cond, BitVec.toNat_or, bvN (by omega), bvN (by omega), if_pos (by omega)]
theorem bit_tb {m j : Nat} (hm : m < 2147483648) (hj : j < 32) : bitP (m : Int) j ↔ Nat.testBit m j = true := by
  have hle : m / 2 ^ j ≤ m := Nat.div_le_self _ _
  unfold bitP
  rw [shrN hm hj, show (1 : Int) = ((1 : Nat) : Int) from rfl, andN (by omega) (by omega), Nat.and_one_is_mod, Nat.testBit_eq_decide_div_mod_eq, decide_eq_true_eq]
  omega
def dmN (x : Int) : Nat → Nat
  | 0 => 0
  | i + 1 => if rnB (drM x i).1 = 0 then 2 ^ i + dmN x i else dmN x i
theorem dmN_lt {x : Int} : ∀ i, dmN x i < 2 ^ i
  | 0 => by show 0 < 1; omega
  | i + 1 => by
    have ih := dmN_lt (x := x) i
    have h2 : 2 ^ (i + 1) = 2 ^ i + 2 ^ i := by rw [Nat.pow_succ]; omega
    show (if rnB (drM x i).1 = 0 then 2 ^ i + dmN x i else dmN x i) < 2 ^ (i + 1)
    split <;> omega
theorem shl24 : ∀ p : Nat, p < 24 → i_shl 1 (p : Int) = ((2 ^ p : Nat) : Int) ∧ 2 ^ p < 16777216 := by decide +kernel
theorem drM_N {x : Int} : ∀ i, i ≤ 24 → (drM x i).2 = ((dmN x i : Nat) : Int)
  | 0, _ => rfl
  | i + 1, hi => by
    have ih := drM_N (x := x) i (by omega)
    have hlt := dmN_lt (x := x) i
    obtain ⟨h1, h2⟩ := shl24 i (by omega)
    show i_or (drM x i).2 (if rnB (drM x i).1 = 0 then i_shl 1 i else 0) = ((if rnB (drM x i).1 = 0 then 2 ^ i + dmN x i else dmN x i : Nat) : Int)
    rw [ih]
    by_cases q : rnB (drM x i).1 = 0
    · rw [if_pos q, if_pos q, h1, orNn (by omega) (by omega), Nat.or_comm]
      have := Nat.two_pow_add_eq_or_of_lt hlt 1
      rw [Nat.mul_one] at this
      rw [← this]
    · rw [if_neg q, if_neg q, show (0 : Int) = ((0 : Nat) : Int) from rfl, orNn (by omega) (by omega), Nat.or_zero]
theorem dmN_tb {x : Int} {j : Nat} : ∀ i, Nat.testBit (dmN x i) j = true ↔ (j < i ∧ rnB (drM x j).1 = 0)
  | 0 => by
    show Nat.testBit 0 j = true ↔ _
    rw [Nat.zero_testBit]
    exact ⟨fun h => (by cases h), fun h => absurd h.1 (Nat.not_lt_zero j)⟩
  | i + 1 => by
    have ih := dmN_tb (x := x) (j := j) i
    have hlt := dmN_lt (x := x) i
    show Nat.testBit (if rnB (drM x i).1 = 0 then 2 ^ i + dmN x i else dmN x i) j = true ↔ _
    by_cases q : rnB (drM x i).1 = 0
    · rw [if_pos q]
      rcases (show j < i ∨ j = i ∨ i < j by omega) with z | rfl | z
      · rw [Nat.testBit_two_pow_add_gt z, ih]
        exact ⟨fun h => ⟨by omega, h.2⟩, fun h => ⟨z, h.2⟩⟩
      · rw [Nat.testBit_two_pow_add_eq, Nat.testBit_lt_two_pow hlt]
        exact ⟨fun _ => ⟨by omega, q⟩, fun _ => rfl⟩
      · have h2 : 2 ^ i + dmN x i < 2 ^ j := by
          have : 2 ^ (i + 1) ≤ 2 ^ j := Nat.pow_le_pow_right (by omega) (by omega)
          rw [Nat.pow_succ] at this; omega
        rw [Nat.testBit_lt_two_pow h2]
        exact ⟨fun h => (by cases h), fun h => by omega⟩
    · rw [if_neg q, ih]
      exact ⟨fun h => ⟨by omega, h.2⟩, fun h => ⟨Nat.lt_of_le_of_ne (by omega) (fun e => q (e ▸ h.2)), h.2⟩⟩
theorem dr_bit {x : Int} {n j : Nat} (hn : n ≤ 24) (hj : j < n) : bitP (drM x n).2 j ↔ rnB (drM x j).1 = 0 := by
  have hlt := dmN_lt (x := x) n
  have h24 : 2 ^ n ≤ 2 ^ 24 := Nat.pow_le_pow_right (by omega) hn
  rw [drM_N n hn, bit_tb (by omega) (by omega), dmN_tb]
  exact ⟨fun h => h.2, fun h => ⟨hj, h⟩⟩
theorem br_blow {x : Int} {N j : Nat} (hn : N ≤ 24) (hj : j < N) : (if rnB (drM x j).1 = 0 then 0 else rB w g j) = brB w g (drM x N).2 j := by
  unfold brB
  by_cases z : rnB (drM x j).1 = 0
  · rw [if_pos z, if_pos ((dr_bit hn hj).mpr z)]
  · rw [if_neg z, if_neg (fun q => z ((dr_bit hn hj).mp q))]
theorem t_moveCountsToNothing : tB G mX11_moveCountsToNothing 0 [vR 1, vU 0] [] d (fun r d' => r = none ∧ (∀ i, i < 10 → d' 111 i = 0) ∧ Fr 111 111 d d') := by
  have h2 : ∀ z : Nat × sD, (z.1 ≤ 10 ∧ (∀ i, i < z.1 → z.2 111 i = 0) ∧ Fr 111 111 d z.2) → tB G mX11_moveCountsToNothing 2 [vR 1, vI z.1] [] (z.2) (fun r d' => r = none ∧ (∀ i, i < 10 → d' 111 i = 0) ∧ Fr 111 111 d d') := by
    refine T_loop (α := Nat × sD) 2 (fun z => [vR 1, vI z.1]) (fun z => z.2) (fun z => z.1 ≤ 10 ∧ (∀ i, i < z.1 → z.2 111 i = 0) ∧ Fr 111 111 d z.2) (fun z => 10 - z.1) ?_
    rintro ⟨k, b⟩ ⟨h1, h2, h3⟩ ih
    try dsimp only at h1 h2 h3 ih ⊢
    refine T_iload_n dX11_moveCountsToNothing_2 rfl ?_
    refine T_aload_n dX11_moveCountsToNothing_3 rfl ?_
    refine T_getR dX11_moveCountsToNothing_4 fX11_72 rfl k1 r1_10 ?_
    refine T_alen dX11_moveCountsToNothing_7 k111 (by decide) l111 (by decide) ?_
    refine T_icmp_ge (tgt := 24) dX11_moveCountsToNothing_8 (by decide) (fun c8 => ?_) (fun c8 => ?_)
    · exact T_return dX11_moveCountsToNothing_24 rfl ⟨rfl, fun i hi => h2 i (by omega), h3⟩
    · refine T_aload_n dX11_moveCountsToNothing_11 rfl ?_
      refine T_getR dX11_moveCountsToNothing_12 fX11_72 rfl k1 r1_10 ?_
      refine T_iload_n dX11_moveCountsToNothing_15 rfl ?_
      refine T_iconst dX11_moveCountsToNothing_16 (by decide) ?_
      refine T_iast dX11_moveCountsToNothing_17 k111 l111 (by omega) (j := k) (by omega) ?_
      refine T_inc dX11_moveCountsToNothing_18 rfl (by decide) rfl (by omega) ?_
      refine T_goto (tgt := 2) dX11_moveCountsToNothing_21 (by decide) ?_
      refine T_nm (fun m2 hm2 => ih (k + 1, m2) ?_ (by (try dsimp only); omega))
      subst hm2
      try dsimp only
      refine ⟨by (try dsimp only); omega, fun i hi => ?_, h3.up (by omega)⟩
      try dsimp only at hi
      rcases (show i < k ∨ i = k by omega) with z | rfl
      · rw [up_nej (by omega)]; exact h2 i z
      · rw [up_same]
  refine T_iconst dX11_moveCountsToNothing_0 (by decide) ?_
  refine T_ist_n dX11_moveCountsToNothing_1 (by decide) rfl ?_
  exact h2 (0, d) ⟨Nat.zero_le _, fun i hi => absurd hi (Nat.not_lt_zero i), Fr.rf⟩

theorem t_playToBoth (hw : kn S0 wo = 10) (hO : Wo d wo w) (hV : WV w) (hn : d 81 5 = (n : Int)) (hn24 : n ≤ 24) (ht : ∀ j, j < n → d 84 j = t j ∧ 0 ≤ t j ∧ t j ≤ 3) : tB G mX11_playToBoth 0 [vR 1, vR wo] [] d (fun r d' => r = none ∧ Bo d' w (snF w t n) n ∧ Lf d d') := by
  have hat := at_W hw
  refine T_aload_n dX11_playToBoth_0 rfl ?_
  refine T_getR dX11_playToBoth_1 fX11_41 rfl k1 r1_5 ?_
  refine T_aload_n dX11_playToBoth_4 rfl ?_
  refine T_callV dX11_playToBoth_5 lX11_459 (As := [_]) (rest := _) rfl rfl k81 (by decide) (Nat.le_of_ble_eq_true rfl) (Nat.le_of_ble_eq_true rfl) (t_cplay (w := w) (t := t) hw hO hV hn hn24 ht) ?_
  rintro _ d1 ⟨rfl, e1, f1⟩
  refine T_aload_n dX11_playToBoth_8 rfl ?_
  refine T_aload_n dX11_playToBoth_9 rfl ?_
  refine T_callV dX11_playToBoth_10 lX11_462 (As := [_]) (rest := _) rfl rfl k1 (by decide) (Nat.le_of_ble_eq_true rfl) (Nat.le_of_ble_eq_true rfl) (t_listenBoth (s := snF w t n) hw (Wo_fr hO f1 (by omega)) hV (by rw [f1 81 5 (by omega)]; exact hn) hn24 (fun j hj => by rw [(e1 j hj).1]; unfold snF; rw [if_pos hj])) ?_
  rintro _ d2 ⟨rfl, e2, f2⟩
  exact T_return dX11_playToBoth_13 rfl ⟨rfl, e2, (f1.lf (by omega)).trans (f2.lf (by omega))⟩

theorem t_theyMeet (hw : kn S0 wo = 10) (hO : Wo d wo w) (hV : WV w) (hn24 : n ≤ 24) (hB : Bo d w s n) : tB G mX11_theyMeet 0 [vR 1, vR wo] [] d (fun r d' => r = some (vI (bI (¬ mtS w (mkS w s n 0 24 0).1 (mkS w s n 1 24 0).1 = -1))) ∧ Fr 88 90 d d') := by
  refine T_aload_n dX11_theyMeet_0 rfl ?_
  refine T_getR dX11_theyMeet_1 fX11_54 rfl k1 r1_7 ?_
  refine T_aload_n dX11_theyMeet_4 rfl ?_
  refine T_aload_n dX11_theyMeet_5 rfl ?_
  refine T_getR dX11_theyMeet_6 fX11_47 rfl k1 r1_6 ?_
  refine T_iconst dX11_theyMeet_9 (by decide) ?_
  refine T_aald dX11_theyMeet_10 k87 (by decide) l87 (by omega) (kn_e 0 (by decide)).2 ?_
  refine T_aload_n dX11_theyMeet_11 rfl ?_
  refine T_getR dX11_theyMeet_12 fX11_47 rfl k1 r1_6 ?_
  refine T_iconst dX11_theyMeet_15 (by decide) ?_
  refine T_aald dX11_theyMeet_16 k87 (by decide) l87 (by omega) (kn_e 1 (by decide)).2 ?_
  refine T_callV dX11_theyMeet_17 lX11_279 (As := [_, _, _]) (rest := _) rfl rfl k88 (by decide) (Nat.le_of_ble_eq_true rfl) (Nat.le_of_ble_eq_true rfl) (t_walk (kn_e 0 (by decide)).1 (kn_e 1 (by decide)).1 hw hO hV hB.1.2 hB.2.2 (mkS_MlOk hV (by decide) hn24).1 (mkS_MlOk hV (by decide) hn24).1) ?_
  rintro _ d2 ⟨rfl, e4, f2⟩
  refine T_aload_n dX11_theyMeet_20 rfl ?_
  refine T_getR dX11_theyMeet_21 fX11_54 rfl k1 r1_7 ?_
  refine T_getIv dX11_theyMeet_24 fX11_289 rfl k88 (x := mtS w (mkS w s n 0 24 0).1 (mkS w s n 1 24 0).1) e4.2 ?_
  refine T_iconst dX11_theyMeet_27 (by decide) ?_
  refine T_icmp_eq (tgt := 35) dX11_theyMeet_28 (by decide) (fun c28 => ?_) (fun c28 => ?_)
  · refine T_iconst dX11_theyMeet_35 (by decide) ?_
    exact T_zreturn dX11_theyMeet_36 rfl (by omega) ⟨by rw [bI_f (fun z => z c28)], f2⟩
  · refine T_iconst dX11_theyMeet_31 (by decide) ?_
    refine T_goto (tgt := 36) dX11_theyMeet_32 (by decide) ?_
    exact T_zreturn dX11_theyMeet_36 rfl (by omega) ⟨by rw [bI_t c28], f2⟩

theorem t_countMoves {T : Nat → Int} (hV : WV w) (hn24 : n ≤ 24) (hB : Bo d w s n) (hT : ∀ i, i < 10 → d 111 i = T i) (hTb : ∀ i, 0 ≤ T i ∧ T i ≤ 10000) : tB G mX11_countMoves 0 [vR 1, vU 0, vU 0, vU 0] [] d (fun r d' => r = none ∧ (∀ i, i < 10 → d' 111 i = ofA w (fun a => (mkS w s n a 24 0).1) T 2 i) ∧ Fr 111 111 d d') := by
  have hml : ∀ a, a < 2 → ((mkS w s n a 24 0).1).length ≤ 24 := fun a ha => (mkS_MlOk hV ha hn24).1
  have h2 : ∀ z : Nat × sD, (z.1 ≤ 2 ∧ (∀ i, i < 10 → z.2 111 i = ofA w (fun a => (mkS w s n a 24 0).1) T z.1 i) ∧ Fr 111 111 d z.2) → tB G mX11_countMoves 2 [vR 1, vI z.1, vU 0, vU 0] [] (z.2) (fun r d' => r = none ∧ (∀ i, i < 10 → d' 111 i = ofA w (fun a => (mkS w s n a 24 0).1) T 2 i) ∧ Fr 111 111 d d') := by
    refine T_loop (α := Nat × sD) 2 (fun z => [vR 1, vI z.1, vU 0, vU 0]) (fun z => z.2) (fun z => z.1 ≤ 2 ∧ (∀ i, i < 10 → z.2 111 i = ofA w (fun a => (mkS w s n a 24 0).1) T z.1 i) ∧ Fr 111 111 d z.2) (fun z => 2 - z.1) ?_
    rintro ⟨a, b⟩ ⟨h1, h2, h3⟩ ih
    try dsimp only at h1 h2 h3 ih ⊢
    have h16 : a < 2 → ∀ z : Nat × sD, (z.1 ≤ ((mkS w s n a 24 0).1).length ∧ (∀ i, i < 10 → z.2 111 i = ofJ w a (mkS w s n a 24 0).1 (ofA w (fun a => (mkS w s n a 24 0).1) T a) z.1 i) ∧ Fr 111 111 d z.2) → tB G mX11_countMoves 16 [vR 1, vI a, vR (259 + 6 * a), vI z.1] [] z.2 (fun r d' => r = none ∧ (∀ i, i < 10 → d' 111 i = ofA w (fun a => (mkS w s n a 24 0).1) T 2 i) ∧ Fr 111 111 d d') := by
      intro ha
      have he := (kn_e a ha).1
      have hmla := hml a ha
      have hMa := mkS_MlOk (s := s) hV ha hn24
      refine T_loop (α := Nat × sD) 16 (fun z => [vR 1, vI a, vR (259 + 6 * a), vI z.1]) (fun z => z.2) (fun z => z.1 ≤ ((mkS w s n a 24 0).1).length ∧ (∀ i, i < 10 → z.2 111 i = ofJ w a (mkS w s n a 24 0).1 (ofA w (fun a => (mkS w s n a 24 0).1) T a) z.1 i) ∧ Fr 111 111 d z.2) (fun z => 24 - z.1) ?_
      rintro ⟨k, b2⟩ ⟨g1, g2, g3⟩ ih2
      try dsimp only at g1 g2 g3 ih2 ⊢
      have hE := (Bo_a (Bo_fr hB g3 (by omega)) ha).2
      have hbd : ∀ i, 0 ≤ ofJ w a (mkS w s n a 24 0).1 (ofA w (fun a => (mkS w s n a 24 0).1) T a) k i ∧ ofJ w a (mkS w s n a 24 0).1 (ofA w (fun a => (mkS w s n a 24 0).1) T a) k i ≤ 20000 := fun i => by
        have q1 := ofJ_rg (w := w) (a := a) (ml := (mkS w s n a 24 0).1) (T := ofA w (fun a => (mkS w s n a 24 0).1) T a) (i := i) k
        have q2 := ofA_rg (w := w) (ML := fun a => (mkS w s n a 24 0).1) (T := T) (i := i) hml a (by omega)
        have q3 := hTb i
        omega
      refine T_iload_n dX11_countMoves_16 rfl ?_
      refine T_aload_n dX11_countMoves_17 rfl ?_
      refine T_getIv dX11_countMoves_18 fX11_254 rfl he (x := (((mkS w s n a 24 0).1).length : Int)) hE.1 ?_
      refine T_icmp_ge (tgt := 49) dX11_countMoves_21 (by decide) (fun c21 => ?_) (fun c21 => ?_)
      · refine T_inc dX11_countMoves_49 rfl (by decide) rfl (by omega) ?_
        refine T_goto (tgt := 2) dX11_countMoves_52 (by decide) ?_
        refine T_drop 2 (T_drop 3 ?_)
        refine ih (a + 1, b2) ⟨by dsimp only; omega, fun i hi => ?_, g3⟩ (by dsimp only; omega)
        dsimp only
        rw [g2 i hi, show k = ((mkS w s n a 24 0).1).length by omega]; rfl
      · have hm4 : 0 ≤ (w (17 + 36 * a + 6 * ((mkS w s n a 24 0).1.getD k (0, 0)).1)) ∧ (w (17 + 36 * a + 6 * ((mkS w s n a 24 0).1.getD k (0, 0)).1)) ≤ 4 := (hV.2.2.2.2.2 a _ ha (hMa.2 k (by omega)).1).1
        have hbk := hbd (5 * a + (w (17 + 36 * a + 6 * ((mkS w s n a 24 0).1.getD k (0, 0)).1)).toNat)
        refine T_aload_n dX11_countMoves_24 rfl ?_
        refine T_getR dX11_countMoves_25 fX11_72 rfl k1 r1_10 ?_
        refine T_iload_n dX11_countMoves_28 rfl ?_
        refine T_iconst dX11_countMoves_29 (by decide) ?_
        refine T_mul dX11_countMoves_30 (by omega) ?_
        refine T_aload_n dX11_countMoves_31 rfl ?_
        refine T_getR dX11_countMoves_32 fX11_257 rfl he (rE2 he) ?_
        refine T_iload_n dX11_countMoves_35 rfl ?_
        refine T_ialdv dX11_countMoves_36 (kE2 he) (lE2 he) (by omega) (j := k) (by omega) (x := (w (17 + 36 * a + 6 * ((mkS w s n a 24 0).1.getD k (0, 0)).1))) (hE.2.2 k (by omega)).1 ?_
        refine T_add dX11_countMoves_37 (by omega) ?_
        refine T_dup2 dX11_countMoves_38 rfl rfl ?_
        refine T_ialdv dX11_countMoves_39 k111 l111 (by omega) (j := 5 * a + (w (17 + 36 * a + 6 * ((mkS w s n a 24 0).1.getD k (0, 0)).1)).toNat) (by omega) (x := (ofJ w a (mkS w s n a 24 0).1 (ofA w (fun a => (mkS w s n a 24 0).1) T a) k (5 * a + (w (17 + 36 * a + 6 * ((mkS w s n a 24 0).1.getD k (0, 0)).1)).toNat))) (g2 _ (by omega)) ?_
        refine T_iconst dX11_countMoves_40 (by decide) ?_
        refine T_add dX11_countMoves_41 (by omega) ?_
        refine T_iast dX11_countMoves_42 k111 l111 (by omega) (j := 5 * a + (w (17 + 36 * a + 6 * ((mkS w s n a 24 0).1.getD k (0, 0)).1)).toNat) (by omega) ?_
        refine T_inc dX11_countMoves_43 rfl (by decide) rfl (by omega) ?_
        refine T_goto (tgt := 16) dX11_countMoves_46 (by decide) ?_
        refine T_nm (fun m2 hm2 => ih2 (k + 1, m2) ?_ (by (try dsimp only); omega))
        subst hm2
        try dsimp only
        refine ⟨by (try dsimp only); omega, fun i hi => ?_, g3.up (by omega)⟩
        show _ = if i = 5 * a + (w (17 + 36 * a + 6 * ((mkS w s n a 24 0).1.getD k (0, 0)).1)).toNat then _ else _
        by_cases z : i = 5 * a + (w (17 + 36 * a + 6 * ((mkS w s n a 24 0).1.getD k (0, 0)).1)).toNat
        · rw [if_pos z, z, up_same]
        · rw [if_neg z, up_nej z]; exact g2 i hi
    refine T_iload_n dX11_countMoves_2 rfl ?_
    refine T_iconst dX11_countMoves_3 (by decide) ?_
    refine T_icmp_ge (tgt := 55) dX11_countMoves_4 (by decide) (fun c4 => ?_) (fun c4 => ?_)
    · exact T_return dX11_countMoves_55 rfl ⟨rfl, fun i hi => by rw [show 2 = a by omega]; exact h2 i hi, h3⟩
    · refine T_aload_n dX11_countMoves_7 rfl ?_
      refine T_getR dX11_countMoves_8 fX11_47 rfl k1 r1_6 ?_
      refine T_iload_n dX11_countMoves_11 rfl ?_
      refine T_aald dX11_countMoves_12 k87 (by decide) l87 (by omega) (kn_e a (by omega)).2 ?_
      refine T_ast_n dX11_countMoves_13 (by decide) rfl ?_
      refine T_iconst dX11_countMoves_14 (by decide) ?_
      refine T_ist_n dX11_countMoves_15 (by decide) rfl ?_
      exact h16 (by omega) (0, b) ⟨Nat.zero_le _, h2, h3⟩
  refine T_iconst dX11_countMoves_0 (by decide) ?_
  refine T_ist_n dX11_countMoves_1 (by decide) rfl ?_
  exact h2 (0, d) ⟨Nat.zero_le _, fun i hi => hT i hi, Fr.rf⟩

theorem t_C_drawn {k l x m y : Int} (hM : MS d) (hC : CS d) : tB G mX11_drawn 0 [vR 1, vI k, vI l, vI x, vI m, vI y, vU 0, vU 0, vU 0, vU 0, vU 0, vU 0, vU 0, vU 0, vU 0] [] d (cQ d (if Vp d k l then qDrawn (wvD d k.toNat) (gvD d l.toNat) x m y else -1)) := by
  have hc0 := hM.1 0 (by decide)
  have hc1 := hM.1 1 (by decide)
  refine tB.rgl (fun hr => ?_)
  have hyr := okV_i (hr (vI y) (by simp only [List.mem_cons, true_or, or_true]))
  clear hr
  have h14 : ∀ r6 r7 : Nat, r6 = (if Vd d 0 k then 9 + 21 * k.toNat else 0) → r7 = (if Vd d 1 l then 19 + 21 * l.toNat else 0) → tB G mX11_drawn 14 [vR 1, vI k, vI l, vI x, vI m, vI y, vR r6, vR r7, vU 0, vU 0, vU 0, vU 0, vU 0, vU 0, vU 0] [] d (cQ d (if Vp d k l then qDrawn (wvD d k.toNat) (gvD d l.toNat) x m y else -1)) := by
    intro r6 r7 e6 e7
    have h38 : Vp d k l → (0 ≤ m ∧ m ≤ 40) → tB G mX11_drawn 38 [vR 1, vI k, vI l, vI x, vI m, vI y, vR r6, vR r7, vU 0, vU 0, vU 0, vU 0, vU 0, vU 0, vU 0] [] d (cQ d (if Vp d k l then qDrawn (wvD d k.toNat) (gvD d l.toNat) x m y else -1)) := by
      intro hv hm
      rw [if_pos hv.1] at e6
      rw [if_pos hv.2] at e7
      subst e6; subst e7
      have hw := (kn_w k.toNat (by omega)).1
      have hs := (kn_s l.toNat (by omega)).1
      have hO := hC.2.1 k.toNat (by omega)
      have hS := hC.2.2.1 l.toNat (by omega)
      have hV := hM.2.1 k.toNat (by omega)
      have hG := hM.2.2.1 l.toNat (by omega)
      rw [if_pos hv]
      have hat := at_W hw
      generalize wvD d k.toNat = w at *
      generalize gvD d l.toNat = g at *
      have hwv := hV.1
      have hlen := rowS_24 hV hG
      obtain ⟨m, rfl⟩ : ∃ q : Nat, m = (q : Int) := ⟨m.toNat, by omega⟩
      have h105 : ∀ ar mo om : Int, ar = (if 20 ≤ y then 1 else 0) → (om = bI (10 ≤ y ∧ 0 ≤ mo ∧ mo ≤ 4)) → (10 ≤ y → mo = y - 10 - 10 * ar) → (y = 0 ∨ y = 1 ∨ ¬ om = 0) → tB G mX11_drawn 105 [vR 1, vI k, vI l, vI x, vI m, vI y, vR (9 + 21 * k.toNat), vR (19 + 21 * l.toNat), vI ar, vI mo, vI om, vU 0, vU 0, vU 0, vU 0] [] d (cQ d (qDrawn w g x m y)) := by
        intro ar mo om har hom hmo hy
        have hyy : (0 ≤ y ∧ y ≤ 1) ∨ (10 ≤ y ∧ y ≤ 14) ∨ 20 ≤ y ∧ y ≤ 24 := by
          rcases hy with z | z | z
          · omega
          · omega
          · rw [hom] at z; have := bI_1 z; have := hmo this.1; split at har <;> omega
        have hq : qDrawn w g x m y = qDr w g (rowS w g).length x m y := by
          unfold qDrawn
          rw [if_neg (by omega), if_neg (by omega), Int.toNat_natCast]
        rw [hq]
        have e1N : ∃ N, (rowS w g).length = N := ⟨_, rfl⟩
        obtain ⟨N, hN⟩ := e1N
        rw [hN] at hlen ⊢
        have h135 : ∀ z : Nat × sD, (z.1 ≤ m ∧ (z.2 81 5 = (N : Int) ∧ ∀ j, j < N → z.2 82 j = rB w g j) ∧ (∀ i, i < 10 → z.2 111 i = (drE w g N x z.1).2.2 i) ∧ Cf d z.2) → tB G mX11_drawn 135 [vR 1, vI k, vI l, vI x, vI m, vI y, vR (9 + 21 * k.toNat), vR (19 + 21 * l.toNat), vI ar, vI mo, vI om, vI (drE w g N x z.1).1.2, vI (drE w g N x z.1).2.1, vI (drE w g N x z.1).1.1, vI z.1] [] (z.2) (cQ d (qDr w g N x m y)) := by
          refine T_loop (α := Nat × sD) 135 (fun z => [vR 1, vI k, vI l, vI x, vI m, vI y, vR (9 + 21 * k.toNat), vR (19 + 21 * l.toNat), vI ar, vI mo, vI om, vI (drE w g N x z.1).1.2, vI (drE w g N x z.1).2.1, vI (drE w g N x z.1).1.1, vI z.1]) (fun z => z.2) (fun z => z.1 ≤ m ∧ (z.2 81 5 = (N : Int) ∧ ∀ j, j < N → z.2 82 j = rB w g j) ∧ (∀ i, i < 10 → z.2 111 i = (drE w g N x z.1).2.2 i) ∧ Cf d z.2) (fun z => m - z.1) ?_
          rintro ⟨e, b⟩ ⟨g1, ⟨g2, g2b⟩, g3, g4⟩ ih
          try dsimp only at g1 g2 g2b g3 g4 ih ⊢
          have hrg := drE_rg (w := w) (g := g) (n := N) hV hlen (x := x) e
          have hst : drE w g N x (e + 1) = drS w g N (drE w g N x e) := rfl
          have hOb := Wo_cf hw hO g4
          have h206 : ∀ (s2 m2 : Int) (b2 : sD), s2 = (drE w g N x (e + 1)).1.2 → m2 = (drE w g N x (e + 1)).2.1 → e < m → b2 81 5 = (N : Int) → (∀ j, j < N → b2 82 j = rB w g j) → (∀ i, i < 10 → b2 111 i = (drE w g N x e).2.2 i) → Bo b2 w (bsS w g N (drM (drE w g N x e).1.1 N).2) N → Cf d b2 → tB G mX11_drawn 206 [vR 1, vI k, vI l, vI x, vI m, vI y, vR (9 + 21 * k.toNat), vR (19 + 21 * l.toNat), vI ar, vI mo, vI om, vI s2, vI m2, vI (drM (drE w g N x e).1.1 N).1, vI e] [] b2 (cQ d (qDr w g N x m y)) := by
            rintro _ _ b2 rfl rfl he q2 q2b q3 qB q4
            refine T_aload_n dX11_drawn_206 rfl ?_
            refine T_callV dX11_drawn_207 lX11_411 (As := []) (rest := _) rfl rfl k1 (by decide) (Nat.le_of_ble_eq_true rfl) (Nat.le_of_ble_eq_true rfl) (t_countMoves hV hlen qB q3 (fun i => by have := hrg.2.2 i; omega)) ?_
            rintro _ d1 ⟨rfl, e1, f1⟩
            refine T_inc dX11_drawn_210 rfl (by decide) rfl (by omega) ?_
            refine T_goto (tgt := 135) dX11_drawn_213 (by decide) ?_
            exact ih (e + 1, d1) ⟨by dsimp only; omega, ⟨by dsimp only; rw [f1 _ _ (by omega)]; exact q2, fun j hj => by dsimp only; rw [f1 _ _ (by omega)]; exact q2b j hj⟩, e1, q4.trans (f1.cf (by omega))⟩ (by dsimp only; omega)
          have h203 : ∀ (s2 c : Int) (b2 : sD), s2 = (drE w g N x (e + 1)).1.2 → c = bI (¬ mtS w (mkS w (bsS w g N (drM (drE w g N x e).1.1 N).2) N 0 24 0).1 (mkS w (bsS w g N (drM (drE w g N x e).1.1 N).2) N 1 24 0).1 = -1) → e < m → b2 81 5 = (N : Int) → (∀ j, j < N → b2 82 j = rB w g j) → (∀ i, i < 10 → b2 111 i = (drE w g N x e).2.2 i) → Bo b2 w (bsS w g N (drM (drE w g N x e).1.1 N).2) N → Cf d b2 → tB G mX11_drawn 203 [vR 1, vI k, vI l, vI x, vI m, vI y, vR (9 + 21 * k.toNat), vR (19 + 21 * l.toNat), vI ar, vI mo, vI om, vI s2, vI (drE w g N x e).2.1, vI (drM (drE w g N x e).1.1 N).1, vI e] [vI c, vI (drE w g N x e).2.1] b2 (cQ d (qDr w g N x m y)) := by
            intro s2 c b2 hs2 hc he q2 q2b q3 qB q4
            have hc2 : c = 0 ∨ c = 1 := by rw [hc]; exact bI_01 _
            refine T_add dX11_drawn_203 (by omega) ?_
            refine T_ist dX11_drawn_204 (by decide) rfl ?_
            exact h206 _ _ b2 hs2 (by rw [hc]; rfl) he q2 q2b q3 qB q4
          have h184 : ∀ (c : Int) (b2 : sD), c = bI (maP w (mkS w (bsS w g N (drM (drE w g N x e).1.1 N).2) N 0 24 0).1 (mkS w (bsS w g N (drM (drE w g N x e).1.1 N).2) N 1 24 0).1) → e < m → b2 81 5 = (N : Int) → (∀ j, j < N → b2 82 j = rB w g j) → (∀ i, i < 10 → b2 111 i = (drE w g N x e).2.2 i) → Bo b2 w (bsS w g N (drM (drE w g N x e).1.1 N).2) N → Cf d b2 → tB G mX11_drawn 184 [vR 1, vI k, vI l, vI x, vI m, vI y, vR (9 + 21 * k.toNat), vR (19 + 21 * l.toNat), vI ar, vI mo, vI om, vI (drE w g N x e).1.2, vI (drE w g N x e).2.1, vI (drM (drE w g N x e).1.1 N).1, vI e] [vI c, vI (drE w g N x e).1.2] b2 (cQ d (qDr w g N x m y)) := by
            intro c b2 hc he q2 q2b q3 qB q4
            have hc2 : c = 0 ∨ c = 1 := by rw [hc]; exact bI_01 _
            have hOc := Wo_cf hw hO q4
            refine T_add dX11_drawn_184 (by omega) ?_
            refine T_top (y := (drE w g N x (e + 1)).1.2) (by rw [hc]; rfl) ?_
            refine T_ist dX11_drawn_185 (by decide) rfl ?_
            refine T_iload dX11_drawn_187 rfl ?_
            refine T_aload_n dX11_drawn_189 rfl ?_
            refine T_aload dX11_drawn_190 rfl ?_
            refine T_callV dX11_drawn_192 lX11_407 (As := [_]) (rest := _) rfl rfl k1 (by decide) (Nat.le_of_ble_eq_true rfl) (Nat.le_of_ble_eq_true rfl) (t_theyMeet hw hOc hV hlen qB) ?_
            rintro _ d1 ⟨rfl, f1⟩
            have u2 : d1 81 5 = (N : Int) := by rw [f1 _ _ (by omega)]; exact q2
            have u2b : ∀ j, j < N → d1 82 j = rB w g j := fun j hj => by rw [f1 _ _ (by omega)]; exact q2b j hj
            have u3 : ∀ i, i < 10 → d1 111 i = (drE w g N x e).2.2 i := fun i hi => by rw [f1 _ _ (by omega)]; exact q3 i hi
            refine T_if_eq (tgt := 202) dX11_drawn_195 (by decide) (fun c195 => ?_) (fun c195 => ?_)
            · have h195 := bI_0 c195
              refine T_iconst dX11_drawn_202 (by decide) ?_
              exact h203 _ _ d1 rfl c195.symm he u2 u2b u3 (Bo_fr qB f1 (by omega)) (q4.trans (f1.cf (by omega)))
            · have h195 := bI_1 c195
              refine T_iconst dX11_drawn_198 (by decide) ?_
              refine T_goto (tgt := 203) dX11_drawn_199 (by decide) ?_
              exact h203 _ _ d1 rfl ((bI_01 _).resolve_left c195).symm he u2 u2b u3 (Bo_fr qB f1 (by omega)) (q4.trans (f1.cf (by omega)))
          refine T_iload dX11_drawn_135 rfl ?_
          refine T_iload dX11_drawn_137 rfl ?_
          refine T_icmp_ge (tgt := 216) dX11_drawn_139 (by decide) (fun c139 => ?_) (fun c139 => ?_)
          · refine T_iload dX11_drawn_216 rfl ?_
            refine T_if_eq (tgt := 234) dX11_drawn_218 (by decide) (fun c218 => ?_) (fun c218 => ?_)
            · refine T_iload dX11_drawn_234 rfl ?_
              refine T_if_ne (tgt := 244) dX11_drawn_236 (by decide) (fun c236 => ?_) (fun c236 => ?_)
              · refine T_iload dX11_drawn_244 rfl ?_
                exact T_ireturn dX11_drawn_246 rfl ⟨by unfold qDr; rw [if_neg c236, if_pos (show y = 1 by omega), show e = m by omega], g4⟩
              · refine T_iload dX11_drawn_239 rfl ?_
                refine T_goto (tgt := 246) dX11_drawn_241 (by decide) ?_
                exact T_ireturn dX11_drawn_246 rfl ⟨by unfold qDr; rw [if_pos c236, show e = m by omega], g4⟩
            · have hom1 := bI_1 (hom ▸ c218)
              have hmo1 := hmo hom1.1
              have har2 : (ar = 0 ∧ y < 20) ∨ (ar = 1 ∧ 20 ≤ y) := by rw [har]; split <;> omega
              refine T_aload_n dX11_drawn_221 rfl ?_
              refine T_getR dX11_drawn_222 fX11_72 rfl k1 r1_10 ?_
              refine T_iload dX11_drawn_225 rfl ?_
              refine T_iconst dX11_drawn_227 (by decide) ?_
              refine T_mul dX11_drawn_228 (by omega) ?_
              refine T_iload dX11_drawn_229 rfl ?_
              refine T_add dX11_drawn_231 (by omega) ?_
              refine T_ialdv dX11_drawn_232 k111 l111 (by omega) rfl (x := (drE w g N x m).2.2 (5 * (y / 10 - 1) + y % 10).toNat) (by rw [g3 _ (by omega), show e = m by omega]; exact congrArg (drE w g N x m).2.2 (by omega)) ?_
              exact T_ireturn dX11_drawn_233 rfl ⟨by unfold qDr; rw [if_neg (show ¬ y = 0 by omega), if_neg (show ¬ y = 1 by omega)], g4⟩
          · refine T_aload_n dX11_drawn_142 rfl ?_
            refine T_getR dX11_drawn_143 fX11_41 rfl k1 r1_5 ?_
            refine T_iload dX11_drawn_146 rfl ?_
            refine T_callV dX11_drawn_148 lX11_397 (As := [_]) (rest := _) rfl rfl k81 (by decide) (Nat.le_of_ble_eq_true rfl) (Nat.le_of_ble_eq_true rfl) (t_blow (r := rB w g) g2 hlen g2b) ?_
            rintro _ d1 ⟨rfl, e1, f1⟩
            refine T_ist dX11_drawn_151 (by decide) rfl ?_
            refine T_aload_n dX11_drawn_153 rfl ?_
            refine T_aload dX11_drawn_154 rfl ?_
            refine T_callV dX11_drawn_156 lX11_400 (As := [_]) (rest := _) rfl rfl k1 (by decide) (Nat.le_of_ble_eq_true rfl) (Nat.le_of_ble_eq_true rfl) (t_playToBoth (t := brB w g (drM (drE w g N x e).1.1 N).2) hw (Wo_fr hOb f1 (by omega)) hV (by rw [f1 81 5 (by omega)]; exact g2) hlen (fun j hj => ⟨(e1 j hj).trans (br_blow hlen hj), by have := rB_rg (w := w) hG j; unfold brB; split <;> omega⟩)) ?_
            rintro _ d2 ⟨rfl, e2, f2⟩
            have u2 : d2 81 5 = (N : Int) := by rw [f2 _ _ (by omega), f1 _ _ (by omega)]; exact g2
            have u2b : ∀ j, j < N → d2 82 j = rB w g j := fun j hj => by rw [f2 _ _ (by omega), f1 _ _ (by omega)]; exact g2b j hj
            have u3 : ∀ i, i < 10 → d2 111 i = (drE w g N x e).2.2 i := fun i hi => by rw [f2 _ _ (by omega), f1 _ _ (by omega)]; exact g3 i hi
            have u4 : Cf d d2 := (g4.trans (f1.cf (by omega))).trans f2.cf
            refine T_iload dX11_drawn_159 rfl ?_
            refine T_aload_n dX11_drawn_161 rfl ?_
            refine T_getR dX11_drawn_162 fX11_47 rfl k1 r1_6 ?_
            refine T_iconst dX11_drawn_165 (by decide) ?_
            refine T_aald dX11_drawn_166 k87 (by decide) l87 (by omega) (kn_e 0 (by decide)).2 ?_
            refine T_aload_n dX11_drawn_167 rfl ?_
            refine T_getR dX11_drawn_168 fX11_47 rfl k1 r1_6 ?_
            refine T_iconst dX11_drawn_171 (by decide) ?_
            refine T_aald dX11_drawn_172 k87 (by decide) l87 (by omega) (kn_e 1 (by decide)).2 ?_
            refine T_callV dX11_drawn_173 lX11_403 (As := [_]) (rest := _) rfl rfl k259 (by decide) (Nat.le_of_ble_eq_true rfl) (Nat.le_of_ble_eq_true rfl) (t_madeTheSame (kn_e 0 (by decide)).1 (kn_e 1 (by decide)).1 e2.1.2 e2.2.2 (mkS_MlOk hV (by decide) hlen).1 (mkS_MlOk hV (by decide) hlen).1) ?_
            rintro _ _ ⟨rfl, rfl⟩
            refine T_if_eq (tgt := 183) dX11_drawn_176 (by decide) (fun c176 => ?_) (fun c176 => ?_)
            · have h176 := bI_0 c176
              refine T_iconst dX11_drawn_183 (by decide) ?_
              exact h184 _ d2 c176.symm (by omega) u2 u2b u3 e2 u4
            · have h176 := bI_1 c176
              refine T_iconst dX11_drawn_179 (by decide) ?_
              refine T_goto (tgt := 184) dX11_drawn_180 (by decide) ?_
              exact h184 _ d2 ((bI_01 _).resolve_left c176).symm (by omega) u2 u2b u3 e2 u4
        refine T_aload_n dX11_drawn_105 rfl ?_
        refine T_getR dX11_drawn_106 fX11_41 rfl k1 r1_5 ?_
        refine T_aload dX11_drawn_109 rfl ?_
        refine T_getIv dX11_drawn_111 fX11_169 rfl hw (x := ((w 0).toNat : Int)) (by rw [hO.1.1]; omega) ?_
        refine T_aload dX11_drawn_114 rfl ?_
        refine T_callV dX11_drawn_116 lX11_303 (As := [_, _]) (rest := _) rfl rfl k81 (by decide) (Nat.le_of_ble_eq_true rfl) (Nat.le_of_ble_eq_true rfl) (t_clay (w := w) (t := (w 0).toNat) hs hS hG (by omega) (by omega)) ?_
        rintro _ d1 ⟨rfl, e1, f1⟩
        refine T_iconst dX11_drawn_119 (by decide) ?_
        refine T_ist dX11_drawn_120 (by decide) rfl ?_
        refine T_iconst dX11_drawn_122 (by decide) ?_
        refine T_ist dX11_drawn_123 (by decide) rfl ?_
        refine T_aload_n dX11_drawn_125 rfl ?_
        refine T_callV dX11_drawn_126 lX11_394 (As := []) (rest := _) rfl rfl k1 (by decide) (Nat.le_of_ble_eq_true rfl) (Nat.le_of_ble_eq_true rfl) t_moveCountsToNothing ?_
        rintro _ d2 ⟨rfl, e2, f2⟩
        refine T_iload_n dX11_drawn_129 rfl ?_
        refine T_ist dX11_drawn_130 (by decide) rfl ?_
        refine T_iconst dX11_drawn_132 (by decide) ?_
        refine T_ist dX11_drawn_133 (by decide) rfl ?_
        exact h135 (0, d2) ⟨Nat.zero_le _, ⟨by dsimp only; rw [f2 _ _ (by omega), e1.1, hN], fun j hj => by dsimp only; rw [f2 _ _ (by omega)]; exact (e1.2 j (by omega)).1⟩, e2, (f1.cf (by omega)).trans (f2.cf (by omega))⟩
      have h85 : ∀ ar mo om : Int, ar = (if 20 ≤ y then 1 else 0) → (om = bI (10 ≤ y ∧ 0 ≤ mo ∧ mo ≤ 4)) → (10 ≤ y → mo = y - 10 - 10 * ar) → tB G mX11_drawn 85 [vR 1, vI k, vI l, vI x, vI m, vI y, vR (9 + 21 * k.toNat), vR (19 + 21 * l.toNat), vI ar, vI mo, vU 0, vU 0, vU 0, vU 0, vU 0] [vI om] d (cQ d (qDrawn w g x m y)) := by
        intro ar mo om har hom hmo
        have har2 : (ar = 0 ∧ y < 20) ∨ (ar = 1 ∧ 20 ≤ y) := by rw [har]; split <;> omega
        refine T_ist dX11_drawn_85 (by decide) rfl ?_
        refine T_iload dX11_drawn_87 rfl ?_
        refine T_if_eq (tgt := 105) dX11_drawn_89 (by decide) (fun c89 => ?_) (fun c89 => ?_)
        · exact h105 _ _ _ har hom hmo (Or.inl c89)
        · refine T_iload dX11_drawn_92 rfl ?_
          refine T_iconst dX11_drawn_94 (by decide) ?_
          refine T_icmp_eq (tgt := 105) dX11_drawn_95 (by decide) (fun c95 => ?_) (fun c95 => ?_)
          · exact h105 _ _ _ har hom hmo (Or.inr (Or.inl c95))
          · refine T_iload dX11_drawn_98 rfl ?_
            refine T_if_ne (tgt := 105) dX11_drawn_100 (by decide) (fun c100 => ?_) (fun c100 => ?_)
            · exact h105 _ _ _ har hom hmo (Or.inr (Or.inr c100))
            · refine T_iconst dX11_drawn_103 (by decide) ?_
              exact T_ireturn dX11_drawn_104 rfl ⟨by have hom1 := bI_0 (hom ▸ c100); unfold qDrawn; rw [if_neg (by omega), if_pos (show ¬ ((0 ≤ y ∧ y ≤ 1) ∨ (10 ≤ y ∧ y ≤ 14) ∨ 20 ≤ y ∧ y ≤ 24) from fun z => hom1 ⟨by omega, by omega, by omega⟩)], Cf.rf⟩
      have h50 : ∀ ar : Int, ar = (if 20 ≤ y then 1 else 0) → tB G mX11_drawn 50 [vR 1, vI k, vI l, vI x, vI m, vI y, vR (9 + 21 * k.toNat), vR (19 + 21 * l.toNat), vU 0, vU 0, vU 0, vU 0, vU 0, vU 0, vU 0] [vI ar] d (cQ d (qDrawn w g x m y)) := by
        intro ar har
        have har2 : (ar = 0 ∧ y < 20) ∨ (ar = 1 ∧ 20 ≤ y) := by rw [har]; split <;> omega
        have hmo : 10 ≤ y → w32 (w32 (y - 10) - 10 * ar) = y - 10 - 10 * ar := fun hy => by rw [w32_id (x := y - 10) (by omega) (by omega), w32_id (by omega) (by omega)]
        refine T_ist dX11_drawn_50 (by decide) rfl ?_
        refine T_iload dX11_drawn_52 rfl ?_
        refine T_bipush dX11_drawn_54 (by decide) ?_
        refine T_isub dX11_drawn_56 ?_
        refine T_bipush dX11_drawn_57 (by decide) ?_
        refine T_iload dX11_drawn_59 rfl ?_
        refine T_mul dX11_drawn_61 (by omega) ?_
        refine T_isub dX11_drawn_62 ?_
        refine T_ist dX11_drawn_63 (by decide) rfl ?_
        refine T_iload dX11_drawn_65 rfl ?_
        refine T_bipush dX11_drawn_67 (by decide) ?_
        refine T_icmp_lt (tgt := 84) dX11_drawn_69 (by decide) (fun c69 => ?_) (fun c69 => ?_)
        · refine T_iconst dX11_drawn_84 (by decide) ?_
          exact h85 _ _ _ har (by rw [bI_f (fun z => by omega)]) hmo
        · refine T_iload dX11_drawn_72 rfl ?_
          refine T_callS dX11_drawn_74 lX11_292 (As := [_]) (rest := _) rfl rfl (by decide) (Nat.le_of_ble_eq_true rfl) (Nat.le_of_ble_eq_true rfl) t_isMv ?_
          rintro _ _ ⟨rfl, rfl⟩
          refine T_if_eq (tgt := 84) dX11_drawn_77 (by decide) (fun c77 => ?_) (fun c77 => ?_)
          · have h77 := bI_0 c77
            refine T_iconst dX11_drawn_84 (by decide) ?_
            exact h85 _ _ _ har (by rw [bI_f (fun z => h77 z.2)]) hmo
          · have h77 := bI_1 c77
            refine T_iconst dX11_drawn_80 (by decide) ?_
            refine T_goto (tgt := 85) dX11_drawn_81 (by decide) ?_
            exact h85 _ _ _ har (by rw [bI_t ⟨by omega, h77⟩]) hmo
      refine T_iload dX11_drawn_38 rfl ?_
      refine T_bipush dX11_drawn_40 (by decide) ?_
      refine T_icmp_lt (tgt := 49) dX11_drawn_42 (by decide) (fun c42 => ?_) (fun c42 => ?_)
      · refine T_iconst dX11_drawn_49 (by decide) ?_
        exact h50 _ (by rw [if_neg (by omega)])
      · refine T_iconst dX11_drawn_45 (by decide) ?_
        refine T_goto (tgt := 50) dX11_drawn_46 (by decide) ?_
        exact h50 _ (by rw [if_pos (by omega)])
    refine T_aload dX11_drawn_14 rfl ?_
    refine T_ifnull (tgt := 36) dX11_drawn_16 (by decide) (fun c16 => ?_) (fun c16 => ?_)
    · refine T_iconst dX11_drawn_36 (by decide) ?_
      exact T_ireturn dX11_drawn_37 rfl ⟨by rw [if_neg (fun q : Vp d k l => by rw [if_pos q.1] at e6; omega)], Cf.rf⟩
    · refine T_aload dX11_drawn_19 rfl ?_
      refine T_ifnull (tgt := 36) dX11_drawn_21 (by decide) (fun c21 => ?_) (fun c21 => ?_)
      · refine T_iconst dX11_drawn_36 (by decide) ?_
        exact T_ireturn dX11_drawn_37 rfl ⟨by rw [if_neg (fun q : Vp d k l => by rw [if_pos q.2] at e7; omega)], Cf.rf⟩
      · refine T_iload dX11_drawn_24 rfl ?_
        refine T_if_lt (tgt := 36) dX11_drawn_26 (by decide) (fun c26 => ?_) (fun c26 => ?_)
        · refine T_iconst dX11_drawn_36 (by decide) ?_
          exact T_ireturn dX11_drawn_37 rfl ⟨by unfold qDrawn; rw [if_pos (show ¬ (0 ≤ m ∧ m ≤ 40) by omega), ite_self], Cf.rf⟩
        · refine T_iload dX11_drawn_29 rfl ?_
          refine T_bipush dX11_drawn_31 (by decide) ?_
          refine T_icmp_le (tgt := 38) dX11_drawn_33 (by decide) (fun c33 => ?_) (fun c33 => ?_)
          · exact h38 ⟨if0 e6 c16, if0 e7 c21⟩ (by omega)
          · refine T_iconst dX11_drawn_36 (by decide) ?_
            exact T_ireturn dX11_drawn_37 rfl ⟨by unfold qDrawn; rw [if_pos (show ¬ (0 ≤ m ∧ m ≤ 40) by omega), ite_self], Cf.rf⟩
  refine T_aload_n dX11_drawn_0 rfl ?_
  refine T_iload_n dX11_drawn_1 rfl ?_
  refine T_callV dX11_drawn_2 lX11_165 (As := [_]) (rest := _) rfl rfl k1 (by decide) (Nat.le_of_ble_eq_true rfl) (Nat.le_of_ble_eq_true rfl) (t_warAtI hM hC) ?_
  rintro _ _ ⟨rfl, rfl⟩
  refine T_ast dX11_drawn_5 (by decide) rfl ?_
  refine T_aload_n dX11_drawn_7 rfl ?_
  refine T_iload_n dX11_drawn_8 rfl ?_
  refine T_callV dX11_drawn_9 lX11_219 (As := [_]) (rest := _) rfl rfl k1 (by decide) (Nat.le_of_ble_eq_true rfl) (Nat.le_of_ble_eq_true rfl) (t_scoreAtI hM hC) ?_
  rintro _ _ ⟨rfl, rfl⟩
  refine T_ast dX11_drawn_12 (by decide) rfl ?_
  exact h14 _ _ rfl rfl

end C21
