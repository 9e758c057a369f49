/-! the class: feed, end, fault, count, image, again, beside the reference -/
section C25
variable {G : sG} {d d' : sD} {o : Nat}
theorem w8_and (x : Int) : w8 (i_and x 255) = w8 x := by
  unfold w8 i_and
  rw [Int32.ofInt_toInt]
  refine congrArg (fun z : Int8 => z.toInt32.toInt) (Int8.toBitVec_inj.mp ?_)
  show (((Int32.ofInt x).toBitVec &&& (Int32.ofInt 255).toBitVec).signExtend 8) = (Int32.ofInt x).toBitVec.signExtend 8
  rw [BitVec.signExtend_and, show ((Int32.ofInt 255).toBitVec.signExtend 8) = BitVec.allOnes 8 by decide, BitVec.and_allOnes]
theorem w8_w8 (x : Int) : w8 (w8 x) = w8 x := by
  unfold w8
  rw [Int32.ofInt_toInt, Int8.toInt8_toInt32]
theorem and255 (x : Int) : 0 ≤ i_and x 255 ∧ i_and x 255 ≤ 255 := by
  have e : i_and x 255 = ((Int32.ofInt x).toBitVec &&& (Int32.ofInt 255).toBitVec).toInt := rfl
  have hle : ((Int32.ofInt x).toBitVec.toNat &&& 255) ≤ 255 := Nat.and_le_right
  rw [e, BitVec.toInt_eq_toNat_cond, BitVec.toNat_and, show (Int32.ofInt 255).toBitVec.toNat = 255 from rfl, if_pos (by omega)]
  omega
def Pf (d d' : sD) : Prop := ∀ b j, b ≠ 3 → ¬ (b = 2 ∧ j = 1) → d' b j = d b j
theorem Pf.trans {d1 d2 : sD} (h : Pf d d1) (h2 : Pf d1 d2) : Pf d d2 := fun b j h3 h4 => (h2 b j h3 h4).trans (h b j h3 h4)
abbrev puQ (d : sD) (t : Nat) (x : Int) : Option sV → sD → Prop := fun r d' => r = none ∧ (∀ k : Nat, k < 4 → d' 3 (t + k) = w8 (i_shr x (24 - 8 * (k : Int)))) ∧ (∀ j, (j < t ∨ t + 4 ≤ j) → d' 3 j = d 3 j) ∧ d' 2 1 = ((t + 4 : Nat) : Int) ∧ Pf d d'
theorem t_push {t : Nat} {x : Int} (ht : d 2 1 = (t : Int)) (h4 : t + 4 ≤ 600) : tB G mX8_push 0 [vR 2, vI x, vU 0] [] d (puQ d t x) := by
  have h3 : ∀ z : Nat × sD, (z.1 ≤ 4 ∧ (∀ k : Nat, k < z.1 → z.2 3 (t + k) = w8 (i_shr x (24 - 8 * (k : Int)))) ∧ (∀ j, (j < t ∨ t + z.1 ≤ j) → z.2 3 j = d 3 j) ∧ z.2 2 1 = ((t + z.1 : Nat) : Int) ∧ Pf d z.2) → tB G mX8_push 3 [vR 2, vI x, vI (24 - 8 * (z.1 : Int))] [] (z.2) (puQ d t x) := by
    refine T_loop (α := Nat × sD) 3 (fun z => [vR 2, vI x, vI (24 - 8 * (z.1 : Int))]) (fun z => z.2) (fun z => z.1 ≤ 4 ∧ (∀ k : Nat, k < z.1 → z.2 3 (t + k) = w8 (i_shr x (24 - 8 * (k : Int)))) ∧ (∀ j, (j < t ∨ t + z.1 ≤ j) → z.2 3 j = d 3 j) ∧ z.2 2 1 = ((t + z.1 : Nat) : Int) ∧ Pf d z.2) (fun z => 4 - z.1) ?_
    rintro ⟨k, b⟩ ⟨h1, h2, h3, h5, h6⟩ ih
    try dsimp only at h1 h2 h3 h5 h6 ih ⊢
    refine T_iload_n dX8_push_3 rfl ?_
    refine T_if_lt (tgt := 46) dX8_push_4 (by decide) (fun c4 => ?_) (fun c4 => ?_)
    · exact T_return dX8_push_46 rfl ⟨rfl, fun q hq => h2 q (by omega), fun j hj => h3 j (by omega), by rw [h5, show k = 4 by omega], h6⟩
    · refine T_aload_n dX8_push_7 rfl ?_
      refine T_getIv dX8_push_8 fX8_15 rfl k2 (x := ((t + k : Nat) : Int)) h5 ?_
      refine T_sipush dX8_push_11 (by decide) ?_
      refine T_icmp_ge (tgt := 46) dX8_push_14 (by decide) (fun c14 => absurd c14 (by omega)) (fun c14 => ?_)
      refine T_aload_n dX8_push_17 rfl ?_
      refine T_getR dX8_push_18 fX8_9 rfl k2 r2_0 ?_
      refine T_aload_n dX8_push_21 rfl ?_
      refine T_getIv dX8_push_22 fX8_15 rfl k2 (x := ((t + k : Nat) : Int)) h5 ?_
      refine T_iload_n dX8_push_25 rfl ?_
      refine T_iload_n dX8_push_26 rfl ?_
      refine T_ishr dX8_push_27 ?_
      refine T_i2b dX8_push_28 ?_
      refine T_bast dX8_push_29 k3 l3 (by omega) (j := t + k) (by omega) ?_
      refine T_aload_n dX8_push_30 rfl ?_
      refine T_dup dX8_push_31 rfl ?_
      refine T_getIv dX8_push_32 fX8_15 rfl k2 (x := ((t + k : Nat) : Int)) (by rw [up_nea (by decide)]; exact h5) ?_
      refine T_iconst dX8_push_35 (by decide) ?_
      refine T_add dX8_push_36 (by omega) ?_
      refine T_putI dX8_push_37 fX8_15 rfl k2 ?_
      refine T_inc dX8_push_40 rfl (by decide) rfl (by omega) ?_
      refine T_leq (ls' := [vR 2, vI x, vI (24 - 8 * ((k + 1 : Nat) : Int))]) (by rw [show (24 - 8 * ((k + 1 : Nat) : Int)) = 24 - 8 * (k : Int) + -8 by omega]; rfl) ?_
      refine T_goto (tgt := 3) dX8_push_43 (by decide) ?_
      refine T_nm (fun m2 hm2 => ih (k + 1, m2) ?_ (by (try dsimp only); omega))
      subst hm2
      try dsimp only
      refine ⟨by (try dsimp only); omega, fun q hq => ?_, fun j hj => ?_, by rw [up_same]; omega, fun b' j hb hj => by rw [up_ne (fun z => hj ⟨z.1, z.2⟩), up_nea hb]; exact h6 b' j hb hj⟩
      · try dsimp only at hq
        rw [up_nea (by decide)]
        rcases (show q < k ∨ q = k by omega) with z | rfl
        · rw [up_nej (by omega)]; exact h2 q z
        · rw [up_same, w8_w8]
      · try dsimp only at hj
        rw [up_nea (by decide), up_nej (by omega)]; exact h3 j (by omega)
  refine T_bipush dX8_push_0 (by decide) ?_
  refine T_ist_n dX8_push_2 (by decide) rfl ?_
  exact h3 (0, d) ⟨Nat.zero_le _, fun k hk => absurd hk (Nat.not_lt_zero k), fun j _ => rfl, ht, fun b j _ _ => rfl⟩

abbrev fdQ (d : sD) (t : Nat) (a b c e f : Int) : Option sV → sD → Prop := fun r d' => (600 < t + 20 ∧ r = some (vI (-1)) ∧ d = d') ∨ (t + 20 ≤ 600 ∧ r = some (vI ((t : Int) + 20)) ∧ (∀ k : Nat, k < 20 → d' 3 (t + k) = w8 (fdB a b c e f k)) ∧ (∀ j, (j < t ∨ t + 20 ≤ j) → d' 3 j = d 3 j) ∧ d' 2 1 = ((t + 20 : Nat) : Int) ∧ Pf d d')
abbrev pu1 (d : sD) (t : Nat) (x : Int) (d' : sD) : Prop := (∀ k : Nat, k < 4 → d' 3 (t + k) = w8 (i_shr x (24 - 8 * (k : Int)))) ∧ (∀ j, (j < t ∨ t + 4 ≤ j) → d' 3 j = d 3 j) ∧ d' 2 1 = ((t + 4 : Nat) : Int) ∧ Pf d d'
theorem feed_b {d1 d2 d3 d4 d5 : sD} {a b c e f : Int} {t : Nat} (q1 : pu1 d t a d1) (q2 : pu1 d1 (t + 4) b d2) (q3 : pu1 d2 (t + 4 + 4) c d3) (q4 : pu1 d3 (t + 4 + 4 + 4) e d4) (q5 : pu1 d4 (t + 4 + 4 + 4 + 4) f d5) {k : Nat} (hk : k < 20) : d5 3 (t + k) = w8 (fdB a b c e f k) := by
  unfold fdB
  rw [w8_and]
  have hm : ((k : Int) % 4) = ((k % 4 : Nat) : Int) := by omega
  rw [hm]
  unfold fdW
  rcases (show k < 4 ∨ (4 ≤ k ∧ k < 8) ∨ (8 ≤ k ∧ k < 12) ∨ (12 ≤ k ∧ k < 16) ∨ 16 ≤ k by omega) with z | z | z | z | z
  · rw [if_pos z, q5.2.1 _ (by omega), q4.2.1 _ (by omega), q3.2.1 _ (by omega), q2.2.1 _ (by omega), q1.1 k z, show k % 4 = k by omega]
  · rw [if_neg (by omega), if_pos (by omega), q5.2.1 _ (by omega), q4.2.1 _ (by omega), q3.2.1 _ (by omega), show t + k = t + 4 + k % 4 by omega, q2.1 (k % 4) (by omega)]
  · rw [if_neg (by omega), if_neg (by omega), if_pos (by omega), q5.2.1 _ (by omega), q4.2.1 _ (by omega), show t + k = t + 4 + 4 + k % 4 by omega, q3.1 (k % 4) (by omega)]
  · rw [if_neg (by omega), if_neg (by omega), if_neg (by omega), if_pos (by omega), q5.2.1 _ (by omega), show t + k = t + 4 + 4 + 4 + k % 4 by omega, q4.1 (k % 4) (by omega)]
  · rw [if_neg (by omega), if_neg (by omega), if_neg (by omega), if_neg (by omega), show t + k = t + 4 + 4 + 4 + 4 + k % 4 by omega, q5.1 (k % 4) (by omega)]
theorem t_C_feed {a b c e f : Int} {t : Nat} (ht : d 2 1 = (t : Int)) (hs : t ≤ 600) : tB G mX11_feed 0 [vR 1, vI a, vI b, vI c, vI e, vI f] [] d (fdQ d t a b c e f) := by
  refine T_aload_n dX11_feed_0 rfl ?_
  refine T_getR dX11_feed_1 fX11_10 rfl k1 r1_0 ?_
  refine T_getIv dX11_feed_4 fX11_77 rfl k2 (x := (t : Int)) ht ?_
  refine T_bipush dX11_feed_7 (by decide) ?_
  refine T_add dX11_feed_9 (by omega) ?_
  refine T_sipush dX11_feed_10 (by decide) ?_
  refine T_icmp_le (tgt := 18) dX11_feed_13 (by decide) (fun c13 => ?_) (fun c13 => ?_)
  · refine T_aload_n dX11_feed_18 rfl ?_
    refine T_getR dX11_feed_19 fX11_10 rfl k1 r1_0 ?_
    refine T_iload_n dX11_feed_22 rfl ?_
    refine T_callV dX11_feed_23 lX11_81 (As := [_]) (rest := _) rfl rfl k2 (by decide) (Nat.le_of_ble_eq_true rfl) (Nat.le_of_ble_eq_true rfl) (t_push (t := t) ht (by omega)) ?_
    rintro _ d1 ⟨rfl, q1⟩
    refine T_aload_n dX11_feed_26 rfl ?_
    refine T_getR dX11_feed_27 fX11_10 rfl k1 r1_0 ?_
    refine T_iload_n dX11_feed_30 rfl ?_
    refine T_callV dX11_feed_31 lX11_81 (As := [_]) (rest := _) rfl rfl k2 (by decide) (Nat.le_of_ble_eq_true rfl) (Nat.le_of_ble_eq_true rfl) (t_push (t := t + 4) q1.2.2.1 (by omega)) ?_
    rintro _ d2 ⟨rfl, q2⟩
    refine T_aload_n dX11_feed_34 rfl ?_
    refine T_getR dX11_feed_35 fX11_10 rfl k1 r1_0 ?_
    refine T_iload_n dX11_feed_38 rfl ?_
    refine T_callV dX11_feed_39 lX11_81 (As := [_]) (rest := _) rfl rfl k2 (by decide) (Nat.le_of_ble_eq_true rfl) (Nat.le_of_ble_eq_true rfl) (t_push (t := t + 4 + 4) q2.2.2.1 (by omega)) ?_
    rintro _ d3 ⟨rfl, q3⟩
    refine T_aload_n dX11_feed_42 rfl ?_
    refine T_getR dX11_feed_43 fX11_10 rfl k1 r1_0 ?_
    refine T_iload dX11_feed_46 rfl ?_
    refine T_callV dX11_feed_48 lX11_81 (As := [_]) (rest := _) rfl rfl k2 (by decide) (Nat.le_of_ble_eq_true rfl) (Nat.le_of_ble_eq_true rfl) (t_push (t := t + 4 + 4 + 4) q3.2.2.1 (by omega)) ?_
    rintro _ d4 ⟨rfl, q4⟩
    refine T_aload_n dX11_feed_51 rfl ?_
    refine T_getR dX11_feed_52 fX11_10 rfl k1 r1_0 ?_
    refine T_iload dX11_feed_55 rfl ?_
    refine T_callV dX11_feed_57 lX11_81 (As := [_]) (rest := _) rfl rfl k2 (by decide) (Nat.le_of_ble_eq_true rfl) (Nat.le_of_ble_eq_true rfl) (t_push (t := t + 4 + 4 + 4 + 4) q4.2.2.1 (by omega)) ?_
    rintro _ d5 ⟨rfl, q5⟩
    refine T_aload_n dX11_feed_60 rfl ?_
    refine T_getR dX11_feed_61 fX11_10 rfl k1 r1_0 ?_
    refine T_getIv dX11_feed_64 fX11_77 rfl k2 (x := ((t + 20 : Nat) : Int)) q5.2.2.1 ?_
    exact T_ireturn dX11_feed_67 rfl (Or.inr ⟨by omega, by rw [show ((t + 20 : Nat) : Int) = (t : Int) + 20 by omega], fun k hk => feed_b q1 q2 q3 q4 q5 hk, fun j hj => by rw [q5.2.1 j (by omega), q4.2.1 j (by omega), q3.2.1 j (by omega), q2.2.1 j (by omega), q1.2.1 j (by omega)], q5.2.2.1, (((q1.2.2.2.trans q2.2.2.2).trans q3.2.2.2).trans q4.2.2.2).trans q5.2.2.2⟩)
  · refine T_iconst dX11_feed_16 (by decide) ?_
    exact T_ireturn dX11_feed_17 rfl (Or.inl ⟨by omega, rfl, rfl⟩)

theorem IV_now (h : IV d) (e1 : ∀ b j, (4 ≤ b ∧ b ≤ 52) ∨ (112 ≤ b ∧ b ≤ 258) → d' b j = d b j) (e2 : ∀ x, x < 4 ∨ 610 ≤ x → d' 272 x = d 272 x) (e3 : d' 273 = d 273) (H1 : (d' 2 1 = d' 272 4 ∧ 0 ≤ d' 272 4 ∧ d' 272 4 ≤ 600) ∧ d' 2 2 = d' 272 5 ∧ d' 2 3 = d' 272 6) (H2 : ∀ i, i < 600 → d' 3 i = w8 (d' 272 (10 + i)) ∧ 0 ≤ d' 272 (10 + i) ∧ d' 272 (10 + i) ≤ 255) : IV d' := by
  obtain ⟨⟨h1, h2, h3, h4, h5, h6, h7⟩, hi⟩ := h
  have b0 := (h3 0 (by decide)).2
  have b1 := (h3 1 (by decide)).2
  have b2 := (h3 2 (by decide)).2
  have b3 := (h3 3 (by decide)).2
  refine ⟨⟨H1, H2, fun s hs => by rw [e1 _ _ (by omega), e2 s (by omega)]; exact h3 s hs, fun k hk => ?_, fun k hk => ?_, fun k hk => ?_, fun k hk => ?_⟩, fun k hk => ⟨?_, fun hn => ?_⟩⟩
  · rw [e2 0 (by omega)] at hk
    rw [show (fun x => d' 272 (610 + 89 * k + x)) = (fun x => d 272 (610 + 89 * k + x)) from funext fun x => e2 _ (by omega)]
    exact ⟨Wo_eq (h4 k hk).1 (fun x j hx => e1 _ _ (by omega)), (h4 k hk).2⟩
  · rw [e2 1 (by omega)] at hk
    rw [show (fun x => d' 272 (788 + 26 * k + x)) = (fun x => d 272 (788 + 26 * k + x)) from funext fun x => e2 _ (by omega)]
    exact ⟨So_eq (h5 k hk).1 (fun x j hx => e1 _ _ (by omega)), (h5 k hk).2⟩
  · rw [e2 2 (by omega)] at hk
    rw [show (fun x => d' 272 (840 + 14 * k + x)) = (fun x => d 272 (840 + 14 * k + x)) from funext fun x => e2 _ (by omega)]
    exact ⟨Ho_eq (h6 k hk).1 (fun x j hx => e1 _ _ (by omega)), (h6 k hk).2⟩
  · rw [e2 3 (by omega)] at hk
    rw [show (fun x => d' 272 (868 + 33 * k + x)) = (fun x => d 272 (868 + 33 * k + x)) from funext fun x => e2 _ (by omega)]
    exact ⟨Vo_eq (h7 k hk).1 (fun x j hx => e1 _ _ (by omega)), (h7 k hk).2⟩
  · rw [e3, e1 52 k (by omega)]; exact (hi k hk).1
  · rw [e3] at hn
    rw [show blk d' (934 * (k + 1)) = blk d (934 * (k + 1)) from funext fun x => e2 _ (by omega)]
    exact TRf_eq ((hi k hk).2 hn) (fun x j hx => e1 _ _ (by omega))
theorem fdF_lo {t i : Nat} {a b c e f : Int} {x : Nat} (hx : x ≠ 4 ∧ (x < 10 + t ∨ 10 + t + i ≤ x)) : fdF d t a b c e f i 272 x = d 272 x := by
  unfold fdF
  rw [up_nej hx.1, ups_out hx.2]
/-- feed, both -/
theorem IV_feed {d1 : sD} {a b c e f : Int} {t : Nat} (h : IV d) (ht : d 2 1 = (t : Int)) (hs : t + 20 ≤ 600) (q1 : ∀ k : Nat, k < 20 → d1 3 (t + k) = w8 (fdB a b c e f k)) (q2 : ∀ j, (j < t ∨ t + 20 ≤ j) → d1 3 j = d 3 j) (q3 : d1 2 1 = ((t + 20 : Nat) : Int)) (q4 : Pf d d1) : IV (fdF d1 t a b c e f 20) := by
  have n1 : ∀ b' j, b' ≠ 272 → fdF d1 t a b c e f 20 b' j = d1 b' j := fun b' j hb => by unfold fdF; rw [up_nea hb, ups_nea hb]
  have h272 : ∀ x, d1 272 x = d 272 x := fun x => q4 272 x (by decide) (by omega)
  refine IV_now h (fun b' j hb => by rw [n1 _ _ (by omega)]; exact q4 _ _ (by omega) (by omega)) (fun x hx => by rw [fdF_lo (by omega)]; exact h272 x) (funext fun j => by rw [n1 _ _ (by decide)]; exact q4 _ _ (by decide) (by omega)) ?_ (fun i hi => ?_)
  · rw [n1 2 1 (by decide), n1 2 2 (by decide), n1 2 3 (by decide), q3, fdF_4, fdF_lo (x := 5) (by omega), fdF_lo (x := 6) (by omega), q4 2 2 (by decide) (by omega), q4 2 3 (by decide) (by omega), h272, h272]
    exact ⟨⟨by omega, by omega, by omega⟩, h.1.1.2⟩
  · rw [n1 _ _ (by decide)]
    by_cases z : t ≤ i ∧ i < t + 20
    · have e0 : fdF d1 t a b c e f 20 272 (10 + i) = fdB a b c e f (i - t) := by
        unfold fdF
        rw [up_nej (by omega), ups_in (by omega), show 10 + i - (10 + t) = i - t by omega]
      have := q1 (i - t) (by omega)
      rw [show t + (i - t) = i by omega] at this
      rw [e0, this]
      exact ⟨rfl, and255 _⟩
    · rw [fdF_lo (by omega), q2 i (by omega), h272]
      exact h.1.2.1 i hi
theorem t_C_end {n : Int} : tB G mX11_end 0 [vR 1, vI n] [] d (fun r d' => (¬ (0 ≤ n ∧ n ≤ d 2 1) ∧ r = some (vI (-1)) ∧ d = d') ∨ ((0 ≤ n ∧ n ≤ d 2 1) ∧ r = some (vI n) ∧ d' = up d 2 1 n)) := by
  refine T_iload_n dX11_end_0 rfl ?_
  refine T_if_lt (tgt := 15) dX11_end_1 (by decide) (fun c1 => ?_) (fun c1 => ?_)
  · refine T_iconst dX11_end_15 (by decide) ?_
    exact T_ireturn dX11_end_16 rfl (Or.inl ⟨by omega, rfl, rfl⟩)
  · refine T_iload_n dX11_end_4 rfl ?_
    refine T_aload_n dX11_end_5 rfl ?_
    refine T_getR dX11_end_6 fX11_10 rfl k1 r1_0 ?_
    refine T_getI dX11_end_9 fX11_77 rfl k2 ?_
    refine T_icmp_le (tgt := 17) dX11_end_12 (by decide) (fun c12 => ?_) (fun c12 => ?_)
    · refine T_aload_n dX11_end_17 rfl ?_
      refine T_getR dX11_end_18 fX11_10 rfl k1 r1_0 ?_
      refine T_iload_n dX11_end_21 rfl ?_
      refine T_putI dX11_end_22 fX11_77 rfl k2 ?_
      refine T_iload_n dX11_end_25 rfl ?_
      exact T_ireturn dX11_end_26 rfl (Or.inr ⟨by omega, rfl, rfl⟩)
    · refine T_iconst dX11_end_15 (by decide) ?_
      exact T_ireturn dX11_end_16 rfl (Or.inl ⟨by omega, rfl, rfl⟩)

theorem IV_end {n : Int} (h : IV d) (hn : 0 ≤ n ∧ n ≤ d 2 1) : IV (up (up d 2 1 n) 272 4 n) := by
  have h1 := h.1.1
  refine IV_now h (fun b' j hb => by rw [up_nea (by omega), up_nea (by omega)]) (fun x hx => by rw [up_nej (by omega), up_nea (by decide)]) (funext fun j => by rw [up_nea (by decide), up_nea (by decide)]) ?_ (fun i hi => ?_)
  · have a1 : up (up d 2 1 n) 272 4 n 2 1 = n := by rw [up_nea (by decide), up_same]
    have a2 : up (up d 2 1 n) 272 4 n 2 2 = d 2 2 := by rw [up_nea (by decide), up_nej (by decide)]
    have a3 : up (up d 2 1 n) 272 4 n 2 3 = d 2 3 := by rw [up_nea (by decide), up_nej (by decide)]
    have a4 : up (up d 2 1 n) 272 4 n 272 4 = n := up_same
    have a5 : up (up d 2 1 n) 272 4 n 272 5 = d 272 5 := by rw [up_nej (by decide), up_nea (by decide)]
    have a6 : up (up d 2 1 n) 272 4 n 272 6 = d 272 6 := by rw [up_nej (by decide), up_nea (by decide)]
    rw [a1, a2, a3, a4, a5, a6]
    exact ⟨⟨rfl, by omega, by omega⟩, h1.2⟩
  · rw [up_nea (by decide), up_nea (by decide), up_nej (by omega), up_nea (by decide)]
    exact h.1.2.1 i hi
theorem t_C_fault {x : Int} : tB G mX11_fault 0 [vR 1, vI x] [] d (fun r d' => r = some (vI (if x = 0 then d 2 2 else if x = 1 then d 2 3 else -1)) ∧ d = d') := by
  refine T_iload_n dX11_fault_0 rfl ?_
  refine T_if_ne (tgt := 12) dX11_fault_1 (by decide) (fun c1 => ?_) (fun c1 => ?_)
  · refine T_iload_n dX11_fault_12 rfl ?_
    refine T_iconst dX11_fault_13 (by decide) ?_
    refine T_icmp_ne (tgt := 27) dX11_fault_14 (by decide) (fun c14 => ?_) (fun c14 => ?_)
    · refine T_iconst dX11_fault_27 (by decide) ?_
      exact T_ireturn dX11_fault_28 rfl ⟨by rw [if_neg c1, if_neg c14], rfl⟩
    · refine T_aload_n dX11_fault_17 rfl ?_
      refine T_getR dX11_fault_18 fX11_10 rfl k1 r1_0 ?_
      refine T_getI dX11_fault_21 fX11_88 rfl k2 ?_
      refine T_goto (tgt := 28) dX11_fault_24 (by decide) ?_
      exact T_ireturn dX11_fault_28 rfl ⟨by rw [if_neg c1, if_pos c14], rfl⟩
  · refine T_aload_n dX11_fault_4 rfl ?_
    refine T_getR dX11_fault_5 fX11_10 rfl k1 r1_0 ?_
    refine T_getI dX11_fault_8 fX11_85 rfl k2 ?_
    exact T_ireturn dX11_fault_11 rfl ⟨by rw [if_pos c1], rfl⟩

theorem t_C_count {s : Int} : tB G mX11_count 0 [vR 1, vI s] [] d (fun r d' => r = some (vI (if 0 ≤ s ∧ s ≤ 3 then d 4 s.toNat else -2)) ∧ d = d') := by
  refine T_iload_n dX11_count_0 rfl ?_
  refine T_callS dX11_count_1 lX11_91 (As := [_]) (rest := _) rfl rfl (by decide) (Nat.le_of_ble_eq_true rfl) (Nat.le_of_ble_eq_true rfl) t_isSort ?_
  rintro _ _ ⟨rfl, rfl⟩
  refine T_if_eq (tgt := 19) dX11_count_4 (by decide) (fun c4 => ?_) (fun c4 => ?_)
  · have h4 := bI_0 c4
    refine T_bipush dX11_count_19 (by decide) ?_
    exact T_ireturn dX11_count_21 rfl ⟨by rw [if_neg h4], rfl⟩
  · have h4 := bI_1 c4
    refine T_aload_n dX11_count_7 rfl ?_
    refine T_getR dX11_count_8 fX11_10 rfl k1 r1_0 ?_
    refine T_getR dX11_count_11 fX11_113 rfl k2 r2_4 ?_
    refine T_iload_n dX11_count_14 rfl ?_
    refine T_iald dX11_count_15 k4 l4 (by omega) rfl ?_
    refine T_goto (tgt := 21) dX11_count_16 (by decide) ?_
    exact T_ireturn dX11_count_21 rfl ⟨by rw [if_pos h4], rfl⟩

theorem kn_i : ∀ k, k < 3 → kn S0 (112 + 49 * k) = 8 ∧ rf0 51 k = 112 + 49 * k := by decide +kernel
theorem t_C_image {k : Int} : tB G mX11_image 0 [vR 1, vI k] [] d (fun r d' => (¬ (0 ≤ k ∧ k ≤ 2) ∧ r = some (vI 0) ∧ d = d') ∨ ((0 ≤ k ∧ k ≤ 2) ∧ r = some (vI 1) ∧ ∃ d1, d' = up d1 52 k.toNat 1 ∧ TE d 2 d1 (112 + 49 * k.toNat) ∧ Fr (112 + 49 * k.toNat) (160 + 49 * k.toNat) d d1)) := by
  refine T_iload_n dX11_image_0 rfl ?_
  refine T_if_lt (tgt := 9) dX11_image_1 (by decide) (fun c1 => ?_) (fun c1 => ?_)
  · refine T_iconst dX11_image_9 (by decide) ?_
    exact T_zreturn dX11_image_10 rfl (by omega) (Or.inl ⟨by omega, rfl, rfl⟩)
  · refine T_iload_n dX11_image_4 rfl ?_
    refine T_iconst dX11_image_5 (by decide) ?_
    refine T_icmp_lt (tgt := 11) dX11_image_6 (by decide) (fun c6 => ?_) (fun c6 => ?_)
    · refine T_aload_n dX11_image_11 rfl ?_
      refine T_getR dX11_image_12 fX11_16 rfl k1 r1_1 ?_
      refine T_iload_n dX11_image_15 rfl ?_
      refine T_aald dX11_image_16 k51 (by decide) l51 (by omega) (kn_i k.toNat (by omega)).2 ?_
      refine T_aload_n dX11_image_17 rfl ?_
      refine T_getR dX11_image_18 fX11_10 rfl k1 r1_0 ?_
      refine T_callV dX11_image_21 lX11_456 (As := [_]) (rest := _) rfl rfl (kn_i k.toNat (by omega)).1 (by decide) (Nat.le_of_ble_eq_true rfl) (Nat.le_of_ble_eq_true rfl) (t_tcopy (kn_i k.toNat (by omega)).1 k2 (by omega)) ?_
      rintro _ d1 ⟨rfl, e1, f1⟩
      refine T_aload_n dX11_image_24 rfl ?_
      refine T_getR dX11_image_25 fX11_20 rfl k1 r1_2 ?_
      refine T_iload_n dX11_image_28 rfl ?_
      refine T_iconst dX11_image_29 (by decide) ?_
      refine T_zast dX11_image_30 k52 l52 (by omega) rfl (by omega) ?_
      refine T_iconst dX11_image_31 (by decide) ?_
      exact T_zreturn dX11_image_32 rfl (by omega) (Or.inr ⟨by omega, rfl, d1, rfl, e1, f1.mono (by omega)⟩)
    · refine T_iconst dX11_image_9 (by decide) ?_
      exact T_zreturn dX11_image_10 rfl (by omega) (Or.inl ⟨by omega, rfl, rfl⟩)

theorem t_C_again {k : Int} : tB G mX11_again 0 [vR 1, vI k] [] d (fun r d' => (¬ ((0 ≤ k ∧ k ≤ 2) ∧ ¬ d 52 k.toNat = 0) ∧ r = some (vI 0) ∧ d = d') ∨ (((0 ≤ k ∧ k ≤ 2) ∧ ¬ d 52 k.toNat = 0) ∧ r = some (vI 1) ∧ TE d (112 + 49 * k.toNat) d' 2 ∧ Fr 2 50 d d')) := by
  refine T_iload_n dX11_again_0 rfl ?_
  refine T_if_lt (tgt := 18) dX11_again_1 (by decide) (fun c1 => ?_) (fun c1 => ?_)
  · refine T_iconst dX11_again_18 (by decide) ?_
    exact T_zreturn dX11_again_19 rfl (by omega) (Or.inl ⟨by omega, rfl, rfl⟩)
  · refine T_iload_n dX11_again_4 rfl ?_
    refine T_iconst dX11_again_5 (by decide) ?_
    refine T_icmp_ge (tgt := 18) dX11_again_6 (by decide) (fun c6 => ?_) (fun c6 => ?_)
    · refine T_iconst dX11_again_18 (by decide) ?_
      exact T_zreturn dX11_again_19 rfl (by omega) (Or.inl ⟨by omega, rfl, rfl⟩)
    · refine T_aload_n dX11_again_9 rfl ?_
      refine T_getR dX11_again_10 fX11_20 rfl k1 r1_2 ?_
      refine T_iload_n dX11_again_13 rfl ?_
      refine T_zald dX11_again_14 k52 l52 (by omega) rfl ?_
      refine T_if_ne (tgt := 20) dX11_again_15 (by decide) (fun c15 => ?_) (fun c15 => ?_)
      · refine T_aload_n dX11_again_20 rfl ?_
        refine T_getR dX11_again_21 fX11_10 rfl k1 r1_0 ?_
        refine T_aload_n dX11_again_24 rfl ?_
        refine T_getR dX11_again_25 fX11_16 rfl k1 r1_1 ?_
        refine T_iload_n dX11_again_28 rfl ?_
        refine T_aald dX11_again_29 k51 (by decide) l51 (by omega) (kn_i k.toNat (by omega)).2 ?_
        refine T_callV dX11_again_30 lX11_456 (As := [_]) (rest := _) rfl rfl k2 (by decide) (Nat.le_of_ble_eq_true rfl) (Nat.le_of_ble_eq_true rfl) (t_tcopy k2 (kn_i k.toNat (by omega)).1 (by omega)) ?_
        rintro _ d1 ⟨rfl, e1, f1⟩
        refine T_iconst dX11_again_33 (by decide) ?_
        exact T_zreturn dX11_again_34 rfl (by omega) (Or.inr ⟨⟨by omega, c15⟩, rfl, e1, f1⟩)
      · refine T_iconst dX11_again_18 (by decide) ?_
        exact T_zreturn dX11_again_19 rfl (by omega) (Or.inl ⟨fun q => q.2 c15, rfl, rfl⟩)

theorem imF_272 {k x : Nat} : imF d k 934 272 x = if 934 * (k + 1) ≤ x ∧ x < 934 * (k + 1) + 934 then d 272 (x - 934 * (k + 1)) else d 272 x := by
  unfold imF ups
  by_cases z : 934 * (k + 1) ≤ x ∧ x < 934 * (k + 1) + 934
  · rw [if_pos ⟨rfl, z⟩, if_pos z]
  · rw [if_neg (fun q => z q.2), if_neg z]
theorem IV_image {d1 : sD} {k : Nat} (h : IV d) (hk : k < 3) (e : TE d 2 d1 (112 + 49 * k)) (hF : Fr (112 + 49 * k) (160 + 49 * k) d d1) : IV (imF (up (up d1 52 k 1) 273 k 1) k 934) := by
  have n1 : ∀ b j, b ≠ 272 → b ≠ 52 → b ≠ 273 → imF (up (up d1 52 k 1) 273 k 1) k 934 b j = d1 b j := fun b j hb h2 h3 => by unfold imF; rw [ups_nea hb, up_nea h3, up_nea h2]
  have h272 : ∀ x, up (up d1 52 k 1) 273 k 1 272 x = d 272 x := fun x => by rw [up_nea (by decide), up_nea (by decide)]; exact hF 272 x (by omega)
  have lo : ∀ x, x < 934 → imF (up (up d1 52 k 1) 273 k 1) k 934 272 x = d 272 x := fun x hx => by rw [imF_272, if_neg (by omega), h272]
  refine ⟨TRf_cg (fun x hx => (lo x hx).symm) (TRf_eq h.1 (fun x j hx => by rw [n1 _ _ (by omega) (by omega) (by omega)]; exact hF _ _ (by omega))), fun q hq => ⟨?_, fun hn => ?_⟩⟩
  · have a1 : imF (up (up d1 52 k 1) 273 k 1) k 934 52 q = up d1 52 k 1 52 q := by unfold imF; rw [ups_nea (by decide), up_nea (by decide)]
    have a2 : imF (up (up d1 52 k 1) 273 k 1) k 934 273 q = up d1 273 k 1 273 q := by
      unfold imF; rw [ups_nea (by decide)]
      by_cases z : q = k
      · subst z; rw [up_same, up_same]
      · rw [up_nej z, up_nej z, up_nej z]
    rw [a1, a2]
    by_cases z : q = k
    · subst z; rw [up_same, up_same]; exact ⟨rfl, Or.inr rfl⟩
    · rw [up_nej z, up_nej z, hF _ _ (by omega), hF _ _ (by omega)]; exact (h.2 q hq).1
  · by_cases z : q = k
    · subst z
      refine TRf_cg (f := d 272) (fun x hx => ?_) (TRf_eq (TRf_TE h.1 e) (fun x j hx => n1 _ _ (by omega) (by omega) (by omega)))
      show _ = imF (up (up d1 52 q 1) 273 q 1) q 934 272 (934 * (q + 1) + x)
      rw [imF_272, if_pos (by omega), h272, show 934 * (q + 1) + x - 934 * (q + 1) = x by omega]
    · have a2 : imF (up (up d1 52 k 1) 273 k 1) k 934 273 q = d 273 q := by
        unfold imF; rw [ups_nea (by decide), up_nej z, up_nea (by decide)]; exact hF _ _ (by omega)
      rw [a2] at hn
      refine TRf_cg (f := blk d (934 * (q + 1))) (fun x hx => ?_) (TRf_eq ((h.2 q hq).2 hn) (fun x j hx => by rw [n1 _ _ (by omega) (by omega) (by omega)]; exact hF _ _ (by omega)))
      show d 272 (934 * (q + 1) + x) = imF (up (up d1 52 k 1) 273 k 1) k 934 272 (934 * (q + 1) + x)
      rw [imF_272, if_neg (by omega), h272]
theorem agF_272 {k x : Nat} : agF d k 934 272 x = if x < 934 then d 272 (934 * (k + 1) + x) else d 272 x := by
  unfold agF ups
  by_cases z : x < 934
  · rw [if_pos ⟨rfl, Nat.zero_le _, z⟩, if_pos z]
  · rw [if_neg (fun q => z q.2.2), if_neg z]
theorem IV_again {d1 : sD} {k : Nat} (h : IV d) (hk : k < 3) (hn : ¬ d 52 k = 0) (e : TE d (112 + 49 * k) d1 2) (hF : Fr 2 50 d d1) : IV (agF d1 k 934) := by
  have n1 : ∀ b j, b ≠ 272 → agF d1 k 934 b j = d1 b j := fun b j hb => by unfold agF; rw [ups_nea hb]
  have h272 : ∀ x, d1 272 x = d 272 x := fun x => hF 272 x (by omega)
  have hn3 : ¬ d 273 k = 0 := by rw [← (h.2 k hk).1.1]; exact hn
  refine ⟨?_, fun q hq => ⟨?_, fun hq2 => ?_⟩⟩
  · refine TRf_cg (f := blk d (934 * (k + 1))) (fun x hx => ?_) (TRf_eq (TRf_TE ((h.2 k hk).2 hn3) e) (fun x j hx => n1 _ _ (by omega)))
    rw [agF_272, if_pos hx, h272]
  · rw [n1 _ _ (by decide), n1 _ _ (by decide), hF _ _ (by omega), hF _ _ (by omega)]; exact (h.2 q hq).1
  · rw [n1 _ _ (by decide), hF _ _ (by omega)] at hq2
    refine TRf_cg (f := blk d (934 * (q + 1))) (fun x hx => ?_) (TRf_eq ((h.2 q hq).2 hq2) (fun x j hx => by rw [n1 _ _ (by omega)]; exact hF _ _ (by omega)))
    show d 272 (934 * (q + 1) + x) = agF d1 k 934 272 (934 * (q + 1) + x)
    rw [agF_272, if_neg (by omega), h272]
end C25
