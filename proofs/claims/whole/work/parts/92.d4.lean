/-! the class: bits are counted; bribes -/
section C13
variable {G : sG} {d d' : sD} {w g s t h x y r : Nat → Int} {wo ho so se e n a : Nat}
def bc1 (x : Int) : Int := w32 (x - i_and (i_ushr x 1) 1431655765)
def bc2 (x : Int) : Int := w32 (i_and x 858993459 + i_and (i_ushr x 2) 858993459)
def bc3 (x : Int) : Int := i_and (w32 (x + i_ushr x 4)) 252645135
def bc4 (x : Int) : Int := w32 (x + i_ushr x 8)
def bc5 (x : Int) : Int := w32 (x + i_ushr x 16)
def bcE (x : Int) : Int := i_and (bc5 (bc4 (bc3 (bc2 (bc1 x))))) 63
theorem t_bitCount {x : Int} : tB G mJ6_bitCount_0f7a4 0 [vI x] [] d (fun r d' => r = some (vI (bcE x)) ∧ d = d') := by
  refine T_iload_n dJ6_bitCount_0f7a4_0 rfl ?_
  refine T_iload_n dJ6_bitCount_0f7a4_1 rfl ?_
  refine T_iconst dJ6_bitCount_0f7a4_2 (by decide) ?_
  refine T_iushr dJ6_bitCount_0f7a4_3 ?_
  refine T_ldcw dJ6_bitCount_0f7a4_4 (by decide) kJ6_265 ?_
  refine T_iand dJ6_bitCount_0f7a4_7 ?_
  refine T_isub dJ6_bitCount_0f7a4_8 ?_
  refine T_ist_n dJ6_bitCount_0f7a4_9 (by decide) rfl ?_
  refine T_iload_n dJ6_bitCount_0f7a4_10 rfl ?_
  refine T_ldcw dJ6_bitCount_0f7a4_11 (by decide) kJ6_266 ?_
  refine T_iand dJ6_bitCount_0f7a4_14 ?_
  refine T_iload_n dJ6_bitCount_0f7a4_15 rfl ?_
  refine T_iconst dJ6_bitCount_0f7a4_16 (by decide) ?_
  refine T_iushr dJ6_bitCount_0f7a4_17 ?_
  refine T_ldcw dJ6_bitCount_0f7a4_18 (by decide) kJ6_266 ?_
  refine T_iand dJ6_bitCount_0f7a4_21 ?_
  refine T_iadd dJ6_bitCount_0f7a4_22 ?_
  refine T_ist_n dJ6_bitCount_0f7a4_23 (by decide) rfl ?_
  refine T_iload_n dJ6_bitCount_0f7a4_24 rfl ?_
  refine T_iload_n dJ6_bitCount_0f7a4_25 rfl ?_
  refine T_iconst dJ6_bitCount_0f7a4_26 (by decide) ?_
  refine T_iushr dJ6_bitCount_0f7a4_27 ?_
  refine T_iadd dJ6_bitCount_0f7a4_28 ?_
  refine T_ldcw dJ6_bitCount_0f7a4_29 (by decide) kJ6_267 ?_
  refine T_iand dJ6_bitCount_0f7a4_32 ?_
  refine T_ist_n dJ6_bitCount_0f7a4_33 (by decide) rfl ?_
  refine T_iload_n dJ6_bitCount_0f7a4_34 rfl ?_
  refine T_iload_n dJ6_bitCount_0f7a4_35 rfl ?_
  refine T_bipush dJ6_bitCount_0f7a4_36 (by decide) ?_
  refine T_iushr dJ6_bitCount_0f7a4_38 ?_
  refine T_iadd dJ6_bitCount_0f7a4_39 ?_
  refine T_ist_n dJ6_bitCount_0f7a4_40 (by decide) rfl ?_
  refine T_iload_n dJ6_bitCount_0f7a4_41 rfl ?_
  refine T_iload_n dJ6_bitCount_0f7a4_42 rfl ?_
  refine T_bipush dJ6_bitCount_0f7a4_43 (by decide) ?_
  refine T_iushr dJ6_bitCount_0f7a4_45 ?_
  refine T_iadd dJ6_bitCount_0f7a4_46 ?_
  refine T_ist_n dJ6_bitCount_0f7a4_47 (by decide) rfl ?_
  refine T_iload_n dJ6_bitCount_0f7a4_48 rfl ?_
  refine T_bipush dJ6_bitCount_0f7a4_49 (by decide) ?_
  refine T_iand dJ6_bitCount_0f7a4_51 ?_
  exact T_ireturn dJ6_bitCount_0f7a4_52 rfl ⟨rfl, rfl⟩

theorem bvN {a : Nat} (ha : a < 4294967296) : (Int32.ofInt (a : Int)).toBitVec.toNat = a := by
  show (BitVec.ofInt 32 (a : Int)).toNat = a
  rw [BitVec.toNat_ofInt]; omega
theorem andN {a b : Nat} (ha : a < 2147483648) (hb : b < 2147483648) : i_and (a : Int) (b : Int) = ((a &&& b : Nat) : Int) := by
  have e : i_and (a : Int) (b : Int) = ((Int32.ofInt (a : Int)).toBitVec &&& (Int32.ofInt (b : Int)).toBitVec).toInt := rfl
  have hle : a &&& b ≤ a := Nat.and_le_left
  rw [e, BitVec.toInt_eq_toNat_cond, BitVec.toNat_and, bvN (by omega), bvN (by omega), if_pos (by omega)]
theorem ushN {a k : Nat} (ha : a < 2147483648) (hk : k < 32) : i_ushr (a : Int) (k : Int) = ((a / 2 ^ k : Nat) : Int) := by
  have h31 : ∀ k : Nat, k < 32 → k &&& 31 = k := by decide
  have e : i_ushr (a : Int) (k : Int) = ((Int32.ofInt (a : Int)).toUInt32 >>> ((Int32.ofInt (k : Int)).toUInt32 &&& Int32.toUInt32 31)).toBitVec.toInt := rfl
  have e2 : ((Int32.ofInt (a : Int)).toUInt32 >>> ((Int32.ofInt (k : Int)).toUInt32 &&& Int32.toUInt32 31)).toNat = a / 2 ^ k := by
    rw [UInt32.toNat_shiftRight, UInt32.toNat_and, show ((Int32.ofInt (a : Int)).toUInt32).toNat = a from bvN (by omega), show ((Int32.ofInt (k : Int)).toUInt32).toNat = k from bvN (by omega), show (Int32.toUInt32 31).toNat = 31 from rfl, h31 k hk, Nat.mod_eq_of_lt hk, Nat.shiftRight_eq_div_pow]
  have hle : a / 2 ^ k ≤ a := Nat.div_le_self _ _
  rw [e, BitVec.toInt_eq_toNat_cond]
  have e3 : ((Int32.ofInt (a : Int)).toUInt32 >>> ((Int32.ofInt (k : Int)).toUInt32 &&& Int32.toUInt32 31)).toBitVec.toNat = a / 2 ^ k := e2
  rw [e3, if_pos (by omega)]
theorem shrN {a k : Nat} (ha : a < 2147483648) (hk : k < 32) : i_shr (a : Int) (k : Int) = ((a / 2 ^ k : Nat) : Int) := by
  have h31 : ∀ k : Nat, k < 32 → ((Int32.ofInt (k : Int) &&& 31).toBitVec.smod 32).toNat = k := by decide +kernel
  have e : i_shr (a : Int) (k : Int) = ((Int32.ofInt (a : Int)).toBitVec.sshiftRight ((Int32.ofInt (k : Int) &&& 31).toBitVec.smod 32).toNat).toInt := rfl
  rw [e, h31 k hk, BitVec.toInt_sshiftRight]
  have e2 : (Int32.ofInt (a : Int)).toBitVec.toInt = (a : Int) := by rw [BitVec.toInt_eq_toNat_cond, bvN (by omega), if_pos (by omega)]
  rw [e2, Int.shiftRight_eq_div_pow]; rfl
def bN1 (x : Nat) : Nat := x - (x / 2 ^ 1 &&& 1431655765)
def bN2 (x : Nat) : Nat := (x &&& 858993459) + (x / 2 ^ 2 &&& 858993459)
def bN3 (x : Nat) : Nat := (x + x / 2 ^ 4) &&& 252645135
def bN4 (x : Nat) : Nat := x + x / 2 ^ 8
def bN5 (x : Nat) : Nat := x + x / 2 ^ 16
def bNE (x : Nat) : Nat := bN5 (bN4 (bN3 (bN2 (bN1 x)))) &&& 63
theorem bcE_N {c : Nat} (hc : c < 16777216) : bcE (c : Int) = ((bNE c : Nat) : Int) := by
  have l1 : bN1 c ≤ c := Nat.sub_le _ _
  have s1 : bc1 (c : Int) = ((bN1 c : Nat) : Int) := by
    have q : (c / 2 ^ 1 &&& 1431655765) ≤ c / 2 ^ 1 := Nat.and_le_left
    unfold bc1 bN1
    rw [show (1 : Int) = ((1 : Nat) : Int) from rfl, show (1431655765 : Int) = ((1431655765 : Nat) : Int) from rfl, ushN (by omega) (by decide), andN (by omega) (by omega), w32_id (by omega) (by omega)]
    omega
  have l2 : bN2 (bN1 c) ≤ 2 * bN1 c := by
    have q : (bN1 c &&& 858993459) ≤ bN1 c := Nat.and_le_left
    have q2 : (bN1 c / 2 ^ 2 &&& 858993459) ≤ bN1 c / 2 ^ 2 := Nat.and_le_left
    unfold bN2; omega
  have s2 : bc2 ((bN1 c : Nat) : Int) = ((bN2 (bN1 c) : Nat) : Int) := by
    have l2' := l2
    unfold bc2
    rw [show (2 : Int) = ((2 : Nat) : Int) from rfl, show (858993459 : Int) = ((858993459 : Nat) : Int) from rfl, ushN (by omega) (by decide), andN (by omega) (by omega), andN (by omega) (by omega)]
    unfold bN2 at l2' ⊢
    rw [w32_id (by omega) (by omega)]; omega
  have l3 : bN3 (bN2 (bN1 c)) ≤ 2 * bN2 (bN1 c) := by
    have q : ((bN2 (bN1 c) + bN2 (bN1 c) / 2 ^ 4) &&& 252645135) ≤ bN2 (bN1 c) + bN2 (bN1 c) / 2 ^ 4 := Nat.and_le_left
    unfold bN3; omega
  have s3 : bc3 ((bN2 (bN1 c) : Nat) : Int) = ((bN3 (bN2 (bN1 c)) : Nat) : Int) := by
    unfold bc3 bN3
    rw [show (4 : Int) = ((4 : Nat) : Int) from rfl, show (252645135 : Int) = ((252645135 : Nat) : Int) from rfl, ushN (by omega) (by decide), w32_id (by omega) (by omega), ← Int.natCast_add, andN (by omega) (by omega)]
  have l4 : bN4 (bN3 (bN2 (bN1 c))) ≤ 2 * bN3 (bN2 (bN1 c)) := by unfold bN4; omega
  have s4 : bc4 ((bN3 (bN2 (bN1 c)) : Nat) : Int) = ((bN4 (bN3 (bN2 (bN1 c))) : Nat) : Int) := by
    unfold bc4 bN4
    rw [show (8 : Int) = ((8 : Nat) : Int) from rfl, ushN (by omega) (by decide), w32_id (by omega) (by omega), ← Int.natCast_add]
  have l5 : bN5 (bN4 (bN3 (bN2 (bN1 c)))) ≤ 2 * bN4 (bN3 (bN2 (bN1 c))) := by unfold bN5; omega
  have s5 : bc5 ((bN4 (bN3 (bN2 (bN1 c))) : Nat) : Int) = ((bN5 (bN4 (bN3 (bN2 (bN1 c)))) : Nat) : Int) := by
    unfold bc5 bN5
    rw [show (16 : Int) = ((16 : Nat) : Int) from rfl, ushN (by omega) (by decide), w32_id (by omega) (by omega), ← Int.natCast_add]
  unfold bcE bNE
  rw [s1, s2, s3, s4, s5, show (63 : Int) = ((63 : Nat) : Int) from rfl, andN (by omega) (by omega)]
def btN (c : Nat) : Nat → Nat
  | 0 => 0
  | k + 1 => btN c k + c / 2 ^ k % 2
theorem btS_N {c : Nat} (hc : c < 2147483648) : btS (c : Int) = ((btN c 24 : Nat) : Int) := by
  have : ∀ k : Nat, k ≤ 24 → sumN (fun k => i_and (i_shr (c : Int) k) 1) k = ((btN c k : Nat) : Int) := by
    intro k
    induction k with
    | zero => intro _; rfl
    | succ k ih =>
      intro hk
      have hle : c / 2 ^ k ≤ c := Nat.div_le_self _ _
      show sumN _ k + i_and (i_shr (c : Int) k) 1 = ((btN c k + c / 2 ^ k % 2 : Nat) : Int)
      rw [ih (by omega), shrN hc (by omega), show (1 : Int) = ((1 : Nat) : Int) from rfl, andN (by omega) (by omega), Nat.and_one_is_mod, Int.natCast_add]
  exact this 24 (Nat.le_refl _)
theorem bN_bt0 : ∀ p : Nat, p < 64 → ∀ q : Nat, q < 64 → bNE (64 * p + q) = btN (64 * p + q) 24 := by decide +kernel
theorem bc_bt {c : Nat} (hc : c < 4096) : bcE (c : Int) = btS (c : Int) := by
  have := bN_bt0 (c / 64) (by omega) (c % 64) (by omega)
  rw [show 64 * (c / 64) + c % 64 = c by omega] at this
  rw [bcE_N (by omega), btS_N (by omega), this]
theorem bbN_rg (f : Nat → Prop) [DecidablePred f] : ∀ k, bbN f k = -1 ∨ ∃ c : Nat, bbN f k = (c : Int) ∧ c < k
  | 0 => Or.inl rfl
  | k + 1 => by
    show (if f k ∧ (bbN f k = -1 ∨ btS k < btS (bbN f k)) then (k : Int) else bbN f k) = -1 ∨ ∃ c : Nat, (if f k ∧ (bbN f k = -1 ∨ btS k < btS (bbN f k)) then (k : Int) else bbN f k) = (c : Int) ∧ c < k + 1
    by_cases q : f k ∧ (bbN f k = -1 ∨ btS k < btS (bbN f k))
    · rw [if_pos q]; exact Or.inr ⟨k, rfl, by omega⟩
    · rw [if_neg q]
      rcases bbN_rg f k with z | ⟨c, z, z2⟩
      · exact Or.inl z
      · exact Or.inr ⟨c, z, by omega⟩
theorem t_explains {x : Int} (hw : kn S0 wo = 10) (hh : kn S0 ho = 4) (hO : Wo d wo w) (hV : WV w) (hH : Ho d ho h) (hHV : HV h) (hn : d 81 5 = (n : Int)) (hn24 : n ≤ 24) (hr : ∀ j, j < n → d 82 j = rB w g j) (hG : GV g) : tB G mX11_explains 0 [vR 1, vR wo, vR ho, vI x] [] d (fun r d' => r = some (vI (bI (soK w (bsS w g n x) n h 2))) ∧ Cf d d' ∧ (∀ b j, b < 84 → 78 ≤ b → d' b j = d b j)) := by
  have hat := at_W hw
  have hah := at_H hh
  refine T_aload_n dX11_explains_0 rfl ?_
  refine T_getR dX11_explains_1 fX11_41 rfl k1 r1_5 ?_
  refine T_iload_n dX11_explains_4 rfl ?_
  refine T_callV dX11_explains_5 lX11_329 (As := [_]) (rest := _) rfl rfl k81 (by decide) (Nat.le_of_ble_eq_true rfl) (Nat.le_of_ble_eq_true rfl) (t_hush (r := rB w g) hn hn24 hr) ?_
  rintro _ d1 ⟨rfl, e1, f1⟩
  refine T_aload_n dX11_explains_8 rfl ?_
  refine T_aload_n dX11_explains_9 rfl ?_
  refine T_aload_n dX11_explains_10 rfl ?_
  refine T_callV dX11_explains_11 lX11_332 (As := [_, _]) (rest := _) rfl rfl k1 (by decide) (Nat.le_of_ble_eq_true rfl) (Nat.le_of_ble_eq_true rfl) (t_soundsAsTold (t := brB w g x) hw hh (Wo_fr hO f1 (by omega)) hV (Ho_fr hH f1 (by omega)) hHV (by rw [f1 81 5 (by omega)]; exact hn) hn24 (fun i hi => ⟨e1 i hi, by have := rB_rg (w := w) hG i; unfold brB; split <;> omega⟩)) ?_
  rintro _ d2 ⟨rfl, f2⟩
  exact T_zreturn dX11_explains_14 rfl (bI_01 _) ⟨rfl, (f1.cf (by omega)).trans f2.cf, fun b j h1 h2 => by rw [f2 b j (by omega), f1 b j (by omega)]⟩

theorem t_C_bribes {k l t x : Int} (hM : MS d) (hC : CS d) : tB G mX11_bribes 0 [vR 1, vI k, vI l, vI t, vI x, vU 0, vU 0, vU 0, vU 0, vU 0, vU 0, vU 0] [] d (cQ d (if Vph d k l t then qBribes (wvD d k.toNat) (gvD d l.toNat) (hvD d t.toNat) x else -1)) := by
  have hc0 := hM.1 0 (by decide)
  have hc1 := hM.1 1 (by decide)
  have hc2 := hM.1 2 (by decide)
  have h21 : ∀ r6 r7 r8 : Nat, r6 = (if Vd d 0 k then 9 + 21 * k.toNat else 0) → r7 = (if Vd d 1 l then 19 + 21 * l.toNat else 0) → r8 = (if Vd d 2 t then 22 + 21 * t.toNat else 0) → tB G mX11_bribes 21 [vR 1, vI k, vI l, vI t, vI x, vR r6, vR r7, vR r8, vU 0, vU 0, vU 0, vU 0] [] d (cQ d (if Vph d k l t then qBribes (wvD d k.toNat) (gvD d l.toNat) (hvD d t.toNat) x else -1)) := by
    intro r6 r7 r8 e6 e7 e8
    have h49 : Vph d k l t → (0 ≤ x ∧ x ≤ 2) → tB G mX11_bribes 49 [vR 1, vI k, vI l, vI t, vI x, vR r6, vR r7, vR r8, vU 0, vU 0, vU 0, vU 0] [] d (cQ d (if Vph d k l t then qBribes (wvD d k.toNat) (gvD d l.toNat) (hvD d t.toNat) x else -1)) := by
      intro hv hx
      rw [if_pos hv.1.1] at e6
      rw [if_pos hv.1.2] at e7
      rw [if_pos hv.2] at e8
      subst e6; subst e7; subst e8
      have hw := (kn_w k.toNat (by omega)).1
      have hs := (kn_s l.toNat (by omega)).1
      have hh := (kn_h t.toNat (by omega)).1
      have hO := hC.2.1 k.toNat (by omega)
      have hS := hC.2.2.1 l.toNat (by omega)
      have hH := hC.2.2.2.1 t.toNat (by omega)
      have hV := hM.2.1 k.toNat (by omega)
      have hG := hM.2.2.1 l.toNat (by omega)
      have hHV := hM.2.2.2.1 t.toNat (by omega)
      rw [if_pos hv]
      have hat := at_W hw
      have hah := at_H hh
      generalize wvD d k.toNat = w at *
      generalize gvD d l.toNat = g at *
      generalize hvD d t.toNat = h at *
      have hwv := hV.1
      have hlen := rowS_24 hV hG
      unfold qBribes
      have h77 : ∀ (n : Nat) (d1 : sD), (rowS w g).length = n → n ≤ 12 → Dl d1 (rowS w g) → Cf d d1 → tB G mX11_bribes 77 [vR 1, vI k, vI l, vI t, vI x, vR (9 + 21 * k.toNat), vR (19 + 21 * l.toNat), vR (22 + 21 * t.toNat), vU 0, vU 0, vU 0, vU 0] [] d1 (cQ d (qBr w g h n x)) := by
        intro n d1 hn hn12 e1 f1
        have hp := pow2 n (by omega)
        have hle : d1 81 5 = (n : Int) := by rw [e1.1, hn]
        have hgi : ∀ j, j < n → d1 82 j = rB w g j := fun j hj => (e1.2 j (by omega)).1
        have hq : qBr w g h n x = if x = 0 then cnN (okB w g h n) (2 ^ n) else if bbN (okB w g h n) (2 ^ n) = -1 ∨ x = 2 then bbN (okB w g h n) (2 ^ n) else btS (bbN (okB w g h n) (2 ^ n)) := by
          unfold qBr
          rw [if_neg (by omega), if_neg (by omega)]
        rw [hq]
        clear hq
        have h95 : ∀ z : Nat × sD, (z.1 ≤ 2 ^ n ∧ z.2 81 5 = (n : Int) ∧ (∀ j, j < n → z.2 82 j = rB w g j) ∧ Cf d z.2) → tB G mX11_bribes 95 [vR 1, vI k, vI l, vI t, vI x, vR (9 + 21 * k.toNat), vR (19 + 21 * l.toNat), vR (22 + 21 * t.toNat), vI (rsM (rB w g) n), vI (cnN (okB w g h n) z.1), vI (bbN (okB w g h n) z.1), vI z.1] [] (z.2) (cQ d (if x = 0 then cnN (okB w g h n) (2 ^ n) else if bbN (okB w g h n) (2 ^ n) = -1 ∨ x = 2 then bbN (okB w g h n) (2 ^ n) else btS (bbN (okB w g h n) (2 ^ n)))) := by
          refine T_loop (α := Nat × sD) 95 (fun z => [vR 1, vI k, vI l, vI t, vI x, vR (9 + 21 * k.toNat), vR (19 + 21 * l.toNat), vR (22 + 21 * t.toNat), vI (rsM (rB w g) n), vI (cnN (okB w g h n) z.1), vI (bbN (okB w g h n) z.1), vI z.1]) (fun z => z.2) (fun z => z.1 ≤ 2 ^ n ∧ z.2 81 5 = (n : Int) ∧ (∀ j, j < n → z.2 82 j = rB w g j) ∧ Cf d z.2) (fun z => 2 ^ n - z.1) ?_
          rintro ⟨c, b⟩ ⟨h1, h2, h3, h4⟩ ih
          try dsimp only at h1 h2 h3 h4 ih ⊢
          have hrg := cnN_rg (okB w g h n) c
          have hbb := bbN_rg (okB w g h n) c
          have h156 : ∀ (y z : Int) (b2 : sD), y = cnN (okB w g h n) (c + 1) → z = bbN (okB w g h n) (c + 1) → c < 2 ^ n → b2 81 5 = (n : Int) → (∀ j, j < n → b2 82 j = rB w g j) → Cf d b2 → tB G mX11_bribes 156 [vR 1, vI k, vI l, vI t, vI x, vR (9 + 21 * k.toNat), vR (19 + 21 * l.toNat), vR (22 + 21 * t.toNat), vI (rsM (rB w g) n), vI y, vI z, vI c] [] b2 (cQ d (if x = 0 then cnN (okB w g h n) (2 ^ n) else if bbN (okB w g h n) (2 ^ n) = -1 ∨ x = 2 then bbN (okB w g h n) (2 ^ n) else btS (bbN (okB w g h n) (2 ^ n)))) := by
            intro y z b2 hy hz hc g2 g3 g4
            subst hy; subst hz
            refine T_inc dX11_bribes_156 rfl (by decide) rfl (by omega) ?_
            refine T_goto (tgt := 95) dX11_bribes_159 (by decide) ?_
            exact ih (c + 1, b2) ⟨by dsimp only; omega, g2, g3, g4⟩ (by dsimp only; omega)
          refine T_iload dX11_bribes_95 rfl ?_
          refine T_iconst dX11_bribes_97 (by decide) ?_
          refine T_aload_n dX11_bribes_98 rfl ?_
          refine T_getR dX11_bribes_99 fX11_41 rfl k1 r1_5 ?_
          refine T_getIv dX11_bribes_102 fX11_228 rfl k81 (x := (n : Int)) h2 ?_
          refine T_ishl dX11_bribes_105 ?_
          refine T_top (y := ((2 ^ n : Nat) : Int)) (shl2 n (by omega)) ?_
          refine T_icmp_ge (tgt := 162) dX11_bribes_106 (by decide) (fun c106 => ?_) (fun c106 => ?_)
          · obtain rfl : c = 2 ^ n := by omega
            refine T_iload dX11_bribes_162 rfl ?_
            refine T_if_ne (tgt := 170) dX11_bribes_164 (by decide) (fun c164 => ?_) (fun c164 => ?_)
            · refine T_iload dX11_bribes_170 rfl ?_
              refine T_iconst dX11_bribes_172 (by decide) ?_
              refine T_icmp_eq (tgt := 182) dX11_bribes_173 (by decide) (fun c173 => ?_) (fun c173 => ?_)
              · refine T_iload dX11_bribes_182 rfl ?_
                refine T_goto (tgt := 192) dX11_bribes_184 (by decide) ?_
                exact T_ireturn dX11_bribes_192 rfl ⟨by rw [if_neg c164, if_pos (Or.inr c173)], h4⟩
              · refine T_iload dX11_bribes_176 rfl ?_
                refine T_iconst dX11_bribes_178 (by decide) ?_
                refine T_icmp_ne (tgt := 187) dX11_bribes_179 (by decide) (fun c179 => ?_) (fun c179 => ?_)
                · refine T_iload dX11_bribes_187 rfl ?_
                  refine T_callS dX11_bribes_189 lX11_324 (As := [_]) (rest := _) rfl rfl (by decide) (Nat.le_of_ble_eq_true rfl) (Nat.le_of_ble_eq_true rfl) t_bitCount ?_
                  rintro _ _ ⟨rfl, rfl⟩
                  exact T_ireturn dX11_bribes_192 rfl ⟨by obtain ⟨c2, hc2, hc3⟩ := hbb.resolve_left c179; rw [if_neg c164, if_neg (fun q => q.elim c179 c173), hc2, bc_bt (by omega)], h4⟩
                · refine T_iload dX11_bribes_182 rfl ?_
                  refine T_goto (tgt := 192) dX11_bribes_184 (by decide) ?_
                  exact T_ireturn dX11_bribes_192 rfl ⟨by rw [if_neg c164, if_pos (Or.inl c179)], h4⟩
            · refine T_iload dX11_bribes_167 rfl ?_
              exact T_ireturn dX11_bribes_169 rfl ⟨by rw [if_pos c164], h4⟩
          · refine T_iload dX11_bribes_109 rfl ?_
            refine T_iload dX11_bribes_111 rfl ?_
            refine T_iand dX11_bribes_113 ?_
            refine T_if_ne (tgt := 156) dX11_bribes_114 (by decide) (fun c114 => ?_) (fun c114 => ?_)
            · exact h156 _ _ b (by rw [cnN_f (f := okB w g h n) (k := c) (fun q => c114 q.1)]) (show bbN (okB w g h n) (c + 1) = bbN (okB w g h n) c from if_neg (fun q => c114 q.1.1)).symm (by omega) h2 h3 h4
            · refine T_aload_n dX11_bribes_117 rfl ?_
              refine T_aload dX11_bribes_118 rfl ?_
              refine T_aload dX11_bribes_120 rfl ?_
              refine T_iload dX11_bribes_122 rfl ?_
              refine T_callV dX11_bribes_124 lX11_320 (As := [_, _, _]) (rest := _) rfl rfl k1 (by decide) (Nat.le_of_ble_eq_true rfl) (Nat.le_of_ble_eq_true rfl) (t_explains hw hh (Wo_cf hw hO h4) hV (Ho_cf hh hH h4) hHV h2 (by omega) h3 hG) ?_
              rintro _ b2 ⟨rfl, f3, f4⟩
              have q2 : b2 81 5 = (n : Int) := by rw [f4 _ _ (by omega) (by omega)]; exact h2
              have q3 : ∀ j, j < n → b2 82 j = rB w g j := fun j hj => by rw [f4 _ _ (by omega) (by omega)]; exact h3 j hj
              refine T_if_eq (tgt := 156) dX11_bribes_127 (by decide) (fun c127 => ?_) (fun c127 => ?_)
              · have h127 := bI_0 c127
                exact h156 _ _ b2 (by rw [cnN_f (f := okB w g h n) (k := c) (fun q => h127 q.2)]) (show bbN (okB w g h n) (c + 1) = bbN (okB w g h n) c from if_neg (fun q => h127 q.1.2)).symm (by omega) q2 q3 (h4.trans f3)
              · have h127 := bI_1 c127
                have hok : okB w g h n c := ⟨c114, h127⟩
                refine T_inc dX11_bribes_130 rfl (by decide) rfl (by omega) ?_
                refine T_iload dX11_bribes_133 rfl ?_
                refine T_iconst dX11_bribes_135 (by decide) ?_
                refine T_icmp_eq (tgt := 152) dX11_bribes_136 (by decide) (fun c136 => ?_) (fun c136 => ?_)
                · refine T_iload dX11_bribes_152 rfl ?_
                  refine T_ist dX11_bribes_154 (by decide) rfl ?_
                  exact h156 _ _ b2 (by rw [cnN_t (f := okB w g h n) (k := c) hok]) (show bbN (okB w g h n) (c + 1) = (c : Int) from if_pos (⟨hok, Or.inl c136⟩)).symm (by omega) q2 q3 (h4.trans f3)
                · obtain ⟨c2, hc2, hc3⟩ := hbb.resolve_left c136
                  have hb1 := bc_bt (c := c) (by omega)
                  have hb2 := bc_bt (c := c2) (by omega)
                  rw [← hc2] at hb2
                  refine T_iload dX11_bribes_139 rfl ?_
                  refine T_callS dX11_bribes_141 lX11_324 (As := [_]) (rest := _) rfl rfl (by decide) (Nat.le_of_ble_eq_true rfl) (Nat.le_of_ble_eq_true rfl) t_bitCount ?_
                  rintro _ _ ⟨rfl, rfl⟩
                  refine T_iload dX11_bribes_144 rfl ?_
                  refine T_callS dX11_bribes_146 lX11_324 (As := [_]) (rest := _) rfl rfl (by decide) (Nat.le_of_ble_eq_true rfl) (Nat.le_of_ble_eq_true rfl) t_bitCount ?_
                  rintro _ _ ⟨rfl, rfl⟩
                  refine T_icmp_ge (tgt := 156) dX11_bribes_149 (by decide) (fun c149 => ?_) (fun c149 => ?_)
                  · exact h156 _ _ b2 (by rw [cnN_t (f := okB w g h n) (k := c) hok]) (show bbN (okB w g h n) (c + 1) = bbN (okB w g h n) c from if_neg (fun q => q.2.elim c136 (fun q2 => by omega))).symm (by omega) q2 q3 (h4.trans f3)
                  · refine T_iload dX11_bribes_152 rfl ?_
                    refine T_ist dX11_bribes_154 (by decide) rfl ?_
                    exact h156 _ _ b2 (by rw [cnN_t (f := okB w g h n) (k := c) hok]) (show bbN (okB w g h n) (c + 1) = (c : Int) from if_pos (⟨hok, Or.inr (by omega)⟩)).symm (by omega) q2 q3 (h4.trans f3)
        refine T_aload_n dX11_bribes_77 rfl ?_
        refine T_getR dX11_bribes_78 fX11_41 rfl k1 r1_5 ?_
        refine T_callV dX11_bribes_81 lX11_316 (As := []) (rest := _) rfl rfl k81 (by decide) (Nat.le_of_ble_eq_true rfl) (Nat.le_of_ble_eq_true rfl) (t_restsGiven hle (by omega) hgi) ?_
        rintro _ _ ⟨rfl, rfl⟩
        refine T_ist dX11_bribes_84 (by decide) rfl ?_
        refine T_iconst dX11_bribes_86 (by decide) ?_
        refine T_ist dX11_bribes_87 (by decide) rfl ?_
        refine T_iconst dX11_bribes_89 (by decide) ?_
        refine T_ist dX11_bribes_90 (by decide) rfl ?_
        refine T_iconst dX11_bribes_92 (by decide) ?_
        refine T_ist dX11_bribes_93 (by decide) rfl ?_
        exact h95 (0, d1) ⟨Nat.zero_le _, hle, hgi, f1⟩
      refine T_aload_n dX11_bribes_49 rfl ?_
      refine T_getR dX11_bribes_50 fX11_41 rfl k1 r1_5 ?_
      refine T_aload dX11_bribes_53 rfl ?_
      refine T_getIv dX11_bribes_55 fX11_169 rfl hw (x := ((w 0).toNat : Int)) (by rw [hO.1.1]; omega) ?_
      refine T_aload dX11_bribes_58 rfl ?_
      refine T_callV dX11_bribes_60 lX11_303 (As := [_, _]) (rest := _) rfl rfl k81 (by decide) (Nat.le_of_ble_eq_true rfl) (Nat.le_of_ble_eq_true rfl) (t_clay (w := w) (t := (w 0).toNat) hs hS hG (by omega) (by omega)) ?_
      rintro _ d1 ⟨rfl, e1, f1⟩
      refine T_aload_n dX11_bribes_63 rfl ?_
      refine T_getR dX11_bribes_64 fX11_41 rfl k1 r1_5 ?_
      refine T_getIv dX11_bribes_67 fX11_228 rfl k81 (x := ((rowS w g).length : Int)) e1.1 ?_
      refine T_bipush dX11_bribes_70 (by decide) ?_
      refine T_icmp_le (tgt := 77) dX11_bribes_72 (by decide) (fun c72 => ?_) (fun c72 => ?_)
      · exact h77 _ d1 rfl (by omega) e1 (f1.cf (by omega))
      · refine T_iconst dX11_bribes_75 (by decide) ?_
        exact T_ireturn dX11_bribes_76 rfl ⟨by unfold qBr; rw [if_pos (by omega)], f1.cf (by omega)⟩
    refine T_aload dX11_bribes_21 rfl ?_
    refine T_ifnull (tgt := 47) dX11_bribes_23 (by decide) (fun c23 => ?_) (fun c23 => ?_)
    · refine T_iconst dX11_bribes_47 (by decide) ?_
      exact T_ireturn dX11_bribes_48 rfl ⟨by rw [if_neg (fun q : Vph d k l t => by rw [if_pos q.1.1] at e6; omega)], Cf.rf⟩
    · refine T_aload dX11_bribes_26 rfl ?_
      refine T_ifnull (tgt := 47) dX11_bribes_28 (by decide) (fun c28 => ?_) (fun c28 => ?_)
      · refine T_iconst dX11_bribes_47 (by decide) ?_
        exact T_ireturn dX11_bribes_48 rfl ⟨by rw [if_neg (fun q : Vph d k l t => by rw [if_pos q.1.2] at e7; omega)], Cf.rf⟩
      · refine T_aload dX11_bribes_31 rfl ?_
        refine T_ifnull (tgt := 47) dX11_bribes_33 (by decide) (fun c33 => ?_) (fun c33 => ?_)
        · refine T_iconst dX11_bribes_47 (by decide) ?_
          exact T_ireturn dX11_bribes_48 rfl ⟨by rw [if_neg (fun q : Vph d k l t => by rw [if_pos q.2] at e8; omega)], Cf.rf⟩
        · refine T_iload dX11_bribes_36 rfl ?_
          refine T_if_lt (tgt := 47) dX11_bribes_38 (by decide) (fun c38 => ?_) (fun c38 => ?_)
          · refine T_iconst dX11_bribes_47 (by decide) ?_
            exact T_ireturn dX11_bribes_48 rfl ⟨by unfold qBribes qBr; rw [if_pos (show ¬ (0 ≤ x ∧ x ≤ 2) by omega), ite_self, ite_self], Cf.rf⟩
          · refine T_iload dX11_bribes_41 rfl ?_
            refine T_iconst dX11_bribes_43 (by decide) ?_
            refine T_icmp_le (tgt := 49) dX11_bribes_44 (by decide) (fun c44 => ?_) (fun c44 => ?_)
            · exact h49 ⟨⟨if0 e6 c23, if0 e7 c28⟩, if0 e8 c33⟩ (by omega)
            · refine T_iconst dX11_bribes_47 (by decide) ?_
              exact T_ireturn dX11_bribes_48 rfl ⟨by unfold qBribes qBr; rw [if_pos (show ¬ (0 ≤ x ∧ x ≤ 2) by omega), ite_self, ite_self], Cf.rf⟩
  refine T_aload_n dX11_bribes_0 rfl ?_
  refine T_iload_n dX11_bribes_1 rfl ?_
  refine T_callV dX11_bribes_2 lX11_165 (As := [_]) (rest := _) rfl rfl k1 (by decide) (Nat.le_of_ble_eq_true rfl) (Nat.le_of_ble_eq_true rfl) (t_warAtI hM hC) ?_
  rintro _ _ ⟨rfl, rfl⟩
  refine T_ast dX11_bribes_5 (by decide) rfl ?_
  refine T_aload_n dX11_bribes_7 rfl ?_
  refine T_iload_n dX11_bribes_8 rfl ?_
  refine T_callV dX11_bribes_9 lX11_219 (As := [_]) (rest := _) rfl rfl k1 (by decide) (Nat.le_of_ble_eq_true rfl) (Nat.le_of_ble_eq_true rfl) (t_scoreAtI hM hC) ?_
  rintro _ _ ⟨rfl, rfl⟩
  refine T_ast dX11_bribes_12 (by decide) rfl ?_
  refine T_aload_n dX11_bribes_14 rfl ?_
  refine T_iload_n dX11_bribes_15 rfl ?_
  refine T_callV dX11_bribes_16 lX11_310 (As := [_]) (rest := _) rfl rfl k1 (by decide) (Nat.le_of_ble_eq_true rfl) (Nat.le_of_ble_eq_true rfl) (t_hearingAtI hM hC) ?_
  rintro _ _ ⟨rfl, rfl⟩
  refine T_ast dX11_bribes_19 (by decide) rfl ?_
  exact h21 _ _ _ rfl rfl rfl

end C13
