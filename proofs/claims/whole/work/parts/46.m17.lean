/-! the reference: war; numbers as beats, what is forced -/
section M17
variable {G : sG} {d : sD} {w g s : Nat → Int}
theorem qRem {k : Int} (hk : 20 ≤ k ∧ k ≤ 69) : w32 (k.tmod 10) = k % 10 := by
  rw [Int.tmod_eq_emod_of_nonneg (by omega), w32_id (by omega) (by omega)]
def qWar (w : Nat → Int) (x : Int) : Int := if 0 ≤ x ∧ x ≤ 2 then w x.toNat else if 10 ≤ x ∧ x ≤ 13 then w (3 + x - 10).toNat else if (20 ≤ x ∧ x ≤ 69) ∧ x % 10 ≤ 1 then w (7 + 2 * (x / 10 - 2) + x % 10).toNat else -1
theorem t_X12_war {k x : Int} (hM : MS d) : tB G mX12_war 0 [vR 271, vI k, vI x, vU 0] [] d (qQ d (if Vd d 0 k then qWar (wvD d k.toNat) x else -1) [] [10]) := by
  have c0 := hM.1 0 (by decide)
  refine T_aload_n dX12_war_0 rfl ?_
  refine T_iload_n dX12_war_1 rfl ?_
  refine T_callV dX12_war_2 lX12_224 (As := [_]) (rest := _) rfl rfl k271 (by decide) (Nat.le_of_ble_eq_true rfl) (Nat.le_of_ble_eq_true rfl) (t_X12_isWar c0) ?_
  rintro _ _ (⟨hv, rfl, rfl⟩ | ⟨hv, rfl, rfl⟩)
  ·
    refine T_if_ne (tgt := 10) dX12_war_5 (by decide) (fun c5 => absurd rfl c5) (fun c5 => ?_)
    refine T_iconst dX12_war_8 (by decide) ?_
    exact T_ireturn dX12_war_9 rfl ⟨by rw [if_neg hv], Ag.rf⟩
  · have hW := isWd (d := d) (k := k.toNat) (by omega)
    rw [show (k.toNat : Int) = k by omega] at hW
    rw [if_pos hv]
    have hAg : Ag [] [10] d (up d 271 10 (610 + 89 * k)) := Ag_upf Ag.rf (by decide)
    refine T_if_ne (tgt := 10) dX12_war_5 (by decide) (fun c5 => ?_) (fun c5 => absurd c5 (by decide))
    refine T_iload_n dX12_war_10 rfl ?_
    refine T_iconst dX12_war_11 (by decide) ?_
    refine T_iconst dX12_war_12 (by decide) ?_
    refine T_callS dX12_war_13 lX12_145 (As := [_, _, _]) (rest := _) rfl rfl (by decide) (Nat.le_of_ble_eq_true rfl) (Nat.le_of_ble_eq_true rfl) t_X12_isIn ?_
    rintro _ _ ⟨rfl, rfl⟩
    refine T_if_eq (tgt := 25) dX12_war_16 (by decide) (fun c16 => ?_) (fun c16 => ?_)
    · refine T_iload_n dX12_war_25 rfl ?_
      refine T_bipush dX12_war_26 (by decide) ?_
      refine T_bipush dX12_war_28 (by decide) ?_
      refine T_callS dX12_war_30 lX12_145 (As := [_, _, _]) (rest := _) rfl rfl (by decide) (Nat.le_of_ble_eq_true rfl) (Nat.le_of_ble_eq_true rfl) t_X12_isIn ?_
      rintro _ _ ⟨rfl, rfl⟩
      refine T_if_eq (tgt := 47) dX12_war_33 (by decide) (fun c33 => ?_) (fun c33 => ?_)
      · refine T_iload_n dX12_war_47 rfl ?_
        refine T_bipush dX12_war_48 (by decide) ?_
        refine T_irem dX12_war_50 (by decide) ?_
        refine T_ist_n dX12_war_51 (by decide) rfl ?_
        refine T_iload_n dX12_war_52 rfl ?_
        refine T_bipush dX12_war_53 (by decide) ?_
        refine T_bipush dX12_war_55 (by decide) ?_
        refine T_callS dX12_war_57 lX12_145 (As := [_, _, _]) (rest := _) rfl rfl (by decide) (Nat.le_of_ble_eq_true rfl) (Nat.le_of_ble_eq_true rfl) t_X12_isIn ?_
        rintro _ _ ⟨rfl, rfl⟩
        refine T_if_eq (tgt := 90) dX12_war_60 (by decide) (fun c60 => ?_) (fun c60 => ?_)
        · refine T_iconst dX12_war_90 (by decide) ?_
          exact T_ireturn dX12_war_91 rfl ⟨by unfold qWar; rw [if_neg (bI_0 c16), if_neg (bI_0 c33), if_neg (fun q => bI_0 c60 q.1)], hAg⟩
        · have h60 := bI_1 c60
          rw [qRem h60]
          refine T_iload_n dX12_war_63 rfl ?_
          refine T_callS dX12_war_64 lX12_218 (As := [_]) (rest := _) rfl rfl (by decide) (Nat.le_of_ble_eq_true rfl) (Nat.le_of_ble_eq_true rfl) t_X12_isArmy ?_
          rintro _ _ ⟨rfl, rfl⟩
          refine T_if_eq (tgt := 90) dX12_war_67 (by decide) (fun c67 => ?_) (fun c67 => ?_)
          · refine T_iconst dX12_war_90 (by decide) ?_
            exact T_ireturn dX12_war_91 rfl ⟨by unfold qWar; rw [if_neg (bI_0 c16), if_neg (bI_0 c33), if_neg (fun q => bI_0 c67 ⟨by omega, q.2⟩)], hAg⟩
          · have h67 := bI_1 c67
            refine T_aload_n dX12_war_70 rfl ?_
            refine T_bipush dX12_war_71 (by decide) ?_
            refine T_iconst dX12_war_73 (by decide) ?_
            refine T_iload_n dX12_war_74 rfl ?_
            refine T_bipush dX12_war_75 (by decide) ?_
            refine T_div dX12_war_77 (by omega) (by omega) ?_
            refine T_iconst dX12_war_78 (by decide) ?_
            refine T_sub dX12_war_79 (by omega) ?_
            refine T_mul dX12_war_80 (by omega) ?_
            refine T_add dX12_war_81 (by omega) ?_
            refine T_iload_n dX12_war_82 rfl ?_
            refine T_add dX12_war_83 (by omega) ?_
            refine T_callV dX12_war_84 lX12_212 (As := [_]) (rest := _) rfl rfl k271 (by decide) (Nat.le_of_ble_eq_true rfl) (Nat.le_of_ble_eq_true rfl) (t_of hW (y := (7 + 2 * (x / 10 - 2) + x % 10).toNat) (by omega) (by omega)) ?_
            rintro _ _ ⟨rfl, rfl⟩
            refine T_goto (tgt := 91) dX12_war_87 (by decide) ?_
            exact T_ireturn dX12_war_91 rfl ⟨by unfold qWar; rw [if_neg (bI_0 c16), if_neg (bI_0 c33), if_pos ⟨h60, h67.2⟩], hAg⟩
      · have h33 := bI_1 c33
        refine T_aload_n dX12_war_36 rfl ?_
        refine T_iconst dX12_war_37 (by decide) ?_
        refine T_iload_n dX12_war_38 rfl ?_
        refine T_add dX12_war_39 (by omega) ?_
        refine T_bipush dX12_war_40 (by decide) ?_
        refine T_sub dX12_war_42 (by omega) ?_
        refine T_callV dX12_war_43 lX12_212 (As := [_]) (rest := _) rfl rfl k271 (by decide) (Nat.le_of_ble_eq_true rfl) (Nat.le_of_ble_eq_true rfl) (t_of hW (y := (3 + x - 10).toNat) (by omega) (by omega)) ?_
        rintro _ _ ⟨rfl, rfl⟩
        exact T_ireturn dX12_war_46 rfl ⟨by unfold qWar; rw [if_neg (bI_0 c16), if_pos h33], hAg⟩
    · have h16 := bI_1 c16
      refine T_aload_n dX12_war_19 rfl ?_
      refine T_iload_n dX12_war_20 rfl ?_
      refine T_callV dX12_war_21 lX12_212 (As := [_]) (rest := _) rfl rfl k271 (by decide) (Nat.le_of_ble_eq_true rfl) (Nat.le_of_ble_eq_true rfl) (t_of hW (y := x.toNat) (by omega) (by omega)) ?_
      rintro _ _ ⟨rfl, rfl⟩
      exact T_ireturn dX12_war_24 rfl ⟨by unfold qWar; rw [if_pos h16], hAg⟩

/-- the beats of a number, as many as are asked -/
def dgN (x n i : Nat) : Int := ((x / 4 ^ (n - 1 - i) % 4 : Nat) : Int)
theorem dgN_rg (x n i : Nat) : 0 ≤ dgN x n i ∧ dgN x n i ≤ 3 := by unfold dgN; omega
def Hd (d : sD) (a : Nat) (m : Int) (x : Nat → Int) : Prop := d 276 a = m ∧ ∀ i : Nat, (i : Int) < m → d 275 (12 * a + i) = x i
def scS (m0 m1 : Int) (x y : Nat → Int) : Nat → Int := fun j => if j = 0 then m0 else if j = 1 then m1 else if j < 14 then x (j - 2) else y (j - 14)
theorem sc_0 {m0 m1 : Int} {x y : Nat → Int} : scS m0 m1 x y 0 = m0 := rfl
theorem sc_1 {m0 m1 : Int} {x y : Nat → Int} : scS m0 m1 x y 1 = m1 := rfl
theorem sc_x {m0 m1 : Int} {x y : Nat → Int} {i : Nat} (h : i < 12) : scS m0 m1 x y (2 + i) = x i := by
  unfold scS; rw [if_neg (by omega), if_neg (by omega), if_pos (by omega), show 2 + i - 2 = i by omega]
theorem sc_y {m0 m1 : Int} {x y : Nat → Int} {i : Nat} : scS m0 m1 x y (14 + i) = y i := by
  unfold scS; rw [if_neg (by omega), if_neg (by omega), if_neg (by omega), show 14 + i - 14 = i by omega]
theorem GV_sc {m0 m1 : Int} {x y : Nat → Int} (h0 : 0 ≤ m0 ∧ m0 ≤ 12) (h1 : 0 ≤ m1 ∧ m1 ≤ 12) (hx : ∀ i : Nat, (i : Int) < m0 → 0 ≤ x i ∧ x i ≤ 3) (hy : ∀ i : Nat, (i : Int) < m1 → 0 ≤ y i ∧ y i ≤ 3) : GV (scS m0 m1 x y) := by
  intro a ha
  rcases (show a = 0 ∨ a = 1 by omega) with rfl | rfl
  · refine ⟨h0, fun k hk => ?_⟩
    rw [sc_0] at hk
    rw [show 2 + 12 * 0 + k = 2 + k by omega, sc_x (by omega)]; exact hx k hk
  · refine ⟨h1, fun k hk => ?_⟩
    rw [sc_1] at hk
    rw [show 2 + 12 * 1 + k = 14 + k by omega, sc_y]; exact hy k hk
theorem GH_sc {m0 m1 : Int} {x y : Nat → Int} (h0 : Hd d 0 m0 x) (h1 : Hd d 1 m1 y) (hm : m0 ≤ 12) : GH d (scS m0 m1 x y) := by
  intro a ha
  rcases (show a = 0 ∨ a = 1 by omega) with rfl | rfl
  · refine ⟨h0.1, fun k hk => ?_⟩
    rw [sc_0] at hk
    rw [show 2 + 12 * 0 + k = 2 + k by omega, sc_x (by omega)]; exact h0.2 k hk
  · refine ⟨h1.1, fun k hk => ?_⟩
    rw [sc_1] at hk
    rw [show 2 + 12 * 1 + k = 14 + k by omega, sc_y]; exact h1.2 k hk
theorem GH_Hd (h : GH d g) {a : Nat} (ha : a < 2) : Hd d a (g a) (fun k => g (2 + 12 * a + k)) := h a ha
abbrev gnQ (d : sD) (a x n : Nat) : Option sV → sD → Prop := fun r d' => r = none ∧ Hd d' a n (dgN x n) ∧ (∀ b m y, b < 2 → b ≠ a → m ≤ 12 → Hd d b m y → Hd d' b m y) ∧ Ag [275, 276] [] d d'
theorem gn_fin {a x n : Nat} (ha : a < 2) (hn : n ≤ 12) : gnQ d a x n none (ups (up d 276 a n) 275 (12 * a + 0) (12 * a + n) (fun j => dgN x n (j - 12 * a))) := by
  refine ⟨rfl, ⟨by rw [ups_nea (by decide), up_same], fun i hi => ?_⟩, fun b m y hb hne hm h => ⟨?_, fun i hi => ?_⟩, Ag_ups (Ag_up Ag.rf (by decide)) (by decide)⟩
  · rw [ups_in (by omega), show 12 * a + i - 12 * a = i by omega]
  · rw [ups_nea (by decide), up_nej hne]; exact h.1
  · rw [ups_out (by omega), up_nea (by decide)]; exact h.2 i hi
theorem ups_pull {d : sD} {a lo hi : Nat} {f : Nat → Int} {x : Int} (h : lo < hi) (hx : x = f lo) : up (ups d a (lo + 1) hi f) a lo x = ups d a lo hi f := by
  funext b j; unfold up ups
  by_cases h1 : b = a ∧ j = lo
  · rw [if_pos h1, if_pos ⟨h1.1, by omega, by omega⟩, hx, h1.2]
  · rw [if_neg h1]
    by_cases h2 : b = a ∧ lo + 1 ≤ j ∧ j < hi
    · rw [if_pos h2, if_pos ⟨h2.1, by omega, by omega⟩]
    · rw [if_neg h2, if_neg (fun q => h2 ⟨q.1, by have : j ≠ lo := fun z => h1 ⟨q.1, z⟩; omega, q.2.2⟩)]
theorem t_givesNumber {a x n : Nat} (ha : a < 2) (hn : n ≤ 12) : tB G mX12_givesNumber 0 [vR 271, vI a, vI x, vI n, vU 0, vU 0] [] d (gnQ d a x n) := by
  have h15 : ∀ k : Nat, k ≤ n → tB G mX12_givesNumber 15 [vR 271, vI a, vI x, vI n, vI (x / 4 ^ (n - k) : Nat), vI ((k : Int) - 1)] [] (ups (up d 276 a n) 275 (12 * a + k) (12 * a + n) (fun j => dgN x n (j - 12 * a))) (gnQ d a x n) := by
    refine T_loop (α := Nat) 15 (fun k => [vR 271, vI a, vI x, vI n, vI (x / 4 ^ (n - k) : Nat), vI ((k : Int) - 1)]) (fun k => ups (up d 276 a n) 275 (12 * a + k) (12 * a + n) (fun j => dgN x n (j - 12 * a))) (fun k => k ≤ n) (fun k => k) ?_
    intro k hk ih
    try dsimp only at ih ⊢
    refine T_iload dX12_givesNumber_15 rfl ?_
    refine T_if_lt (tgt := 48) dX12_givesNumber_17 (by decide) (fun c17 => ?_) (fun c17 => ?_)
    · exact T_return dX12_givesNumber_48 rfl (by rw [show k = 0 by omega]; exact gn_fin ha hn)
    · refine T_aload_n dX12_givesNumber_20 rfl ?_
      refine T_getR dX12_givesNumber_21 fX12_20 rfl k271 r271_12 ?_
      refine T_bipush dX12_givesNumber_24 (by decide) ?_
      refine T_iload_n dX12_givesNumber_26 rfl ?_
      refine T_mul dX12_givesNumber_27 (by omega) ?_
      refine T_iload dX12_givesNumber_28 rfl ?_
      refine T_add dX12_givesNumber_30 (by omega) ?_
      refine T_iload dX12_givesNumber_31 rfl ?_
      refine T_iconst dX12_givesNumber_33 (by decide) ?_
      refine T_rem dX12_givesNumber_34 (by omega) (Int.natCast_nonneg _) ?_
      refine T_iast dX12_givesNumber_35 k275 l275 (by omega) (j := 12 * a + (k - 1)) (by omega) ?_
      refine T_iload dX12_givesNumber_36 rfl ?_
      refine T_iconst dX12_givesNumber_38 (by decide) ?_
      refine T_div dX12_givesNumber_39 (by omega) (Int.natCast_nonneg _) ?_
      refine T_ist dX12_givesNumber_40 (by decide) rfl ?_
      refine T_inc dX12_givesNumber_42 rfl (by decide) rfl (by omega) ?_
      refine T_goto (tgt := 15) dX12_givesNumber_45 (by decide) ?_
      have e1 : ((x / 4 ^ (n - k) : Nat) : Int) / 4 = ((x / 4 ^ (n - (k - 1)) : Nat) : Int) := by
        rw [show n - (k - 1) = (n - k) + 1 by omega, Nat.pow_succ, ← Nat.div_div_eq_div_mul]; omega
      rw [e1]
      refine T_eq ?_ (T_leq ?_ (ih (k - 1) (by omega) (by omega)))
      · have e2 := ups_pull (d := up d 276 a n) (a := 275) (lo := 12 * a + (k - 1)) (hi := 12 * a + n) (f := fun j => dgN x n (j - 12 * a)) (x := ((x / 4 ^ (n - k) : Nat) : Int) % 4) (by omega) (by
          show _ = dgN x n _
          unfold dgN
          rw [show n - 1 - (12 * a + (k - 1) - 12 * a) = n - k by omega]; omega)
        rw [show 12 * a + (k - 1) + 1 = 12 * a + k by omega] at e2
        exact e2
      · show [_, _, _, _, _, vI _] = [_, _, _, _, _, vI _]
        rw [show (k : Int) - 1 + -1 = ((k - 1 : Nat) : Int) - 1 by omega]
  refine T_iload_n dX12_givesNumber_0 rfl ?_
  refine T_ist dX12_givesNumber_1 (by decide) rfl ?_
  refine T_aload_n dX12_givesNumber_3 rfl ?_
  refine T_getR dX12_givesNumber_4 fX12_23 rfl k271 r271_13 ?_
  refine T_iload_n dX12_givesNumber_7 rfl ?_
  refine T_iload_n dX12_givesNumber_8 rfl ?_
  refine T_iast dX12_givesNumber_9 k276 l276 (by omega) (j := a) (by omega) ?_
  refine T_iload_n dX12_givesNumber_10 rfl ?_
  refine T_iconst dX12_givesNumber_11 (by decide) ?_
  refine T_sub dX12_givesNumber_12 (by omega) ?_
  refine T_ist dX12_givesNumber_13 (by decide) rfl ?_
  refine T_eq ?_ (T_leq ?_ (h15 n (Nat.le_refl n)))
  · rw [ups_nil]
  · rw [Nat.sub_self, Nat.pow_zero, Nat.div_one]; rfl
theorem shl4 : ∀ n : Nat, n < 6 → i_shl 1 (2 * (n : Int)) = ((4 ^ n : Nat) : Int) := by decide +kernel
theorem pow4 : ∀ n : Nat, n < 6 → 4 ^ n ≤ 1024 := by decide +kernel
theorem t_codesOf {n : Nat} (hn : n < 6) : tB G mX12_codesOf 0 [vI n] [] d (fun r d' => r = some (vI (4 ^ n : Nat)) ∧ d = d') := by
  refine T_iconst dX12_codesOf_0 (by decide) ?_
  refine T_iconst dX12_codesOf_1 (by decide) ?_
  refine T_iload_n dX12_codesOf_2 rfl ?_
  refine T_mul dX12_codesOf_3 (by omega) ?_
  refine T_ishl dX12_codesOf_4 ?_
  exact T_ireturn dX12_codesOf_5 rfl ⟨by rw [shl4 n hn], rfl⟩
theorem t_playsG (hW : Wd d w) (hV : WV w) (hG : GV g) (hL : Laid d (rowS w g)) : tB G mX12_plays 0 [vR 271, vI 0, vU 0, vU 0] [] d (fun r2 d' => r2 = none ∧ Snd d' w (rB w g) (rowS w g).length ∧ Ag [279, 280] [] d d') := by
  have g0 := (hG 0 (by decide)).1
  have g1 := (hG 1 (by decide)).1
  have hlen := rowS_len hV hG
  exact t_playsS hW hV hL.1 (by omega) (fun j hj => by rw [(hL.2 j hj).1]; exact rB_rg hG j) (fun j hj => by unfold trM; rw [if_neg (bit0 j (by omega)), (hL.2 j hj).1]; rfl)
/-- is a move made of a played score -/
abbrev mdS (w g : Nat → Int) (a : Nat) (m : Int) : Int := imS w a (mlS w g a) m (mlS w g a).length
theorem isMade_py (hV : WV w) {a : Nat} {m : Int} (ha : a < 2) (hS : Snd d w (rB w g) (rowS w g).length) : isMadeS w (d 279) (rowS w g).length a m = mdS w g a m := by unfold isMadeS; rw [mk_py hV ha hS]
theorem mdS_01 (w g : Nat → Int) (a : Nat) (m : Int) : mdS w g a m = 0 ∨ mdS w g a m = 1 := orN_01 (fun _ _ => bI_01 _)
theorem rowS_24 (hV : WV w) (hG : GV g) : (rowS w g).length ≤ 24 := by
  have g0 := (hG 0 (by decide)).1
  have g1 := (hG 1 (by decide)).1
  rw [rowS_len hV hG]; omega

def fcS (a n c k : Nat) : Nat → Int := if a = 0 then scS n n (dgN c n) (dgN k n) else scS n n (dgN k n) (dgN c n)
theorem GV_fc {a n c k : Nat} (hn : n ≤ 12) : GV (fcS a n c k) := by
  unfold fcS; split <;> exact GV_sc (by omega) (by omega) (fun i _ => dgN_rg _ _ i) (fun i _ => dgN_rg _ _ i)
/-- a move is forced by a row of beats, whatever the other gives -/
abbrev foK (w : Nat → Int) (a : Nat) (m : Int) (n c k : Nat) : Prop := ∀ j, j < k → mdS w (fcS a n c j) a m = 1
abbrev foC : List Nat := [275, 276, 277, 278, 279, 280, 281, 282, 283, 284, 285]
theorem t_isForced {a n c : Nat} {m : Int} (hW : Wd d w) (hV : WV w) (ha : a < 2) (hn : n < 6) : tB G mX12_isForced 0 [vR 271, vI a, vI m, vI n, vI c, vU 0, vU 0] [] d (fun r d' => r = some (vI (bI (foK w a m n c (4 ^ n)))) ∧ Ag foC [18] d d') := by
  have hp := pow4 n hn
  have h6 : ∀ x : Nat × sD, (x.1 ≤ 4 ^ n ∧ Ag foC [18] d x.2) → tB G mX12_isForced 6 [vR 271, vI a, vI m, vI n, vI c, vI (bI (foK w a m n c x.1)), vI x.1] [] x.2 (fun r d' => r = some (vI (bI (foK w a m n c (4 ^ n)))) ∧ Ag foC [18] d d') := by
    refine T_loop (α := Nat × sD) 6 (fun x => [vR 271, vI a, vI m, vI n, vI c, vI (bI (foK w a m n c x.1)), vI x.1]) (fun x => x.2) (fun x => x.1 ≤ 4 ^ n ∧ Ag foC [18] d x.2) (fun x => 4 ^ n - x.1) ?_
    rintro ⟨k, e⟩ ⟨hk, hA⟩ ih
    try dsimp only at hk hA ih ⊢
    have h01 := bI_01 (foK w a m n c k)
    have hWe := Wd_ag hW hA (by decide) (by decide)
    refine T_iload dX12_isForced_6 rfl ?_
    refine T_iload_n dX12_isForced_8 rfl ?_
    refine T_callS dX12_isForced_9 lX12_294 (As := [_]) (rest := _) rfl rfl (by decide) (Nat.le_of_ble_eq_true rfl) (Nat.le_of_ble_eq_true rfl) (t_codesOf hn) ?_
    rintro _ _ ⟨rfl, rfl⟩
    refine T_icmp_ge (tgt := 61) dX12_isForced_12 (by decide) (fun c12 => ?_) (fun c12 => ?_)
    · refine T_iload dX12_isForced_61 rfl ?_
      exact T_zreturn dX12_isForced_63 rfl (by omega) ⟨by rw [show k = 4 ^ n by omega], hA⟩
    · refine T_iload dX12_isForced_15 rfl ?_
      refine T_if_eq (tgt := 61) dX12_isForced_17 (by decide) (fun c17 => ?_) (fun c17 => ?_)
      · refine T_iload dX12_isForced_61 rfl ?_
        exact T_zreturn dX12_isForced_63 rfl (by omega) ⟨by rw [c17, bI_f (fun z => bI_0 c17 (fun j hj => z j (by omega)))], hA⟩
      · refine T_aload_n dX12_isForced_20 rfl ?_
        refine T_iload_n dX12_isForced_21 rfl ?_
        refine T_iload dX12_isForced_22 rfl ?_
        refine T_iload_n dX12_isForced_24 rfl ?_
        refine T_callV dX12_isForced_25 lX12_297 (As := [_, _, _]) (rest := _) rfl rfl k271 (by decide) (Nat.le_of_ble_eq_true rfl) (Nat.le_of_ble_eq_true rfl) (t_givesNumber ha (by omega)) ?_
        rintro _ d1 ⟨rfl, hh1, _, hA1⟩
        refine T_aload_n dX12_isForced_28 rfl ?_
        refine T_iconst dX12_isForced_29 (by decide) ?_
        refine T_iload_n dX12_isForced_30 rfl ?_
        refine T_sub dX12_isForced_31 (by omega) ?_
        refine T_iload dX12_isForced_32 rfl ?_
        refine T_iload_n dX12_isForced_34 rfl ?_
        refine T_callV dX12_isForced_35 lX12_297 (As := [_, _, _]) (rest := _) rfl rfl k271 (by decide) (Nat.le_of_ble_eq_true rfl) (Nat.le_of_ble_eq_true rfl) (T_args1 (y := 1 - a) (by omega) (t_givesNumber (by omega) (by omega))) ?_
        rintro _ d2 ⟨rfl, hh2, ho2, hA2⟩
        have hh1 := ho2 a _ _ ha (by omega) (by omega) hh1
        have hGH : GH d2 (fcS a n c k) := by
          unfold fcS
          rcases (show a = 0 ∨ a = 1 by omega) with rfl | rfl
          · rw [if_pos rfl]; exact GH_sc hh1 hh2 (by omega)
          · rw [if_neg (by decide)]; exact GH_sc hh2 hh1 (by omega)
        have hW2 := Wd_ag (Wd_ag hWe hA1 (by decide) (by decide)) hA2 (by decide) (by decide)
        refine T_aload_n dX12_isForced_38 rfl ?_
        refine T_callV dX12_isForced_39 lX12_246 (As := []) (rest := _) rfl rfl k271 (by decide) (Nat.le_of_ble_eq_true rfl) (Nat.le_of_ble_eq_true rfl) (t_laysG hW2 hV hGH (GV_fc (by omega))) ?_
        rintro _ d3 ⟨rfl, hL, hA3⟩
        have hW3 := Wd_ag hW2 hA3 (by decide) (by decide)
        refine T_aload_n dX12_isForced_42 rfl ?_
        refine T_iconst dX12_isForced_43 (by decide) ?_
        refine T_callV dX12_isForced_44 lX12_252 (As := [_]) (rest := _) rfl rfl k271 (by decide) (Nat.le_of_ble_eq_true rfl) (Nat.le_of_ble_eq_true rfl) (t_playsG hW3 hV (GV_fc (by omega)) hL) ?_
        rintro _ d4 ⟨rfl, hS, hA4⟩
        have hW4 := Wd_ag hW3 hA4 (by decide) (by decide)
        refine T_aload_n dX12_isForced_47 rfl ?_
        refine T_iload_n dX12_isForced_48 rfl ?_
        refine T_iload_n dX12_isForced_49 rfl ?_
        refine T_callV dX12_isForced_50 lX12_301 (As := [_, _]) (rest := _) rfl rfl k271 (by decide) (Nat.le_of_ble_eq_true rfl) (Nat.le_of_ble_eq_true rfl) (t_isMade hW4 hV ((hA4.2 18 (by decide)).trans hL.1) (rowS_24 hV (GV_fc (by omega))) ha) ?_
        rintro _ d5 ⟨rfl, hF⟩
        rw [isMade_py hV ha hS]
        have hA5 : Ag foC [18] d d5 := (((((hA.trans hA1 (cs := foC) (fs := [18]) (by decide) (by decide) (by decide) (by decide)).trans hA2 (cs := foC) (fs := [18]) (by decide) (by decide) (by decide) (by decide)).trans hA3 (cs := foC) (fs := [18]) (by decide) (by decide) (by decide) (by decide)).trans hA4 (cs := foC) (fs := [18]) (by decide) (by decide) (by decide) (by decide)).trans hF.1 (by decide) (by decide) (by decide) (by decide))
        have hfo : mdS w (fcS a n c k) a m = bI (foK w a m n c (k + 1)) := by
          have hk0 := bI_1 c17
          rcases mdS_01 w (fcS a n c k) a m with q | q
          · rw [bI_f (fun z => by have := z k (by omega); omega)]; exact q
          · have hk1 : foK w a m n c (k + 1) := fun j hj => by
              rcases (show j < k ∨ j = k by omega) with z | rfl
              · exact hk0 j z
              · exact q
            rw [bI_t hk1]; exact q
        rw [hfo]
        refine T_ist dX12_isForced_53 (by decide) rfl ?_
        refine T_inc dX12_isForced_55 rfl (by decide) rfl (by omega) ?_
        refine T_goto (tgt := 6) dX12_isForced_58 (by decide) ?_
        exact ih (k + 1, d5) ⟨by omega, hA5⟩ (by omega)
  refine T_iconst dX12_isForced_0 (by decide) ?_
  refine T_ist dX12_isForced_1 (by decide) rfl ?_
  refine T_iconst dX12_isForced_3 (by decide) ?_
  refine T_ist dX12_isForced_4 (by decide) rfl ?_
  refine T_leq ?_ (h6 (0, d) ⟨Nat.zero_le _, Ag.rf⟩)
  rw [bI_t (fun j hj => absurd hj (Nat.not_lt_zero j))]; rfl

/-- the first below a number at which a thing holds, or -1; how often it holds -/
def fsN (f : Nat → Prop) [DecidablePred f] : Nat → Int
  | 0 => -1
  | k + 1 => if f k ∧ fsN f k = -1 then (k : Int) else fsN f k
abbrev cnN (f : Nat → Prop) [DecidablePred f] : Nat → Int := sumN (fun k => bI (f k))
theorem fsN_rg (f : Nat → Prop) [DecidablePred f] : ∀ k, -1 ≤ fsN f k ∧ fsN f k < k
  | 0 => by show -1 ≤ (-1 : Int) ∧ (-1 : Int) < 0; omega
  | k + 1 => by
    have := fsN_rg f k
    show -1 ≤ (if f k ∧ fsN f k = -1 then (k : Int) else fsN f k) ∧ (if f k ∧ fsN f k = -1 then (k : Int) else fsN f k) < _
    split <;> omega
theorem cnN_rg (f : Nat → Prop) [DecidablePred f] (k : Nat) : 0 ≤ cnN f k ∧ cnN f k ≤ k := sumN_rg (fun _ _ => bI_01 _)
theorem cnN_t {f : Nat → Prop} [DecidablePred f] {k : Nat} (h : f k) : cnN f (k + 1) = cnN f k + 1 := by show _ + bI _ = _; rw [bI_t h]
theorem cnN_f {f : Nat → Prop} [DecidablePred f] {k : Nat} (h : ¬ f k) : cnN f (k + 1) = cnN f k := by show _ + bI _ = _; rw [bI_f h]; exact Int.add_zero _
def qForce (w : Nat → Int) (a m n x : Int) : Int := if ¬ (0 ≤ a ∧ a ≤ 1) then -2 else if ¬ (0 ≤ m ∧ m ≤ 4) then -2 else if ¬ (0 ≤ n ∧ n ≤ 3) then -2 else if x = 0 then fsN (fun c => foK w a.toNat m n.toNat c (4 ^ n.toNat)) (4 ^ n.toNat) else cnN (fun c => foK w a.toNat m n.toNat c (4 ^ n.toNat)) (4 ^ n.toNat)
theorem t_X12_force {k a m n x : Int} (hM : MS d) : tB G mX12_force 0 [vR 271, vI k, vI a, vI m, vI n, vI x, vU 0, vU 0, vU 0] [] d (qQ d (if Vd d 0 k then qForce (wvD d k.toNat) a m n x else -2) foC [10, 18]) := by
  have c0 := hM.1 0 (by decide)
  refine T_aload_n dX12_force_0 rfl ?_
  refine T_iload_n dX12_force_1 rfl ?_
  refine T_callV dX12_force_2 lX12_224 (As := [_]) (rest := _) rfl rfl k271 (by decide) (Nat.le_of_ble_eq_true rfl) (Nat.le_of_ble_eq_true rfl) (t_X12_isWar c0) ?_
  rintro _ _ (⟨hv, rfl, rfl⟩ | ⟨hv, rfl, rfl⟩)
  ·
    refine T_if_eq (tgt := 34) dX12_force_5 (by decide) (fun c5 => ?_) (fun c5 => absurd rfl c5)
    refine T_bipush dX12_force_34 (by decide) ?_
    exact T_ireturn dX12_force_36 rfl ⟨by rw [if_neg hv], Ag.rf⟩
  · have hW := isWd (d := d) (k := k.toNat) (by omega)
    rw [show (k.toNat : Int) = k by omega] at hW
    rw [if_pos hv]
    have hV := hM.2.1 k.toNat (by omega)
    have hAg : Ag foC [10, 18] d (up d 271 10 (610 + 89 * k)) := Ag_upf Ag.rf (by decide)
    generalize up d 271 10 (610 + 89 * k) = d0 at *
    generalize wvD d k.toNat = w at *
    refine T_if_eq (tgt := 34) dX12_force_5 (by decide) (fun c5 => absurd c5 (by decide)) (fun c5 => ?_)
    refine T_iload_n dX12_force_8 rfl ?_
    refine T_callS dX12_force_9 lX12_218 (As := [_]) (rest := _) rfl rfl (by decide) (Nat.le_of_ble_eq_true rfl) (Nat.le_of_ble_eq_true rfl) t_X12_isArmy ?_
    rintro _ _ ⟨rfl, rfl⟩
    refine T_if_eq (tgt := 34) dX12_force_12 (by decide) (fun c12 => ?_) (fun c12 => ?_)
    · refine T_bipush dX12_force_34 (by decide) ?_
      exact T_ireturn dX12_force_36 rfl ⟨by unfold qForce; rw [if_pos (bI_0 c12)], hAg⟩
    · have h12 := bI_1 c12
      obtain ⟨a, rfl⟩ : ∃ a2 : Nat, a = (a2 : Int) := ⟨a.toNat, by omega⟩
      refine T_iload_n dX12_force_15 rfl ?_
      refine T_iconst dX12_force_16 (by decide) ?_
      refine T_iconst dX12_force_17 (by decide) ?_
      refine T_callS dX12_force_18 lX12_145 (As := [_, _, _]) (rest := _) rfl rfl (by decide) (Nat.le_of_ble_eq_true rfl) (Nat.le_of_ble_eq_true rfl) t_X12_isIn ?_
      rintro _ _ ⟨rfl, rfl⟩
      refine T_if_eq (tgt := 34) dX12_force_21 (by decide) (fun c21 => ?_) (fun c21 => ?_)
      · refine T_bipush dX12_force_34 (by decide) ?_
        exact T_ireturn dX12_force_36 rfl ⟨by unfold qForce; rw [if_neg (fun q => q h12), if_pos (bI_0 c21)], hAg⟩
      · have h21 := bI_1 c21
        refine T_iload dX12_force_24 rfl ?_
        refine T_iconst dX12_force_26 (by decide) ?_
        refine T_iconst dX12_force_27 (by decide) ?_
        refine T_callS dX12_force_28 lX12_145 (As := [_, _, _]) (rest := _) rfl rfl (by decide) (Nat.le_of_ble_eq_true rfl) (Nat.le_of_ble_eq_true rfl) t_X12_isIn ?_
        rintro _ _ ⟨rfl, rfl⟩
        refine T_if_ne (tgt := 37) dX12_force_31 (by decide) (fun c31 => ?_) (fun c31 => ?_)
        · have h31 := bI_1 c31
          obtain ⟨n, rfl⟩ : ∃ a2 : Nat, n = (a2 : Int) := ⟨n.toNat, by omega⟩
          refine T_iconst dX12_force_37 (by decide) ?_
          refine T_ist dX12_force_38 (by decide) rfl ?_
          refine T_iconst dX12_force_40 (by decide) ?_
          refine T_ist dX12_force_41 (by decide) rfl ?_
          refine T_iconst dX12_force_43 (by decide) ?_
          refine T_ist dX12_force_44 (by decide) rfl ?_
          have hp := pow4 n (by omega)
          have h46 : ∀ y : Nat × sD, (y.1 ≤ 4 ^ n ∧ Ag foC [18] d0 y.2) → tB G mX12_force 46 [vR 271, vI k, vI a, vI m, vI n, vI x, vI (cnN (fun c => foK w a m n c (4 ^ n)) y.1), vI (fsN (fun c => foK w a m n c (4 ^ n)) y.1), vI y.1] [] y.2 (qQ d (qForce w a m n x) foC [10, 18]) := by
            refine T_loop (α := Nat × sD) 46 (fun y => [vR 271, vI k, vI a, vI m, vI n, vI x, vI (cnN (fun c => foK w a m n c (4 ^ n)) y.1), vI (fsN (fun c => foK w a m n c (4 ^ n)) y.1), vI y.1]) (fun y => y.2) (fun y => y.1 ≤ 4 ^ n ∧ Ag foC [18] d0 y.2) (fun y => 4 ^ n - y.1) ?_
            rintro ⟨c, e⟩ ⟨hc, hA⟩ ih
            try dsimp only at hc hA ih ⊢
            have hrg := cnN_rg (fun c => foK w a m n c (4 ^ n)) c
            have hfr := fsN_rg (fun c => foK w a m n c (4 ^ n)) c
            have hWe := Wd_ag hW hA (by decide) (by decide)
            refine T_iload dX12_force_46 rfl ?_
            refine T_iload dX12_force_48 rfl ?_
            refine T_callS dX12_force_50 lX12_294 (As := [_]) (rest := _) rfl rfl (by decide) (Nat.le_of_ble_eq_true rfl) (Nat.le_of_ble_eq_true rfl) (t_codesOf (by omega)) ?_
            rintro _ _ ⟨rfl, rfl⟩
            refine T_icmp_ge (tgt := 96) dX12_force_53 (by decide) (fun c53 => ?_) (fun c53 => ?_)
            · refine T_iload dX12_force_96 rfl ?_
              refine T_if_eq (tgt := 106) dX12_force_98 (by decide) (fun c98 => ?_) (fun c98 => ?_)
              · refine T_iload dX12_force_106 rfl ?_
                exact T_ireturn dX12_force_108 rfl ⟨by unfold qForce; (repeat rw [Int.toNat_natCast]); rw [if_neg (fun q => q h12), if_neg (fun q => q h21), if_neg (fun q => q h31), if_pos c98, show c = 4 ^ n by omega], hAg.trans hA (by decide) (by decide) (by decide) (by decide)⟩
              · refine T_iload dX12_force_101 rfl ?_
                refine T_goto (tgt := 108) dX12_force_103 (by decide) ?_
                exact T_ireturn dX12_force_108 rfl ⟨by unfold qForce; (repeat rw [Int.toNat_natCast]); rw [if_neg (fun q => q h12), if_neg (fun q => q h21), if_neg (fun q => q h31), if_neg c98, show c = 4 ^ n by omega], hAg.trans hA (by decide) (by decide) (by decide) (by decide)⟩
            · refine T_aload_n dX12_force_56 rfl ?_
              refine T_iload_n dX12_force_57 rfl ?_
              refine T_iload_n dX12_force_58 rfl ?_
              refine T_iload dX12_force_59 rfl ?_
              refine T_iload dX12_force_61 rfl ?_
              refine T_callV dX12_force_63 lX12_304 (As := [_, _, _, _]) (rest := _) rfl rfl k271 (by decide) (Nat.le_of_ble_eq_true rfl) (Nat.le_of_ble_eq_true rfl) (t_isForced hWe hV (by omega) (by omega)) ?_
              rintro _ d1 ⟨rfl, hA1⟩
              have hA1 := hA.trans hA1 (cs := foC) (fs := [18]) (by decide) (by decide) (by decide) (by decide)
              refine T_if_ne (tgt := 72) dX12_force_66 (by decide) (fun c66 => ?_) (fun c66 => ?_)
              · have h66 := bI_1 c66
                refine T_iload dX12_force_72 rfl ?_
                refine T_iconst dX12_force_74 (by decide) ?_
                refine T_icmp_ne (tgt := 83) dX12_force_75 (by decide) (fun c75 => ?_) (fun c75 => ?_)
                · refine T_iload dX12_force_83 rfl ?_
                  refine T_ist dX12_force_85 (by decide) rfl ?_
                  refine T_inc dX12_force_87 rfl (by decide) rfl (by omega) ?_
                  refine T_inc dX12_force_90 rfl (by decide) rfl (by omega) ?_
                  refine T_goto (tgt := 46) dX12_force_93 (by decide) ?_
                  refine T_leq ?_ (ih (c + 1, d1) ⟨by omega, hA1⟩ (by omega))
                  rw [cnN_t (f := (fun c => foK w a m n c (4 ^ n))) h66, show fsN (fun c => foK w a m n c (4 ^ n)) (c + 1) = fsN (fun c => foK w a m n c (4 ^ n)) c from if_neg (fun q => c75 q.2)]; rfl
                · refine T_iload dX12_force_78 rfl ?_
                  refine T_goto (tgt := 85) dX12_force_80 (by decide) ?_
                  refine T_ist dX12_force_85 (by decide) rfl ?_
                  refine T_inc dX12_force_87 rfl (by decide) rfl (by omega) ?_
                  refine T_inc dX12_force_90 rfl (by decide) rfl (by omega) ?_
                  refine T_goto (tgt := 46) dX12_force_93 (by decide) ?_
                  refine T_leq ?_ (ih (c + 1, d1) ⟨by omega, hA1⟩ (by omega))
                  rw [cnN_t (f := (fun c => foK w a m n c (4 ^ n))) h66, show fsN (fun c => foK w a m n c (4 ^ n)) (c + 1) = c from if_pos ⟨h66, c75⟩]; rfl
              · refine T_goto (tgt := 90) dX12_force_69 (by decide) ?_
                refine T_inc dX12_force_90 rfl (by decide) rfl (by omega) ?_
                refine T_goto (tgt := 46) dX12_force_93 (by decide) ?_
                refine T_leq ?_ (ih (c + 1, d1) ⟨by omega, hA1⟩ (by omega))
                rw [cnN_f (f := (fun c => foK w a m n c (4 ^ n))) (bI_0 c66), show fsN (fun c => foK w a m n c (4 ^ n)) (c + 1) = fsN (fun c => foK w a m n c (4 ^ n)) c from if_neg (fun q => bI_0 c66 q.1)]; rfl
          exact h46 (0, d0) ⟨Nat.zero_le _, Ag.rf⟩
        · refine T_bipush dX12_force_34 (by decide) ?_
          exact T_ireturn dX12_force_36 rfl ⟨by unfold qForce; rw [if_neg (fun q => q h12), if_neg (fun q => q h21), if_pos (bI_0 c31)], hAg⟩

end M17
