/-! the reference: far, codes, shared -/
section M23
variable {G : sG} {d : sD} {w g x y : Nat → Int}
def qFar (w : Nat → Int) (a o q : Int) : Int := if ((0 ≤ a ∧ a ≤ 1) ∧ 0 ≤ o ∧ o ≤ w (15 + a.toNat) - 1) ∧ ((0 ≤ a ∧ a ≤ 1) ∧ 0 ≤ q ∧ q ≤ w (15 + a.toNat) - 1) then frS w a.toNat o.toNat q.toNat else -1
theorem t_X12_far {k a i q : Int} (hM : MS d) : tB G mX12_far 0 [vR 271, vI k, vI a, vI i, vI q] [] d (qQ d (if Vd d 0 k then qFar (wvD d k.toNat) a i q else -1) faC [10]) := by
  have c0 := hM.1 0 (by decide)
  refine T_aload_n dX12_far_0 rfl ?_
  refine T_iload_n dX12_far_1 rfl ?_
  refine T_callV dX12_far_2 lX12_224 (As := [_]) (rest := _) rfl rfl k271 (by decide) (Nat.le_of_ble_eq_true rfl) (Nat.le_of_ble_eq_true rfl) (t_X12_isWar c0) ?_
  rintro _ _ (⟨hv, rfl, rfl⟩ | ⟨hv, rfl, rfl⟩)
  ·
    refine T_if_eq (tgt := 38) dX12_far_5 (by decide) (fun c5 => ?_) (fun c5 => absurd rfl c5)
    refine T_iconst dX12_far_38 (by decide) ?_
    exact T_ireturn dX12_far_39 rfl ⟨by rw [if_neg hv], Ag.rf⟩
  · have hW := isWd (d := d) (k := k.toNat) (by omega)
    rw [show (k.toNat : Int) = k by omega] at hW
    rw [if_pos hv]
    have hV := hM.2.1 k.toNat (by omega)
    have hAg : Ag [] [10] d (up d 271 10 (610 + 89 * k)) := Ag_upf Ag.rf (by decide)
    generalize up d 271 10 (610 + 89 * k) = d0 at *
    generalize wvD d k.toNat = w at *
    refine T_if_eq (tgt := 38) dX12_far_5 (by decide) (fun c5 => absurd c5 (by decide)) (fun c5 => ?_)
    refine T_aload_n dX12_far_8 rfl ?_
    refine T_iload_n dX12_far_9 rfl ?_
    refine T_iload_n dX12_far_10 rfl ?_
    refine T_callV dX12_far_11 lX12_227 (As := [_, _]) (rest := _) rfl rfl k271 (by decide) (Nat.le_of_ble_eq_true rfl) (Nat.le_of_ble_eq_true rfl) (t_isOrder hW hV) ?_
    rintro _ _ ⟨rfl, rfl⟩
    refine T_if_eq (tgt := 38) dX12_far_14 (by decide) (fun c14 => ?_) (fun c14 => ?_)
    · refine T_iconst dX12_far_38 (by decide) ?_
      exact T_ireturn dX12_far_39 rfl ⟨by unfold qFar; rw [if_neg (fun z => bI_0 c14 z.1)], hAg.mono (by decide) (by decide)⟩
    · have h14 := bI_1 c14
      obtain ⟨a, rfl⟩ : ∃ a2 : Nat, a = (a2 : Int) := ⟨a.toNat, by omega⟩
      obtain ⟨i, rfl⟩ : ∃ a2 : Nat, i = (a2 : Int) := ⟨i.toNat, by omega⟩
      rw [Int.toNat_natCast] at h14
      refine T_aload_n dX12_far_17 rfl ?_
      refine T_iload_n dX12_far_18 rfl ?_
      refine T_iload dX12_far_19 rfl ?_
      refine T_callV dX12_far_21 lX12_227 (As := [_, _]) (rest := _) rfl rfl k271 (by decide) (Nat.le_of_ble_eq_true rfl) (Nat.le_of_ble_eq_true rfl) (t_isOrder hW hV) ?_
      rintro _ _ ⟨rfl, rfl⟩
      refine T_if_eq (tgt := 38) dX12_far_24 (by decide) (fun c24 => ?_) (fun c24 => ?_)
      · refine T_iconst dX12_far_38 (by decide) ?_
        exact T_ireturn dX12_far_39 rfl ⟨by unfold qFar; rw [if_neg (fun z => bI_0 c24 z.2)], hAg.mono (by decide) (by decide)⟩
      · have h24 := bI_1 c24
        obtain ⟨q, rfl⟩ : ∃ a2 : Nat, q = (a2 : Int) := ⟨q.toNat, by omega⟩
        rw [Int.toNat_natCast] at h24
        refine T_aload_n dX12_far_27 rfl ?_
        refine T_iload_n dX12_far_28 rfl ?_
        refine T_iload_n dX12_far_29 rfl ?_
        refine T_iload dX12_far_30 rfl ?_
        refine T_callV dX12_far_32 lX12_325 (As := [_, _, _]) (rest := _) rfl rfl k271 (by decide) (Nat.le_of_ble_eq_true rfl) (Nat.le_of_ble_eq_true rfl) (t_farOf hW hV (by omega) (by omega) (by omega)) ?_
        rintro _ d1 ⟨rfl, hA1⟩
        refine T_goto (tgt := 39) dX12_far_35 (by decide) ?_
        exact T_ireturn dX12_far_39 rfl ⟨by unfold qFar; (repeat rw [Int.toNat_natCast]); rw [if_pos ⟨h14, h24⟩], hAg.trans hA1 (by decide) (by decide) (by decide) (by decide)⟩

abbrev bwI (w : Nat → Int) (a o b q i : Nat) : Prop := lnW w b q ≤ lnW w a o ∧ ∀ j, j < i → btW w a o j = btW w b q j
/-- a row of beats begins with another -/
abbrev bwP (w : Nat → Int) (a o b q : Nat) : Prop := bwI w a o b q (lnW w b q)
theorem t_beginsWith {a o b q : Nat} (hW : Wd d w) (hV : WV w) (ha : a < 2) (ho : (o : Int) < w (15 + a)) (hb : b < 2) (hq : (q : Int) < w (15 + b)) : tB G mX12_beginsWith 0 [vR 271, vI a, vI o, vI b, vI q, vU 0, vU 0] [] d (fun r d' => r = some (vI (bI (bwP w a o b q))) ∧ d = d') := by
  have l1 := hV.ln ha ho
  have l2 := hV.ln hb hq
  have h26 : ∀ i : Nat, i ≤ lnW w b q → tB G mX12_beginsWith 26 [vR 271, vI a, vI o, vI b, vI q, vI (bI (bwI w a o b q i)), vI i] [] d (fun r d' => r = some (vI (bI (bwP w a o b q))) ∧ d = d') := by
    refine T_loop (α := Nat) 26 (fun i => [vR 271, vI a, vI o, vI b, vI q, vI (bI (bwI w a o b q i)), vI i]) (fun _ => d) (fun i => i ≤ lnW w b q) (fun i => lnW w b q - i) ?_
    intro i hi ih
    try dsimp only at ih ⊢
    have h01 := bI_01 (bwI w a o b q i)
    have h68 : ∀ z : Int, z = bI (bwI w a o b q (i + 1)) → i < lnW w b q → tB G mX12_beginsWith 68 [vR 271, vI a, vI o, vI b, vI q, vI (bI (bwI w a o b q i)), vI i] [vI z] d (fun r d' => r = some (vI (bI (bwP w a o b q))) ∧ d = d') := by
      rintro _ rfl hlt
      refine T_ist dX12_beginsWith_68 (by decide) rfl ?_
      refine T_inc dX12_beginsWith_70 rfl (by decide) rfl (by omega) ?_
      refine T_goto (tgt := 26) dX12_beginsWith_73 (by decide) ?_
      exact ih (i + 1) (by omega) (by omega)
    refine T_iload dX12_beginsWith_26 rfl ?_
    refine T_aload_n dX12_beginsWith_28 rfl ?_
    refine T_iload_n dX12_beginsWith_29 rfl ?_
    refine T_iload dX12_beginsWith_30 rfl ?_
    refine T_callV dX12_beginsWith_32 lX12_230 (As := [_, _]) (rest := _) rfl rfl k271 (by decide) (Nat.le_of_ble_eq_true rfl) (Nat.le_of_ble_eq_true rfl) (t_lengthOf hW hb (by omega)) ?_
    rintro _ _ ⟨rfl, rfl⟩
    refine T_icmp_ge (tgt := 76) dX12_beginsWith_35 (by decide) (fun c35 => ?_) (fun c35 => ?_)
    · refine T_iload dX12_beginsWith_76 rfl ?_
      exact T_zreturn dX12_beginsWith_78 rfl (by omega) ⟨by rw [show i = lnW w b q by omega], rfl⟩
    · refine T_iload dX12_beginsWith_38 rfl ?_
      refine T_if_eq (tgt := 76) dX12_beginsWith_40 (by decide) (fun c40 => ?_) (fun c40 => ?_)
      · refine T_iload dX12_beginsWith_76 rfl ?_
        exact T_zreturn dX12_beginsWith_78 rfl (by omega) ⟨by rw [c40, bI_f (fun z => bI_0 c40 ⟨z.1, fun j hj => z.2 j (by omega)⟩)], rfl⟩
      · have h40 := bI_1 c40
        have hl := h40.1
        refine T_aload_n dX12_beginsWith_43 rfl ?_
        refine T_iload_n dX12_beginsWith_44 rfl ?_
        refine T_iload_n dX12_beginsWith_45 rfl ?_
        refine T_iload dX12_beginsWith_46 rfl ?_
        refine T_callV dX12_beginsWith_48 lX12_233 (As := [_, _, _]) (rest := _) rfl rfl k271 (by decide) (Nat.le_of_ble_eq_true rfl) (Nat.le_of_ble_eq_true rfl) (t_beatOf hW ha (by omega) (by omega)) ?_
        rintro _ _ ⟨rfl, rfl⟩
        refine T_aload_n dX12_beginsWith_51 rfl ?_
        refine T_iload_n dX12_beginsWith_52 rfl ?_
        refine T_iload dX12_beginsWith_53 rfl ?_
        refine T_iload dX12_beginsWith_55 rfl ?_
        refine T_callV dX12_beginsWith_57 lX12_233 (As := [_, _, _]) (rest := _) rfl rfl k271 (by decide) (Nat.le_of_ble_eq_true rfl) (Nat.le_of_ble_eq_true rfl) (t_beatOf hW hb (by omega) (by omega)) ?_
        rintro _ _ ⟨rfl, rfl⟩
        refine T_icmp_ne (tgt := 67) dX12_beginsWith_60 (by decide) (fun c60 => ?_) (fun c60 => ?_)
        · refine T_iconst dX12_beginsWith_67 (by decide) ?_
          exact h68 0 (bI_f (fun z => c60 (z.2 i (by omega)))).symm (by omega)
        · refine T_iconst dX12_beginsWith_63 (by decide) ?_
          refine T_goto (tgt := 68) dX12_beginsWith_64 (by decide) ?_
          have hI : bwI w a o b q (i + 1) := ⟨hl, fun j hj => by
            rcases (show j < i ∨ j = i by omega) with z | rfl
            · exact h40.2 j z
            · exact c60⟩
          exact h68 1 (bI_t hI).symm (by omega)
  have h21 : ∀ z : Int, z = bI (bwI w a o b q 0) → tB G mX12_beginsWith 21 [vR 271, vI a, vI o, vI b, vI q, vU 0, vU 0] [vI z] d (fun r d' => r = some (vI (bI (bwP w a o b q))) ∧ d = d') := by
    rintro _ rfl
    refine T_ist dX12_beginsWith_21 (by decide) rfl ?_
    refine T_iconst dX12_beginsWith_23 (by decide) ?_
    refine T_ist dX12_beginsWith_24 (by decide) rfl ?_
    exact h26 0 (Nat.zero_le _)
  refine T_aload_n dX12_beginsWith_0 rfl ?_
  refine T_iload_n dX12_beginsWith_1 rfl ?_
  refine T_iload_n dX12_beginsWith_2 rfl ?_
  refine T_callV dX12_beginsWith_3 lX12_230 (As := [_, _]) (rest := _) rfl rfl k271 (by decide) (Nat.le_of_ble_eq_true rfl) (Nat.le_of_ble_eq_true rfl) (t_lengthOf hW ha (by omega)) ?_
  rintro _ _ ⟨rfl, rfl⟩
  refine T_aload_n dX12_beginsWith_6 rfl ?_
  refine T_iload_n dX12_beginsWith_7 rfl ?_
  refine T_iload dX12_beginsWith_8 rfl ?_
  refine T_callV dX12_beginsWith_10 lX12_230 (As := [_, _]) (rest := _) rfl rfl k271 (by decide) (Nat.le_of_ble_eq_true rfl) (Nat.le_of_ble_eq_true rfl) (t_lengthOf hW hb (by omega)) ?_
  rintro _ _ ⟨rfl, rfl⟩
  refine T_icmp_lt (tgt := 20) dX12_beginsWith_13 (by decide) (fun c13 => ?_) (fun c13 => ?_)
  · refine T_iconst dX12_beginsWith_20 (by decide) ?_
    exact h21 0 (bI_f (fun z => by have := z.1; omega)).symm
  · refine T_iconst dX12_beginsWith_16 (by decide) ?_
    refine T_goto (tgt := 21) dX12_beginsWith_17 (by decide) ?_
    exact h21 1 (bI_t ⟨by omega, fun j hj => absurd hj (Nat.not_lt_zero j)⟩).symm

def cdM (w : Nat → Int) (a i : Nat) (s : Int) : Nat → Int
  | 0 => s
  | j + 1 => if w (17 + 36 * a + 6 * j) = w (17 + 36 * a + 6 * i) then cdM w a i s j else if cdM w a i s j = -1 then frS w a j i else min (cdM w a i s j) (frS w a j i)
/-- the least distance of two orders of other moves -/
def cdL (w : Nat → Int) (a : Nat) : Nat → Int
  | 0 => -1
  | k + 1 => cdM w a (k + 1) (cdL w a k) (k + 1)
abbrev cdB (w : Nat → Int) (a i : Nat) : Nat → Int := fun j => bI (bwP w a j a i ∨ bwP w a i a j)
def cdC (w : Nat → Int) (a : Nat) : Nat → Int
  | 0 => 0
  | k + 1 => cdC w a k + sumN (cdB w a (k + 1)) (k + 1)
theorem cdC_rg (w : Nat → Int) (a : Nat) : ∀ k, 0 ≤ cdC w a k ∧ cdC w a k ≤ k * k + k
  | 0 => by show 0 ≤ (0 : Int) ∧ (0 : Int) ≤ 0 * 0 + 0; omega
  | k + 1 => by
    have h1 := cdC_rg w a k
    have h2 := sumN_rg (f := cdB w a (k + 1)) (n := k + 1) (fun _ _ => bI_01 _)
    show 0 ≤ cdC w a k + sumN (cdB w a (k + 1)) (k + 1) ∧ cdC w a k + sumN (cdB w a (k + 1)) (k + 1) ≤ _
    have e : ((k + 1 : Nat) : Int) * ((k + 1 : Nat) : Int) = (k : Int) * k + 2 * k + 1 := by
      rw [show ((k + 1 : Nat) : Int) = (k : Int) + 1 by omega, Int.add_mul, Int.mul_add]; omega
    rw [e]; omega
def qCodes (w : Nat → Int) (a x : Int) : Int := if ¬ (0 ≤ a ∧ a ≤ 1) then -2 else if ¬ (0 ≤ x ∧ x ≤ 1) then -2 else if x = 0 then cdL w a.toNat ((w (15 + a.toNat)).toNat - 1) else cdC w a.toNat ((w (15 + a.toNat)).toNat - 1)
theorem t_X12_codes {k a x : Int} (hM : MS d) : tB G mX12_codes 0 [vR 271, vI k, vI a, vI x, vU 0, vU 0, vU 0, vU 0] [] d (qQ d (if Vd d 0 k then qCodes (wvD d k.toNat) a x else -2) faC [10]) := by
  have c0 := hM.1 0 (by decide)
  refine T_aload_n dX12_codes_0 rfl ?_
  refine T_iload_n dX12_codes_1 rfl ?_
  refine T_callV dX12_codes_2 lX12_224 (As := [_]) (rest := _) rfl rfl k271 (by decide) (Nat.le_of_ble_eq_true rfl) (Nat.le_of_ble_eq_true rfl) (t_X12_isWar c0) ?_
  rintro _ _ (⟨hv, rfl, rfl⟩ | ⟨hv, rfl, rfl⟩)
  ·
    refine T_if_eq (tgt := 24) dX12_codes_5 (by decide) (fun c5 => ?_) (fun c5 => absurd rfl c5)
    refine T_bipush dX12_codes_24 (by decide) ?_
    exact T_ireturn dX12_codes_26 rfl ⟨by rw [if_neg hv], Ag.rf⟩
  · have hW := isWd (d := d) (k := k.toNat) (by omega)
    rw [show (k.toNat : Int) = k by omega] at hW
    rw [if_pos hv]
    have hV := hM.2.1 k.toNat (by omega)
    have hAg : Ag [] [10] d (up d 271 10 (610 + 89 * k)) := Ag_upf Ag.rf (by decide)
    generalize up d 271 10 (610 + 89 * k) = d0 at *
    generalize wvD d k.toNat = w at *
    refine T_if_eq (tgt := 24) dX12_codes_5 (by decide) (fun c5 => absurd c5 (by decide)) (fun c5 => ?_)
    refine T_iload_n dX12_codes_8 rfl ?_
    refine T_callS dX12_codes_9 lX12_218 (As := [_]) (rest := _) rfl rfl (by decide) (Nat.le_of_ble_eq_true rfl) (Nat.le_of_ble_eq_true rfl) t_X12_isArmy ?_
    rintro _ _ ⟨rfl, rfl⟩
    refine T_if_eq (tgt := 24) dX12_codes_12 (by decide) (fun c12 => ?_) (fun c12 => ?_)
    · refine T_bipush dX12_codes_24 (by decide) ?_
      exact T_ireturn dX12_codes_26 rfl ⟨by unfold qCodes; rw [if_pos (bI_0 c12)], hAg.mono (by decide) (by decide)⟩
    · have h12 := bI_1 c12
      obtain ⟨a, rfl⟩ : ∃ a2 : Nat, a = (a2 : Int) := ⟨a.toNat, by omega⟩
      have ha : a < 2 := by omega
      have hwa := (hV.a ha).2.2.2.2
      refine T_iload_n dX12_codes_15 rfl ?_
      refine T_iconst dX12_codes_16 (by decide) ?_
      refine T_iconst dX12_codes_17 (by decide) ?_
      refine T_callS dX12_codes_18 lX12_145 (As := [_, _, _]) (rest := _) rfl rfl (by decide) (Nat.le_of_ble_eq_true rfl) (Nat.le_of_ble_eq_true rfl) t_X12_isIn ?_
      rintro _ _ ⟨rfl, rfl⟩
      refine T_if_ne (tgt := 27) dX12_codes_21 (by decide) (fun c21 => ?_) (fun c21 => ?_)
      · have h21 := bI_1 c21
        refine T_iconst dX12_codes_27 (by decide) ?_
        refine T_ist dX12_codes_28 (by decide) rfl ?_
        refine T_iconst dX12_codes_30 (by decide) ?_
        refine T_ist dX12_codes_31 (by decide) rfl ?_
        refine T_iconst dX12_codes_33 (by decide) ?_
        refine T_ist dX12_codes_34 (by decide) rfl ?_
        have h36 : ∀ y : Nat × sD, ((y.1 : Int) ≤ max 0 (w (15 + a) - 1) ∧ Ag faC [] d0 y.2) → tB G mX12_codes 36 [vR 271, vI k, vI a, vI x, vI (cdL w a y.1), vI (cdC w a y.1), vI (y.1 + 1 : Nat), vU 0] [] y.2 (qQ d (qCodes w a x) faC [10]) := by
          refine T_loop (α := Nat × sD) 36 (fun y => [vR 271, vI k, vI a, vI x, vI (cdL w a y.1), vI (cdC w a y.1), vI (y.1 + 1 : Nat), vU 0]) (fun y => y.2) (fun y => (y.1 : Int) ≤ max 0 (w (15 + a) - 1) ∧ Ag faC [] d0 y.2) (fun y => 6 - y.1) ?_
          rintro ⟨q, e0⟩ ⟨hq, hA0⟩ ih
          try dsimp only at hq hA0 ih ⊢
          have hWq := Wd_ag hW hA0 (by decide) (by decide)
          refine T_iload dX12_codes_36 rfl ?_
          refine T_aload_n dX12_codes_38 rfl ?_
          refine T_iload_n dX12_codes_39 rfl ?_
          refine T_callV dX12_codes_40 lX12_221 (As := [_]) (rest := _) rfl rfl k271 (by decide) (Nat.le_of_ble_eq_true rfl) (Nat.le_of_ble_eq_true rfl) (t_orders hWq ha) ?_
          rintro _ _ ⟨rfl, rfl⟩
          refine T_icmp_ge (tgt := 165) dX12_codes_43 (by decide) (fun c43 => ?_) (fun c43 => ?_)
          · have hqe : (w (15 + a)).toNat - 1 = q := by omega
            have hAf := hAg.trans hA0 (cs := faC) (fs := [10]) (by decide) (by decide) (by decide) (by decide)
            refine T_iload_n dX12_codes_165 rfl ?_
            refine T_if_ne (tgt := 174) dX12_codes_166 (by decide) (fun c166 => ?_) (fun c166 => ?_)
            · refine T_iload dX12_codes_174 rfl ?_
              exact T_ireturn dX12_codes_176 rfl ⟨by unfold qCodes; (repeat rw [Int.toNat_natCast]); rw [if_neg (fun z => z h12), if_neg (fun z => z h21), if_neg c166, hqe], hAf⟩
            · refine T_iload dX12_codes_169 rfl ?_
              refine T_goto (tgt := 176) dX12_codes_171 (by decide) ?_
              exact T_ireturn dX12_codes_176 rfl ⟨by unfold qCodes; (repeat rw [Int.toNat_natCast]); rw [if_neg (fun z => z h12), if_neg (fun z => z h21), if_pos c166, hqe], hAf⟩
          · refine T_iconst dX12_codes_46 (by decide) ?_
            refine T_ist dX12_codes_47 (by decide) rfl ?_
            have h49 : ∀ y : Nat × sD, (y.1 ≤ q + 1 ∧ Ag faC [] d0 y.2) → tB G mX12_codes 49 [vR 271, vI k, vI a, vI x, vI (cdM w a (q + 1) (cdL w a q) y.1), vI (cdC w a q + sumN (cdB w a (q + 1)) y.1), vI (q + 1 : Nat), vI y.1] [] y.2 (qQ d (qCodes w a x) faC [10]) := by
              refine T_loop (α := Nat × sD) 49 (fun y => [vR 271, vI k, vI a, vI x, vI (cdM w a (q + 1) (cdL w a q) y.1), vI (cdC w a q + sumN (cdB w a (q + 1)) y.1), vI (q + 1 : Nat), vI y.1]) (fun y => y.2) (fun y => y.1 ≤ q + 1 ∧ Ag faC [] d0 y.2) (fun y => q + 1 - y.1) ?_
              rintro ⟨j, e⟩ ⟨hj, hA⟩ ih2
              try dsimp only at hj hA ih2 ⊢
              have hWe := Wd_ag hW hA (by decide) (by decide)
              have r1 := cdC_rg w a q
              have r2 := sumN_rg (f := cdB w a (q + 1)) (n := j) (fun _ _ => bI_01 _)
              have hqq : (q : Int) * q ≤ 36 := by
                have : q * q ≤ 6 * 6 := Nat.mul_le_mul (by omega) (by omega)
                omega
              have h153 : ∀ (z : Int) (e2 : sD), Ag faC [] d0 e2 → z = cdM w a (q + 1) (cdL w a q) (j + 1) → j < q + 1 → tB G mX12_codes 153 [vR 271, vI k, vI a, vI x, vI z, vI (cdC w a q + sumN (cdB w a (q + 1)) (j + 1)), vI (q + 1 : Nat), vI j] [] e2 (qQ d (qCodes w a x) faC [10]) := by
                rintro _ e2 hA2 rfl hlt
                refine T_inc dX12_codes_153 rfl (by decide) rfl (by omega) ?_
                refine T_goto (tgt := 49) dX12_codes_156 (by decide) ?_
                exact ih2 (j + 1, e2) ⟨by omega, hA2⟩ (by omega)
              have h89 : ∀ z : Int, z = cdB w a (q + 1) j → j < q + 1 → tB G mX12_codes 89 [vR 271, vI k, vI a, vI x, vI (cdM w a (q + 1) (cdL w a q) j), vI (cdC w a q + sumN (cdB w a (q + 1)) j), vI (q + 1 : Nat), vI j] [vI z, vI (cdC w a q + sumN (cdB w a (q + 1)) j)] e (qQ d (qCodes w a x) faC [10]) := by
                rintro z hz hlt
                have hz2 : z = 0 ∨ z = 1 := by rw [hz]; exact bI_01 _
                have hs : cdC w a q + sumN (cdB w a (q + 1)) j + z = cdC w a q + sumN (cdB w a (q + 1)) (j + 1) := by show _ = _ + (_ + _); rw [hz]; omega
                obtain ⟨p, p1, p2, p3⟩ := hWe
                have hWe : Wd e w := ⟨p, p1, p2, p3⟩
                refine T_add dX12_codes_89 (by omega) ?_
                rw [hs]
                refine T_ist dX12_codes_90 (by decide) rfl ?_
                refine T_aload_n dX12_codes_92 rfl ?_
                refine T_getR dX12_codes_93 fX12_7 rfl k271 r271_0 ?_
                refine T_aload_n dX12_codes_96 rfl ?_
                refine T_iload_n dX12_codes_97 rfl ?_
                refine T_iload dX12_codes_98 rfl ?_
                refine T_callV dX12_codes_100 lX12_215 (As := [_, _]) (rest := _) rfl rfl k271 (by decide) (Nat.le_of_ble_eq_true rfl) (Nat.le_of_ble_eq_true rfl) (t_orderAt p1 (by omega) ha (by omega)) ?_
                rintro _ _ ⟨rfl, rfl⟩
                refine T_ialdv dX12_codes_103 k272 l272 (by omega) (j := p + (17 + 36 * a + 6 * j)) (by rw [Int.toNat_natCast]; omega) (x := w (17 + 36 * a + 6 * j)) (p3 _ (by omega)) ?_
                refine T_aload_n dX12_codes_104 rfl ?_
                refine T_getR dX12_codes_105 fX12_7 rfl k271 r271_0 ?_
                refine T_aload_n dX12_codes_108 rfl ?_
                refine T_iload_n dX12_codes_109 rfl ?_
                refine T_iload dX12_codes_110 rfl ?_
                refine T_callV dX12_codes_112 lX12_215 (As := [_, _]) (rest := _) rfl rfl k271 (by decide) (Nat.le_of_ble_eq_true rfl) (Nat.le_of_ble_eq_true rfl) (t_orderAt p1 (by omega) ha (by omega)) ?_
                rintro _ _ ⟨rfl, rfl⟩
                refine T_ialdv dX12_codes_115 k272 l272 (by omega) (j := p + (17 + 36 * a + 6 * (q + 1))) (by rw [Int.toNat_natCast]; omega) (x := w (17 + 36 * a + 6 * (q + 1))) (p3 _ (by omega)) ?_
                refine T_icmp_eq (tgt := 153) dX12_codes_116 (by decide) (fun c116 => ?_) (fun c116 => ?_)
                · exact h153 _ e hA (by show _ = if _ then _ else _; rw [if_pos c116]) hlt
                · refine T_iload dX12_codes_119 rfl ?_
                  refine T_iconst dX12_codes_121 (by decide) ?_
                  refine T_icmp_ne (tgt := 137) dX12_codes_122 (by decide) (fun c122 => ?_) (fun c122 => ?_)
                  · refine T_iload dX12_codes_137 rfl ?_
                    refine T_aload_n dX12_codes_139 rfl ?_
                    refine T_iload_n dX12_codes_140 rfl ?_
                    refine T_iload dX12_codes_141 rfl ?_
                    refine T_iload dX12_codes_143 rfl ?_
                    refine T_callV dX12_codes_145 lX12_325 (As := [_, _, _]) (rest := _) rfl rfl k271 (by decide) (Nat.le_of_ble_eq_true rfl) (Nat.le_of_ble_eq_true rfl) (t_farOf hWe hV ha (by omega) (by omega)) ?_
                    rintro _ e2 ⟨rfl, hA2⟩
                    have hA2 := hA.trans hA2 (cs := faC) (fs := []) (by decide) (by decide) (by decide) (by decide)
                    refine T_callS dX12_codes_148 lX12_320 (As := [_, _]) (rest := _) rfl rfl (by decide) (Nat.le_of_ble_eq_true rfl) (Nat.le_of_ble_eq_true rfl) t_X12_lesser ?_
                    rintro _ _ ⟨rfl, rfl⟩
                    refine T_ist dX12_codes_151 (by decide) rfl ?_
                    exact h153 _ e2 hA2 (by show _ = if _ then _ else if _ then _ else _; rw [if_neg c116, if_neg c122]) hlt
                  · refine T_aload_n dX12_codes_125 rfl ?_
                    refine T_iload_n dX12_codes_126 rfl ?_
                    refine T_iload dX12_codes_127 rfl ?_
                    refine T_iload dX12_codes_129 rfl ?_
                    refine T_callV dX12_codes_131 lX12_325 (As := [_, _, _]) (rest := _) rfl rfl k271 (by decide) (Nat.le_of_ble_eq_true rfl) (Nat.le_of_ble_eq_true rfl) (t_farOf hWe hV ha (by omega) (by omega)) ?_
                    rintro _ e2 ⟨rfl, hA2⟩
                    have hA2 := hA.trans hA2 (cs := faC) (fs := []) (by decide) (by decide) (by decide) (by decide)
                    refine T_goto (tgt := 151) dX12_codes_134 (by decide) ?_
                    refine T_ist dX12_codes_151 (by decide) rfl ?_
                    exact h153 _ e2 hA2 (by show _ = if _ then _ else if _ then _ else _; rw [if_neg c116, if_pos c122]) hlt
              refine T_iload dX12_codes_49 rfl ?_
              refine T_iload dX12_codes_51 rfl ?_
              refine T_icmp_ge (tgt := 159) dX12_codes_53 (by decide) (fun c53 => ?_) (fun c53 => ?_)
              · refine T_inc dX12_codes_159 rfl (by decide) rfl (by omega) ?_
                refine T_goto (tgt := 36) dX12_codes_162 (by decide) ?_
                obtain rfl : j = q + 1 := by omega
                exact T_drop 7 (ih (q + 1, e) ⟨by omega, hA⟩ (by omega))
              · refine T_iload dX12_codes_56 rfl ?_
                refine T_aload_n dX12_codes_58 rfl ?_
                refine T_iload_n dX12_codes_59 rfl ?_
                refine T_iload dX12_codes_60 rfl ?_
                refine T_iload_n dX12_codes_62 rfl ?_
                refine T_iload dX12_codes_63 rfl ?_
                refine T_callV dX12_codes_65 lX12_328 (As := [_, _, _, _]) (rest := _) rfl rfl k271 (by decide) (Nat.le_of_ble_eq_true rfl) (Nat.le_of_ble_eq_true rfl) (t_beginsWith hWe hV ha (by omega) ha (by omega)) ?_
                rintro _ _ ⟨rfl, rfl⟩
                refine T_if_ne (tgt := 84) dX12_codes_68 (by decide) (fun c68 => ?_) (fun c68 => ?_)
                · refine T_iconst dX12_codes_84 (by decide) ?_
                  refine T_goto (tgt := 89) dX12_codes_85 (by decide) ?_
                  exact h89 1 (bI_t (Or.inl (bI_1 c68))).symm (by omega)
                · refine T_aload_n dX12_codes_71 rfl ?_
                  refine T_iload_n dX12_codes_72 rfl ?_
                  refine T_iload dX12_codes_73 rfl ?_
                  refine T_iload_n dX12_codes_75 rfl ?_
                  refine T_iload dX12_codes_76 rfl ?_
                  refine T_callV dX12_codes_78 lX12_328 (As := [_, _, _, _]) (rest := _) rfl rfl k271 (by decide) (Nat.le_of_ble_eq_true rfl) (Nat.le_of_ble_eq_true rfl) (t_beginsWith hWe hV ha (by omega) ha (by omega)) ?_
                  rintro _ _ ⟨rfl, rfl⟩
                  refine T_if_eq (tgt := 88) dX12_codes_81 (by decide) (fun c81 => ?_) (fun c81 => ?_)
                  · refine T_iconst dX12_codes_88 (by decide) ?_
                    exact h89 0 (bI_f (fun z => z.elim (bI_0 c68) (bI_0 c81))).symm (by omega)
                  · refine T_iconst dX12_codes_84 (by decide) ?_
                    refine T_goto (tgt := 89) dX12_codes_85 (by decide) ?_
                    exact h89 1 (bI_t (Or.inr (bI_1 c81))).symm (by omega)
            have h := h49 (0, e0) ⟨Nat.zero_le _, hA0⟩
            dsimp only at h
            rw [show cdC w a q + sumN (cdB w a (q + 1)) 0 = cdC w a q from Int.add_zero _] at h
            exact h
        exact h36 (0, d0) ⟨by show (0 : Int) ≤ _; omega, Ag.rf⟩
      · refine T_bipush dX12_codes_24 (by decide) ?_
        exact T_ireturn dX12_codes_26 rfl ⟨by unfold qCodes; rw [if_neg (fun z => z h12), if_pos (bI_0 c21)], hAg.mono (by decide) (by decide)⟩

end M23
