/-! the reference: the march, the meeting -/
section M16
variable {G : sG} {d : sD} {w g s : Nat → Int} {ml ml0 ml1 : List (Nat × Nat)} {dn dn0 dn1 : Nat}
def mvS (w : Nat → Int) (ml : List (Nat × Nat)) (a : Nat) (t : Int) : Int := if 0 ≤ t - 1 - w (11 + a) ∧ t - 1 - w (11 + a) ≤ (ml.length : Int) - 1 then w (17 + 36 * a + 6 * (ml.getD (t - 1 - w (11 + a)).toNat (0, 0)).1) else 0
def goX (p q : Int) : Int := if 0 < q - p then 2 else if q - p < 0 then -2 else 0
def goY (a : Nat) (p q : Int) : Int := if 0 < q - p then -2 else if q - p < 0 then 2 else if a = 0 then -2 else 2
def goS (a : Nat) (m p q : Int) : Int := if m = 1 then p - 1 else if m = 2 then p + 1 else if m = 3 then p + goX p q else if m = 4 then p + goY a p q else p
theorem goX_rg (p q : Int) : -2 ≤ goX p q ∧ goX p q ≤ 2 := by unfold goX; (repeat' split) <;> omega
theorem goY_rg (a : Nat) (p q : Int) : -2 ≤ goY a p q ∧ goY a p q ≤ 2 := by unfold goY; (repeat' split) <;> omega
theorem goS_rg (a : Nat) (m p q : Int) : p - 2 ≤ goS a m p q ∧ goS a m p q ≤ p + 2 := by
  have h1 := goX_rg p q
  have h2 := goY_rg a p q
  unfold goS; (repeat' split) <;> omega
def plS (w : Nat → Int) (ml0 ml1 : List (Nat × Nat)) : Nat → Int × Int
  | 0 => (w 13, w 14)
  | t + 1 => (goS 0 (mvS w ml0 0 ((t + 1 : Nat) : Int)) (plS w ml0 ml1 t).1 (plS w ml0 ml1 t).2, goS 1 (mvS w ml1 1 ((t + 1 : Nat) : Int)) (plS w ml0 ml1 t).2 (plS w ml0 ml1 t).1)
theorem plS_rg (hV : WV w) : ∀ t : Nat, (-2 * (t : Int) ≤ (plS w ml0 ml1 t).1 ∧ (plS w ml0 ml1 t).1 ≤ 20 + 2 * t) ∧ (-2 * (t : Int) ≤ (plS w ml0 ml1 t).2 ∧ (plS w ml0 ml1 t).2 ≤ 20 + 2 * t)
  | 0 => by
    have h0 : 0 ≤ w 13 ∧ w 13 ≤ 20 := (hV.a (a := 0) (by decide)).2.2.2.1
    have h1 : 0 ≤ w 14 ∧ w 14 ≤ 20 := (hV.a (a := 1) (by decide)).2.2.2.1
    show (_ ≤ w 13 ∧ w 13 ≤ _) ∧ (_ ≤ w 14 ∧ w 14 ≤ _)
    omega
  | t + 1 => by
    have ih := plS_rg hV t
    have h0 := goS_rg 0 (mvS w ml0 0 ((t + 1 : Nat) : Int)) (plS w ml0 ml1 t).1 (plS w ml0 ml1 t).2
    have h1 := goS_rg 1 (mvS w ml1 1 ((t + 1 : Nat) : Int)) (plS w ml0 ml1 t).2 (plS w ml0 ml1 t).1
    show (_ ≤ goS 0 _ _ _ ∧ goS 0 _ _ _ ≤ _) ∧ (_ ≤ goS 1 _ _ _ ∧ goS 1 _ _ _ ≤ _)
    omega
def plD (d : sD) (p q : Int) : sD := up (up d 286 0 p) 286 1 q
theorem plD_0 {p q : Int} : plD d p q 286 0 = p := by unfold plD; rw [up_nej (by decide), up_same]
theorem plD_1 {p q : Int} : plD d p q 286 1 = q := by unfold plD; rw [up_same]
theorem plD_ne {p q : Int} {b j : Nat} (h : b ≠ 286) : plD d p q b j = d b j := by unfold plD; rw [up_nea h, up_nea h]
theorem plD_plD {p q p' q' : Int} : plD (plD d p q) p' q' = plD d p' q' := by
  unfold plD; funext b j; unfold up
  by_cases h1 : b = 286 ∧ j = 1
  · rw [if_pos h1, if_pos h1]
  · rw [if_neg h1, if_neg h1, if_neg h1]
    by_cases h0 : b = 286 ∧ j = 0
    · rw [if_pos h0, if_pos h0]
    · rw [if_neg h0, if_neg h0, if_neg h0]
theorem plD_Ag {p q : Int} : Ag [286] [] d (plD d p q) := Ag_up (Ag_up Ag.rf (by decide)) (by decide)
theorem Mk_ag {cs fs : List Nat} {d d' : sD} {a : Nat} (h : Mk d w a ml dn) (hA : Ag cs fs d d') (h1 : 281 ∉ cs ∧ 282 ∉ cs ∧ 283 ∉ cs ∧ 284 ∉ cs ∧ 285 ∉ cs) : Mk d' w a ml dn := by
  refine ⟨by rw [hA.1 _ _ h1.2.2.2.1 (by decide)]; exact h.1, by rw [hA.1 _ _ h1.2.2.2.2 (by decide)]; exact h.2.1, fun i hi => ?_⟩
  rw [hA.1 _ _ h1.1 (by decide), hA.1 _ _ h1.2.1 (by decide), hA.1 _ _ h1.2.2.1 (by decide)]
  exact h.2.2 i hi
theorem t_moveAt {a t : Nat} (hW : Wd d w) (hV : WV w) (hK : Mk d w a ml dn) (hl : ml.length ≤ 24) (ha : a < 2) (ht : t ≤ 100) : tB G mX12_moveAt 0 [vR 271, vI a, vI t, vU 0] [] d (fun r d' => r = some (vI (mvS w ml a t)) ∧ d = d') := by
  have hva := (hV.a ha).2.2.1
  refine T_iload_n dX12_moveAt_0 rfl ?_
  refine T_iconst dX12_moveAt_1 (by decide) ?_
  refine T_sub dX12_moveAt_2 (by omega) ?_
  refine T_aload_n dX12_moveAt_3 rfl ?_
  refine T_bipush dX12_moveAt_4 (by decide) ?_
  refine T_iload_n dX12_moveAt_6 rfl ?_
  refine T_add dX12_moveAt_7 (by omega) ?_
  refine T_callV dX12_moveAt_8 lX12_212 (As := [_]) (rest := _) rfl rfl k271 (by decide) (Nat.le_of_ble_eq_true rfl) (Nat.le_of_ble_eq_true rfl) (t_of hW (y := 11 + a) (by omega) (by omega)) ?_
  rintro _ _ ⟨rfl, rfl⟩
  refine T_sub dX12_moveAt_11 (by omega) ?_
  refine T_ist_n dX12_moveAt_12 (by decide) rfl ?_
  refine T_iload_n dX12_moveAt_13 rfl ?_
  refine T_iconst dX12_moveAt_14 (by decide) ?_
  refine T_aload_n dX12_moveAt_15 rfl ?_
  refine T_getR dX12_moveAt_16 fX12_47 rfl k271 r271_22 ?_
  refine T_iload_n dX12_moveAt_19 rfl ?_
  refine T_ialdv dX12_moveAt_20 k284 l284 (by omega) (j := a) rfl (x := (ml.length : Int)) hK.1 ?_
  refine T_iconst dX12_moveAt_21 (by decide) ?_
  refine T_sub dX12_moveAt_22 (by omega) ?_
  refine T_callS dX12_moveAt_23 lX12_145 (As := [_, _, _]) (rest := _) rfl rfl (by decide) (Nat.le_of_ble_eq_true rfl) (Nat.le_of_ble_eq_true rfl) t_X12_isIn ?_
  rintro _ _ ⟨rfl, rfl⟩
  refine T_if_eq (tgt := 43) dX12_moveAt_26 (by decide) (fun c26 => ?_) (fun c26 => ?_)
  · refine T_iconst dX12_moveAt_43 (by decide) ?_
    exact T_ireturn dX12_moveAt_44 rfl ⟨by unfold mvS; rw [if_neg (bI_0 c26)], rfl⟩
  · have h26 := bI_1 c26
    obtain ⟨i, hi⟩ : ∃ i : Nat, (t : Int) - 1 - w (11 + a) = (i : Int) := ⟨((t : Int) - 1 - w (11 + a)).toNat, by omega⟩
    rw [hi] at h26 ⊢
    obtain ⟨k1, k2, k3⟩ := hK.2.2 i (by omega)
    refine T_aload_n dX12_moveAt_29 rfl ?_
    refine T_getR dX12_moveAt_30 fX12_38 rfl k271 r271_19 ?_
    refine T_bipush dX12_moveAt_33 (by decide) ?_
    refine T_iload_n dX12_moveAt_35 rfl ?_
    refine T_mul dX12_moveAt_36 (by omega) ?_
    refine T_iload_n dX12_moveAt_37 rfl ?_
    refine T_add dX12_moveAt_38 (by omega) ?_
    refine T_ialdv dX12_moveAt_39 k281 l281 (by omega) (j := 24 * a + i) (by omega) (x := w (17 + 36 * a + 6 * (ml.getD i (0, 0)).1)) k1 ?_
    refine T_goto (tgt := 44) dX12_moveAt_40 (by decide) ?_
    exact T_ireturn dX12_moveAt_44 rfl ⟨by unfold mvS; rw [hi, if_pos h26, Int.toNat_natCast], rfl⟩
theorem t_goesTo {a t : Nat} {p q : Int} (hW : Wd d w) (hV : WV w) (hK : Mk d w a ml dn) (hl : ml.length ≤ 24) (ha : a < 2) (ht : t ≤ 100) (hp : d 286 a = p) (hq : d 286 (1 - a) = q) (hb : (-200 ≤ p ∧ p ≤ 200) ∧ -200 ≤ q ∧ q ≤ 200) : tB G mX12_goesTo 0 [vR 271, vI a, vI t, vU 0, vU 0, vU 0, vU 0] [] d (fun r d' => r = some (vI (goS a (mvS w ml a t) p q)) ∧ d = d') := by
  have hx := goX_rg p q
  have hy := goY_rg a p q
  have h70 : ∀ z : Int, z = goY a p q → tB G mX12_goesTo 70 [vR 271, vI a, vI t, vI p, vI (q - p), vI (goX p q), vU 0] [vI z] d (fun r d' => r = some (vI (goS a (mvS w ml a t) p q)) ∧ d = d') := by
    rintro _ rfl
    refine T_ist dX12_goesTo_70 (by decide) rfl ?_
    refine T_aload_n dX12_goesTo_72 rfl ?_
    refine T_iload_n dX12_goesTo_73 rfl ?_
    refine T_iload_n dX12_goesTo_74 rfl ?_
    refine T_callV dX12_goesTo_75 lX12_279 (As := [_, _]) (rest := _) rfl rfl k271 (by decide) (Nat.le_of_ble_eq_true rfl) (Nat.le_of_ble_eq_true rfl) (t_moveAt hW hV hK hl ha ht) ?_
    rintro _ _ ⟨rfl, rfl⟩
    generalize mvS w ml a t = m
    by_cases hs1 : m = 1
    · subst hs1
      refine T_tabIn (tgt := 108) (off := 30) dX12_goesTo_78 (by decide) (by decide) (by decide) (by decide) ?_
      refine T_iload_n dX12_goesTo_108 rfl ?_
      refine T_iconst dX12_goesTo_109 (by decide) ?_
      refine T_sub dX12_goesTo_110 (by omega) ?_
      exact T_ireturn dX12_goesTo_111 rfl ⟨by unfold goS; rw [if_pos rfl], rfl⟩
    by_cases hs2 : m = 2
    · subst hs2
      refine T_tabIn (tgt := 112) (off := 34) dX12_goesTo_78 (by decide) (by decide) (by decide) (by decide) ?_
      refine T_iload_n dX12_goesTo_112 rfl ?_
      refine T_iconst dX12_goesTo_113 (by decide) ?_
      refine T_add dX12_goesTo_114 (by omega) ?_
      exact T_ireturn dX12_goesTo_115 rfl ⟨by unfold goS; rw [if_neg (by decide), if_pos rfl], rfl⟩
    by_cases hs3 : m = 3
    · subst hs3
      refine T_tabIn (tgt := 116) (off := 38) dX12_goesTo_78 (by decide) (by decide) (by decide) (by decide) ?_
      refine T_iload_n dX12_goesTo_116 rfl ?_
      refine T_iload dX12_goesTo_117 rfl ?_
      refine T_add dX12_goesTo_119 (by omega) ?_
      exact T_ireturn dX12_goesTo_120 rfl ⟨by unfold goS; rw [if_neg (by decide), if_neg (by decide), if_pos rfl], rfl⟩
    by_cases hs4 : m = 4
    · subst hs4
      refine T_tabIn (tgt := 121) (off := 43) dX12_goesTo_78 (by decide) (by decide) (by decide) (by decide) ?_
      refine T_iload_n dX12_goesTo_121 rfl ?_
      refine T_iload dX12_goesTo_122 rfl ?_
      refine T_add dX12_goesTo_124 (by omega) ?_
      exact T_ireturn dX12_goesTo_125 rfl ⟨by unfold goS; rw [if_neg (by decide), if_neg (by decide), if_neg (by decide), if_pos rfl], rfl⟩
    refine T_tabOut (tgt := 126) dX12_goesTo_78 (by omega) (by decide) ?_
    refine T_iload_n dX12_goesTo_126 rfl ?_
    exact T_ireturn dX12_goesTo_127 rfl ⟨by unfold goS; rw [if_neg hs1, if_neg hs2, if_neg hs3, if_neg hs4], rfl⟩
  have h39 : ∀ z : Int, z = goX p q → tB G mX12_goesTo 39 [vR 271, vI a, vI t, vI p, vI (q - p), vU 0, vU 0] [vI z] d (fun r d' => r = some (vI (goS a (mvS w ml a t) p q)) ∧ d = d') := by
    rintro _ rfl
    refine T_ist dX12_goesTo_39 (by decide) rfl ?_
    refine T_iload dX12_goesTo_41 rfl ?_
    refine T_if_le (tgt := 51) dX12_goesTo_43 (by decide) (fun c43 => ?_) (fun c43 => ?_)
    · refine T_iload dX12_goesTo_51 rfl ?_
      refine T_if_ge (tgt := 60) dX12_goesTo_53 (by decide) (fun c53 => ?_) (fun c53 => ?_)
      · refine T_iload_n dX12_goesTo_60 rfl ?_
        refine T_if_ne (tgt := 69) dX12_goesTo_61 (by decide) (fun c61 => ?_) (fun c61 => ?_)
        · refine T_iconst dX12_goesTo_69 (by decide) ?_
          exact h70 _ (by unfold goY; (repeat' split) <;> omega)
        · refine T_bipush dX12_goesTo_64 (by decide) ?_
          refine T_goto (tgt := 70) dX12_goesTo_66 (by decide) ?_
          exact h70 _ (by unfold goY; (repeat' split) <;> omega)
      · refine T_iconst dX12_goesTo_56 (by decide) ?_
        refine T_goto (tgt := 70) dX12_goesTo_57 (by decide) ?_
        exact h70 _ (by unfold goY; (repeat' split) <;> omega)
    · refine T_bipush dX12_goesTo_46 (by decide) ?_
      refine T_goto (tgt := 70) dX12_goesTo_48 (by decide) ?_
      exact h70 _ (by unfold goY; (repeat' split) <;> omega)
  refine T_aload_n dX12_goesTo_0 rfl ?_
  refine T_getR dX12_goesTo_1 fX12_53 rfl k271 r271_24 ?_
  refine T_iload_n dX12_goesTo_4 rfl ?_
  refine T_ialdv dX12_goesTo_5 k286 l286 (by omega) (j := a) rfl (x := p) hp ?_
  refine T_ist_n dX12_goesTo_6 (by decide) rfl ?_
  refine T_aload_n dX12_goesTo_7 rfl ?_
  refine T_getR dX12_goesTo_8 fX12_53 rfl k271 r271_24 ?_
  refine T_iconst dX12_goesTo_11 (by decide) ?_
  refine T_iload_n dX12_goesTo_12 rfl ?_
  refine T_sub dX12_goesTo_13 (by omega) ?_
  refine T_ialdv dX12_goesTo_14 k286 l286 (by omega) (j := 1 - a) (by omega) (x := q) hq ?_
  refine T_iload_n dX12_goesTo_15 rfl ?_
  refine T_sub dX12_goesTo_16 (by omega) ?_
  refine T_ist dX12_goesTo_17 (by decide) rfl ?_
  refine T_iload dX12_goesTo_19 rfl ?_
  refine T_if_le (tgt := 28) dX12_goesTo_21 (by decide) (fun c21 => ?_) (fun c21 => ?_)
  · refine T_iload dX12_goesTo_28 rfl ?_
    refine T_if_ge (tgt := 38) dX12_goesTo_30 (by decide) (fun c30 => ?_) (fun c30 => ?_)
    · refine T_iconst dX12_goesTo_38 (by decide) ?_
      exact h39 _ (by unfold goX; (repeat' split) <;> omega)
    · refine T_bipush dX12_goesTo_33 (by decide) ?_
      refine T_goto (tgt := 39) dX12_goesTo_35 (by decide) ?_
      exact h39 _ (by unfold goX; (repeat' split) <;> omega)
  · refine T_iconst dX12_goesTo_24 (by decide) ?_
    refine T_goto (tgt := 39) dX12_goesTo_25 (by decide) ?_
    exact h39 _ (by unfold goX; (repeat' split) <;> omega)
theorem t_steps {t : Nat} {p q : Int} (hW : Wd d w) (hV : WV w) (hK0 : Mk d w 0 ml0 dn0) (hK1 : Mk d w 1 ml1 dn1) (hl0 : ml0.length ≤ 24) (hl1 : ml1.length ≤ 24) (ht : t ≤ 100) (hb : (-200 ≤ p ∧ p ≤ 200) ∧ -200 ≤ q ∧ q ≤ 200) : tB G mX12_steps 0 [vR 271, vI t, vU 0, vU 0] [] (plD d p q) (fun r d' => r = none ∧ d' = plD d (goS 0 (mvS w ml0 0 t) p q) (goS 1 (mvS w ml1 1 t) q p)) := by
  have hW' : Wd (plD d p q) w := Wd_ag hW plD_Ag (by decide) (by decide)
  have hK0' : Mk (plD d p q) w 0 ml0 dn0 := Mk_ag hK0 plD_Ag (by decide)
  have hK1' : Mk (plD d p q) w 1 ml1 dn1 := Mk_ag hK1 plD_Ag (by decide)
  refine T_aload_n dX12_steps_0 rfl ?_
  refine T_iconst dX12_steps_1 (by decide) ?_
  refine T_iload_n dX12_steps_2 rfl ?_
  refine T_callV dX12_steps_3 lX12_282 (As := [_, _]) (rest := _) rfl rfl k271 (by decide) (Nat.le_of_ble_eq_true rfl) (Nat.le_of_ble_eq_true rfl) (t_goesTo (a := 0) hW' hV hK0' hl0 (by decide) ht plD_0 plD_1 (by omega)) ?_
  rintro _ _ ⟨rfl, rfl⟩
  refine T_ist_n dX12_steps_6 (by decide) rfl ?_
  refine T_aload_n dX12_steps_7 rfl ?_
  refine T_iconst dX12_steps_8 (by decide) ?_
  refine T_iload_n dX12_steps_9 rfl ?_
  refine T_callV dX12_steps_10 lX12_282 (As := [_, _]) (rest := _) rfl rfl k271 (by decide) (Nat.le_of_ble_eq_true rfl) (Nat.le_of_ble_eq_true rfl) (t_goesTo (a := 1) hW' hV hK1' hl1 (by decide) ht plD_1 plD_0 (by omega)) ?_
  rintro _ _ ⟨rfl, rfl⟩
  refine T_ist_n dX12_steps_13 (by decide) rfl ?_
  refine T_aload_n dX12_steps_14 rfl ?_
  refine T_getR dX12_steps_15 fX12_53 rfl k271 r271_24 ?_
  refine T_iconst dX12_steps_18 (by decide) ?_
  refine T_iload_n dX12_steps_19 rfl ?_
  refine T_iast dX12_steps_20 k286 l286 (by omega) (j := 0) rfl ?_
  refine T_aload_n dX12_steps_21 rfl ?_
  refine T_getR dX12_steps_22 fX12_53 rfl k271 r271_24 ?_
  refine T_iconst dX12_steps_25 (by decide) ?_
  refine T_iload_n dX12_steps_26 rfl ?_
  refine T_iast dX12_steps_27 k286 l286 (by omega) (j := 1) rfl ?_
  exact T_return dX12_steps_28 rfl ⟨rfl, plD_plD⟩
abbrev bgQ (d : sD) (w : Nat → Int) (n : Nat) : Option sV → sD → Prop := fun r d' => r = none ∧ ∃ e, d' = plD e (w 13) (w 14) ∧ Mk e w 0 (mkS w (d 279) n 0 24 0).1 (mkS w (d 279) n 0 24 0).2 ∧ Mk e w 1 (mkS w (d 279) n 1 24 0).1 (mkS w (d 279) n 1 24 0).2 ∧ Ag [281, 282, 283, 284, 285] [] d e
theorem t_begins {n : Nat} (hW : Wd d w) (hV : WV w) (hn : d 271 18 = (n : Int)) (hn24 : n ≤ 24) : tB G mX12_begins 0 [vR 271] [] d (bgQ d w n) := by
  refine T_aload_n dX12_begins_0 rfl ?_
  refine T_iconst dX12_begins_1 (by decide) ?_
  refine T_callV dX12_begins_2 lX12_270 (As := [_]) (rest := _) rfl rfl k271 (by decide) (Nat.le_of_ble_eq_true rfl) (Nat.le_of_ble_eq_true rfl) (t_makes (a := 0) hW hV hn hn24 (by decide)) ?_
  rintro _ d1 ⟨rfl, hK, hF⟩
  have hW1 := Wd_ag hW hF.1 (by decide) (by decide)
  refine T_aload_n dX12_begins_5 rfl ?_
  refine T_iconst dX12_begins_6 (by decide) ?_
  refine T_callV dX12_begins_7 lX12_270 (As := [_]) (rest := _) rfl rfl k271 (by decide) (Nat.le_of_ble_eq_true rfl) (Nat.le_of_ble_eq_true rfl) (t_makes (a := 1) hW1 hV (by rw [hF.1.2 _ (by decide)]; exact hn) hn24 (by decide)) ?_
  rintro _ d2 ⟨rfl, hK2, hF2⟩
  rw [show d1 279 = d 279 from funext fun j => hF.1.1 279 j (by decide) (by decide)] at hK2
  have hW2 := Wd_ag hW1 hF2.1 (by decide) (by decide)
  have hK1 : Mk d2 w 0 (mkS w (d 279) n 0 24 0).1 (mkS w (d 279) n 0 24 0).2 := by
    refine ⟨by rw [(hF2.2.2 0 (by decide)).1]; exact hK.1, by rw [(hF2.2.2 0 (by decide)).2]; exact hK.2.1, fun i hi => ?_⟩
    have hO := mkS_MlOk (s := d 279) hV (n := n) (a := 0) (by decide) hn24
    have q := hF2.2.1 (24 * 0 + i) (Or.inl (by have := hO.1; omega))
    rw [q.1, q.2.1, q.2.2]; exact hK.2.2 i hi
  refine T_aload_n dX12_begins_10 rfl ?_
  refine T_getR dX12_begins_11 fX12_53 rfl k271 r271_24 ?_
  refine T_iconst dX12_begins_14 (by decide) ?_
  refine T_aload_n dX12_begins_15 rfl ?_
  refine T_bipush dX12_begins_16 (by decide) ?_
  refine T_callV dX12_begins_18 lX12_212 (As := [_]) (rest := _) rfl rfl k271 (by decide) (Nat.le_of_ble_eq_true rfl) (Nat.le_of_ble_eq_true rfl) (t_of hW2 (y := 13) rfl (by decide)) ?_
  rintro _ _ ⟨rfl, rfl⟩
  refine T_iast dX12_begins_21 k286 l286 (by omega) (j := 0) rfl ?_
  refine T_aload_n dX12_begins_22 rfl ?_
  refine T_getR dX12_begins_23 fX12_53 rfl k271 r271_24 ?_
  refine T_iconst dX12_begins_26 (by decide) ?_
  refine T_aload_n dX12_begins_27 rfl ?_
  refine T_bipush dX12_begins_28 (by decide) ?_
  refine T_callV dX12_begins_30 lX12_212 (As := [_]) (rest := _) rfl rfl k271 (by decide) (Nat.le_of_ble_eq_true rfl) (Nat.le_of_ble_eq_true rfl) (t_of (hW2.up (by decide) (by decide)) (y := 14) rfl (by decide)) ?_
  rintro _ _ ⟨rfl, rfl⟩
  refine T_iast dX12_begins_33 k286 l286 (by omega) (j := 1) rfl ?_
  exact T_return dX12_begins_34 rfl ⟨rfl, d2, rfl, hK1, hK2, hF.1.trans hF2.1 (by decide) (by decide) (by decide) (by decide)⟩
abbrev mrC : List Nat := [275, 276, 277, 278, 279, 280, 281, 282, 283, 284, 285, 286]
theorem Ag.mr0 {d d' : sD} (h : Ag [] [10, 11] d d') : Ag mrC pyF d d' := h.mono (by decide) (by decide)
theorem Ag.mr1 {d d' : sD} (h : Ag pyC pyF d d') : Ag mrC pyF d d' := h.mono (by decide) (by decide)
theorem Ag.mr2 {d d1 e : sD} {p q : Int} (h : Ag pyC pyF d d1) (h2 : Ag [281, 282, 283, 284, 285] [] d1 e) : Ag mrC pyF d (plD e p q) := (h.trans h2 (cs := mkC) (fs := pyF) (by decide) (by decide) (by decide) (by decide)).trans plD_Ag (by decide) (by decide) (by decide) (by decide)
def qMarch (w g : Nat → Int) (a t : Int) : Int := if ¬ (0 ≤ a ∧ a ≤ 1) then -1000 else if ¬ (0 ≤ t ∧ t ≤ 24) then -1000 else if a = 0 then (plS w (mlS w g 0) (mlS w g 1) t.toNat).1 else (plS w (mlS w g 0) (mlS w g 1) t.toNat).2
theorem qMarch_pl {e : sD} {a t : Nat} (ha : a < 2) (ht : t ≤ 24) : plD e (plS w (mlS w g 0) (mlS w g 1) t).1 (plS w (mlS w g 0) (mlS w g 1) t).2 286 a = qMarch w g a t := by
  unfold qMarch; rw [if_neg (fun q => q (by omega)), if_neg (fun q => q (by omega)), Int.toNat_natCast]
  rcases (show a = 0 ∨ a = 1 by omega) with rfl | rfl
  · rw [if_pos (by decide), plD_0]
  · rw [if_neg (by decide), plD_1]
theorem t_X12_march {k l a t : Int} (hM : MS d) : tB G mX12_march 0 [vR 271, vI k, vI l, vI a, vI t, vU 0] [] d (qQ d (if Vp d k l then qMarch (wvD d k.toNat) (gvD d l.toNat) a t else -1000) mrC pyF) := by
  refine T_aload_n dX12_march_0 rfl ?_
  refine T_iload_n dX12_march_1 rfl ?_
  refine T_iload_n dX12_march_2 rfl ?_
  refine T_callV dX12_march_3 lX12_255 (As := [_, _]) (rest := _) rfl rfl k271 (by decide) (Nat.le_of_ble_eq_true rfl) (Nat.le_of_ble_eq_true rfl) (t_arePlayed hM) ?_
  rintro _ d1 (⟨hv, rfl, hA⟩ | ⟨hv, rfl, ⟨hW, hL, hS⟩, hA⟩)
  ·
    refine T_if_eq (tgt := 27) dX12_march_6 (by decide) (fun c6 => ?_) (fun c6 => absurd rfl c6)
    refine T_sipush dX12_march_27 (by decide) ?_
    exact T_ireturn dX12_march_30 rfl ⟨by rw [if_neg hv], hA.mr0⟩
  · rw [if_pos hv]
    have hV := hM.2.1 k.toNat (by omega)
    have hGV := hM.2.2.1 l.toNat (by omega)
    have g0 := (hGV 0 (by decide)).1
    have g1 := (hGV 1 (by decide)).1
    have hlen := rowS_len hV hGV
    generalize wvD d k.toNat = w at *
    generalize gvD d l.toNat = g at *
    refine T_if_eq (tgt := 27) dX12_march_6 (by decide) (fun c6 => absurd c6 (by decide)) (fun c6 => ?_)
    refine T_iload_n dX12_march_9 rfl ?_
    refine T_callS dX12_march_10 lX12_218 (As := [_]) (rest := _) rfl rfl (by decide) (Nat.le_of_ble_eq_true rfl) (Nat.le_of_ble_eq_true rfl) t_X12_isArmy ?_
    rintro _ _ ⟨rfl, rfl⟩
    refine T_if_eq (tgt := 27) dX12_march_13 (by decide) (fun c13 => ?_) (fun c13 => ?_)
    · refine T_sipush dX12_march_27 (by decide) ?_
      exact T_ireturn dX12_march_30 rfl ⟨by unfold qMarch; rw [if_pos (bI_0 c13)], hA.mr1⟩
    · have h13 := bI_1 c13
      obtain ⟨a, rfl⟩ : ∃ a2 : Nat, a = (a2 : Int) := ⟨a.toNat, by omega⟩
      refine T_iload dX12_march_16 rfl ?_
      refine T_iconst dX12_march_18 (by decide) ?_
      refine T_bipush dX12_march_19 (by decide) ?_
      refine T_callS dX12_march_21 lX12_145 (As := [_, _, _]) (rest := _) rfl rfl (by decide) (Nat.le_of_ble_eq_true rfl) (Nat.le_of_ble_eq_true rfl) t_X12_isIn ?_
      rintro _ _ ⟨rfl, rfl⟩
      refine T_if_ne (tgt := 31) dX12_march_24 (by decide) (fun c24 => ?_) (fun c24 => ?_)
      · have h24 := bI_1 c24
        obtain ⟨t, rfl⟩ : ∃ a2 : Nat, t = (a2 : Int) := ⟨t.toNat, by omega⟩
        refine T_aload_n dX12_march_31 rfl ?_
        refine T_callV dX12_march_32 lX12_285 (As := []) (rest := _) rfl rfl k271 (by decide) (Nat.le_of_ble_eq_true rfl) (Nat.le_of_ble_eq_true rfl) (t_begins hW hV hL.1 (by omega)) ?_
        rintro _ _ ⟨rfl, e, rfl, hK0, hK1, hF⟩
        rw [mk_py hV (by decide) hS] at hK0 hK1
        have hO0 := (mkS_MlOk (s := snS w g) hV (n := (rowS w g).length) (a := 0) (by decide) (by omega)).1
        have hO1 := (mkS_MlOk (s := snS w g) hV (n := (rowS w g).length) (a := 1) (by decide) (by omega)).1
        have hW2 := Wd_ag hW hF (by decide) (by decide)
        refine T_iconst dX12_march_35 (by decide) ?_
        refine T_ist dX12_march_36 (by decide) rfl ?_
        have h38 : ∀ x : Nat, x ≤ t → tB G mX12_march 38 [vR 271, vI k, vI l, vI a, vI t, vI (x + 1 : Nat)] [] (plD e (plS w (mlS w g 0) (mlS w g 1) x).1 (plS w (mlS w g 0) (mlS w g 1) x).2) (qQ d (qMarch w g a t) mrC pyF) := by
          refine T_loop (α := Nat) 38 (fun x => [vR 271, vI k, vI l, vI a, vI t, vI (x + 1 : Nat)]) (fun x => (plD e (plS w (mlS w g 0) (mlS w g 1) x).1 (plS w (mlS w g 0) (mlS w g 1) x).2)) (fun x => x ≤ t) (fun x => t - x) ?_
          intro x hx ih
          try dsimp only at ih ⊢
          have hb := plS_rg (ml0 := mlS w g 0) (ml1 := mlS w g 1) hV x
          refine T_iload dX12_march_38 rfl ?_
          refine T_iload dX12_march_40 rfl ?_
          refine T_icmp_gt (tgt := 57) dX12_march_42 (by decide) (fun c42 => ?_) (fun c42 => ?_)
          · refine T_aload_n dX12_march_57 rfl ?_
            refine T_getR dX12_march_58 fX12_53 rfl k271 r271_24 ?_
            refine T_iload_n dX12_march_61 rfl ?_
            refine T_iald dX12_march_62 k286 l286 (by omega) (j := a) rfl ?_
            exact T_ireturn dX12_march_63 rfl ⟨by rw [show x = t by omega, qMarch_pl (by omega) (by omega)], hA.mr2 hF⟩
          · refine T_aload_n dX12_march_45 rfl ?_
            refine T_iload dX12_march_46 rfl ?_
            refine T_callV dX12_march_48 lX12_288 (As := [_]) (rest := _) rfl rfl k271 (by decide) (Nat.le_of_ble_eq_true rfl) (Nat.le_of_ble_eq_true rfl) (t_steps (t := x + 1) hW2 hV hK0 hK1 hO0 hO1 (by omega) (by omega)) ?_
            rintro _ _ ⟨rfl, rfl⟩
            refine T_inc dX12_march_51 rfl (by decide) rfl (by omega) ?_
            refine T_goto (tgt := 38) dX12_march_54 (by decide) ?_
            exact ih (x + 1) (by omega) (by omega)
        exact h38 0 (Nat.zero_le _)
      · refine T_sipush dX12_march_27 (by decide) ?_
        exact T_ireturn dX12_march_30 rfl ⟨by unfold qMarch; rw [if_neg (fun q => q h13), if_pos (bI_0 c24)], hA.mr1⟩

/-- the first of some numbers at which a thing holds; -1: none -/
def fstN (f : Nat → Prop) [DecidablePred f] : Nat → Nat → Int
  | 0, _ => -1
  | n + 1, k => if f k then (k : Int) else fstN f n (k + 1)
theorem fstN_t {f : Nat → Prop} [DecidablePred f] {n k : Nat} (h : f k) (hn : 0 < n) : fstN f n k = k := by
  obtain ⟨m, rfl⟩ : ∃ m, n = m + 1 := ⟨n - 1, by omega⟩
  show (if f k then (k : Int) else _) = _
  rw [if_pos h]
theorem fstN_f {f : Nat → Prop} [DecidablePred f] {n k : Nat} (h : ¬ f k) (hn : 0 < n) : fstN f n k = fstN f (n - 1) (k + 1) := by
  obtain ⟨m, rfl⟩ : ∃ m, n = m + 1 := ⟨n - 1, by omega⟩
  show (if f k then (k : Int) else _) = _
  rw [if_neg h]; rfl
theorem fstN_congr {f f' : Nat → Prop} [DecidablePred f] [DecidablePred f'] : ∀ {n k : Nat}, (∀ j, k ≤ j → j < k + n → (f j ↔ f' j)) → fstN f n k = fstN f' n k
  | 0, _, _ => rfl
  | n + 1, k, h => by
    have e := fstN_congr (f := f) (f' := f') (n := n) (k := k + 1) (fun j h1 h2 => h j (by omega) (by omega))
    by_cases q : f k
    · rw [fstN_t q (by omega), fstN_t ((h k (by omega) (by omega)).mp q) (by omega)]
    · rw [fstN_f q (by omega), fstN_f (fun z => q ((h k (by omega) (by omega)).mpr z)) (by omega)]; exact e
abbrev mtP (w : Nat → Int) (ml0 ml1 : List (Nat × Nat)) (t : Nat) : Prop := (plS w ml0 ml1 t).2 - (plS w ml0 ml1 t).1 = 0 ∨ (0 < (plS w ml0 ml1 (t - 1)).2 - (plS w ml0 ml1 (t - 1)).1 ∧ (plS w ml0 ml1 t).2 - (plS w ml0 ml1 t).1 < 0) ∨ ((plS w ml0 ml1 (t - 1)).2 - (plS w ml0 ml1 (t - 1)).1 < 0 ∧ 0 < (plS w ml0 ml1 t).2 - (plS w ml0 ml1 t).1)
/-- the first day on which the armies meet or have passed each other; -1: none by day 24 -/
abbrev mtS (w : Nat → Int) (ml0 ml1 : List (Nat × Nat)) : Int := fstN (mtP w ml0 ml1) 25 0
theorem t_meeting {n : Nat} (hW : Wd d w) (hV : WV w) (hn : d 271 18 = (n : Int)) (hn24 : n ≤ 24) : tB G mX12_meeting 0 [vR 271, vU 0, vU 0, vU 0] [] d (fun r d' => r = some (vI (mtS w (mkS w (d 279) n 0 24 0).1 (mkS w (d 279) n 1 24 0).1)) ∧ Ag [281, 282, 283, 284, 285, 286] [] d d' ∧ ∃ dn0 dn1, Mk d' w 0 (mkS w (d 279) n 0 24 0).1 dn0 ∧ Mk d' w 1 (mkS w (d 279) n 1 24 0).1 dn1) := by
  have hO0 := (mkS_MlOk (s := d 279) hV (n := n) (a := 0) (by decide) hn24).1
  have hO1 := (mkS_MlOk (s := d 279) hV (n := n) (a := 1) (by decide) hn24).1
  refine T_aload_n dX12_meeting_0 rfl ?_
  refine T_callV dX12_meeting_1 lX12_285 (As := []) (rest := _) rfl rfl k271 (by decide) (Nat.le_of_ble_eq_true rfl) (Nat.le_of_ble_eq_true rfl) (t_begins hW hV hn hn24) ?_
  rintro _ _ ⟨rfl, e, rfl, hK0, hK1, hF⟩
  generalize (mkS w (d 279) n 0 24 0).1 = ml0 at *
  generalize (mkS w (d 279) n 1 24 0).1 = ml1 at *
  have hW2 := Wd_ag hW hF (by decide) (by decide)
  have hA : ∀ p q, Ag [281, 282, 283, 284, 285, 286] [] d (plD e p q) ∧ ∃ dn0 dn1, Mk (plD e p q) w 0 ml0 dn0 ∧ Mk (plD e p q) w 1 ml1 dn1 := fun p q => ⟨hF.trans plD_Ag (by decide) (by decide) (by decide) (by decide), _, _, Mk_ag hK0 plD_Ag (by decide), Mk_ag hK1 plD_Ag (by decide)⟩
  have h6 : ∀ x : Nat, (x ≤ 25 ∧ fstN (mtP w ml0 ml1) (25 - x) x = mtS w ml0 ml1) → tB G mX12_meeting 6 [vR 271, vI x, vU 0, vU 0] [] (plD e (plS w ml0 ml1 (x - 1)).1 (plS w ml0 ml1 (x - 1)).2) (fun r d' => r = some (vI (mtS w ml0 ml1)) ∧ Ag [281, 282, 283, 284, 285, 286] [] d d' ∧ ∃ dn0 dn1, Mk d' w 0 ml0 dn0 ∧ Mk d' w 1 ml1 dn1) := by
    refine T_loop (α := Nat) 6 (fun x => [vR 271, vI x, vU 0, vU 0]) (fun x => (plD e (plS w ml0 ml1 (x - 1)).1 (plS w ml0 ml1 (x - 1)).2)) (fun x => x ≤ 25 ∧ fstN (mtP w ml0 ml1) (25 - x) x = mtS w ml0 ml1) (fun x => 25 - x) ?_
    rintro x ⟨hx, hf⟩ ih
    try dsimp only at ih ⊢
    have hb0 := plS_rg (ml0 := ml0) (ml1 := ml1) hV (x - 1)
    have hb1 := plS_rg (ml0 := ml0) (ml1 := ml1) hV x
    have h35 : x ≤ 24 → tB G mX12_meeting 35 [vR 271, vI x, vI ((plS w ml0 ml1 (x - 1)).2 - (plS w ml0 ml1 (x - 1)).1), vU 0] [] (plD e (plS w ml0 ml1 x).1 (plS w ml0 ml1 x).2) (fun r d' => r = some (vI (mtS w ml0 ml1)) ∧ Ag [281, 282, 283, 284, 285, 286] [] d d' ∧ ∃ dn0 dn1, Mk d' w 0 ml0 dn0 ∧ Mk d' w 1 ml1 dn1) := by
      intro hx24
      refine T_aload_n dX12_meeting_35 rfl ?_
      refine T_getR dX12_meeting_36 fX12_53 rfl k271 r271_24 ?_
      refine T_iconst dX12_meeting_39 (by decide) ?_
      refine T_ialdv dX12_meeting_40 k286 l286 (by omega) (j := 1) rfl (x := (plS w ml0 ml1 x).2) plD_1 ?_
      refine T_aload_n dX12_meeting_41 rfl ?_
      refine T_getR dX12_meeting_42 fX12_53 rfl k271 r271_24 ?_
      refine T_iconst dX12_meeting_45 (by decide) ?_
      refine T_ialdv dX12_meeting_46 k286 l286 (by omega) (j := 0) rfl (x := (plS w ml0 ml1 x).1) plD_0 ?_
      refine T_sub dX12_meeting_47 (by omega) ?_
      refine T_ist_n dX12_meeting_48 (by decide) rfl ?_
      refine T_iload_n dX12_meeting_49 rfl ?_
      refine T_if_eq (tgt := 69) dX12_meeting_50 (by decide) (fun c50 => ?_) (fun c50 => ?_)
      · refine T_iload_n dX12_meeting_69 rfl ?_
        exact T_ireturn dX12_meeting_70 rfl ⟨by rw [← hf, fstN_t (show mtP w ml0 ml1 x by unfold mtP; omega) (by omega)], hA _ _⟩
      · refine T_iload_n dX12_meeting_53 rfl ?_
        refine T_if_le (tgt := 61) dX12_meeting_54 (by decide) (fun c54 => ?_) (fun c54 => ?_)
        · refine T_iload_n dX12_meeting_61 rfl ?_
          refine T_if_ge (tgt := 71) dX12_meeting_62 (by decide) (fun c62 => ?_) (fun c62 => ?_)
          · refine T_inc dX12_meeting_71 rfl (by decide) rfl (by omega) ?_
            refine T_goto (tgt := 6) dX12_meeting_74 (by decide) ?_
            exact T_drop 2 (T_drop 3 (ih (x + 1) ⟨by omega, by rw [← hf, fstN_f (k := x) (show ¬ mtP w ml0 ml1 x by unfold mtP; omega) (by omega)]; rfl⟩ (by omega)))
          · refine T_iload_n dX12_meeting_65 rfl ?_
            refine T_if_le (tgt := 71) dX12_meeting_66 (by decide) (fun c66 => ?_) (fun c66 => ?_)
            · refine T_inc dX12_meeting_71 rfl (by decide) rfl (by omega) ?_
              refine T_goto (tgt := 6) dX12_meeting_74 (by decide) ?_
              exact T_drop 2 (T_drop 3 (ih (x + 1) ⟨by omega, by rw [← hf, fstN_f (k := x) (show ¬ mtP w ml0 ml1 x by unfold mtP; omega) (by omega)]; rfl⟩ (by omega)))
            · refine T_iload_n dX12_meeting_69 rfl ?_
              exact T_ireturn dX12_meeting_70 rfl ⟨by rw [← hf, fstN_t (show mtP w ml0 ml1 x by unfold mtP; omega) (by omega)], hA _ _⟩
        · refine T_iload_n dX12_meeting_57 rfl ?_
          refine T_if_lt (tgt := 69) dX12_meeting_58 (by decide) (fun c58 => ?_) (fun c58 => ?_)
          · refine T_iload_n dX12_meeting_69 rfl ?_
            exact T_ireturn dX12_meeting_70 rfl ⟨by rw [← hf, fstN_t (show mtP w ml0 ml1 x by unfold mtP; omega) (by omega)], hA _ _⟩
          · refine T_iload_n dX12_meeting_61 rfl ?_
            refine T_if_ge (tgt := 71) dX12_meeting_62 (by decide) (fun c62 => ?_) (fun c62 => ?_)
            · refine T_inc dX12_meeting_71 rfl (by decide) rfl (by omega) ?_
              refine T_goto (tgt := 6) dX12_meeting_74 (by decide) ?_
              exact T_drop 2 (T_drop 3 (ih (x + 1) ⟨by omega, by rw [← hf, fstN_f (k := x) (show ¬ mtP w ml0 ml1 x by unfold mtP; omega) (by omega)]; rfl⟩ (by omega)))
            · refine T_iload_n dX12_meeting_65 rfl ?_
              refine T_if_le (tgt := 71) dX12_meeting_66 (by decide) (fun c66 => ?_) (fun c66 => ?_)
              · refine T_inc dX12_meeting_71 rfl (by decide) rfl (by omega) ?_
                refine T_goto (tgt := 6) dX12_meeting_74 (by decide) ?_
                exact T_drop 2 (T_drop 3 (ih (x + 1) ⟨by omega, by rw [← hf, fstN_f (k := x) (show ¬ mtP w ml0 ml1 x by unfold mtP; omega) (by omega)]; rfl⟩ (by omega)))
              · refine T_iload_n dX12_meeting_69 rfl ?_
                exact T_ireturn dX12_meeting_70 rfl ⟨by rw [← hf, fstN_t (show mtP w ml0 ml1 x by unfold mtP; omega) (by omega)], hA _ _⟩
    refine T_iload_n dX12_meeting_6 rfl ?_
    refine T_bipush dX12_meeting_7 (by decide) ?_
    refine T_icmp_gt (tgt := 77) dX12_meeting_9 (by decide) (fun c9 => ?_) (fun c9 => ?_)
    · refine T_iconst dX12_meeting_77 (by decide) ?_
      exact T_ireturn dX12_meeting_78 rfl ⟨by rw [← hf, show 25 - x = 0 by omega]; rfl, hA _ _⟩
    · refine T_aload_n dX12_meeting_12 rfl ?_
      refine T_getR dX12_meeting_13 fX12_53 rfl k271 r271_24 ?_
      refine T_iconst dX12_meeting_16 (by decide) ?_
      refine T_ialdv dX12_meeting_17 k286 l286 (by omega) (j := 1) rfl (x := (plS w ml0 ml1 (x - 1)).2) plD_1 ?_
      refine T_aload_n dX12_meeting_18 rfl ?_
      refine T_getR dX12_meeting_19 fX12_53 rfl k271 r271_24 ?_
      refine T_iconst dX12_meeting_22 (by decide) ?_
      refine T_ialdv dX12_meeting_23 k286 l286 (by omega) (j := 0) rfl (x := (plS w ml0 ml1 (x - 1)).1) plD_0 ?_
      refine T_sub dX12_meeting_24 (by omega) ?_
      refine T_ist_n dX12_meeting_25 (by decide) rfl ?_
      refine T_iload_n dX12_meeting_26 rfl ?_
      refine T_if_le (tgt := 35) dX12_meeting_27 (by decide) (fun c27 => ?_) (fun c27 => ?_)
      · have h := h35 (by omega)
        obtain rfl : x = 0 := by omega
        exact h
      · refine T_aload_n dX12_meeting_30 rfl ?_
        refine T_iload_n dX12_meeting_31 rfl ?_
        refine T_callV dX12_meeting_32 lX12_288 (As := [_]) (rest := _) rfl rfl k271 (by decide) (Nat.le_of_ble_eq_true rfl) (Nat.le_of_ble_eq_true rfl) (t_steps (t := x) hW2 hV hK0 hK1 hO0 hO1 (by omega) (by omega)) ?_
        rintro _ _ ⟨rfl, rfl⟩
        have h := h35 (by omega)
        obtain ⟨y, rfl⟩ : ∃ y, x = y + 1 := ⟨x - 1, by omega⟩
        exact h
  refine T_iconst dX12_meeting_4 (by decide) ?_
  refine T_ist_n dX12_meeting_5 (by decide) rfl ?_
  exact h6 0 ⟨by omega, rfl⟩
def qMeets (w g : Nat → Int) : Int := mtS w (mlS w g 0) (mlS w g 1)
theorem t_X12_meets {k l : Int} (hM : MS d) : tB G mX12_meets 0 [vR 271, vI k, vI l] [] d (qQ d (if Vp d k l then qMeets (wvD d k.toNat) (gvD d l.toNat) else -1) mrC pyF) := by
  refine T_aload_n dX12_meets_0 rfl ?_
  refine T_iload_n dX12_meets_1 rfl ?_
  refine T_iload_n dX12_meets_2 rfl ?_
  refine T_callV dX12_meets_3 lX12_255 (As := [_, _]) (rest := _) rfl rfl k271 (by decide) (Nat.le_of_ble_eq_true rfl) (Nat.le_of_ble_eq_true rfl) (t_arePlayed hM) ?_
  rintro _ d1 (⟨hv, rfl, hA⟩ | ⟨hv, rfl, ⟨hW, hL, hS⟩, hA⟩)
  ·
    refine T_if_eq (tgt := 16) dX12_meets_6 (by decide) (fun c6 => ?_) (fun c6 => absurd rfl c6)
    refine T_iconst dX12_meets_16 (by decide) ?_
    exact T_ireturn dX12_meets_17 rfl ⟨by rw [if_neg hv], hA.mr0⟩
  · rw [if_pos hv]
    have hV := hM.2.1 k.toNat (by omega)
    have hGV := hM.2.2.1 l.toNat (by omega)
    have g0 := (hGV 0 (by decide)).1
    have g1 := (hGV 1 (by decide)).1
    have hlen := rowS_len hV hGV
    generalize wvD d k.toNat = w at *
    generalize gvD d l.toNat = g at *
    refine T_if_eq (tgt := 16) dX12_meets_6 (by decide) (fun c6 => absurd c6 (by decide)) (fun c6 => ?_)
    refine T_aload_n dX12_meets_9 rfl ?_
    refine T_callV dX12_meets_10 lX12_291 (As := []) (rest := _) rfl rfl k271 (by decide) (Nat.le_of_ble_eq_true rfl) (Nat.le_of_ble_eq_true rfl) (t_meeting hW hV hL.1 (by omega)) ?_
    rintro _ d2 ⟨rfl, hA2, _⟩
    rw [mk_py hV (by decide) hS, mk_py hV (by decide) hS]
    refine T_goto (tgt := 17) dX12_meets_13 (by decide) ?_
    exact T_ireturn dX12_meets_17 rfl ⟨rfl, hA.trans hA2 (by decide) (by decide) (by decide) (by decide)⟩

end M16
