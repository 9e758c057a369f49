/-! the reference: villages -/
section M25
variable {G : sG} {d : sD} {w g v x y : Nat → Int}
def Vv (d : sD) (v : Nat → Int) : Prop := ∃ p : Nat, d 271 29 = (p : Int) ∧ p + 33 ≤ 3736 ∧ ∀ x, x < 33 → d 272 (p + x) = v x
theorem Vv_ag {cs fs : List Nat} {d d' : sD} (H : Vv d v) (hA : Ag cs fs d d') (h1 : 272 ∉ cs) (h2 : 29 ∉ fs) : Vv d' v := by
  obtain ⟨p, q1, q2, q3⟩ := H
  exact ⟨p, (hA.2 29 h2).trans q1, q2, fun x hx => (hA.1 272 _ h1 (by decide)).trans (q3 x hx)⟩
theorem isVv {k : Nat} (hk : k < 2) : Vv (up d 271 29 (868 + 33 * (k : Int))) (vvD d k) := ⟨868 + 33 * k, by rw [up_same]; omega, by omega, fun x _ => by rw [up_nea (by decide)]; rfl⟩
theorem t_villageOf {k x : Nat} (h : Vv d v) (hx : 1 + 4 * k + x < 33) : tB G mX12_villageOf 0 [vR 271, vI k, vI x] [] d (fun r d' => r = some (vI (v (1 + 4 * k + x))) ∧ d = d') := by
  obtain ⟨p, q1, q2, q3⟩ := h
  refine T_aload_n dX12_villageOf_0 rfl ?_
  refine T_getR dX12_villageOf_1 fX12_7 rfl k271 r271_0 ?_
  refine T_aload_n dX12_villageOf_4 rfl ?_
  refine T_getIv dX12_villageOf_5 fX12_331 rfl k271 (x := (p : Int)) q1 ?_
  refine T_iconst dX12_villageOf_8 (by decide) ?_
  refine T_add dX12_villageOf_9 (by omega) ?_
  refine T_iconst dX12_villageOf_10 (by decide) ?_
  refine T_iload_n dX12_villageOf_11 rfl ?_
  refine T_mul dX12_villageOf_12 (by omega) ?_
  refine T_add dX12_villageOf_13 (by omega) ?_
  refine T_iload_n dX12_villageOf_14 rfl ?_
  refine T_add dX12_villageOf_15 (by omega) ?_
  refine T_ialdv dX12_villageOf_16 k272 l272 (by omega) (j := p + (1 + 4 * k + x)) (by omega) (x := v (1 + 4 * k + x)) (q3 _ (by omega)) ?_
  exact T_ireturn dX12_villageOf_17 rfl ⟨rfl, rfl⟩

/-- how deep a village lies -/
def dpF (v : Nat → Int) : Nat → Nat → Int
  | 0, _ => 0
  | f + 1, k => if v (1 + 4 * k) = 8 then 1 else 1 + dpF v f (v (1 + 4 * k)).toNat
theorem VV.par (hV : VV v) {k : Nat} (hk : (k : Int) < v 0) : v (1 + 4 * k) = 8 ∨ (0 ≤ v (1 + 4 * k) ∧ v (1 + 4 * k) < k) := (hV.2 k hk).1
theorem dpF_st (hV : VV v) : ∀ n k f f' : Nat, k ≤ n → (k : Int) < v 0 → k < f → k < f' → dpF v f k = dpF v f' k
  | n, k, f, f', hn, hk, hf, hf' => by
    obtain ⟨f, rfl⟩ : ∃ z, f = z + 1 := ⟨f - 1, by omega⟩
    obtain ⟨f', rfl⟩ : ∃ z, f' = z + 1 := ⟨f' - 1, by omega⟩
    show (if _ then _ else _) = if _ then _ else _
    by_cases h8 : v (1 + 4 * k) = 8
    · rw [if_pos h8, if_pos h8]
    · have hp := (hV.par hk).resolve_left h8
      rw [if_neg h8, if_neg h8]
      cases n with
      | zero => omega
      | succ n => rw [dpF_st hV n (v (1 + 4 * k)).toNat f f' (by omega) (by omega) (by omega) (by omega)]
abbrev dpS (v : Nat → Int) (k : Nat) : Int := dpF v (k + 1) k
theorem dpS_rg (hV : VV v) : ∀ n k : Nat, k ≤ n → (k : Int) < v 0 → 1 ≤ dpS v k ∧ dpS v k ≤ k + 1
  | n, k, hn, hk => by
    rw [show dpS v k = if v (1 + 4 * k) = 8 then 1 else 1 + dpF v k (v (1 + 4 * k)).toNat from rfl]
    by_cases h8 : v (1 + 4 * k) = 8
    · rw [if_pos h8]; omega
    · have hp := (hV.par hk).resolve_left h8
      rw [if_neg h8]
      cases n with
      | zero => omega
      | succ n =>
        have ih : 1 ≤ dpF v ((v (1 + 4 * k)).toNat + 1) (v (1 + 4 * k)).toNat ∧ dpF v ((v (1 + 4 * k)).toNat + 1) (v (1 + 4 * k)).toNat ≤ ((v (1 + 4 * k)).toNat : Int) + 1 := dpS_rg hV n (v (1 + 4 * k)).toNat (by omega) (by omega)
        have e := dpF_st hV _ (v (1 + 4 * k)).toNat k ((v (1 + 4 * k)).toNat + 1) (Nat.le_refl _) (by omega) (by omega) (by omega)
        rw [e]; omega
theorem dpS_8 {k : Nat} (h8 : v (1 + 4 * k) = 8) : dpS v k = 1 := if_pos h8
theorem dpS_p (hV : VV v) {k q : Nat} (hk : (k : Int) < v 0) (hq : v (1 + 4 * k) = (q : Int)) (h8 : q ≠ 8) : dpS v k = 1 + dpS v q := by
  have hp := (hV.par hk).resolve_left (by omega)
  show (if _ then _ else _) = _
  rw [if_neg (by omega), hq, Int.toNat_natCast, dpF_st hV q q k (q + 1) (Nat.le_refl _) (by omega) (by omega) (by omega)]
theorem t_depthOf {k : Nat} (h : Vv d v) (hV : VV v) (hk : (k : Int) < v 0) : tB G mX12_depthOf 0 [vR 271, vI k, vU 0, vU 0] [] d (fun r d' => r = some (vI (dpS v k)) ∧ d = d') := by
  have h0 := hV.1
  have hd := dpS_rg hV k k (Nat.le_refl _) hk
  have h9 : ∀ z : Nat × Int, ((z.1 : Int) < v 0 ∧ 1 ≤ z.2 ∧ z.2 + (if v (1 + 4 * z.1) = 8 then 0 else dpS v (v (1 + 4 * z.1)).toNat) = dpS v k) → tB G mX12_depthOf 9 [vR 271, vI k, vI z.2, vI (v (1 + 4 * z.1))] [] d (fun r d' => r = some (vI (dpS v k)) ∧ d = d') := by
    refine T_loop (α := Nat × Int) 9 (fun z => [vR 271, vI k, vI z.2, vI (v (1 + 4 * z.1))]) (fun _ => d) (fun z => (z.1 : Int) < v 0 ∧ 1 ≤ z.2 ∧ z.2 + (if v (1 + 4 * z.1) = 8 then 0 else dpS v (v (1 + 4 * z.1)).toNat) = dpS v k) (fun z => z.1) ?_
    rintro ⟨m, c⟩ ⟨hm, hc, hs⟩ ih
    try dsimp only at hm hc hs ih ⊢
    refine T_iload_n dX12_depthOf_9 rfl ?_
    refine T_bipush dX12_depthOf_10 (by decide) ?_
    refine T_icmp_eq (tgt := 28) dX12_depthOf_12 (by decide) (fun c12 => ?_) (fun c12 => ?_)
    · refine T_iload_n dX12_depthOf_28 rfl ?_
      exact T_ireturn dX12_depthOf_29 rfl ⟨by rw [if_pos c12] at hs; rw [← hs, Int.add_zero], rfl⟩
    · have hp := (hV.par hm).resolve_left c12
      rw [if_neg c12] at hs
      generalize hpe : v (1 + 4 * m) = pm at *
      obtain ⟨p, rfl⟩ : ∃ z : Nat, pm = (z : Int) := ⟨pm.toNat, by omega⟩
      rw [Int.toNat_natCast] at hs
      have hdp := dpS_rg hV p p (Nat.le_refl _) (by omega)
      refine T_inc dX12_depthOf_15 rfl (by decide) rfl (by omega) ?_
      refine T_aload_n dX12_depthOf_18 rfl ?_
      refine T_iload_n dX12_depthOf_19 rfl ?_
      refine T_iconst dX12_depthOf_20 (by decide) ?_
      refine T_callV dX12_depthOf_21 lX12_334 (As := [_, _]) (rest := _) rfl rfl k271 (by decide) (Nat.le_of_ble_eq_true rfl) (Nat.le_of_ble_eq_true rfl) (t_villageOf (x := 0) h (by omega)) ?_
      rintro _ _ ⟨rfl, rfl⟩
      refine T_ist_n dX12_depthOf_24 (by decide) rfl ?_
      refine T_goto (tgt := 9) dX12_depthOf_25 (by decide) ?_
      refine ih (p, c + 1) ⟨by show (p : Int) < v 0; omega, by show 1 ≤ c + 1; omega, ?_⟩ (by show p < m; omega)
      dsimp only
      by_cases h8 : v (1 + 4 * p) = 8
      · rw [if_pos h8]; rw [dpS_8 h8] at hs; omega
      · have hp2 := (hV.par (k := p) (by omega)).resolve_left h8
        rw [if_neg h8]
        rw [dpS_p hV (k := p) (q := (v (1 + 4 * p)).toNat) (by omega) (by omega) (by omega)] at hs; omega
  refine T_iconst dX12_depthOf_0 (by decide) ?_
  refine T_ist_n dX12_depthOf_1 (by decide) rfl ?_
  refine T_aload_n dX12_depthOf_2 rfl ?_
  refine T_iload_n dX12_depthOf_3 rfl ?_
  refine T_iconst dX12_depthOf_4 (by decide) ?_
  refine T_callV dX12_depthOf_5 lX12_334 (As := [_, _]) (rest := _) rfl rfl k271 (by decide) (Nat.le_of_ble_eq_true rfl) (Nat.le_of_ble_eq_true rfl) (t_villageOf (x := 0) h (by omega)) ?_
  rintro _ _ ⟨rfl, rfl⟩
  refine T_ist_n dX12_depthOf_8 (by decide) rfl ?_
  refine h9 (k, 1) ⟨hk, by show (1 : Int) ≤ 1; omega, ?_⟩
  dsimp only
  by_cases h8 : v (1 + 4 * k) = 8
  · rw [if_pos h8, dpS_8 h8]; rfl
  · have hp := (hV.par hk).resolve_left h8
    rw [if_neg h8, dpS_p hV (k := k) (q := (v (1 + 4 * k)).toNat) hk (by omega) (by omega)]

def qVillage (v : Nat → Int) (i x : Int) : Int := if i = -1 then (if x = 0 then v 0 else -2) else if ¬ (0 ≤ i ∧ i ≤ v 0 - 1) then -2 else if 0 ≤ x ∧ x ≤ 3 then v (1 + 4 * i.toNat + x.toNat) else if x = 4 then dpS v i.toNat else -2
theorem t_X12_village {t i x : Int} (hM : MS d) : tB G mX12_village 0 [vR 271, vI t, vI i, vI x] [] d (qQ d (if Vd d 3 t then qVillage (vvD d t.toNat) i x else -2) [] [29]) := by
  have c3 := hM.1 3 (by decide)
  refine T_aload_n dX12_village_0 rfl ?_
  refine T_iload_n dX12_village_1 rfl ?_
  refine T_callV dX12_village_2 lX12_337 (As := [_]) (rest := _) rfl rfl k271 (by decide) (Nat.le_of_ble_eq_true rfl) (Nat.le_of_ble_eq_true rfl) (t_X12_areVillages c3) ?_
  rintro _ _ (⟨hv, rfl, rfl⟩ | ⟨hv, rfl, rfl⟩)
  ·
    refine T_if_ne (tgt := 11) dX12_village_5 (by decide) (fun c5 => absurd rfl c5) (fun c5 => ?_)
    refine T_bipush dX12_village_8 (by decide) ?_
    exact T_ireturn dX12_village_10 rfl ⟨by rw [if_neg hv], Ag.rf⟩
  · have hW := isVv (d := d) (k := t.toNat) (by omega)
    rw [show (t.toNat : Int) = t by omega] at hW
    rw [if_pos hv]
    have hV := hM.2.2.2.2 t.toNat (by omega)
    have hAg : Ag [] [29] d (up d 271 29 (868 + 33 * t)) := Ag_upf Ag.rf (by decide)
    generalize up d 271 29 (868 + 33 * t) = d0 at *
    generalize vvD d t.toNat = v at *
    have h0 := hV.1
    obtain ⟨p, q1, q2, q3⟩ := hW
    have hW : Vv d0 v := ⟨p, q1, q2, q3⟩
    refine T_if_ne (tgt := 11) dX12_village_5 (by decide) (fun c5 => ?_) (fun c5 => absurd c5 (by decide))
    refine T_iload_n dX12_village_11 rfl ?_
    refine T_iconst dX12_village_12 (by decide) ?_
    refine T_icmp_ne (tgt := 35) dX12_village_13 (by decide) (fun c13 => ?_) (fun c13 => ?_)
    · refine T_iload_n dX12_village_35 rfl ?_
      refine T_iconst dX12_village_36 (by decide) ?_
      refine T_aload_n dX12_village_37 rfl ?_
      refine T_getR dX12_village_38 fX12_7 rfl k271 r271_0 ?_
      refine T_aload_n dX12_village_41 rfl ?_
      refine T_getIv dX12_village_42 fX12_331 rfl k271 (x := (p : Int)) q1 ?_
      refine T_ialdv dX12_village_45 k272 l272 (by omega) (j := p + 0) (by omega) (x := v 0) (q3 0 (by decide)) ?_
      refine T_iconst dX12_village_46 (by decide) ?_
      refine T_sub dX12_village_47 (by omega) ?_
      refine T_callS dX12_village_48 lX12_145 (As := [_, _, _]) (rest := _) rfl rfl (by decide) (Nat.le_of_ble_eq_true rfl) (Nat.le_of_ble_eq_true rfl) t_X12_isIn ?_
      rintro _ _ ⟨rfl, rfl⟩
      refine T_if_ne (tgt := 57) dX12_village_51 (by decide) (fun c51 => ?_) (fun c51 => ?_)
      · have h51 := bI_1 c51
        obtain ⟨i, rfl⟩ : ∃ a2 : Nat, i = (a2 : Int) := ⟨i.toNat, by omega⟩
        refine T_iload_n dX12_village_57 rfl ?_
        refine T_iconst dX12_village_58 (by decide) ?_
        refine T_iconst dX12_village_59 (by decide) ?_
        refine T_callS dX12_village_60 lX12_145 (As := [_, _, _]) (rest := _) rfl rfl (by decide) (Nat.le_of_ble_eq_true rfl) (Nat.le_of_ble_eq_true rfl) t_X12_isIn ?_
        rintro _ _ ⟨rfl, rfl⟩
        refine T_if_eq (tgt := 75) dX12_village_63 (by decide) (fun c63 => ?_) (fun c63 => ?_)
        · refine T_iload_n dX12_village_75 rfl ?_
          refine T_iconst dX12_village_76 (by decide) ?_
          refine T_icmp_ne (tgt := 88) dX12_village_77 (by decide) (fun c77 => ?_) (fun c77 => ?_)
          · refine T_bipush dX12_village_88 (by decide) ?_
            exact T_ireturn dX12_village_90 rfl ⟨by unfold qVillage; (repeat rw [Int.toNat_natCast]); rw [if_neg c13, if_neg (fun z => z h51), if_neg (bI_0 c63), if_neg c77], hAg⟩
          · refine T_aload_n dX12_village_80 rfl ?_
            refine T_iload_n dX12_village_81 rfl ?_
            refine T_callV dX12_village_82 lX12_340 (As := [_]) (rest := _) rfl rfl k271 (by decide) (Nat.le_of_ble_eq_true rfl) (Nat.le_of_ble_eq_true rfl) (t_depthOf hW hV (by omega)) ?_
            rintro _ _ ⟨rfl, rfl⟩
            refine T_goto (tgt := 90) dX12_village_85 (by decide) ?_
            exact T_ireturn dX12_village_90 rfl ⟨by unfold qVillage; (repeat rw [Int.toNat_natCast]); rw [if_neg c13, if_neg (fun z => z h51), if_neg (bI_0 c63), if_pos c77], hAg⟩
        · have h63 := bI_1 c63
          refine T_aload_n dX12_village_66 rfl ?_
          refine T_iload_n dX12_village_67 rfl ?_
          refine T_iload_n dX12_village_68 rfl ?_
          refine T_callV dX12_village_69 lX12_334 (As := [_, _]) (rest := _) rfl rfl k271 (by decide) (Nat.le_of_ble_eq_true rfl) (Nat.le_of_ble_eq_true rfl) (T_args2 (y := x.toNat) (by omega) (t_villageOf hW (by omega))) ?_
          rintro _ _ ⟨rfl, rfl⟩
          refine T_goto (tgt := 90) dX12_village_72 (by decide) ?_
          exact T_ireturn dX12_village_90 rfl ⟨by unfold qVillage; (repeat rw [Int.toNat_natCast]); rw [if_neg c13, if_neg (fun z => z h51), if_pos h63], hAg⟩
      · refine T_bipush dX12_village_54 (by decide) ?_
        exact T_ireturn dX12_village_56 rfl ⟨by unfold qVillage; (repeat rw [Int.toNat_natCast]); rw [if_neg c13, if_pos (bI_0 c51)], hAg⟩
    · refine T_iload_n dX12_village_16 rfl ?_
      refine T_if_ne (tgt := 32) dX12_village_17 (by decide) (fun c17 => ?_) (fun c17 => ?_)
      · refine T_bipush dX12_village_32 (by decide) ?_
        exact T_ireturn dX12_village_34 rfl ⟨by unfold qVillage; (repeat rw [Int.toNat_natCast]); rw [if_pos c13, if_neg c17], hAg⟩
      · refine T_aload_n dX12_village_20 rfl ?_
        refine T_getR dX12_village_21 fX12_7 rfl k271 r271_0 ?_
        refine T_aload_n dX12_village_24 rfl ?_
        refine T_getIv dX12_village_25 fX12_331 rfl k271 (x := (p : Int)) q1 ?_
        refine T_ialdv dX12_village_28 k272 l272 (by omega) (j := p + 0) (by omega) (x := v 0) (q3 0 (by decide)) ?_
        refine T_goto (tgt := 34) dX12_village_29 (by decide) ?_
        exact T_ireturn dX12_village_34 rfl ⟨by unfold qVillage; (repeat rw [Int.toNat_natCast]); rw [if_pos c13, if_pos c17], hAg⟩

end M25
