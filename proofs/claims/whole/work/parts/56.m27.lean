/-! the reference: version, tale -/
section M27
variable {G : sG} {d : sD} {w g v x y : Nat → Int} {src : List Int}
/-- what sounds, as a list -/
def srS (w g : Nat → Int) : List Int := (List.range (rowS w g).length).map (snS w g)
theorem srS_len : (srS w g).length = (rowS w g).length := by unfold srS; rw [List.length_map, List.length_range]
theorem srS_get {j : Nat} (h : j < (rowS w g).length) : (srS w g).getD j 0 = snS w g j := by
  unfold srS
  rw [List.getD_eq_getElem?_getD, List.getElem?_map, List.getElem?_range h, Option.map_some, Option.getD_some]
abbrev atC : List Nat := [275, 276, 277, 278, 279, 280, 290, 291, 292]
abbrev atF : List Nat := [10, 11, 18, 29]
abbrev Vpv (d : sD) (k l t i : Int) : Prop := (Vp d k l ∧ 0 ≤ t ∧ t ≤ d 272 3 - 1) ∧ 0 ≤ i ∧ i ≤ vvD d t.toNat 0 - 1
/-- what is told in the villages -/
abbrev VlS (w g v : Nat → Int) : Nat → List Int := Vl v (srS w g) (v 0).toNat
abbrev atQ (d : sD) (k l t i : Int) : Option sV → sD → Prop := fun r d' => (¬ Vpv d k l t i ∧ r = some (vI 0) ∧ Ag atC atF d d') ∨ (Vpv d k l t i ∧ r = some (vI 1) ∧ Srd d' (srS (wvD d k.toNat) (gvD d l.toNat)) ∧ Vv d' (vvD d t.toNat) ∧ Vsd d' (VlS (wvD d k.toNat) (gvD d l.toNat) (vvD d t.toNat)) (vvD d t.toNat 0).toNat ∧ Ag atC atF d d')
theorem t_areTold {k l t i : Int} (hM : MS d) : tB G mX12_areTold 0 [vR 271, vI k, vI l, vI t, vI i, vU 0] [] d (atQ d k l t i) := by
  have c3 := hM.1 3 (by decide)
  refine T_aload_n dX12_areTold_0 rfl ?_
  refine T_iload_n dX12_areTold_1 rfl ?_
  refine T_iload_n dX12_areTold_2 rfl ?_
  refine T_callV dX12_areTold_3 lX12_255 (As := [_, _]) (rest := _) rfl rfl k271 (by decide) (Nat.le_of_ble_eq_true rfl) (Nat.le_of_ble_eq_true rfl) (t_arePlayed hM) ?_
  rintro _ d1 (⟨hv, rfl, hA⟩ | ⟨hv, rfl, ⟨hW, hL, hS⟩, hA⟩)
  ·
    refine T_if_eq (tgt := 37) dX12_areTold_6 (by decide) (fun c6 => ?_) (fun c6 => absurd rfl c6)
    refine T_iconst dX12_areTold_37 (by decide) ?_
    exact T_zreturn dX12_areTold_38 rfl (by omega) (Or.inl ⟨fun q => hv q.1.1, rfl, hA.mono (by decide) (by decide)⟩)
  · have hV := hM.2.1 k.toNat (by omega)
    have hGV := hM.2.2.1 l.toNat (by omega)
    have hlen := rowS_24 hV hGV
    have e3 : d1 272 3 = d 272 3 := hA.1 272 3 (by decide) (by decide)
    have hA : Ag atC atF d d1 := hA.mono (by decide) (by decide)
    refine T_if_eq (tgt := 37) dX12_areTold_6 (by decide) (fun c6 => absurd c6 (by decide)) (fun c6 => ?_)
    refine T_aload_n dX12_areTold_9 rfl ?_
    refine T_iload_n dX12_areTold_10 rfl ?_
    refine T_callV dX12_areTold_11 lX12_337 (As := [_]) (rest := _) rfl rfl k271 (by decide) (Nat.le_of_ble_eq_true rfl) (Nat.le_of_ble_eq_true rfl) (t_X12_areVillages (by rw [e3]; exact c3)) ?_
    rintro _ _ (⟨hv2, rfl, rfl⟩ | ⟨hv2, rfl, rfl⟩)
    all_goals rw [e3] at hv2
    ·
      refine T_if_eq (tgt := 37) dX12_areTold_14 (by decide) (fun c14 => ?_) (fun c14 => absurd rfl c14)
      refine T_iconst dX12_areTold_37 (by decide) ?_
      exact T_zreturn dX12_areTold_38 rfl (by omega) (Or.inl ⟨fun q => hv2 q.1.2, rfl, hA⟩)
    · have hVV := hM.2.2.2.2 t.toNat (by omega)
      have hH := isVv (d := d1) (k := t.toNat) (by omega)
      rw [show (t.toNat : Int) = t by omega, show vvD d1 t.toNat = vvD d t.toNat from funext fun x => hA.1 272 _ (by decide) (by decide)] at hH
      have hA0 : Ag [] [29] d1 (up d1 271 29 (868 + 33 * t)) := Ag_upf Ag.rf (by decide)
      have hA2 : Ag atC atF d (up d1 271 29 (868 + 33 * t)) := hA.trans hA0 (by decide) (by decide) (by decide) (by decide)
      have hSr : Srd (up d1 271 29 (868 + 33 * t)) (srS (wvD d k.toNat) (gvD d l.toNat)) := by
        refine Srd_ag (d := d1) ⟨by rw [srS_len]; exact hL.1, fun j hj => ?_⟩ hA0 (by decide) (by decide)
        rw [srS_len] at hj
        rw [srS_get hj, (hS j hj).1]; show _ = if _ then _ else _; rw [if_pos hj]
      have h24 : (srS (wvD d k.toNat) (gvD d l.toNat)).length ≤ 24 := by rw [srS_len]; exact hlen
      unfold atQ Vpv
      clear hA0 e3 hL hS hW hA hlen
      generalize up d1 271 29 (868 + 33 * t) = d2 at *
      generalize wvD d k.toNat = w at *
      generalize gvD d l.toNat = g at *
      generalize vvD d t.toNat = v at *
      have h0 := hVV.1
      obtain ⟨p, q1, q2, q3⟩ := hH
      have hH : Vv d2 v := ⟨p, q1, q2, q3⟩
      have q30 : d2 272 p = v 0 := q3 0 (by decide)
      refine T_if_eq (tgt := 37) dX12_areTold_14 (by decide) (fun c14 => absurd c14 (by decide)) (fun c14 => ?_)
      refine T_iload dX12_areTold_17 rfl ?_
      refine T_iconst dX12_areTold_19 (by decide) ?_
      refine T_aload_n dX12_areTold_20 rfl ?_
      refine T_getR dX12_areTold_21 fX12_7 rfl k271 r271_0 ?_
      refine T_aload_n dX12_areTold_24 rfl ?_
      refine T_getIv dX12_areTold_25 fX12_331 rfl k271 (x := (p : Int)) q1 ?_
      refine T_ialdv dX12_areTold_28 k272 l272 (by omega) (j := p) (by omega) (x := v 0) q30 ?_
      refine T_iconst dX12_areTold_29 (by decide) ?_
      refine T_sub dX12_areTold_30 (by omega) ?_
      refine T_callS dX12_areTold_31 lX12_145 (As := [_, _, _]) (rest := _) rfl rfl (by decide) (Nat.le_of_ble_eq_true rfl) (Nat.le_of_ble_eq_true rfl) t_X12_isIn ?_
      rintro _ _ ⟨rfl, rfl⟩
      refine T_if_ne (tgt := 39) dX12_areTold_34 (by decide) (fun c34 => ?_) (fun c34 => ?_)
      · have h34 := bI_1 c34
        refine T_iconst dX12_areTold_39 (by decide) ?_
        refine T_ist dX12_areTold_40 (by decide) rfl ?_
        have h42 : ∀ y : Nat × sD, ((y.1 : Int) ≤ v 0 ∧ Vsd y.2 (Vl v (srS w g) y.1) y.1 ∧ Ag [290, 291, 292] [] d2 y.2) → tB G mX12_areTold 42 [vR 271, vI k, vI l, vI t, vI i, vI y.1] [] y.2 (fun r d' => (¬ ((Vp d k l ∧ 0 ≤ t ∧ t ≤ d 272 3 - 1) ∧ 0 ≤ i ∧ i ≤ v 0 - 1) ∧ r = some (vI 0) ∧ Ag atC atF d d') ∨ (((Vp d k l ∧ 0 ≤ t ∧ t ≤ d 272 3 - 1) ∧ 0 ≤ i ∧ i ≤ v 0 - 1) ∧ r = some (vI 1) ∧ Srd d' (srS w g) ∧ Vv d' v ∧ Vsd d' (VlS w g v) (v 0).toNat ∧ Ag atC atF d d')) := by
          refine T_loop (α := Nat × sD) 42 (fun y => [vR 271, vI k, vI l, vI t, vI i, vI y.1]) (fun y => y.2) (fun y => (y.1 : Int) ≤ v 0 ∧ Vsd y.2 (Vl v (srS w g) y.1) y.1 ∧ Ag [290, 291, 292] [] d2 y.2) (fun y => (v 0).toNat - y.1) ?_
          rintro ⟨q, e⟩ ⟨hq, hK, hAe⟩ ih
          try dsimp only at hq hK hAe ih ⊢
          have hHe := Vv_ag hH hAe (by decide) (by decide)
          have hSe := Srd_ag hSr hAe (by decide) (by decide)
          refine T_iload dX12_areTold_42 rfl ?_
          refine T_aload_n dX12_areTold_44 rfl ?_
          refine T_getR dX12_areTold_45 fX12_7 rfl k271 r271_0 ?_
          refine T_aload_n dX12_areTold_48 rfl ?_
          refine T_getIv dX12_areTold_49 fX12_331 rfl k271 (x := (p : Int)) ((hAe.2 29 (by decide)).trans q1) ?_
          refine T_ialdv dX12_areTold_52 k272 l272 (by omega) (j := p) (by omega) (x := v 0) ((hAe.1 272 p (by decide) (by decide)).trans q30) ?_
          refine T_icmp_ge (tgt := 68) dX12_areTold_53 (by decide) (fun c53 => ?_) (fun c53 => ?_)
          · refine T_iconst dX12_areTold_68 (by decide) ?_
            exact T_zreturn dX12_areTold_69 rfl (by omega) (Or.inr ⟨⟨⟨hv, hv2⟩, h34⟩, rfl, hSe, hHe, by unfold VlS; rw [show (v 0).toNat = q by omega]; exact hK, hA2.trans hAe (by decide) (by decide) (by decide) (by decide)⟩)
          · refine T_aload_n dX12_areTold_56 rfl ?_
            refine T_iload dX12_areTold_57 rfl ?_
            refine T_callV dX12_areTold_59 lX12_349 (As := [_]) (rest := _) rfl rfl k271 (by decide) (Nat.le_of_ble_eq_true rfl) (Nat.le_of_ble_eq_true rfl) (t_changes hHe hVV (by omega) hSe h24 hK) ?_
            rintro _ e2 ⟨rfl, hK2, hA3⟩
            have hA3 := hAe.trans hA3 (cs := [290, 291, 292]) (fs := []) (by decide) (by decide) (by decide) (by decide)
            refine T_inc dX12_areTold_62 rfl (by decide) rfl (by omega) ?_
            refine T_goto (tgt := 42) dX12_areTold_65 (by decide) ?_
            exact ih (q + 1, e2) ⟨by omega, hK2, hA3⟩ (by omega)
        exact h42 (0, d2) ⟨by show (0 : Int) ≤ v 0; omega, fun j hj => absurd hj (Nat.not_lt_zero j), Ag.rf⟩
      · refine T_iconst dX12_areTold_37 (by decide) ?_
        exact T_zreturn dX12_areTold_38 rfl (by omega) (Or.inl ⟨fun z => bI_0 c34 z.2, rfl, hA2⟩)

def qVersion (V : List Int) (x : Int) : Int := if x = -1 then (V.length : Int) else if 0 ≤ x ∧ x ≤ (V.length : Int) - 1 then V.getD x.toNat 0 else -1
theorem t_X12_version {k l t i x : Int} (hM : MS d) : tB G mX12_version 0 [vR 271, vI k, vI l, vI t, vI i, vI x] [] d (qQ d (if Vpv d k l t i then qVersion (VlS (wvD d k.toNat) (gvD d l.toNat) (vvD d t.toNat) i.toNat) x else -1) atC atF) := by
  refine T_aload_n dX12_version_0 rfl ?_
  refine T_iload_n dX12_version_1 rfl ?_
  refine T_iload_n dX12_version_2 rfl ?_
  refine T_iload_n dX12_version_3 rfl ?_
  refine T_iload dX12_version_4 rfl ?_
  refine T_callV dX12_version_6 lX12_352 (As := [_, _, _, _]) (rest := _) rfl rfl k271 (by decide) (Nat.le_of_ble_eq_true rfl) (Nat.le_of_ble_eq_true rfl) (t_areTold hM) ?_
  rintro _ d1 (⟨hv, rfl, hA⟩ | ⟨hv, rfl, hS, hH, hK, hA⟩)
  ·
    refine T_if_ne (tgt := 14) dX12_version_9 (by decide) (fun c9 => absurd rfl c9) (fun c9 => ?_)
    refine T_iconst dX12_version_12 (by decide) ?_
    exact T_ireturn dX12_version_13 rfl ⟨by rw [if_neg hv], hA⟩
  · rw [if_pos hv]
    have hVV := hM.2.2.2.2 t.toNat (by omega)
    have h0 := hVV.1
    obtain ⟨i, rfl⟩ : ∃ a2 : Nat, i = (a2 : Int) := ⟨i.toNat, by omega⟩
    have hk := hK i (by omega)
    have hl : (VlS (wvD d k.toNat) (gvD d l.toNat) (vvD d t.toNat) i).length ≤ 60 := Vl_len _ _
    rw [Int.toNat_natCast]
    generalize VlS (wvD d k.toNat) (gvD d l.toNat) (vvD d t.toNat) i = V at *
    refine T_if_ne (tgt := 14) dX12_version_9 (by decide) (fun c9 => ?_) (fun c9 => absurd c9 (by decide))
    refine T_iload dX12_version_14 rfl ?_
    refine T_iconst dX12_version_16 (by decide) ?_
    refine T_icmp_ne (tgt := 30) dX12_version_17 (by decide) (fun c17 => ?_) (fun c17 => ?_)
    · refine T_iload dX12_version_30 rfl ?_
      refine T_iconst dX12_version_32 (by decide) ?_
      refine T_aload_n dX12_version_33 rfl ?_
      refine T_getR dX12_version_34 fX12_68 rfl k271 r271_31 ?_
      refine T_iload dX12_version_37 rfl ?_
      refine T_ialdv dX12_version_39 k291 l291 (by omega) (j := i) rfl (x := (V.length : Int)) hk.1 ?_
      refine T_iconst dX12_version_40 (by decide) ?_
      refine T_sub dX12_version_41 (by omega) ?_
      refine T_callS dX12_version_42 lX12_145 (As := [_, _, _]) (rest := _) rfl rfl (by decide) (Nat.le_of_ble_eq_true rfl) (Nat.le_of_ble_eq_true rfl) t_X12_isIn ?_
      rintro _ _ ⟨rfl, rfl⟩
      refine T_if_eq (tgt := 64) dX12_version_45 (by decide) (fun c45 => ?_) (fun c45 => ?_)
      · refine T_iconst dX12_version_64 (by decide) ?_
        exact T_ireturn dX12_version_65 rfl ⟨by unfold qVersion; rw [if_neg c17, if_neg (bI_0 c45)], hA⟩
      · have h45 := bI_1 c45
        obtain ⟨x, rfl⟩ : ∃ a2 : Nat, x = (a2 : Int) := ⟨x.toNat, by omega⟩
        refine T_aload_n dX12_version_48 rfl ?_
        refine T_getR dX12_version_49 fX12_65 rfl k271 r271_30 ?_
        refine T_bipush dX12_version_52 (by decide) ?_
        refine T_iload dX12_version_54 rfl ?_
        refine T_mul dX12_version_56 (by omega) ?_
        refine T_iload dX12_version_57 rfl ?_
        refine T_add dX12_version_59 (by omega) ?_
        refine T_ialdv dX12_version_60 k290 l290 (by omega) (j := 60 * i + x) (by omega) (x := V.getD x 0) (hk.2 x (by omega)) ?_
        refine T_goto (tgt := 65) dX12_version_61 (by decide) ?_
        exact T_ireturn dX12_version_65 rfl ⟨by unfold qVersion; rw [if_neg c17, if_pos h45, Int.toNat_natCast], hA⟩
    · refine T_aload_n dX12_version_20 rfl ?_
      refine T_getR dX12_version_21 fX12_68 rfl k271 r271_31 ?_
      refine T_iload dX12_version_24 rfl ?_
      refine T_ialdv dX12_version_26 k291 l291 (by omega) (j := i) rfl (x := (V.length : Int)) hk.1 ?_
      refine T_goto (tgt := 65) dX12_version_27 (by decide) ?_
      exact T_ireturn dX12_version_65 rfl ⟨by unfold qVersion; rw [if_pos c17], hA⟩

abbrev alI (U V : List Int) (n : Nat) : Prop := U.length = V.length ∧ ∀ j, j < n → U.getD j 0 = V.getD j 0
abbrev alP (U V : List Int) : Prop := alI U V U.length
theorem t_areAlike {a b : Nat} {U V : List Int} (ha : a < 8) (hb : b < 8) (hU : Vk d a U) (hV : Vk d b V) (hl : U.length ≤ 60) (hl2 : V.length ≤ 60) : tB G mX12_areAlike 0 [vR 271, vI a, vI b, vU 0, vU 0] [] d (fun r d' => r = some (vI (bI (alP U V))) ∧ d = d') := by
  have h24 : ∀ i : Nat, i ≤ U.length → tB G mX12_areAlike 24 [vR 271, vI a, vI b, vI (bI (alI U V i)), vI i] [] d (fun r d' => r = some (vI (bI (alP U V))) ∧ d = d') := by
    refine T_loop (α := Nat) 24 (fun i => [vR 271, vI a, vI b, vI (bI (alI U V i)), vI i]) (fun _ => d) (fun i => i ≤ U.length) (fun i => U.length - i) ?_
    intro i hi ih
    try dsimp only at ih ⊢
    have h01 := bI_01 (alI U V i)
    have h71 : ∀ z : Int, z = bI (alI U V (i + 1)) → i < U.length → tB G mX12_areAlike 71 [vR 271, vI a, vI b, vI (bI (alI U V i)), vI i] [vI z] d (fun r d' => r = some (vI (bI (alP U V))) ∧ d = d') := by
      rintro _ rfl hlt
      refine T_ist_n dX12_areAlike_71 (by decide) rfl ?_
      refine T_inc dX12_areAlike_72 rfl (by decide) rfl (by omega) ?_
      refine T_goto (tgt := 24) dX12_areAlike_75 (by decide) ?_
      exact ih (i + 1) (by omega) (by omega)
    refine T_iload dX12_areAlike_24 rfl ?_
    refine T_aload_n dX12_areAlike_26 rfl ?_
    refine T_getR dX12_areAlike_27 fX12_68 rfl k271 r271_31 ?_
    refine T_iload_n dX12_areAlike_30 rfl ?_
    refine T_ialdv dX12_areAlike_31 k291 l291 (by omega) (j := a) rfl (x := (U.length : Int)) hU.1 ?_
    refine T_icmp_ge (tgt := 78) dX12_areAlike_32 (by decide) (fun c32 => ?_) (fun c32 => ?_)
    · refine T_iload_n dX12_areAlike_78 rfl ?_
      exact T_zreturn dX12_areAlike_79 rfl (by omega) ⟨by rw [show i = U.length by omega], rfl⟩
    · refine T_iload_n dX12_areAlike_35 rfl ?_
      refine T_if_eq (tgt := 78) dX12_areAlike_36 (by decide) (fun c36 => ?_) (fun c36 => ?_)
      · refine T_iload_n dX12_areAlike_78 rfl ?_
        exact T_zreturn dX12_areAlike_79 rfl (by omega) ⟨by rw [c36, bI_f (fun z => bI_0 c36 ⟨z.1, fun j hj => z.2 j (by omega)⟩)], rfl⟩
      · have h36 := bI_1 c36
        have hle := h36.1
        refine T_aload_n dX12_areAlike_39 rfl ?_
        refine T_getR dX12_areAlike_40 fX12_65 rfl k271 r271_30 ?_
        refine T_bipush dX12_areAlike_43 (by decide) ?_
        refine T_iload_n dX12_areAlike_45 rfl ?_
        refine T_mul dX12_areAlike_46 (by omega) ?_
        refine T_iload dX12_areAlike_47 rfl ?_
        refine T_add dX12_areAlike_49 (by omega) ?_
        refine T_ialdv dX12_areAlike_50 k290 l290 (by omega) (j := 60 * a + i) (by omega) (x := U.getD i 0) (hU.2 i (by omega)) ?_
        refine T_aload_n dX12_areAlike_51 rfl ?_
        refine T_getR dX12_areAlike_52 fX12_65 rfl k271 r271_30 ?_
        refine T_bipush dX12_areAlike_55 (by decide) ?_
        refine T_iload_n dX12_areAlike_57 rfl ?_
        refine T_mul dX12_areAlike_58 (by omega) ?_
        refine T_iload dX12_areAlike_59 rfl ?_
        refine T_add dX12_areAlike_61 (by omega) ?_
        refine T_ialdv dX12_areAlike_62 k290 l290 (by omega) (j := 60 * b + i) (by omega) (x := V.getD i 0) (hV.2 i (by omega)) ?_
        refine T_icmp_ne (tgt := 70) dX12_areAlike_63 (by decide) (fun c63 => ?_) (fun c63 => ?_)
        · refine T_iconst dX12_areAlike_70 (by decide) ?_
          exact h71 0 (bI_f (fun z => c63 (z.2 i (by omega)))).symm (by omega)
        · refine T_iconst dX12_areAlike_66 (by decide) ?_
          refine T_goto (tgt := 71) dX12_areAlike_67 (by decide) ?_
          have hI : alI U V (i + 1) := ⟨hle, fun j hj => by
            rcases (show j < i ∨ j = i by omega) with z | rfl
            · exact h36.2 j z
            · exact c63⟩
          exact h71 1 (bI_t hI).symm (by omega)
  have h20 : ∀ z : Int, z = bI (alI U V 0) → tB G mX12_areAlike 20 [vR 271, vI a, vI b, vU 0, vU 0] [vI z] d (fun r d' => r = some (vI (bI (alP U V))) ∧ d = d') := by
    rintro _ rfl
    refine T_ist_n dX12_areAlike_20 (by decide) rfl ?_
    refine T_iconst dX12_areAlike_21 (by decide) ?_
    refine T_ist dX12_areAlike_22 (by decide) rfl ?_
    exact h24 0 (Nat.zero_le _)
  refine T_aload_n dX12_areAlike_0 rfl ?_
  refine T_getR dX12_areAlike_1 fX12_68 rfl k271 r271_31 ?_
  refine T_iload_n dX12_areAlike_4 rfl ?_
  refine T_ialdv dX12_areAlike_5 k291 l291 (by omega) (j := a) rfl (x := (U.length : Int)) hU.1 ?_
  refine T_aload_n dX12_areAlike_6 rfl ?_
  refine T_getR dX12_areAlike_7 fX12_68 rfl k271 r271_31 ?_
  refine T_iload_n dX12_areAlike_10 rfl ?_
  refine T_ialdv dX12_areAlike_11 k291 l291 (by omega) (j := b) rfl (x := (V.length : Int)) hV.1 ?_
  refine T_icmp_ne (tgt := 19) dX12_areAlike_12 (by decide) (fun c12 => ?_) (fun c12 => ?_)
  · refine T_iconst dX12_areAlike_19 (by decide) ?_
    exact h20 0 (bI_f (fun z => by have := z.1; omega)).symm
  · refine T_iconst dX12_areAlike_15 (by decide) ?_
    refine T_goto (tgt := 20) dX12_areAlike_16 (by decide) ?_
    exact h20 1 (bI_t ⟨by omega, fun j hj => absurd hj (Nat.not_lt_zero j)⟩).symm

end M27
