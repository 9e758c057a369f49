/-! the class: common, drawn -/
section C20
variable {G : sG} {d d' : sD} {w g s t x y : Nat → Int} {wo vo e n a : Nat}
def mxJ (w s : Nat → Int) (n i : Nat) : Nat → Int
  | 0 => 0
  | j + 1 => max (mxJ w s n i j) (afS w s n i j)
theorem mxJ_rg {i : Nat} : ∀ j, 0 ≤ mxJ w s n i j ∧ mxJ w s n i j ≤ 25
  | 0 => ⟨Int.le_refl _, by show (0 : Int) ≤ 25; omega⟩
  | j + 1 => by
    have := mxJ_rg (i := i) j
    have : ((0 : Nat) : Int) ≤ afS w s n i j ∧ afS w s n i j ≤ ((0 : Nat) : Int) + (25 : Nat) := afN_rg (w := w) (s := s) (n := n) (i := i) (j := j) 25 0
    show 0 ≤ max (mxJ w s n i j) (afS w s n i j) ∧ max (mxJ w s n i j) (afS w s n i j) ≤ 25
    omega
theorem cmJ_mx {i : Nat} {st : Int × Int} (h0 : 0 ≤ st.1) : ∀ j, cmJ w s n i st j = if st.1 < mxJ w s n i j then (mxJ w s n i j, (i : Int)) else st
  | 0 => by show st = if st.1 < 0 then (0, (i : Int)) else st; rw [if_neg (by omega)]
  | j + 1 => by
    have ih := cmJ_mx (i := i) h0 j
    show (if (cmJ w s n i st j).1 < afS w s n i j then (afS w s n i j, (i : Int)) else cmJ w s n i st j) = if st.1 < max (mxJ w s n i j) (afS w s n i j) then (max (mxJ w s n i j) (afS w s n i j), (i : Int)) else st
    rw [ih]
    by_cases q : st.1 < mxJ w s n i j
    · rw [if_pos q]
      show (if mxJ w s n i j < afS w s n i j then (afS w s n i j, (i : Int)) else (mxJ w s n i j, (i : Int))) = _
      rw [if_pos (show st.1 < max (mxJ w s n i j) (afS w s n i j) by omega)]
      by_cases q2 : mxJ w s n i j < afS w s n i j
      · rw [if_pos q2, show max (mxJ w s n i j) (afS w s n i j) = afS w s n i j by omega]
      · rw [if_neg q2, show max (mxJ w s n i j) (afS w s n i j) = mxJ w s n i j by omega]
    · rw [if_neg q]
      by_cases q2 : st.1 < afS w s n i j
      · rw [if_pos q2, if_pos (by omega), show max (mxJ w s n i j) (afS w s n i j) = afS w s n i j by omega]
      · rw [if_neg q2, if_neg (by omega)]
theorem t_mostAlikeFrom {i : Nat} (hV : WV w) (hB : Bo d w s n) (hn24 : n ≤ 24) (hi : (i : Int) ≤ hnS w n 0) : tB G mX11_mostAlikeFrom 0 [vR 1, vI i, vU 0, vU 0] [] d (fun r d' => r = some (vI (mxJ w s n i (hnS w n 1).toNat)) ∧ d = d') := by
  have r1 := hnS_rg (n := n) (a := 1) hV (by decide)
  have h4 : ∀ z : Nat, ((z : Int) ≤ hnS w n 1) → tB G mX11_mostAlikeFrom 4 [vR 1, vI i, vI (mxJ w s n i z), vI z] [] (d) (fun r d' => r = some (vI (mxJ w s n i (hnS w n 1).toNat)) ∧ d = d') := by
    refine T_loop (α := Nat) 4 (fun z => [vR 1, vI i, vI (mxJ w s n i z), vI z]) (fun z => d) (fun z => (z : Int) ≤ hnS w n 1) (fun z => 25 - z) ?_
    rintro j h1 ih
    try dsimp only at h1 ih ⊢
    refine T_iload_n dX11_mostAlikeFrom_4 rfl ?_
    refine T_aload_n dX11_mostAlikeFrom_5 rfl ?_
    refine T_getR dX11_mostAlikeFrom_6 fX11_47 rfl k1 r1_6 ?_
    refine T_iconst dX11_mostAlikeFrom_9 (by decide) ?_
    refine T_aald dX11_mostAlikeFrom_10 k87 (by decide) l87 (by omega) (kn_e 1 (by decide)).2 ?_
    refine T_getIv dX11_mostAlikeFrom_11 fX11_246 rfl k265 (x := hnS w n 1) hB.2.1.1.1 ?_
    refine T_icmp_ge (tgt := 45) dX11_mostAlikeFrom_14 (by decide) (fun c14 => ?_) (fun c14 => ?_)
    · refine T_iload_n dX11_mostAlikeFrom_45 rfl ?_
      exact T_ireturn dX11_mostAlikeFrom_46 rfl ⟨by rw [show j = (hnS w n 1).toNat by omega], rfl⟩
    · refine T_iload_n dX11_mostAlikeFrom_17 rfl ?_
      refine T_aload_n dX11_mostAlikeFrom_18 rfl ?_
      refine T_getR dX11_mostAlikeFrom_19 fX11_47 rfl k1 r1_6 ?_
      refine T_iconst dX11_mostAlikeFrom_22 (by decide) ?_
      refine T_aald dX11_mostAlikeFrom_23 k87 (by decide) l87 (by omega) (kn_e 0 (by decide)).2 ?_
      refine T_iload_n dX11_mostAlikeFrom_24 rfl ?_
      refine T_aload_n dX11_mostAlikeFrom_25 rfl ?_
      refine T_getR dX11_mostAlikeFrom_26 fX11_47 rfl k1 r1_6 ?_
      refine T_iconst dX11_mostAlikeFrom_29 (by decide) ?_
      refine T_aald dX11_mostAlikeFrom_30 k87 (by decide) l87 (by omega) (kn_e 1 (by decide)).2 ?_
      refine T_iload_n dX11_mostAlikeFrom_31 rfl ?_
      refine T_callV dX11_mostAlikeFrom_32 lX11_420 (As := [_, _, _]) (rest := _) rfl rfl k259 (by decide) (Nat.le_of_ble_eq_true rfl) (Nat.le_of_ble_eq_true rfl) (t_calikeFrom (kn_e 0 (by decide)).1 (kn_e 1 (by decide)).1 hV hB.1.1 hB.2.1 hn24 hi (by omega)) ?_
      rintro _ _ ⟨rfl, rfl⟩
      refine T_max dX11_mostAlikeFrom_35 lX11_424 (by decide) (Nat.le_of_ble_eq_true rfl) ?_
      refine T_ist_n dX11_mostAlikeFrom_38 (by decide) rfl ?_
      refine T_inc dX11_mostAlikeFrom_39 rfl (by decide) rfl (by omega) ?_
      refine T_goto (tgt := 4) dX11_mostAlikeFrom_42 (by decide) ?_
      exact ih (j + 1) (by omega) (by omega)
  refine T_iconst dX11_mostAlikeFrom_0 (by decide) ?_
  refine T_ist_n dX11_mostAlikeFrom_1 (by decide) rfl ?_
  refine T_iconst dX11_mostAlikeFrom_2 (by decide) ?_
  refine T_ist_n dX11_mostAlikeFrom_3 (by decide) rfl ?_
  exact h4 0 (by omega)

theorem t_C_common {k l x : Int} (hM : MS d) (hC : CS d) : tB G mX11_common 0 [vR 1, vI k, vI l, vI x, vU 0, vU 0, vU 0, vU 0] [] d (cQ d (if Vp d k l then qCommon (wvD d k.toNat) (gvD d l.toNat) x else -1)) := by
  refine T_aload_n dX11_common_0 rfl ?_
  refine T_iload_n dX11_common_1 rfl ?_
  refine T_iload_n dX11_common_2 rfl ?_
  refine T_callV dX11_common_3 lX11_243 (As := [_, _]) (rest := _) rfl rfl k1 (by decide) (Nat.le_of_ble_eq_true rfl) (Nat.le_of_ble_eq_true rfl) (t_performToBoth hM hC) ?_
  rintro _ d1 (⟨hv, rfl, rfl⟩ | ⟨hv, rfl, e1, e2, e3, f1⟩)
  ·
    refine T_if_ne (tgt := 11) dX11_common_6 (by decide) (fun c6 => absurd rfl c6) (fun c6 => ?_)
    refine T_iconst dX11_common_9 (by decide) ?_
    exact T_ireturn dX11_common_10 rfl ⟨by rw [if_neg hv], Cf.rf⟩
  · have hV := hM.2.1 k.toNat (by omega)
    have hG := hM.2.2.1 l.toNat (by omega)
    have hlen := rowS_24 hV hG
    rw [if_pos hv]
    generalize wvD d k.toNat = w at *
    generalize gvD d l.toNat = g at *
    have hs85 : ∀ j, j < (rowS w g).length → d1 85 j = snS w g j := fun j hj => by rw [(e2 j hj).1]; unfold snS; rw [if_pos hj]
    have hle := e1.1
    have hq : ∀ y, qCommon w g y = if ¬ (0 ≤ y ∧ y ≤ 2) then -1 else qCm w (snS w g) (rowS w g).length y := fun _ => rfl
    generalize hN : (rowS w g).length = n at *
    generalize hS : snS w g = s at *
    have r0 := hnS_rg (n := n) (a := 0) hV (by decide)
    have h44 : ∀ z : Nat, (((z : Int) ≤ hnS w n 0 ∧ (x = 0 ∨ x = 1)) ∧ 0 ≤ (cmI w s n z).1) → tB G mX11_common 44 [vR 1, vI k, vI l, vI x, vI (cmI w s n z).1, vI (cmI w s n z).2, vI z, vU 0] [] (d1) (cQ d (qCommon w g x)) := by
      refine T_loop (α := Nat) 44 (fun z => [vR 1, vI k, vI l, vI x, vI (cmI w s n z).1, vI (cmI w s n z).2, vI z, vU 0]) (fun z => d1) (fun z => ((z : Int) ≤ hnS w n 0 ∧ (x = 0 ∨ x = 1)) ∧ 0 ≤ (cmI w s n z).1) (fun z => 25 - z) ?_
      rintro i ⟨⟨h1, h2⟩, h3⟩ ih
      try dsimp only at h1 h2 h3 ih ⊢
      have hmx := mxJ_rg (w := w) (s := s) (n := n) (i := i) (hnS w n 1).toNat
      have hst : cmI w s n (i + 1) = if (cmI w s n i).1 < mxJ w s n i (hnS w n 1).toNat then (mxJ w s n i (hnS w n 1).toNat, (i : Int)) else cmI w s n i := cmJ_mx h3 _
      have h81 : ∀ y z : Int, (y, z) = cmI w s n (i + 1) → (i : Int) < hnS w n 0 → 0 ≤ y → tB G mX11_common 81 [vR 1, vI k, vI l, vI x, vI y, vI z, vI i, vU 0] [] d1 (cQ d (qCommon w g x)) := by
        intro y z hyz hi hy0
        rw [show y = (cmI w s n (i + 1)).1 from congrArg Prod.fst hyz, show z = (cmI w s n (i + 1)).2 from congrArg Prod.snd hyz]
        rw [show y = (cmI w s n (i + 1)).1 from congrArg Prod.fst hyz] at hy0
        refine T_inc dX11_common_81 rfl (by decide) rfl (by omega) ?_
        refine T_goto (tgt := 44) dX11_common_84 (by decide) ?_
        exact ih (i + 1) ⟨⟨by omega, h2⟩, hy0⟩ (by omega)
      refine T_iload dX11_common_44 rfl ?_
      refine T_aload_n dX11_common_46 rfl ?_
      refine T_getR dX11_common_47 fX11_47 rfl k1 r1_6 ?_
      refine T_iconst dX11_common_50 (by decide) ?_
      refine T_aald dX11_common_51 k87 (by decide) l87 (by omega) (kn_e 0 (by decide)).2 ?_
      refine T_getIv dX11_common_52 fX11_246 rfl k259 (x := hnS w n 0) e3.1.1.1.1 ?_
      refine T_icmp_ge (tgt := 87) dX11_common_55 (by decide) (fun c55 => ?_) (fun c55 => ?_)
      · refine T_iload_n dX11_common_87 rfl ?_
        refine T_if_ne (tgt := 96) dX11_common_88 (by decide) (fun c88 => ?_) (fun c88 => ?_)
        · refine T_iload dX11_common_96 rfl ?_
          exact T_ireturn dX11_common_98 rfl ⟨by rw [hq, if_neg (by omega)]; unfold qCm; rw [if_neg (by omega), if_neg c88, show (hnS w n 0).toNat = i by omega], f1⟩
        · refine T_iload dX11_common_91 rfl ?_
          refine T_goto (tgt := 98) dX11_common_93 (by decide) ?_
          exact T_ireturn dX11_common_98 rfl ⟨by rw [hq, if_neg (by omega)]; unfold qCm; rw [if_neg (by omega), if_pos c88, show (hnS w n 0).toNat = i by omega], f1⟩
      · refine T_aload_n dX11_common_58 rfl ?_
        refine T_iload dX11_common_59 rfl ?_
        refine T_callV dX11_common_61 lX11_417 (As := [_]) (rest := _) rfl rfl k1 (by decide) (Nat.le_of_ble_eq_true rfl) (Nat.le_of_ble_eq_true rfl) (t_mostAlikeFrom hV e3 hlen (by omega)) ?_
        rintro _ _ ⟨rfl, rfl⟩
        refine T_ist dX11_common_64 (by decide) rfl ?_
        refine T_iload dX11_common_66 rfl ?_
        refine T_iload dX11_common_68 rfl ?_
        refine T_icmp_le (tgt := 81) dX11_common_70 (by decide) (fun c70 => ?_) (fun c70 => ?_)
        · exact T_drop 7 (h81 _ _ (by rw [hst, if_neg (by omega)]) (by omega) h3)
        · refine T_iload dX11_common_73 rfl ?_
          refine T_ist dX11_common_75 (by decide) rfl ?_
          refine T_iload dX11_common_77 rfl ?_
          refine T_ist dX11_common_79 (by decide) rfl ?_
          exact T_drop 7 (h81 _ _ (by rw [hst, if_pos (by omega)]) (by omega) (by omega))
    refine T_if_ne (tgt := 11) dX11_common_6 (by decide) (fun c6 => ?_) (fun c6 => absurd c6 (by decide))
    refine T_iload_n dX11_common_11 rfl ?_
    refine T_iconst dX11_common_12 (by decide) ?_
    refine T_icmp_ne (tgt := 24) dX11_common_13 (by decide) (fun c13 => ?_) (fun c13 => ?_)
    · refine T_iload_n dX11_common_24 rfl ?_
      refine T_if_eq (tgt := 35) dX11_common_25 (by decide) (fun c25 => ?_) (fun c25 => ?_)
      · refine T_iconst dX11_common_35 (by decide) ?_
        refine T_ist dX11_common_36 (by decide) rfl ?_
        refine T_iconst dX11_common_38 (by decide) ?_
        refine T_ist dX11_common_39 (by decide) rfl ?_
        refine T_iconst dX11_common_41 (by decide) ?_
        refine T_ist dX11_common_42 (by decide) rfl ?_
        exact h44 0 ⟨⟨by omega, by omega⟩, by show (0 : Int) ≤ 0; omega⟩
      · refine T_iload_n dX11_common_28 rfl ?_
        refine T_iconst dX11_common_29 (by decide) ?_
        refine T_icmp_eq (tgt := 35) dX11_common_30 (by decide) (fun c30 => ?_) (fun c30 => ?_)
        · refine T_iconst dX11_common_35 (by decide) ?_
          refine T_ist dX11_common_36 (by decide) rfl ?_
          refine T_iconst dX11_common_38 (by decide) ?_
          refine T_ist dX11_common_39 (by decide) rfl ?_
          refine T_iconst dX11_common_41 (by decide) ?_
          refine T_ist dX11_common_42 (by decide) rfl ?_
          exact h44 0 ⟨⟨by omega, by omega⟩, by show (0 : Int) ≤ 0; omega⟩
        · refine T_iconst dX11_common_33 (by decide) ?_
          exact T_ireturn dX11_common_34 rfl ⟨by rw [hq, if_pos (by omega)], f1⟩
    · refine T_aload_n dX11_common_16 rfl ?_
      refine T_getR dX11_common_17 fX11_41 rfl k1 r1_5 ?_
      refine T_callV dX11_common_20 lX11_414 (As := []) (rest := _) rfl rfl k81 (by decide) (Nat.le_of_ble_eq_true rfl) (Nat.le_of_ble_eq_true rfl) (t_cperiod hle hlen hs85) ?_
      rintro _ _ ⟨rfl, rfl⟩
      exact T_ireturn dX11_common_23 rfl ⟨by rw [hq, if_neg (by omega)]; unfold qCm; rw [if_pos c13], f1⟩

end C20
