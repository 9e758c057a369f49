/-! the class: heard, made, march, meets -/
section C10
variable {G : sG} {d d' : sD} {w g s t h : Nat → Int} {wo ho e n a dn : Nat} {ml : List (Nat × Nat)}
theorem Bo_a (h : Bo d w s n) (ha : a < 2) : Eh d (259 + 6 * a) w s n a ∧ Em d (259 + 6 * a) w a (mkS w s n a 24 0).1 (mkS w s n a 24 0).2 := by
  match a, ha with
  | 0, _ => exact h.1
  | 1, _ => exact h.2
theorem t_C_heard {k l a i : Int} (hM : MS d) (hC : CS d) : tB G mX11_heard 0 [vR 1, vI k, vI l, vI a, vI i, vU 0] [] d (cQ d (if Vp d k l then qHeard (wvD d k.toNat) (gvD d l.toNat) a i else -1)) := by
  refine T_iload_n dX11_heard_0 rfl ?_
  refine T_callS dX11_heard_1 lX11_181 (As := [_]) (rest := _) rfl rfl (by decide) (Nat.le_of_ble_eq_true rfl) (Nat.le_of_ble_eq_true rfl) t_isArmy ?_
  rintro _ _ ⟨rfl, rfl⟩
  refine T_if_eq (tgt := 16) dX11_heard_4 (by decide) (fun c4 => ?_) (fun c4 => ?_)
  · have h4 := bI_0 c4
    refine T_iconst dX11_heard_16 (by decide) ?_
    exact T_ireturn dX11_heard_17 rfl ⟨by unfold qHeard; rw [if_pos h4, ite_self], Cf.rf⟩
  · have h4 := bI_1 c4
    refine T_aload_n dX11_heard_7 rfl ?_
    refine T_iload_n dX11_heard_8 rfl ?_
    refine T_iload_n dX11_heard_9 rfl ?_
    refine T_callV dX11_heard_10 lX11_243 (As := [_, _]) (rest := _) rfl rfl k1 (by decide) (Nat.le_of_ble_eq_true rfl) (Nat.le_of_ble_eq_true rfl) (t_performToBoth hM hC) ?_
    rintro _ d1 (⟨hv, rfl, rfl⟩ | ⟨hv, rfl, e1, e2, e3, f1⟩)
    ·
      refine T_if_ne (tgt := 18) dX11_heard_13 (by decide) (fun c13 => absurd rfl c13) (fun c13 => ?_)
      refine T_iconst dX11_heard_16 (by decide) ?_
      exact T_ireturn dX11_heard_17 rfl ⟨by rw [if_neg hv], Cf.rf⟩
    ·
      have hV := hM.2.1 k.toNat (by omega)
      have hG := hM.2.2.1 l.toNat (by omega)
      have hlen := rowS_24 hV hG
      rw [if_pos hv]
      generalize wvD d k.toNat = w at *
      generalize gvD d l.toNat = g at *
      obtain ⟨a, rfl⟩ : ∃ q : Nat, a = (q : Int) := ⟨a.toNat, by omega⟩
      have he := (kn_e a (by omega)).1
      obtain ⟨E1, E2⟩ := Bo_a e3 (a := a) (by omega)
      have hrg := hnS_rg (n := (rowS w g).length) hV (a := a) (by omega)
      refine T_if_ne (tgt := 18) dX11_heard_13 (by decide) (fun c13 => ?_) (fun c13 => absurd c13 (by decide))
      refine T_aload_n dX11_heard_18 rfl ?_
      refine T_getR dX11_heard_19 fX11_47 rfl k1 r1_6 ?_
      refine T_iload_n dX11_heard_22 rfl ?_
      refine T_aald dX11_heard_23 k87 (by decide) l87 (by omega) (kn_e a (by omega)).2 ?_
      refine T_ast dX11_heard_24 (by decide) rfl ?_
      refine T_iload dX11_heard_26 rfl ?_
      refine T_iconst dX11_heard_28 (by decide) ?_
      refine T_icmp_ne (tgt := 38) dX11_heard_29 (by decide) (fun c29 => ?_) (fun c29 => ?_)
      · refine T_iload dX11_heard_38 rfl ?_
        refine T_if_lt (tgt := 64) dX11_heard_40 (by decide) (fun c40 => ?_) (fun c40 => ?_)
        · refine T_iconst dX11_heard_64 (by decide) ?_
          exact T_ireturn dX11_heard_65 rfl ⟨by unfold qHeard; rw [if_neg (by omega), if_neg (by omega), Int.toNat_natCast, if_neg (by omega)], f1⟩
        · refine T_iload dX11_heard_43 rfl ?_
          refine T_aload dX11_heard_45 rfl ?_
          refine T_getIv dX11_heard_47 fX11_246 rfl he (x := hnS w (rowS w g).length a) E1.1.1 ?_
          refine T_icmp_ge (tgt := 64) dX11_heard_50 (by decide) (fun c50 => ?_) (fun c50 => ?_)
          · refine T_iconst dX11_heard_64 (by decide) ?_
            exact T_ireturn dX11_heard_65 rfl ⟨by unfold qHeard; rw [if_neg (by omega), if_neg (by omega), Int.toNat_natCast, if_neg (by omega)], f1⟩
          · refine T_aload dX11_heard_53 rfl ?_
            refine T_getR dX11_heard_55 fX11_249 rfl he (rE0 he) ?_
            refine T_iload dX11_heard_58 rfl ?_
            refine T_ialdv dX11_heard_60 (kE0 he) (lE0 he) (by omega) rfl (x := sndB w (rB w g) (phS w a i).toNat) (by have q := E1.2 i.toNat (by omega); rw [show ((i.toNat : Nat) : Int) = i by omega] at q; rw [q]; have hph := ph_lt (n := (rowS w g).length) (a := a) hV (by omega) (j := i) (by omega) (by omega); unfold snS; rw [if_pos (by omega)]) ?_
            refine T_goto (tgt := 65) dX11_heard_61 (by decide) ?_
            exact T_ireturn dX11_heard_65 rfl ⟨by unfold qHeard; rw [if_neg (by omega), if_neg (by omega), Int.toNat_natCast, if_pos (by omega)], f1⟩
      · refine T_aload dX11_heard_32 rfl ?_
        refine T_getIv dX11_heard_34 fX11_246 rfl he (x := hnS w (rowS w g).length a) E1.1.1 ?_
        exact T_ireturn dX11_heard_37 rfl ⟨by unfold qHeard; rw [if_neg (by omega), if_pos (by omega), Int.toNat_natCast], f1⟩

theorem t_madeInAll {x : Int} (he : kn S0 e = 2) (hV : WV w) (hE : Eh d e w s n a) (hM : Em d e w a ml dn) (hK : MlOk w n a ml) (hn : d 81 5 = (n : Int)) (hn24 : n ≤ 24) (h86 : ∀ j, j < n → d 86 j = 0 ∨ d 86 j = 1) (ha : a < 2) : tB G mX11_madeInAll 0 [vR 1, vR e, vI x] [] d (fun r d' => r = some (vI (if x = 0 then (ml.length : Int) else if x = 1 then (dn : Int) else if x = 2 then ehS w (d 86) a ml ml.length else -2)) ∧ d = d') := by
  refine T_iload_n dX11_madeInAll_0 rfl ?_
  by_cases hs0 : x = 0
  · subst hs0
    refine T_tabIn (tgt := 28) (off := 27) dX11_madeInAll_1 (by decide) (by decide) (by decide) (by decide) ?_
    refine T_aload_n dX11_madeInAll_28 rfl ?_
    refine T_getIv dX11_madeInAll_29 fX11_254 rfl he (x := (ml.length : Int)) hM.1 ?_
    exact T_ireturn dX11_madeInAll_32 rfl ⟨rfl, rfl⟩
  by_cases hs1 : x = 1
  · subst hs1
    refine T_tabIn (tgt := 33) (off := 32) dX11_madeInAll_1 (by decide) (by decide) (by decide) (by decide) ?_
    refine T_aload_n dX11_madeInAll_33 rfl ?_
    refine T_getIv dX11_madeInAll_34 fX11_272 rfl he (x := (dn : Int)) hM.2.1 ?_
    exact T_ireturn dX11_madeInAll_37 rfl ⟨rfl, rfl⟩
  by_cases hs2 : x = 2
  · subst hs2
    refine T_tabIn (tgt := 38) (off := 37) dX11_madeInAll_1 (by decide) (by decide) (by decide) (by decide) ?_
    refine T_aload_n dX11_madeInAll_38 rfl ?_
    refine T_aload_n dX11_madeInAll_39 rfl ?_
    refine T_getR dX11_madeInAll_40 fX11_41 rfl k1 r1_5 ?_
    refine T_callV dX11_madeInAll_43 lX11_275 (As := [_]) (rest := _) rfl rfl he (by decide) (Nat.le_of_ble_eq_true rfl) (Nat.le_of_ble_eq_true rfl) (t_echoedMoves he hV hE hM hK hn hn24 h86 ha) ?_
    rintro _ _ ⟨rfl, rfl⟩
    exact T_ireturn dX11_madeInAll_46 rfl ⟨rfl, rfl⟩
  refine T_tabOut (tgt := 47) dX11_madeInAll_1 (by omega) (by decide) ?_
  refine T_bipush dX11_madeInAll_47 (by decide) ?_
  exact T_ireturn dX11_madeInAll_49 rfl ⟨by rw [if_neg hs0, if_neg hs1, if_neg hs2], rfl⟩

theorem t_C_made {k l a i x : Int} (hM : MS d) (hC : CS d) : tB G mX11_made 0 [vR 1, vI k, vI l, vI a, vI i, vI x, vU 0] [] d (cQ d (if Vp d k l then qMade (wvD d k.toNat) (gvD d l.toNat) a i x else -2)) := by
  refine T_iload_n dX11_made_0 rfl ?_
  refine T_callS dX11_made_1 lX11_181 (As := [_]) (rest := _) rfl rfl (by decide) (Nat.le_of_ble_eq_true rfl) (Nat.le_of_ble_eq_true rfl) t_isArmy ?_
  rintro _ _ ⟨rfl, rfl⟩
  refine T_if_eq (tgt := 16) dX11_made_4 (by decide) (fun c4 => ?_) (fun c4 => ?_)
  · have h4 := bI_0 c4
    refine T_bipush dX11_made_16 (by decide) ?_
    exact T_ireturn dX11_made_18 rfl ⟨by unfold qMade; rw [if_pos h4, ite_self], Cf.rf⟩
  · have h4 := bI_1 c4
    refine T_aload_n dX11_made_7 rfl ?_
    refine T_iload_n dX11_made_8 rfl ?_
    refine T_iload_n dX11_made_9 rfl ?_
    refine T_callV dX11_made_10 lX11_243 (As := [_, _]) (rest := _) rfl rfl k1 (by decide) (Nat.le_of_ble_eq_true rfl) (Nat.le_of_ble_eq_true rfl) (t_performToBoth hM hC) ?_
    rintro _ d1 (⟨hv, rfl, rfl⟩ | ⟨hv, rfl, e1, e2, e3, f1⟩)
    ·
      refine T_if_ne (tgt := 19) dX11_made_13 (by decide) (fun c13 => absurd rfl c13) (fun c13 => ?_)
      refine T_bipush dX11_made_16 (by decide) ?_
      exact T_ireturn dX11_made_18 rfl ⟨by rw [if_neg hv], Cf.rf⟩
    ·
      have hV := hM.2.1 k.toNat (by omega)
      have hG := hM.2.2.1 l.toNat (by omega)
      have hlen := rowS_24 hV hG
      rw [if_pos hv]
      generalize wvD d k.toNat = w at *
      generalize gvD d l.toNat = g at *
      obtain ⟨a, rfl⟩ : ∃ q : Nat, a = (q : Int) := ⟨a.toNat, by omega⟩
      have he := (kn_e a (by omega)).1
      obtain ⟨E1, E2⟩ := Bo_a e3 (a := a) (by omega)
      have hrg := hnS_rg (n := (rowS w g).length) hV (a := a) (by omega)
      have hK : MlOk w (rowS w g).length a (mlS w g a) := mkS_MlOk hV (by omega) hlen
      have hl24 := hK.1
      have h86 : ∀ j, j < (rowS w g).length → d1 86 j = 0 ∨ d1 86 j = 1 := fun j hj => by rw [(e2 j hj).2]; exact bI_01 _
      refine T_if_ne (tgt := 19) dX11_made_13 (by decide) (fun c13 => ?_) (fun c13 => absurd c13 (by decide))
      refine T_aload_n dX11_made_19 rfl ?_
      refine T_getR dX11_made_20 fX11_47 rfl k1 r1_6 ?_
      refine T_iload_n dX11_made_23 rfl ?_
      refine T_aald dX11_made_24 k87 (by decide) l87 (by omega) (kn_e a (by omega)).2 ?_
      refine T_ast dX11_made_25 (by decide) rfl ?_
      refine T_iload dX11_made_27 rfl ?_
      refine T_iconst dX11_made_29 (by decide) ?_
      refine T_icmp_ne (tgt := 42) dX11_made_30 (by decide) (fun c30 => ?_) (fun c30 => ?_)
      · refine T_iload dX11_made_42 rfl ?_
        refine T_if_lt (tgt := 57) dX11_made_44 (by decide) (fun c44 => ?_) (fun c44 => ?_)
        · refine T_bipush dX11_made_57 (by decide) ?_
          exact T_ireturn dX11_made_59 rfl ⟨by unfold qMade; rw [Int.toNat_natCast, if_neg (show ¬ ¬ (0 ≤ (a : Int) ∧ (a : Int) ≤ 1) from fun q => q h4), if_neg c30, if_pos (by omega)], f1⟩
        · refine T_iload dX11_made_47 rfl ?_
          refine T_aload dX11_made_49 rfl ?_
          refine T_getIv dX11_made_51 fX11_254 rfl he (x := ((mlS w g a).length : Int)) E2.1 ?_
          refine T_icmp_lt (tgt := 60) dX11_made_54 (by decide) (fun c54 => ?_) (fun c54 => ?_)
          · have hii : 0 ≤ i ∧ i ≤ ((mlS w g a).length : Int) - 1 := by omega
            obtain ⟨i, rfl⟩ : ∃ q : Nat, i = (q : Int) := ⟨i.toNat, by omega⟩
            have hi : i < (mlS w g a).length := by omega
            obtain ⟨q1, q2, q3, q4⟩ := E2.2.2 i hi
            have hK2 := (hK.2 i hi).2
            have hL3 := (hV.2.2.2.2.2 a ((mlS w g a).getD i (0, 0)).1 (by omega) (hK.2 i hi).1).2.1
            refine T_iload dX11_made_60 rfl ?_
            by_cases hs0 : x = 0
            · subst hs0
              refine T_tabIn (tgt := 92) (off := 30) dX11_made_62 (by decide) (by decide) (by decide) (by decide) ?_
              refine T_aload dX11_made_92 rfl ?_
              refine T_getR dX11_made_94 fX11_257 rfl he (rE2 he) ?_
              refine T_iload dX11_made_97 rfl ?_
              refine T_ialdv dX11_made_99 (kE2 he) (lE2 he) (by omega) (j := i) (by omega) (x := w (17 + 36 * a + 6 * ((mlS w g a).getD i (0, 0)).1)) q1 ?_
              exact T_ireturn dX11_made_100 rfl ⟨by unfold qMade; rw [Int.toNat_natCast, if_neg (show ¬ ¬ (0 ≤ (a : Int) ∧ (a : Int) ≤ 1) from fun q => q h4), if_neg c30, if_neg (fun q => q hii), Int.toNat_natCast, if_pos rfl], f1⟩
            by_cases hs1 : x = 1
            · subst hs1
              refine T_tabIn (tgt := 101) (off := 39) dX11_made_62 (by decide) (by decide) (by decide) (by decide) ?_
              refine T_aload dX11_made_101 rfl ?_
              refine T_aload dX11_made_103 rfl ?_
              refine T_getR dX11_made_105 fX11_258 rfl he (rE4 he) ?_
              refine T_iload dX11_made_108 rfl ?_
              refine T_ialdv dX11_made_110 (kE4 he) (lE4 he) (by omega) (j := i) (by omega) (x := (((mlS w g a).getD i (0, 0)).2 : Int)) q3 ?_
              refine T_callV dX11_made_111 lX11_261 (As := [_]) (rest := _) rfl rfl he (by decide) (Nat.le_of_ble_eq_true rfl) (Nat.le_of_ble_eq_true rfl) (t_cplaceOf he hV E1 (by omega) (by omega)) ?_
              rintro _ _ ⟨rfl, rfl⟩
              exact T_ireturn dX11_made_114 rfl ⟨by unfold qMade; rw [Int.toNat_natCast, if_neg (show ¬ ¬ (0 ≤ (a : Int) ∧ (a : Int) ≤ 1) from fun q => q h4), if_neg c30, if_neg (fun q => q hii), Int.toNat_natCast, if_neg (by decide), if_pos rfl], f1⟩
            by_cases hs2 : x = 2
            · subst hs2
              refine T_tabIn (tgt := 115) (off := 53) dX11_made_62 (by decide) (by decide) (by decide) (by decide) ?_
              refine T_aload dX11_made_115 rfl ?_
              refine T_getR dX11_made_117 fX11_265 rfl he (rE3 he) ?_
              refine T_iload dX11_made_120 rfl ?_
              refine T_ialdv dX11_made_122 (kE3 he) (lE3 he) (by omega) (j := i) (by omega) (x := (((mlS w g a).getD i (0, 0)).1 : Int)) q2 ?_
              exact T_ireturn dX11_made_123 rfl ⟨by unfold qMade; rw [Int.toNat_natCast, if_neg (show ¬ ¬ (0 ≤ (a : Int) ∧ (a : Int) ≤ 1) from fun q => q h4), if_neg c30, if_neg (fun q => q hii), Int.toNat_natCast, if_neg (by decide), if_neg (by decide), if_pos rfl], f1⟩
            by_cases hs3 : x = 3
            · subst hs3
              refine T_tabIn (tgt := 124) (off := 62) dX11_made_62 (by decide) (by decide) (by decide) (by decide) ?_
              refine T_aload dX11_made_124 rfl ?_
              refine T_iload dX11_made_126 rfl ?_
              refine T_iload_n dX11_made_128 rfl ?_
              refine T_aload_n dX11_made_129 rfl ?_
              refine T_getR dX11_made_130 fX11_41 rfl k1 r1_5 ?_
              refine T_callV dX11_made_133 lX11_268 (As := [_, _, _]) (rest := _) rfl rfl he (by decide) (Nat.le_of_ble_eq_true rfl) (Nat.le_of_ble_eq_true rfl) (t_foreignness he hV E1 E2 hK e1.1 hlen (by omega) hi) ?_
              rintro _ _ ⟨rfl, rfl⟩
              exact T_ireturn dX11_made_136 rfl ⟨by unfold qMade; rw [Int.toNat_natCast, if_neg (show ¬ ¬ (0 ≤ (a : Int) ∧ (a : Int) ≤ 1) from fun q => q h4), if_neg c30, if_neg (fun q => q hii), Int.toNat_natCast, if_neg (by decide), if_neg (by decide), if_neg (by decide), if_pos rfl, puS_congr hV (by omega) hK2 (fun j hj => ((e1.2 j hj).2.1).symm)], f1⟩
            refine T_tabOut (tgt := 137) dX11_made_62 (by omega) (by decide) ?_
            refine T_bipush dX11_made_137 (by decide) ?_
            exact T_ireturn dX11_made_139 rfl ⟨by unfold qMade; rw [Int.toNat_natCast, if_neg (show ¬ ¬ (0 ≤ (a : Int) ∧ (a : Int) ≤ 1) from fun q => q h4), if_neg c30, if_neg (fun q => q hii), Int.toNat_natCast, if_neg hs0, if_neg hs1, if_neg hs2, if_neg hs3], f1⟩
          · refine T_bipush dX11_made_57 (by decide) ?_
            exact T_ireturn dX11_made_59 rfl ⟨by unfold qMade; rw [Int.toNat_natCast, if_neg (show ¬ ¬ (0 ≤ (a : Int) ∧ (a : Int) ≤ 1) from fun q => q h4), if_neg c30, if_pos (by omega)], f1⟩
      · refine T_aload_n dX11_made_33 rfl ?_
        refine T_aload dX11_made_34 rfl ?_
        refine T_iload dX11_made_36 rfl ?_
        refine T_callV dX11_made_38 lX11_250 (As := [_, _]) (rest := _) rfl rfl k1 (by decide) (Nat.le_of_ble_eq_true rfl) (Nat.le_of_ble_eq_true rfl) (t_madeInAll he hV E1 E2 hK e1.1 hlen h86 (by omega)) ?_
        rintro _ _ ⟨rfl, rfl⟩
        exact T_ireturn dX11_made_41 rfl ⟨by unfold qMade; rw [Int.toNat_natCast, if_neg (show ¬ ¬ (0 ≤ (a : Int) ∧ (a : Int) ≤ 1) from fun q => q h4), if_pos c30, ehS_congr hV (by omega) hK (fun j hj => ((e2 j hj).2).symm)], f1⟩

theorem t_C_march {k l a i : Int} (hM : MS d) (hC : CS d) : tB G mX11_march 0 [vR 1, vI k, vI l, vI a, vI i] [] d (cQ d (if Vp d k l then qMarch (wvD d k.toNat) (gvD d l.toNat) a i else -1000)) := by
  refine T_iload_n dX11_march_0 rfl ?_
  refine T_callS dX11_march_1 lX11_181 (As := [_]) (rest := _) rfl rfl (by decide) (Nat.le_of_ble_eq_true rfl) (Nat.le_of_ble_eq_true rfl) t_isArmy ?_
  rintro _ _ ⟨rfl, rfl⟩
  refine T_if_eq (tgt := 28) dX11_march_4 (by decide) (fun c4 => ?_) (fun c4 => ?_)
  · have h4 := bI_0 c4
    refine T_sipush dX11_march_28 (by decide) ?_
    exact T_ireturn dX11_march_31 rfl ⟨by unfold qMarch; rw [if_pos h4, ite_self], Cf.rf⟩
  · have h4 := bI_1 c4
    refine T_iload dX11_march_7 rfl ?_
    refine T_if_lt (tgt := 28) dX11_march_9 (by decide) (fun c9 => ?_) (fun c9 => ?_)
    · refine T_sipush dX11_march_28 (by decide) ?_
      exact T_ireturn dX11_march_31 rfl ⟨by unfold qMarch; rw [if_neg (show ¬ ¬ (0 ≤ a ∧ a ≤ 1) by omega), if_pos (show ¬ (0 ≤ i ∧ i ≤ 24) by omega), ite_self], Cf.rf⟩
    · refine T_iload dX11_march_12 rfl ?_
      refine T_bipush dX11_march_14 (by decide) ?_
      refine T_icmp_gt (tgt := 28) dX11_march_16 (by decide) (fun c16 => ?_) (fun c16 => ?_)
      · refine T_sipush dX11_march_28 (by decide) ?_
        exact T_ireturn dX11_march_31 rfl ⟨by unfold qMarch; rw [if_neg (show ¬ ¬ (0 ≤ a ∧ a ≤ 1) by omega), if_pos (show ¬ (0 ≤ i ∧ i ≤ 24) by omega), ite_self], Cf.rf⟩
      · refine T_aload_n dX11_march_19 rfl ?_
        refine T_iload_n dX11_march_20 rfl ?_
        refine T_iload_n dX11_march_21 rfl ?_
        refine T_callV dX11_march_22 lX11_243 (As := [_, _]) (rest := _) rfl rfl k1 (by decide) (Nat.le_of_ble_eq_true rfl) (Nat.le_of_ble_eq_true rfl) (t_performToBoth hM hC) ?_
        rintro _ d1 (⟨hv, rfl, rfl⟩ | ⟨hv, rfl, e1, e2, e3, f1⟩)
        ·
          refine T_if_ne (tgt := 32) dX11_march_25 (by decide) (fun c25 => absurd rfl c25) (fun c25 => ?_)
          refine T_sipush dX11_march_28 (by decide) ?_
          exact T_ireturn dX11_march_31 rfl ⟨by rw [if_neg hv], Cf.rf⟩
        ·
          have hc0 := hM.1 0 (by decide)
          have hw := (kn_w k.toNat (by have := hM.1 0 (by decide); omega)).1
          have hO := hC.2.1 k.toNat (by omega)
          have hV := hM.2.1 k.toNat (by omega)
          have hG := hM.2.2.1 l.toNat (by omega)
          have hlen := rowS_24 hV hG
          have hO1 := Wo_cf hw hO f1
          rw [if_pos hv]
          generalize wvD d k.toNat = w at *
          generalize gvD d l.toNat = g at *
          refine T_if_ne (tgt := 32) dX11_march_25 (by decide) (fun c25 => ?_) (fun c25 => absurd c25 (by decide))
          refine T_aload_n dX11_march_32 rfl ?_
          refine T_getR dX11_march_33 fX11_54 rfl k1 r1_7 ?_
          refine T_aload_n dX11_march_36 rfl ?_
          refine T_getR dX11_march_37 fX11_10 rfl k1 r1_0 ?_
          refine T_getR dX11_march_40 fX11_116 rfl k2 r2_5 ?_
          refine T_iload_n dX11_march_43 rfl ?_
          refine T_aald dX11_march_44 k5 (by decide) l5 (by omega) (kn_w k.toNat (by have := hM.1 0 (by decide); omega)).2 ?_
          refine T_aload_n dX11_march_45 rfl ?_
          refine T_getR dX11_march_46 fX11_47 rfl k1 r1_6 ?_
          refine T_iconst dX11_march_49 (by decide) ?_
          refine T_aald dX11_march_50 k87 (by decide) l87 (by omega) (kn_e 0 (by decide)).2 ?_
          refine T_aload_n dX11_march_51 rfl ?_
          refine T_getR dX11_march_52 fX11_47 rfl k1 r1_6 ?_
          refine T_iconst dX11_march_55 (by decide) ?_
          refine T_aald dX11_march_56 k87 (by decide) l87 (by omega) (kn_e 1 (by decide)).2 ?_
          refine T_callV dX11_march_57 lX11_279 (As := [_, _, _]) (rest := _) rfl rfl k88 (by decide) (Nat.le_of_ble_eq_true rfl) (Nat.le_of_ble_eq_true rfl) (t_walk (kn_e 0 (by decide)).1 (kn_e 1 (by decide)).1 hw hO1 hV e3.1.2 e3.2.2 (mkS_MlOk hV (by decide) hlen).1 (mkS_MlOk hV (by decide) hlen).1) ?_
          rintro _ d2 ⟨rfl, e4, f2⟩
          refine T_iload_n dX11_march_60 rfl ?_
          refine T_if_ne (tgt := 77) dX11_march_61 (by decide) (fun c61 => ?_) (fun c61 => ?_)
          · refine T_aload_n dX11_march_77 rfl ?_
            refine T_getR dX11_march_78 fX11_54 rfl k1 r1_7 ?_
            refine T_getR dX11_march_81 fX11_286 rfl k88 r88_1 ?_
            refine T_iload dX11_march_84 rfl ?_
            refine T_ialdv dX11_march_86 k90 l90 (by omega) rfl (x := (plS w (mlS w g 0) (mlS w g 1) i.toNat).2) (e4.1 i.toNat (by omega)).2 ?_
            exact T_ireturn dX11_march_87 rfl ⟨by unfold qMarch; rw [if_neg (by omega), if_neg (by omega), if_neg c61], f1.trans (f2.cf (by omega))⟩
          · refine T_aload_n dX11_march_64 rfl ?_
            refine T_getR dX11_march_65 fX11_54 rfl k1 r1_7 ?_
            refine T_getR dX11_march_68 fX11_283 rfl k88 r88_0 ?_
            refine T_iload dX11_march_71 rfl ?_
            refine T_ialdv dX11_march_73 k89 l89 (by omega) rfl (x := (plS w (mlS w g 0) (mlS w g 1) i.toNat).1) (e4.1 i.toNat (by omega)).1 ?_
            refine T_goto (tgt := 87) dX11_march_74 (by decide) ?_
            exact T_ireturn dX11_march_87 rfl ⟨by unfold qMarch; rw [if_neg (by omega), if_neg (by omega), if_pos c61], f1.trans (f2.cf (by omega))⟩

theorem t_C_meets {k l : Int} (hM : MS d) (hC : CS d) : tB G mX11_meets 0 [vR 1, vI k, vI l] [] d (cQ d (if Vp d k l then qMeets (wvD d k.toNat) (gvD d l.toNat) else -1)) := by
  refine T_aload_n dX11_meets_0 rfl ?_
  refine T_iload_n dX11_meets_1 rfl ?_
  refine T_iload_n dX11_meets_2 rfl ?_
  refine T_callV dX11_meets_3 lX11_243 (As := [_, _]) (rest := _) rfl rfl k1 (by decide) (Nat.le_of_ble_eq_true rfl) (Nat.le_of_ble_eq_true rfl) (t_performToBoth hM hC) ?_
  rintro _ d1 (⟨hv, rfl, rfl⟩ | ⟨hv, rfl, e1, e2, e3, f1⟩)
  ·
    refine T_if_ne (tgt := 11) dX11_meets_6 (by decide) (fun c6 => absurd rfl c6) (fun c6 => ?_)
    refine T_iconst dX11_meets_9 (by decide) ?_
    exact T_ireturn dX11_meets_10 rfl ⟨by rw [if_neg hv], Cf.rf⟩
  ·
    have hc0 := hM.1 0 (by decide)
    have hw := (kn_w k.toNat (by have := hM.1 0 (by decide); omega)).1
    have hO := hC.2.1 k.toNat (by omega)
    have hV := hM.2.1 k.toNat (by omega)
    have hG := hM.2.2.1 l.toNat (by omega)
    have hlen := rowS_24 hV hG
    have hO1 := Wo_cf hw hO f1
    rw [if_pos hv]
    generalize wvD d k.toNat = w at *
    generalize gvD d l.toNat = g at *
    refine T_if_ne (tgt := 11) dX11_meets_6 (by decide) (fun c6 => ?_) (fun c6 => absurd c6 (by decide))
    refine T_aload_n dX11_meets_11 rfl ?_
    refine T_getR dX11_meets_12 fX11_54 rfl k1 r1_7 ?_
    refine T_aload_n dX11_meets_15 rfl ?_
    refine T_getR dX11_meets_16 fX11_10 rfl k1 r1_0 ?_
    refine T_getR dX11_meets_19 fX11_116 rfl k2 r2_5 ?_
    refine T_iload_n dX11_meets_22 rfl ?_
    refine T_aald dX11_meets_23 k5 (by decide) l5 (by omega) (kn_w k.toNat (by have := hM.1 0 (by decide); omega)).2 ?_
    refine T_aload_n dX11_meets_24 rfl ?_
    refine T_getR dX11_meets_25 fX11_47 rfl k1 r1_6 ?_
    refine T_iconst dX11_meets_28 (by decide) ?_
    refine T_aald dX11_meets_29 k87 (by decide) l87 (by omega) (kn_e 0 (by decide)).2 ?_
    refine T_aload_n dX11_meets_30 rfl ?_
    refine T_getR dX11_meets_31 fX11_47 rfl k1 r1_6 ?_
    refine T_iconst dX11_meets_34 (by decide) ?_
    refine T_aald dX11_meets_35 k87 (by decide) l87 (by omega) (kn_e 1 (by decide)).2 ?_
    refine T_callV dX11_meets_36 lX11_279 (As := [_, _, _]) (rest := _) rfl rfl k88 (by decide) (Nat.le_of_ble_eq_true rfl) (Nat.le_of_ble_eq_true rfl) (t_walk (kn_e 0 (by decide)).1 (kn_e 1 (by decide)).1 hw hO1 hV e3.1.2 e3.2.2 (mkS_MlOk hV (by decide) hlen).1 (mkS_MlOk hV (by decide) hlen).1) ?_
    rintro _ d2 ⟨rfl, e4, f2⟩
    refine T_aload_n dX11_meets_39 rfl ?_
    refine T_getR dX11_meets_40 fX11_54 rfl k1 r1_7 ?_
    refine T_getIv dX11_meets_43 fX11_289 rfl k88 (x := qMeets w g) e4.2 ?_
    exact T_ireturn dX11_meets_46 rfl ⟨rfl, f1.trans (f2.cf (by omega))⟩

end C10
