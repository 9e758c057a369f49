/-! the reference: made -/
section M15
variable {G : sG} {d : sD} {w g s : Nat → Int}
abbrev snS (w g : Nat → Int) : Nat → Int := fun j => if j < (rowS w g).length then sndB w (rB w g) j else 0
/-- what sounds beyond the row isn't heard -/
theorem isF_congr (hV : WV w) {s s' : Nat → Int} {n a o k : Nat} (ha : a < 2) (ho : (o : Int) < w (15 + a)) (h : ∀ j, j < n → s j = s' j) : isF w s n a o k ↔ isF w s' n a o k := by
  have hL := (hV.2.2.2.2.2 a o ha ho).2.1
  constructor
  · rintro ⟨h1, h2⟩
    refine ⟨h1, fun i hi => ?_⟩
    have hph := ph_lt (n := n) hV ha (j := (k : Int) + i) (by omega) (by omega)
    rw [← h _ (by omega)]; exact h2 i hi
  · rintro ⟨h1, h2⟩
    refine ⟨h1, fun i hi => ?_⟩
    have hph := ph_lt (n := n) hV ha (j := (k : Int) + i) (by omega) (by omega)
    rw [h _ (by omega)]; exact h2 i hi
theorem bstM_congr (hV : WV w) {s s' : Nat → Int} {n a k : Nat} (ha : a < 2) (h : ∀ j, j < n → s j = s' j) : ∀ m, m ≤ (w (15 + a)).toNat → bstM w s n a k (w (15 + a)).toNat m = bstM w s' n a k (w (15 + a)).toNat m
  | 0, _ => rfl
  | m + 1, hm => by
    have ih := bstM_congr hV (k := k) ha h m (by omega)
    unfold bstM
    rw [ih]
    have hc := (hV.a ha).2.2.2.2
    have e := isF_congr hV (k := k) ha (o := (w (15 + a)).toNat - 1 - m) (by omega) h
    by_cases q : isF w s n a ((w (15 + a)).toNat - 1 - m) k ∧ (bstM w s' n a k (w (15 + a)).toNat m = -1 ∨ w (18 + 36 * a + 6 * (bstM w s' n a k (w (15 + a)).toNat m).toNat) ≤ w (18 + 36 * a + 6 * ((w (15 + a)).toNat - 1 - m)))
    · rw [if_pos q, if_pos ⟨e.mp q.1, q.2⟩]
    · rw [if_neg q, if_neg (fun z => q ⟨e.mpr z.1, z.2⟩)]
theorem mkS_congr (hV : WV w) {s s' : Nat → Int} {n a : Nat} (ha : a < 2) (h : ∀ j, j < n → s j = s' j) : ∀ f k, mkS w s n a f k = mkS w s' n a f k
  | 0, _ => rfl
  | f + 1, k => by
    have e : bst w s n a k = bst w s' n a k := bstM_congr hV ha h _ (Nat.le_refl _)
    rw [mkS_succ, mkS_succ, e, mkS_congr hV ha h f, mkS_congr hV ha h f]
/-- the moves that an army makes of a war and a score; the beats that it dances -/
abbrev mlS (w g : Nat → Int) (a : Nat) : List (Nat × Nat) := (mkS w (snS w g) (rowS w g).length a 24 0).1
abbrev dnS (w g : Nat → Int) (a : Nat) : Nat := (mkS w (snS w g) (rowS w g).length a 24 0).2
theorem mk_py {d : sD} (hV : WV w) {a : Nat} (ha : a < 2) (hS : Snd d w (rB w g) (rowS w g).length) : mkS w (d 279) (rowS w g).length a 24 0 = mkS w (snS w g) (rowS w g).length a 24 0 := mkS_congr hV ha (fun j hj => by rw [(hS j hj).1]; unfold snS; rw [if_pos hj]) 24 0
abbrev gvS (w g : Nat → Int) : Nat → Int := fun j => ((rowS w g).getD j (0, 0)).2
abbrev ecS (w g : Nat → Int) : Nat → Int := fun j => bI (ecP w (sndA w (rB w g)) j)
theorem puS_congr (hV : WV w) {n a : Nat} {v v' : Nat → Int} {z : Nat × Nat} (ha : a < 2) (hz : (z.2 : Int) + w (18 + 36 * a + 6 * z.1) ≤ hnS w n a) (h : ∀ j, j < n → v j = v' j) : puS w v a z = puS w v' a z := by
  have e : sumN (puF w v a z.2) (w (18 + 36 * a + 6 * z.1)).toNat = sumN (puF w v' a z.2) (w (18 + 36 * a + 6 * z.1)).toNat := sumN_congr (fun i hi => by
    have hph := ph_lt (n := n) hV ha (j := (z.2 : Int) + i) (by omega) (by omega)
    show bI _ = bI _
    rw [h _ (by omega)])
  unfold puS; rw [e]
theorem ehS_congr (hV : WV w) {n a : Nat} {v v' : Nat → Int} {ml : List (Nat × Nat)} (ha : a < 2) (hO : MlOk w n a ml) (h : ∀ j, j < n → v j = v' j) : ehS w v a ml ml.length = ehS w v' a ml ml.length := sumN_congr (fun k hk => orN_congr (fun i hi => by
    have o2 := (hO.2 k hk).2
    have hph := ph_lt (n := n) hV ha (j := ((ml.getD k (0, 0)).2 : Int) + i) (by omega) (by omega)
    exact h _ (by omega)))
/-- what an army made of a played score, as the reference answers -/
def qMade (w g : Nat → Int) (a k x : Int) : Int := if ¬ (0 ≤ a ∧ a ≤ 1) then -2 else if k = -1 then (if x = 0 then ((mlS w g a.toNat).length : Int) else if x = 1 then (dnS w g a.toNat : Int) else if x = 2 then ehS w (ecS w g) a.toNat (mlS w g a.toNat) (mlS w g a.toNat).length else -2) else if ¬ (0 ≤ k ∧ k ≤ ((mlS w g a.toNat).length : Int) - 1) then -2 else if x = 0 then w (17 + 36 * a.toNat + 6 * ((mlS w g a.toNat).getD k.toNat (0, 0)).1) else if x = 1 then phS w a.toNat ((mlS w g a.toNat).getD k.toNat (0, 0)).2 else if x = 2 then (((mlS w g a.toNat).getD k.toNat (0, 0)).1 : Int) else if x = 3 then puS w (gvS w g) a.toNat ((mlS w g a.toNat).getD k.toNat (0, 0)) else -2
abbrev mkC : List Nat := [275, 276, 277, 278, 279, 280, 281, 282, 283, 284, 285]
theorem Ag.mk0 {d d' : sD} (h : Ag [] [10, 11] d d') : Ag mkC pyF d d' := h.mono (by decide) (by decide)
theorem Ag.mk1 {d d' : sD} (h : Ag pyC pyF d d') : Ag mkC pyF d d' := h.mono (by decide) (by decide)
theorem Ag.mk2 {a : Nat} {d d1 d2 : sD} (h : Ag pyC pyF d d1) (h2 : MkF a d1 d2) : Ag mkC pyF d d2 := h.trans h2.1 (by decide) (by decide) (by decide) (by decide)
theorem t_X12_made {k l a i x : Int} (hM : MS d) : tB G mX12_made 0 [vR 271, vI k, vI l, vI a, vI i, vI x, vU 0] [] d (qQ d (if Vp d k l then qMade (wvD d k.toNat) (gvD d l.toNat) a i x else -2) mkC pyF) := by
  refine T_aload_n dX12_made_0 rfl ?_
  refine T_iload_n dX12_made_1 rfl ?_
  refine T_iload_n dX12_made_2 rfl ?_
  refine T_callV dX12_made_3 lX12_255 (As := [_, _]) (rest := _) rfl rfl k271 (by decide) (Nat.le_of_ble_eq_true rfl) (Nat.le_of_ble_eq_true rfl) (t_arePlayed hM) ?_
  rintro _ d1 (⟨hv, rfl, hA⟩ | ⟨hv, rfl, ⟨hW, hL, hS⟩, hA⟩)
  ·
    refine T_if_eq (tgt := 16) dX12_made_6 (by decide) (fun c6 => ?_) (fun c6 => absurd rfl c6)
    refine T_bipush dX12_made_16 (by decide) ?_
    exact T_ireturn dX12_made_18 rfl ⟨by rw [if_neg hv], hA.mk0⟩
  · rw [if_pos hv]
    have hV := hM.2.1 k.toNat (by omega)
    have hGV := hM.2.2.1 l.toNat (by omega)
    have g0 := (hGV 0 (by decide)).1
    have g1 := (hGV 1 (by decide)).1
    have hlen := rowS_len hV hGV
    refine T_if_eq (tgt := 16) dX12_made_6 (by decide) (fun c6 => absurd c6 (by decide)) (fun c6 => ?_)
    refine T_iload_n dX12_made_9 rfl ?_
    refine T_callS dX12_made_10 lX12_218 (As := [_]) (rest := _) rfl rfl (by decide) (Nat.le_of_ble_eq_true rfl) (Nat.le_of_ble_eq_true rfl) t_X12_isArmy ?_
    rintro _ _ ⟨rfl, rfl⟩
    refine T_if_ne (tgt := 19) dX12_made_13 (by decide) (fun c13 => ?_) (fun c13 => ?_)
    · have h13 := bI_1 c13
      obtain ⟨a, rfl⟩ : ∃ a2 : Nat, a = (a2 : Int) := ⟨a.toNat, by omega⟩
      refine T_aload_n dX12_made_19 rfl ?_
      refine T_iload_n dX12_made_20 rfl ?_
      refine T_callV dX12_made_21 lX12_270 (As := [_]) (rest := _) rfl rfl k271 (by decide) (Nat.le_of_ble_eq_true rfl) (Nat.le_of_ble_eq_true rfl) (t_makes hW hV hL.1 (by omega) (by omega)) ?_
      rintro _ d2 ⟨rfl, hK, hF⟩
      have ha2 : a < 2 := by omega
      have hA2 := hA.mk2 hF
      rw [mk_py hV ha2 hS] at hK
      have hO : MlOk (wvD d k.toNat) (rowS (wvD d k.toNat) (gvD d l.toNat)).length a (mlS (wvD d k.toNat) (gvD d l.toNat) a) := mkS_MlOk hV ha2 (by omega)
      have hW2 := Wd_ag hW hF.1 (by decide) (by decide)
      have h280 : ∀ j, j < (rowS (wvD d k.toNat) (gvD d l.toNat)).length → d2 280 j = ecS (wvD d k.toNat) (gvD d l.toNat) j := fun j hj => by rw [hF.1.1 280 j (by decide) (by decide)]; exact (hS j hj).2
      have h278 : ∀ j, j < (rowS (wvD d k.toNat) (gvD d l.toNat)).length → d2 278 j = gvS (wvD d k.toNat) (gvD d l.toNat) j := fun j hj => by rw [hF.1.1 278 j (by decide) (by decide)]; exact (hL.2 j hj).2
      have hl24 := hO.1
      refine T_iload dX12_made_24 rfl ?_
      refine T_iconst dX12_made_26 (by decide) ?_
      refine T_icmp_ne (tgt := 76) dX12_made_27 (by decide) (fun c27 => ?_) (fun c27 => ?_)
      · refine T_iload dX12_made_76 rfl ?_
        refine T_iconst dX12_made_78 (by decide) ?_
        refine T_aload_n dX12_made_79 rfl ?_
        refine T_getR dX12_made_80 fX12_47 rfl k271 r271_22 ?_
        refine T_iload_n dX12_made_83 rfl ?_
        refine T_ialdv dX12_made_84 k284 l284 (by omega) (j := a) rfl (x := ((mlS (wvD d k.toNat) (gvD d l.toNat) a).length : Int)) hK.1 ?_
        refine T_iconst dX12_made_85 (by decide) ?_
        refine T_sub dX12_made_86 (by omega) ?_
        refine T_callS dX12_made_87 lX12_145 (As := [_, _, _]) (rest := _) rfl rfl (by decide) (Nat.le_of_ble_eq_true rfl) (Nat.le_of_ble_eq_true rfl) t_X12_isIn ?_
        rintro _ _ ⟨rfl, rfl⟩
        refine T_if_ne (tgt := 96) dX12_made_90 (by decide) (fun c90 => ?_) (fun c90 => ?_)
        · have h90 := bI_1 c90
          obtain ⟨i, rfl⟩ : ∃ i2 : Nat, i = (i2 : Int) := ⟨i.toNat, by omega⟩
          have hi : i < (mlS (wvD d k.toNat) (gvD d l.toNat) a).length := by omega
          obtain ⟨k1, k2, k3⟩ := hK.2.2 i hi
          have hO2 := (hO.2 i hi)
          have hrg := hnS_rg (n := (rowS (wvD d k.toNat) (gvD d l.toNat)).length) hV ha2
          have hL3 := (hV.2.2.2.2.2 a ((mlS (wvD d k.toNat) (gvD d l.toNat) a).getD i (0, 0)).1 ha2 hO2.1).2.1
          refine T_bipush dX12_made_96 (by decide) ?_
          refine T_iload_n dX12_made_98 rfl ?_
          refine T_mul dX12_made_99 (by omega) ?_
          refine T_iload dX12_made_100 rfl ?_
          refine T_add dX12_made_102 (by omega) ?_
          refine T_ist dX12_made_103 (by decide) rfl ?_
          refine T_iload dX12_made_105 rfl ?_
          by_cases hs0 : x = 0
          · subst hs0
            refine T_tabIn (tgt := 136) (off := 29) dX12_made_107 (by decide) (by decide) (by decide) (by decide) ?_
            refine T_aload_n dX12_made_136 rfl ?_
            refine T_getR dX12_made_137 fX12_38 rfl k271 r271_19 ?_
            refine T_iload dX12_made_140 rfl ?_
            refine T_ialdv dX12_made_142 k281 l281 (by omega) (j := 24 * a + i) (by omega) (x := (wvD d k.toNat) (17 + 36 * a + 6 * ((mlS (wvD d k.toNat) (gvD d l.toNat) a).getD i (0, 0)).1)) k1 ?_
            exact T_ireturn dX12_made_143 rfl ⟨by unfold qMade; (repeat rw [Int.toNat_natCast]); rw [if_neg (fun q => q h13), if_neg c27, if_neg (fun q => q h90), if_pos rfl], hA2⟩
          by_cases hs1 : x = 1
          · subst hs1
            refine T_tabIn (tgt := 144) (off := 37) dX12_made_107 (by decide) (by decide) (by decide) (by decide) ?_
            refine T_aload_n dX12_made_144 rfl ?_
            refine T_iload_n dX12_made_145 rfl ?_
            refine T_aload_n dX12_made_146 rfl ?_
            refine T_getR dX12_made_147 fX12_44 rfl k271 r271_21 ?_
            refine T_iload dX12_made_150 rfl ?_
            refine T_ialdv dX12_made_152 k283 l283 (by omega) (j := 24 * a + i) (by omega) (x := (((mlS (wvD d k.toNat) (gvD d l.toNat) a).getD i (0, 0)).2 : Int)) k3 ?_
            refine T_callV dX12_made_153 lX12_258 (As := [_, _]) (rest := _) rfl rfl k271 (by decide) (Nat.le_of_ble_eq_true rfl) (Nat.le_of_ble_eq_true rfl) (t_placeHeard hW2 hV ha2 (by omega)) ?_
            rintro _ _ ⟨rfl, rfl⟩
            exact T_ireturn dX12_made_156 rfl ⟨by unfold qMade; (repeat rw [Int.toNat_natCast]); rw [if_neg (fun q => q h13), if_neg c27, if_neg (fun q => q h90), if_neg (by decide), if_pos rfl], hA2⟩
          by_cases hs2 : x = 2
          · subst hs2
            refine T_tabIn (tgt := 157) (off := 50) dX12_made_107 (by decide) (by decide) (by decide) (by decide) ?_
            refine T_aload_n dX12_made_157 rfl ?_
            refine T_getR dX12_made_158 fX12_41 rfl k271 r271_20 ?_
            refine T_iload dX12_made_161 rfl ?_
            refine T_ialdv dX12_made_163 k282 l282 (by omega) (j := 24 * a + i) (by omega) (x := (((mlS (wvD d k.toNat) (gvD d l.toNat) a).getD i (0, 0)).1 : Int)) k2 ?_
            exact T_ireturn dX12_made_164 rfl ⟨by unfold qMade; (repeat rw [Int.toNat_natCast]); rw [if_neg (fun q => q h13), if_neg c27, if_neg (fun q => q h90), if_neg (by decide), if_neg (by decide), if_pos rfl], hA2⟩
          by_cases hs3 : x = 3
          · subst hs3
            refine T_tabIn (tgt := 165) (off := 58) dX12_made_107 (by decide) (by decide) (by decide) (by decide) ?_
            refine T_aload_n dX12_made_165 rfl ?_
            refine T_iload_n dX12_made_166 rfl ?_
            refine T_iload dX12_made_167 rfl ?_
            refine T_callV dX12_made_169 lX12_276 (As := [_, _]) (rest := _) rfl rfl k271 (by decide) (Nat.le_of_ble_eq_true rfl) (Nat.le_of_ble_eq_true rfl) (T_args2 (y := 24 * a + i) (by omega) (t_purity hW2 hV (by omega) ha2 hK hO hi)) ?_
            rintro _ _ ⟨rfl, rfl⟩
            exact T_ireturn dX12_made_172 rfl ⟨by unfold qMade; (repeat rw [Int.toNat_natCast]); rw [if_neg (fun q => q h13), if_neg c27, if_neg (fun q => q h90), if_neg (by decide), if_neg (by decide), if_neg (by decide), if_pos rfl, puS_congr hV ha2 hO2.2 h278], hA2⟩
          refine T_tabOut (tgt := 173) dX12_made_107 (by omega) (by decide) ?_
          refine T_bipush dX12_made_173 (by decide) ?_
          exact T_ireturn dX12_made_175 rfl ⟨by unfold qMade; (repeat rw [Int.toNat_natCast]); rw [if_neg (fun q => q h13), if_neg c27, if_neg (fun q => q h90), if_neg hs0, if_neg hs1, if_neg hs2, if_neg hs3], hA2⟩
        · refine T_bipush dX12_made_93 (by decide) ?_
          exact T_ireturn dX12_made_95 rfl ⟨by unfold qMade; (repeat rw [Int.toNat_natCast]); rw [if_neg (fun q => q h13), if_neg c27, if_pos (bI_0 c90)], hA2⟩
      · refine T_iload dX12_made_30 rfl ?_
        refine T_if_ne (tgt := 44) dX12_made_32 (by decide) (fun c32 => ?_) (fun c32 => ?_)
        · refine T_iload dX12_made_44 rfl ?_
          refine T_iconst dX12_made_46 (by decide) ?_
          refine T_icmp_ne (tgt := 59) dX12_made_47 (by decide) (fun c47 => ?_) (fun c47 => ?_)
          · refine T_iload dX12_made_59 rfl ?_
            refine T_iconst dX12_made_61 (by decide) ?_
            refine T_icmp_ne (tgt := 73) dX12_made_62 (by decide) (fun c62 => ?_) (fun c62 => ?_)
            · refine T_bipush dX12_made_73 (by decide) ?_
              exact T_ireturn dX12_made_75 rfl ⟨by unfold qMade; (repeat rw [Int.toNat_natCast]); rw [if_neg (fun q => q h13), if_pos c27, if_neg c32, if_neg c47, if_neg c62], hA2⟩
            · refine T_aload_n dX12_made_65 rfl ?_
              refine T_iload_n dX12_made_66 rfl ?_
              refine T_callV dX12_made_67 lX12_273 (As := [_]) (rest := _) rfl rfl k271 (by decide) (Nat.le_of_ble_eq_true rfl) (Nat.le_of_ble_eq_true rfl) (t_echoed hW2 hV (by omega) (fun j hj => by rw [h280 j hj]; exact bI_01 _) ha2 hK hO) ?_
              rintro _ _ ⟨rfl, rfl⟩
              refine T_goto (tgt := 75) dX12_made_70 (by decide) ?_
              exact T_ireturn dX12_made_75 rfl ⟨by unfold qMade; (repeat rw [Int.toNat_natCast]); rw [if_neg (fun q => q h13), if_pos c27, if_neg c32, if_neg c47, if_pos c62, ehS_congr hV ha2 hO h280], hA2⟩
          · refine T_aload_n dX12_made_50 rfl ?_
            refine T_getR dX12_made_51 fX12_50 rfl k271 r271_23 ?_
            refine T_iload_n dX12_made_54 rfl ?_
            refine T_ialdv dX12_made_55 k285 l285 (by omega) (j := a) rfl (x := (dnS (wvD d k.toNat) (gvD d l.toNat) a : Int)) hK.2.1 ?_
            refine T_goto (tgt := 75) dX12_made_56 (by decide) ?_
            exact T_ireturn dX12_made_75 rfl ⟨by unfold qMade; (repeat rw [Int.toNat_natCast]); rw [if_neg (fun q => q h13), if_pos c27, if_neg c32, if_pos c47], hA2⟩
        · refine T_aload_n dX12_made_35 rfl ?_
          refine T_getR dX12_made_36 fX12_47 rfl k271 r271_22 ?_
          refine T_iload_n dX12_made_39 rfl ?_
          refine T_ialdv dX12_made_40 k284 l284 (by omega) (j := a) rfl (x := ((mlS (wvD d k.toNat) (gvD d l.toNat) a).length : Int)) hK.1 ?_
          refine T_goto (tgt := 75) dX12_made_41 (by decide) ?_
          exact T_ireturn dX12_made_75 rfl ⟨by unfold qMade; (repeat rw [Int.toNat_natCast]); rw [if_neg (fun q => q h13), if_pos c27, if_pos c32], hA2⟩
    · refine T_bipush dX12_made_16 (by decide) ?_
      exact T_ireturn dX12_made_18 rfl ⟨by unfold qMade; (repeat rw [Int.toNat_natCast]); rw [if_pos (bI_0 c13)], hA.mk1⟩

end M15
