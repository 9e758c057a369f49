/-! the reference: row, heard -/
section M13
variable {G : sG} {d : sD} {w g : Nat → Int}
abbrev pyC : List Nat := [275, 276, 277, 278, 279, 280]
abbrev pyF : List Nat := [10, 11, 18]
abbrev Vp (d : sD) (k l : Int) : Prop := (0 ≤ k ∧ k ≤ d 272 0 - 1) ∧ 0 ≤ l ∧ l ≤ d 272 1 - 1
theorem Ag.py {d d' : sD} (h : Ag [] [10, 11] d d') : Ag pyC pyF d d' := h.mono (by decide) (by decide)
def qRow (w g : Nat → Int) (k x : Int) : Int := if k = -1 then (if x = 0 then ((rowS w g).length : Int) else -2) else if ¬ (0 ≤ k ∧ k ≤ ((rowS w g).length : Int) - 1) then -2 else if x = 0 then rB w g k.toNat else if x = 1 then ((rowS w g).getD k.toNat (0, 0)).2 else if x = 2 then sndB w (rB w g) k.toNat else if x = 3 then bI (ecP w (sndA w (rB w g)) k.toNat) else -2
theorem t_X12_row {k l i x : Int} (hM : MS d) : tB G mX12_row 0 [vR 271, vI k, vI l, vI i, vI x] [] d (qQ d (if Vp d k l then qRow (wvD d k.toNat) (gvD d l.toNat) i x else -2) pyC pyF) := by
  refine T_aload_n dX12_row_0 rfl ?_
  refine T_iload_n dX12_row_1 rfl ?_
  refine T_iload_n dX12_row_2 rfl ?_
  refine T_callV dX12_row_3 lX12_255 (As := [_, _]) (rest := _) rfl rfl k271 (by decide) (Nat.le_of_ble_eq_true rfl) (Nat.le_of_ble_eq_true rfl) (t_arePlayed hM) ?_
  rintro _ d1 (⟨hv, rfl, hA⟩ | ⟨hv, rfl, ⟨hW, hL, hS⟩, hA⟩)
  ·
    refine T_if_ne (tgt := 12) dX12_row_6 (by decide) (fun c6 => absurd rfl c6) (fun c6 => ?_)
    refine T_bipush dX12_row_9 (by decide) ?_
    exact T_ireturn dX12_row_11 rfl ⟨by rw [if_neg hv], hA.py⟩
  · rw [if_pos hv]
    have hV := hM.2.1 k.toNat (by omega)
    have hGV := hM.2.2.1 l.toNat (by omega)
    have g0 := (hGV 0 (by decide)).1
    have g1 := (hGV 1 (by decide)).1
    have hlen := rowS_len hV hGV
    refine T_if_ne (tgt := 12) dX12_row_6 (by decide) (fun c6 => ?_) (fun c6 => absurd c6 (by decide))
    refine T_iload_n dX12_row_12 rfl ?_
    refine T_iconst dX12_row_13 (by decide) ?_
    refine T_icmp_ne (tgt := 32) dX12_row_14 (by decide) (fun c14 => ?_) (fun c14 => ?_)
    · refine T_iload_n dX12_row_32 rfl ?_
      refine T_iconst dX12_row_33 (by decide) ?_
      refine T_aload_n dX12_row_34 rfl ?_
      refine T_getIv dX12_row_35 fX12_243 rfl k271 (x := ((rowS (wvD d k.toNat) (gvD d l.toNat)).length : Int)) hL.1 ?_
      refine T_iconst dX12_row_38 (by decide) ?_
      refine T_sub dX12_row_39 (by omega) ?_
      refine T_callS dX12_row_40 lX12_145 (As := [_, _, _]) (rest := _) rfl rfl (by decide) (Nat.le_of_ble_eq_true rfl) (Nat.le_of_ble_eq_true rfl) t_X12_isIn ?_
      rintro _ _ ⟨rfl, rfl⟩
      refine T_if_ne (tgt := 49) dX12_row_43 (by decide) (fun c43 => ?_) (fun c43 => ?_)
      · have h43 := bI_1 c43
        obtain ⟨i, rfl⟩ : ∃ i2 : Nat, i = (i2 : Int) := ⟨i.toNat, by omega⟩
        have hij : i < (rowS (wvD d k.toNat) (gvD d l.toNat)).length := by omega
        refine T_iload dX12_row_49 rfl ?_
        by_cases hs0 : x = 0
        · subst hs0
          refine T_tabIn (tgt := 80) (off := 29) dX12_row_51 (by decide) (by decide) (by decide) (by decide) ?_
          refine T_aload_n dX12_row_80 rfl ?_
          refine T_getR dX12_row_81 fX12_26 rfl k271 r271_14 ?_
          refine T_iload_n dX12_row_84 rfl ?_
          refine T_ialdv dX12_row_85 k277 l277 (by omega) (j := i) rfl (x := rB (wvD d k.toNat) (gvD d l.toNat) i) (hL.2 i hij).1 ?_
          exact T_ireturn dX12_row_86 rfl ⟨by unfold qRow; (repeat rw [Int.toNat_natCast]); rw [if_neg c14, if_neg (fun q => q h43), if_pos rfl], hA⟩
        by_cases hs1 : x = 1
        · subst hs1
          refine T_tabIn (tgt := 87) (off := 36) dX12_row_51 (by decide) (by decide) (by decide) (by decide) ?_
          refine T_aload_n dX12_row_87 rfl ?_
          refine T_getR dX12_row_88 fX12_29 rfl k271 r271_15 ?_
          refine T_iload_n dX12_row_91 rfl ?_
          refine T_ialdv dX12_row_92 k278 l278 (by omega) (j := i) rfl (x := ((rowS (wvD d k.toNat) (gvD d l.toNat)).getD i (0, 0)).2) (hL.2 i hij).2 ?_
          exact T_ireturn dX12_row_93 rfl ⟨by unfold qRow; (repeat rw [Int.toNat_natCast]); rw [if_neg c14, if_neg (fun q => q h43), if_neg (by decide), if_pos rfl], hA⟩
        by_cases hs2 : x = 2
        · subst hs2
          refine T_tabIn (tgt := 94) (off := 43) dX12_row_51 (by decide) (by decide) (by decide) (by decide) ?_
          refine T_aload_n dX12_row_94 rfl ?_
          refine T_getR dX12_row_95 fX12_32 rfl k271 r271_16 ?_
          refine T_iload_n dX12_row_98 rfl ?_
          refine T_ialdv dX12_row_99 k279 l279 (by omega) (j := i) rfl (x := sndB (wvD d k.toNat) (rB (wvD d k.toNat) (gvD d l.toNat)) i) (hS i hij).1 ?_
          exact T_ireturn dX12_row_100 rfl ⟨by unfold qRow; (repeat rw [Int.toNat_natCast]); rw [if_neg c14, if_neg (fun q => q h43), if_neg (by decide), if_neg (by decide), if_pos rfl], hA⟩
        by_cases hs3 : x = 3
        · subst hs3
          refine T_tabIn (tgt := 101) (off := 50) dX12_row_51 (by decide) (by decide) (by decide) (by decide) ?_
          refine T_aload_n dX12_row_101 rfl ?_
          refine T_getR dX12_row_102 fX12_35 rfl k271 r271_17 ?_
          refine T_iload_n dX12_row_105 rfl ?_
          refine T_zaldv dX12_row_106 k280 l280 (by omega) (j := i) rfl (x := bI (ecP (wvD d k.toNat) (sndA (wvD d k.toNat) (rB (wvD d k.toNat) (gvD d l.toNat))) i)) (hS i hij).2 ?_
          refine T_if_eq (tgt := 114) dX12_row_107 (by decide) (fun c107 => ?_) (fun c107 => ?_)
          · refine T_iconst dX12_row_114 (by decide) ?_
            exact T_ireturn dX12_row_115 rfl ⟨by unfold qRow; (repeat rw [Int.toNat_natCast]); rw [if_neg c14, if_neg (fun q => q h43), if_neg (by decide), if_neg (by decide), if_neg (by decide), if_pos rfl, c107], hA⟩
          · refine T_iconst dX12_row_110 (by decide) ?_
            refine T_goto (tgt := 115) dX12_row_111 (by decide) ?_
            exact T_ireturn dX12_row_115 rfl ⟨by unfold qRow; (repeat rw [Int.toNat_natCast]); rw [if_neg c14, if_neg (fun q => q h43), if_neg (by decide), if_neg (by decide), if_neg (by decide), if_pos rfl, bI_t (bI_1 c107)], hA⟩
        refine T_tabOut (tgt := 116) dX12_row_51 (by omega) (by decide) ?_
        refine T_bipush dX12_row_116 (by decide) ?_
        exact T_ireturn dX12_row_118 rfl ⟨by unfold qRow; (repeat rw [Int.toNat_natCast]); rw [if_neg c14, if_neg (fun q => q h43), if_neg hs0, if_neg hs1, if_neg hs2, if_neg hs3], hA⟩
      · refine T_bipush dX12_row_46 (by decide) ?_
        exact T_ireturn dX12_row_48 rfl ⟨by unfold qRow; (repeat rw [Int.toNat_natCast]); rw [if_neg c14, if_pos (bI_0 c43)], hA⟩
    · refine T_iload dX12_row_17 rfl ?_
      refine T_if_ne (tgt := 29) dX12_row_19 (by decide) (fun c19 => ?_) (fun c19 => ?_)
      · refine T_bipush dX12_row_29 (by decide) ?_
        exact T_ireturn dX12_row_31 rfl ⟨by unfold qRow; (repeat rw [Int.toNat_natCast]); rw [if_pos c14, if_neg c19], hA⟩
      · refine T_aload_n dX12_row_22 rfl ?_
        refine T_getIv dX12_row_23 fX12_243 rfl k271 (x := ((rowS (wvD d k.toNat) (gvD d l.toNat)).length : Int)) hL.1 ?_
        refine T_goto (tgt := 31) dX12_row_26 (by decide) ?_
        exact T_ireturn dX12_row_31 rfl ⟨by unfold qRow; (repeat rw [Int.toNat_natCast]); rw [if_pos c14, if_pos c19], hA⟩

def qHeard (w g : Nat → Int) (a k : Int) : Int := if ¬ (0 ≤ a ∧ a ≤ 1) then -1 else if k = -1 then hnS w (rowS w g).length a.toNat else if 0 ≤ k ∧ k ≤ hnS w (rowS w g).length a.toNat - 1 then sndB w (rB w g) (phS w a.toNat k).toNat else -1
theorem t_X12_heard {k l a i : Int} (hM : MS d) : tB G mX12_heard 0 [vR 271, vI k, vI l, vI a, vI i] [] d (qQ d (if Vp d k l then qHeard (wvD d k.toNat) (gvD d l.toNat) a i else -1) pyC pyF) := by
  refine T_aload_n dX12_heard_0 rfl ?_
  refine T_iload_n dX12_heard_1 rfl ?_
  refine T_iload_n dX12_heard_2 rfl ?_
  refine T_callV dX12_heard_3 lX12_255 (As := [_, _]) (rest := _) rfl rfl k271 (by decide) (Nat.le_of_ble_eq_true rfl) (Nat.le_of_ble_eq_true rfl) (t_arePlayed hM) ?_
  rintro _ d1 (⟨hv, rfl, hA⟩ | ⟨hv, rfl, ⟨hW, hL, hS⟩, hA⟩)
  ·
    refine T_if_eq (tgt := 16) dX12_heard_6 (by decide) (fun c6 => ?_) (fun c6 => absurd rfl c6)
    refine T_iconst dX12_heard_16 (by decide) ?_
    exact T_ireturn dX12_heard_17 rfl ⟨by rw [if_neg hv], hA.py⟩
  · rw [if_pos hv]
    have hV := hM.2.1 k.toNat (by omega)
    have hGV := hM.2.2.1 l.toNat (by omega)
    have g0 := (hGV 0 (by decide)).1
    have g1 := (hGV 1 (by decide)).1
    have hlen := rowS_len hV hGV
    refine T_if_eq (tgt := 16) dX12_heard_6 (by decide) (fun c6 => absurd c6 (by decide)) (fun c6 => ?_)
    refine T_iload_n dX12_heard_9 rfl ?_
    refine T_callS dX12_heard_10 lX12_218 (As := [_]) (rest := _) rfl rfl (by decide) (Nat.le_of_ble_eq_true rfl) (Nat.le_of_ble_eq_true rfl) t_X12_isArmy ?_
    rintro _ _ ⟨rfl, rfl⟩
    refine T_if_ne (tgt := 18) dX12_heard_13 (by decide) (fun c13 => ?_) (fun c13 => ?_)
    · have h13 := bI_1 c13
      obtain ⟨a, rfl⟩ : ∃ a2 : Nat, a = (a2 : Int) := ⟨a.toNat, by omega⟩
      have hrg := hnS_rg (n := (rowS (wvD d k.toNat) (gvD d l.toNat)).length) hV (a := a) (by omega)
      refine T_iload dX12_heard_18 rfl ?_
      refine T_iconst dX12_heard_20 (by decide) ?_
      refine T_icmp_ne (tgt := 32) dX12_heard_21 (by decide) (fun c21 => ?_) (fun c21 => ?_)
      · refine T_iload dX12_heard_32 rfl ?_
        refine T_iconst dX12_heard_34 (by decide) ?_
        refine T_aload_n dX12_heard_35 rfl ?_
        refine T_iload_n dX12_heard_36 rfl ?_
        refine T_callV dX12_heard_37 lX12_261 (As := [_]) (rest := _) rfl rfl k271 (by decide) (Nat.le_of_ble_eq_true rfl) (Nat.le_of_ble_eq_true rfl) (t_hears hW hV hL.1 (by omega) (by omega)) ?_
        rintro _ _ ⟨rfl, rfl⟩
        refine T_iconst dX12_heard_40 (by decide) ?_
        refine T_sub dX12_heard_41 (by omega) ?_
        refine T_callS dX12_heard_42 lX12_145 (As := [_, _, _]) (rest := _) rfl rfl (by decide) (Nat.le_of_ble_eq_true rfl) (Nat.le_of_ble_eq_true rfl) t_X12_isIn ?_
        rintro _ _ ⟨rfl, rfl⟩
        refine T_if_eq (tgt := 58) dX12_heard_45 (by decide) (fun c45 => ?_) (fun c45 => ?_)
        · refine T_iconst dX12_heard_58 (by decide) ?_
          exact T_ireturn dX12_heard_59 rfl ⟨by unfold qHeard; (repeat rw [Int.toNat_natCast]); rw [if_neg (fun q => q h13), if_neg c21, if_neg (bI_0 c45)], hA⟩
        · have h45 := bI_1 c45
          obtain ⟨i, rfl⟩ : ∃ i2 : Nat, i = (i2 : Int) := ⟨i.toNat, by omega⟩
          have hph := ph_lt (n := (rowS (wvD d k.toNat) (gvD d l.toNat)).length) hV (a := a) (by omega) (j := i) (by omega) (by omega)
          refine T_aload_n dX12_heard_48 rfl ?_
          refine T_iload_n dX12_heard_49 rfl ?_
          refine T_iload dX12_heard_50 rfl ?_
          refine T_callV dX12_heard_52 lX12_264 (As := [_, _]) (rest := _) rfl rfl k271 (by decide) (Nat.le_of_ble_eq_true rfl) (Nat.le_of_ble_eq_true rfl) (t_heardAt (n := (rowS (wvD d k.toNat) (gvD d l.toNat)).length) hW hV (by omega) (by omega) (by omega)) ?_
          rintro _ _ ⟨rfl, rfl⟩
          refine T_goto (tgt := 59) dX12_heard_55 (by decide) ?_
          exact T_ireturn dX12_heard_59 rfl ⟨by unfold qHeard; (repeat rw [Int.toNat_natCast]); rw [if_neg (fun q => q h13), if_neg c21, if_pos h45, (hS _ (by omega)).1], hA⟩
      · refine T_aload_n dX12_heard_24 rfl ?_
        refine T_iload_n dX12_heard_25 rfl ?_
        refine T_callV dX12_heard_26 lX12_261 (As := [_]) (rest := _) rfl rfl k271 (by decide) (Nat.le_of_ble_eq_true rfl) (Nat.le_of_ble_eq_true rfl) (t_hears hW hV hL.1 (by omega) (by omega)) ?_
        rintro _ _ ⟨rfl, rfl⟩
        refine T_goto (tgt := 59) dX12_heard_29 (by decide) ?_
        exact T_ireturn dX12_heard_59 rfl ⟨by unfold qHeard; (repeat rw [Int.toNat_natCast]); rw [if_neg (fun q => q h13), if_pos c21], hA⟩
    · refine T_iconst dX12_heard_16 (by decide) ?_
      exact T_ireturn dX12_heard_17 rfl ⟨by unfold qHeard; (repeat rw [Int.toNat_natCast]); rw [if_pos (bI_0 c13)], hA⟩

end M13
