/-! the reference: tale -/
section M28
variable {G : sG} {d : sD} {w g v x y : Nat → Int} {src : List Int}
/-- who tells the same, as bits -/
def tlB (V : Nat → List Int) (i : Nat) : Nat → Int
  | 0 => 0
  | j + 1 => i_or (tlB V i j) (if alP (V j) (V i) then i_shl 1 j else 0)
abbrev gtD (V : List Int) : Nat → Int := fun j => V.getD j 0
def qTale (V : Nat → List Int) (src : List Int) (n i : Nat) (x : Int) : Int := if x = 0 then edS (gtD (V i)) (gtD src) (V i).length src.length else tlB V i n
abbrev tlC : List Nat := [275, 276, 277, 278, 279, 280, 287, 288, 289, 290, 291, 292]
theorem t_X12_tale {k l t i x : Int} (hM : MS d) : tB G mX12_tale 0 [vR 271, vI k, vI l, vI t, vI i, vI x, vU 0, vU 0] [] d (qQ d (if Vpv d k l t i then qTale (VlS (wvD d k.toNat) (gvD d l.toNat) (vvD d t.toNat)) (srS (wvD d k.toNat) (gvD d l.toNat)) (vvD d t.toNat 0).toNat i.toNat x else -1) tlC atF) := by
  refine T_aload_n dX12_tale_0 rfl ?_
  refine T_iload_n dX12_tale_1 rfl ?_
  refine T_iload_n dX12_tale_2 rfl ?_
  refine T_iload_n dX12_tale_3 rfl ?_
  refine T_iload dX12_tale_4 rfl ?_
  refine T_callV dX12_tale_6 lX12_352 (As := [_, _, _, _]) (rest := _) rfl rfl k271 (by decide) (Nat.le_of_ble_eq_true rfl) (Nat.le_of_ble_eq_true rfl) (t_areTold hM) ?_
  rintro _ d1 (⟨hv, rfl, hA⟩ | ⟨hv, rfl, hS, hH, hK, hA⟩)
  ·
    refine T_if_ne (tgt := 14) dX12_tale_9 (by decide) (fun c9 => absurd rfl c9) (fun c9 => ?_)
    refine T_iconst dX12_tale_12 (by decide) ?_
    exact T_ireturn dX12_tale_13 rfl ⟨by rw [if_neg hv], hA.mono (by decide) (by decide)⟩
  · rw [if_pos hv]
    have hVV := hM.2.2.2.2 t.toNat (by omega)
    have h0 := hVV.1
    obtain ⟨i, rfl⟩ : ∃ a2 : Nat, i = (a2 : Int) := ⟨i.toNat, by omega⟩
    have hA : Ag tlC atF d d1 := hA.mono (by decide) (by decide)
    have hl : ∀ j, (VlS (wvD d k.toNat) (gvD d l.toNat) (vvD d t.toNat) j).length ≤ 60 := fun j => Vl_len _ _
    have hsl : (srS (wvD d k.toNat) (gvD d l.toNat)).length ≤ 24 := by rw [srS_len]; exact rowS_24 (hM.2.1 k.toNat (by omega)) (hM.2.2.1 l.toNat (by omega))
    rw [Int.toNat_natCast]
    have hv2 := hv.2
    generalize VlS (wvD d k.toNat) (gvD d l.toNat) (vvD d t.toNat) = V at *
    generalize srS (wvD d k.toNat) (gvD d l.toNat) = src at *
    generalize vvD d t.toNat = v at *
    obtain ⟨n, hn⟩ : ∃ n : Nat, v 0 = (n : Int) := ⟨(v 0).toNat, by omega⟩
    rw [hn] at h0 hv2 hK ⊢
    rw [Int.toNat_natCast] at hK ⊢
    have hk := hK i (by omega)
    have hli := hl i
    obtain ⟨p, q1, q2, q3⟩ := hH
    have q30 : d1 272 p = (n : Int) := (q3 0 (by decide)).trans hn
    refine T_if_ne (tgt := 14) dX12_tale_9 (by decide) (fun c9 => ?_) (fun c9 => absurd c9 (by decide))
    refine T_iload dX12_tale_14 rfl ?_
    refine T_if_eq (tgt := 72) dX12_tale_16 (by decide) (fun c16 => ?_) (fun c16 => ?_)
    · refine T_iconst dX12_tale_72 (by decide) ?_
      refine T_ist dX12_tale_73 (by decide) rfl ?_
      have h75 : ∀ j : Nat, j ≤ (V i).length → tB G mX12_tale 75 [vR 271, vI k, vI l, vI t, vI i, vI x, vI j, vU 0] [] (ups d1 287 0 j (gtD (V i))) (qQ d (qTale V src n i x) tlC atF) := by
        refine T_loop (α := Nat) 75 (fun j => [vR 271, vI k, vI l, vI t, vI i, vI x, vI j, vU 0]) (fun j => ups d1 287 0 j (gtD (V i))) (fun j => j ≤ (V i).length) (fun j => (V i).length - j) ?_
        intro j hj ih
        try dsimp only at ih ⊢
        refine T_iload dX12_tale_75 rfl ?_
        refine T_aload_n dX12_tale_77 rfl ?_
        refine T_getR dX12_tale_78 fX12_68 rfl k271 r271_31 ?_
        refine T_iload dX12_tale_81 rfl ?_
        refine T_ialdv dX12_tale_83 k291 l291 (by omega) (j := i) rfl (x := ((V i).length : Int)) (by rw [ups_nea (by decide)]; exact hk.1) ?_
        refine T_icmp_ge (tgt := 113) dX12_tale_84 (by decide) (fun c84 => ?_) (fun c84 => ?_)
        · refine T_iconst dX12_tale_113 (by decide) ?_
          refine T_ist dX12_tale_114 (by decide) rfl ?_
          obtain rfl : j = (V i).length := by omega
          have h116 : ∀ j : Nat, j ≤ src.length → tB G mX12_tale 116 [vR 271, vI k, vI l, vI t, vI i, vI x, vI j, vU 0] [] (ups (ups d1 287 0 (V i).length (gtD (V i))) 288 0 j (gtD src)) (qQ d (qTale V src n i x) tlC atF) := by
            refine T_loop (α := Nat) 116 (fun j => [vR 271, vI k, vI l, vI t, vI i, vI x, vI j, vU 0]) (fun j => ups (ups d1 287 0 (V i).length (gtD (V i))) 288 0 j (gtD src)) (fun j => j ≤ src.length) (fun j => src.length - j) ?_
            intro j hj ih
            try dsimp only at ih ⊢
            have hA2 : Ag tlC atF d (ups (ups d1 287 0 (V i).length (gtD (V i))) 288 0 j (gtD src)) := Ag_ups (Ag_ups hA (by decide)) (by decide)
            refine T_iload dX12_tale_116 rfl ?_
            refine T_aload_n dX12_tale_118 rfl ?_
            refine T_getIv dX12_tale_119 fX12_243 rfl k271 (x := (src.length : Int)) (by rw [ups_nea (by decide), ups_nea (by decide)]; exact hS.1) ?_
            refine T_icmp_ge (tgt := 145) dX12_tale_122 (by decide) (fun c122 => ?_) (fun c122 => ?_)
            · refine T_aload_n dX12_tale_145 rfl ?_
              refine T_aload_n dX12_tale_146 rfl ?_
              refine T_getR dX12_tale_147 fX12_68 rfl k271 r271_31 ?_
              refine T_iload dX12_tale_150 rfl ?_
              refine T_ialdv dX12_tale_152 k291 l291 (by omega) (j := i) rfl (x := ((V i).length : Int)) (by rw [ups_nea (by decide), ups_nea (by decide)]; exact hk.1) ?_
              refine T_aload_n dX12_tale_153 rfl ?_
              refine T_getIv dX12_tale_154 fX12_243 rfl k271 (x := (src.length : Int)) (by rw [ups_nea (by decide), ups_nea (by decide)]; exact hS.1) ?_
              refine T_callV dX12_tale_157 lX12_323 (As := [_, _]) (rest := _) rfl rfl k271 (by decide) (Nat.le_of_ble_eq_true rfl) (Nat.le_of_ble_eq_true rfl) (t_apart (by omega) (by omega)) ?_
              rintro _ d3 ⟨rfl, hA3⟩
              exact T_ireturn dX12_tale_160 rfl ⟨by unfold qTale; rw [if_pos c16, edS_congr (x' := gtD (V i)) (y' := gtD src) (m := (V i).length) (n := src.length) (fun j hj => by rw [ups_nea (by decide), ups_in (by omega)]) (fun j hj => by rw [ups_in (by omega)]) _ (Nat.le_refl _) _ (Nat.le_refl _)], hA2.trans hA3 (by decide) (by decide) (by decide) (by decide)⟩
            · refine T_aload_n dX12_tale_125 rfl ?_
              refine T_getR dX12_tale_126 fX12_59 rfl k271 r271_27 ?_
              refine T_iload dX12_tale_129 rfl ?_
              refine T_aload_n dX12_tale_131 rfl ?_
              refine T_getR dX12_tale_132 fX12_32 rfl k271 r271_16 ?_
              refine T_iload dX12_tale_135 rfl ?_
              refine T_ialdv dX12_tale_137 k279 l279 (by omega) (j := j) rfl (x := src.getD j 0) (by rw [ups_nea (by decide), ups_nea (by decide)]; exact hS.2 j (by omega)) ?_
              refine T_iast dX12_tale_138 k288 l288 (by omega) (j := j) rfl ?_
              refine T_inc dX12_tale_139 rfl (by decide) rfl (by omega) ?_
              refine T_goto (tgt := 116) dX12_tale_142 (by decide) ?_
              exact T_eq (ups_push (Nat.zero_le _) rfl) (ih (j + 1) (by omega) (by omega))
          exact T_eq ups_nil.symm (h116 0 (Nat.zero_le _))
        · refine T_aload_n dX12_tale_87 rfl ?_
          refine T_getR dX12_tale_88 fX12_56 rfl k271 r271_26 ?_
          refine T_iload dX12_tale_91 rfl ?_
          refine T_aload_n dX12_tale_93 rfl ?_
          refine T_getR dX12_tale_94 fX12_65 rfl k271 r271_30 ?_
          refine T_bipush dX12_tale_97 (by decide) ?_
          refine T_iload dX12_tale_99 rfl ?_
          refine T_mul dX12_tale_101 (by omega) ?_
          refine T_iload dX12_tale_102 rfl ?_
          refine T_add dX12_tale_104 (by omega) ?_
          refine T_ialdv dX12_tale_105 k290 l290 (by omega) (j := 60 * i + j) (by omega) (x := (V i).getD j 0) (by rw [ups_nea (by decide)]; exact hk.2 j (by omega)) ?_
          refine T_iast dX12_tale_106 k287 l287 (by omega) (j := j) rfl ?_
          refine T_inc dX12_tale_107 rfl (by decide) rfl (by omega) ?_
          refine T_goto (tgt := 75) dX12_tale_110 (by decide) ?_
          exact T_eq (ups_push (Nat.zero_le _) rfl) (ih (j + 1) (by omega) (by omega))
      exact T_eq ups_nil.symm (h75 0 (Nat.zero_le _))
    · refine T_iconst dX12_tale_19 (by decide) ?_
      refine T_ist dX12_tale_20 (by decide) rfl ?_
      refine T_iconst dX12_tale_22 (by decide) ?_
      refine T_ist dX12_tale_23 (by decide) rfl ?_
      have h25 : ∀ j : Nat, j ≤ n → tB G mX12_tale 25 [vR 271, vI k, vI l, vI t, vI i, vI x, vI (tlB V i j), vI j] [] d1 (qQ d (qTale V src n i x) tlC atF) := by
        refine T_loop (α := Nat) 25 (fun j => [vR 271, vI k, vI l, vI t, vI i, vI x, vI (tlB V i j), vI j]) (fun _ => d1) (fun j => j ≤ n) (fun j => n - j) ?_
        intro j hj ih
        try dsimp only at ih ⊢
        have h60 : ∀ z : Int, z = (if alP (V j) (V i) then i_shl 1 j else 0) → j < n → tB G mX12_tale 60 [vR 271, vI k, vI l, vI t, vI i, vI x, vI (tlB V i j), vI j] [vI z, vI (tlB V i j)] d1 (qQ d (qTale V src n i x) tlC atF) := by
          rintro _ rfl hlt
          refine T_ior dX12_tale_60 ?_
          refine T_ist dX12_tale_61 (by decide) rfl ?_
          refine T_inc dX12_tale_63 rfl (by decide) rfl (by omega) ?_
          refine T_goto (tgt := 25) dX12_tale_66 (by decide) ?_
          exact ih (j + 1) (by omega) (by omega)
        refine T_iload dX12_tale_25 rfl ?_
        refine T_aload_n dX12_tale_27 rfl ?_
        refine T_getR dX12_tale_28 fX12_7 rfl k271 r271_0 ?_
        refine T_aload_n dX12_tale_31 rfl ?_
        refine T_getIv dX12_tale_32 fX12_331 rfl k271 (x := (p : Int)) q1 ?_
        refine T_ialdv dX12_tale_35 k272 l272 (by omega) (j := p) (by omega) (x := (n : Int)) q30 ?_
        refine T_icmp_ge (tgt := 69) dX12_tale_36 (by decide) (fun c36 => ?_) (fun c36 => ?_)
        · refine T_iload dX12_tale_69 rfl ?_
          exact T_ireturn dX12_tale_71 rfl ⟨by unfold qTale; rw [if_neg c16, show j = n by omega], hA⟩
        · refine T_iload dX12_tale_39 rfl ?_
          refine T_aload_n dX12_tale_41 rfl ?_
          refine T_iload dX12_tale_42 rfl ?_
          refine T_iload dX12_tale_44 rfl ?_
          refine T_callV dX12_tale_46 lX12_355 (As := [_, _]) (rest := _) rfl rfl k271 (by decide) (Nat.le_of_ble_eq_true rfl) (Nat.le_of_ble_eq_true rfl) (t_areAlike (by omega) (by omega) (hK j (by omega)) hk (hl j) hli) ?_
          rintro _ _ ⟨rfl, rfl⟩
          refine T_if_eq (tgt := 59) dX12_tale_49 (by decide) (fun c49 => ?_) (fun c49 => ?_)
          · refine T_iconst dX12_tale_59 (by decide) ?_
            exact h60 _ (by rw [if_neg (bI_0 c49)]) (by omega)
          · refine T_iconst dX12_tale_52 (by decide) ?_
            refine T_iload dX12_tale_53 rfl ?_
            refine T_ishl dX12_tale_55 ?_
            refine T_goto (tgt := 60) dX12_tale_56 (by decide) ?_
            exact h60 _ (by rw [if_pos (bI_1 c49)]) (by omega)
      exact h25 0 (Nat.zero_le _)

end M28
