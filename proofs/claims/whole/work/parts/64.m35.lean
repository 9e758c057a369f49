/-! the reference: fix -/
section M35
variable {G : sG} {d : sD} {w g r : Nat → Int} {n a i j : Nat} {m : Int}
abbrev fx1 (w r : Nat → Int) (n a : Nat) (m : Int) (i : Nat) : Prop := fxS w r n a m i i = 1
abbrev fxT (w r : Nat → Int) (n a : Nat) (m : Int) (i j : Nat) : Prop := fxS w r n a m j i = 1
def fx2 (w r : Nat → Int) (n a : Nat) (m : Int) : Nat → Nat → Int × Int
  | 0, _ => (-1, -1)
  | f + 1, i => if fstN (fxT w r n a m i) i 0 = -1 then fx2 w r n a m f (i + 1) else (fstN (fxT w r n a m i) i 0, (i : Int))
def qFx (w r : Nat → Int) (n a : Nat) (m x : Int) : Int := if ¬ fstN (fx1 w r n a m) n 0 = -1 then (if x = 0 then 1 else i_shl 1 (fstN (fx1 w r n a m) n 0)) else if (fx2 w r n a m (n - 1) 1).1 = -1 then -1 else if x = 0 then 2 else i_or (i_shl 1 (fx2 w r n a m (n - 1) 1).1) (i_shl 1 (fx2 w r n a m (n - 1) 1).2)
def qFix (w g : Nat → Int) (a m x : Int) : Int := if ¬ (0 ≤ a ∧ a ≤ 1) then -1 else if ¬ (0 ≤ m ∧ m ≤ 4) then -1 else if ¬ mdS w g a.toNat m = 0 then 0 else qFx w (rB w g) (rowS w g).length a.toNat m x
theorem fxS_01 : fxS w r n a m i j = 0 ∨ fxS w r n a m i j = 1 := orN_01 (fun _ _ => bI_01 _)
theorem t_X12_fix {k l a m x : Int} (hM : MS d) : tB G mX12_fix 0 [vR 271, vI k, vI l, vI a, vI m, vI x, vU 0, vU 0] [] d (qQ d (if Vp d k l then qFix (wvD d k.toNat) (gvD d l.toNat) a m x else -1) mkC pyF) := by
  refine T_aload_n dX12_fix_0 rfl ?_
  refine T_iload_n dX12_fix_1 rfl ?_
  refine T_iload_n dX12_fix_2 rfl ?_
  refine T_callV dX12_fix_3 lX12_255 (As := [_, _]) (rest := _) rfl rfl k271 (by decide) (Nat.le_of_ble_eq_true rfl) (Nat.le_of_ble_eq_true rfl) (t_arePlayed hM) ?_
  rintro _ d1 (⟨hv, rfl, hA⟩ | ⟨hv, rfl, ⟨hW, hL, hS⟩, hA⟩)
  ·
    refine T_if_eq (tgt := 26) dX12_fix_6 (by decide) (fun c6 => ?_) (fun c6 => absurd rfl c6)
    refine T_iconst dX12_fix_26 (by decide) ?_
    exact T_ireturn dX12_fix_27 rfl ⟨by rw [if_neg hv], hA.mono (by decide) (by decide)⟩
  · rw [if_pos hv]
    have hV := hM.2.1 k.toNat (by omega)
    have hGV := hM.2.2.1 l.toNat (by omega)
    have hn24 := rowS_24 hV hGV
    generalize wvD d k.toNat = w at *
    generalize gvD d l.toNat = g at *
    have hn := hL.1
    have hA : Ag mkC pyF d d1 := hA.mono (by decide) (by decide)
    have hr : ∀ j, j < (rowS w g).length → d1 277 j = rB w g j := fun j hj => (hL.2 j hj).1
    have hr3 : ∀ j, j < (rowS w g).length → 0 ≤ rB w g j ∧ rB w g j ≤ 3 := fun j _ => rB_rg hGV j
    refine T_if_eq (tgt := 26) dX12_fix_6 (by decide) (fun c6 => absurd c6 (by decide)) (fun c6 => ?_)
    refine T_iload_n dX12_fix_9 rfl ?_
    refine T_callS dX12_fix_10 lX12_218 (As := [_]) (rest := _) rfl rfl (by decide) (Nat.le_of_ble_eq_true rfl) (Nat.le_of_ble_eq_true rfl) t_X12_isArmy ?_
    rintro _ _ ⟨rfl, rfl⟩
    refine T_if_eq (tgt := 26) dX12_fix_13 (by decide) (fun c13 => ?_) (fun c13 => ?_)
    · refine T_iconst dX12_fix_26 (by decide) ?_
      exact T_ireturn dX12_fix_27 rfl ⟨by unfold qFix; rw [if_pos (bI_0 c13)], hA⟩
    · have h13 := bI_1 c13
      obtain ⟨a, rfl⟩ : ∃ a2 : Nat, a = (a2 : Int) := ⟨a.toNat, by omega⟩
      have ha : a < 2 := by omega
      refine T_iload dX12_fix_16 rfl ?_
      refine T_iconst dX12_fix_18 (by decide) ?_
      refine T_iconst dX12_fix_19 (by decide) ?_
      refine T_callS dX12_fix_20 lX12_145 (As := [_, _, _]) (rest := _) rfl rfl (by decide) (Nat.le_of_ble_eq_true rfl) (Nat.le_of_ble_eq_true rfl) t_X12_isIn ?_
      rintro _ _ ⟨rfl, rfl⟩
      refine T_if_ne (tgt := 28) dX12_fix_23 (by decide) (fun c23 => ?_) (fun c23 => ?_)
      · have h23 := bI_1 c23
        refine T_aload_n dX12_fix_28 rfl ?_
        refine T_iload_n dX12_fix_29 rfl ?_
        refine T_iload dX12_fix_30 rfl ?_
        refine T_callV dX12_fix_32 lX12_301 (As := [_, _]) (rest := _) rfl rfl k271 (by decide) (Nat.le_of_ble_eq_true rfl) (Nat.le_of_ble_eq_true rfl) (t_isMade hW hV hn hn24 ha) ?_
        rintro _ d2 ⟨rfl, hF⟩
        rw [isMade_py hV ha hS]
        have hAd2 : Ag mkC pyF d d2 := hA.trans hF.1 (by decide) (by decide) (by decide) (by decide)
        have hW2 := Wd_ag hW hF.1 (by decide) (by decide)
        have hn2 : d2 271 18 = ((rowS w g).length : Int) := (hF.1.2 18 (by decide)).trans hn
        have hr2 : ∀ j, j < (rowS w g).length → d2 277 j = rB w g j := fun j hj => (hF.1.1 277 j (by decide) (by decide)).trans (hr j hj)
        refine T_if_eq (tgt := 40) dX12_fix_35 (by decide) (fun c35 => ?_) (fun c35 => ?_)
        · refine T_iconst dX12_fix_40 (by decide) ?_
          refine T_ist dX12_fix_41 (by decide) rfl ?_
          unfold qFix
          rw [if_neg (fun z => z h13), if_neg (fun z => z h23), Int.toNat_natCast, if_neg (fun z => z c35)]
          generalize rB w g = r at *
          generalize (rowS w g).length = n at *
          have h43 : ∀ z : Nat × sD, (z.1 ≤ n ∧ fstN (fx1 w r n a m) (n - z.1) z.1 = fstN (fx1 w r n a m) n 0 ∧ (∀ k, k < n → z.2 277 k = r k) ∧ Ag fxC [] d2 z.2) → tB G mX12_fix 43 [vR 271, vI k, vI l, vI a, vI m, vI x, vI z.1, vU 0] [] z.2 (qQ d (qFx w r n a m x) mkC pyF) := by
            refine T_loop (α := Nat × sD) 43 (fun z => [vR 271, vI k, vI l, vI a, vI m, vI x, vI z.1, vU 0]) (fun z => z.2) (fun z => z.1 ≤ n ∧ fstN (fx1 w r n a m) (n - z.1) z.1 = fstN (fx1 w r n a m) n 0 ∧ (∀ k, k < n → z.2 277 k = r k) ∧ Ag fxC [] d2 z.2) (fun z => n - z.1) ?_
            rintro ⟨i, e⟩ ⟨hi, hf, hre, hAe⟩ ih
            try dsimp only at hi hf hre hAe ih ⊢
            have hWe := Wd_ag hW2 hAe (by decide) (by decide)
            have hne : e 271 18 = (n : Int) := (hAe.2 18 (by decide)).trans hn2
            refine T_iload dX12_fix_43 rfl ?_
            refine T_aload_n dX12_fix_45 rfl ?_
            refine T_getIv dX12_fix_46 fX12_243 rfl k271 (x := (n : Int)) hne ?_
            refine T_icmp_ge (tgt := 86) dX12_fix_49 (by decide) (fun c49 => ?_) (fun c49 => ?_)
            · have hf1 : fstN (fx1 w r n a m) n 0 = -1 := by rw [← hf, show n - i = 0 by omega]; rfl
              refine T_iconst dX12_fix_86 (by decide) ?_
              refine T_ist dX12_fix_87 (by decide) rfl ?_
              have h89 : ∀ z : Nat × sD, (z.1 ≤ n - 1 ∧ fx2 w r n a m (n - 1 - z.1) (z.1 + 1) = fx2 w r n a m (n - 1) 1 ∧ (∀ k, k < n → z.2 277 k = r k) ∧ Ag fxC [] d2 z.2) → tB G mX12_fix 89 [vR 271, vI k, vI l, vI a, vI m, vI x, vI (z.1 + 1 : Nat), vU 0] [] z.2 (qQ d (qFx w r n a m x) mkC pyF) := by
                refine T_loop (α := Nat × sD) 89 (fun z => [vR 271, vI k, vI l, vI a, vI m, vI x, vI (z.1 + 1 : Nat), vU 0]) (fun z => z.2) (fun z => z.1 ≤ n - 1 ∧ fx2 w r n a m (n - 1 - z.1) (z.1 + 1) = fx2 w r n a m (n - 1) 1 ∧ (∀ k, k < n → z.2 277 k = r k) ∧ Ag fxC [] d2 z.2) (fun z => n - z.1) ?_
                rintro ⟨q, e0⟩ ⟨hq, hf2, hr0, hA0⟩ ih
                try dsimp only at hq hf2 hr0 hA0 ih ⊢
                refine T_iload dX12_fix_89 rfl ?_
                refine T_aload_n dX12_fix_91 rfl ?_
                refine T_getIv dX12_fix_92 fX12_243 rfl k271 (x := (n : Int)) ((hA0.2 18 (by decide)).trans hn2) ?_
                refine T_icmp_ge (tgt := 153) dX12_fix_95 (by decide) (fun c95 => ?_) (fun c95 => ?_)
                · refine T_iconst dX12_fix_153 (by decide) ?_
                  exact T_ireturn dX12_fix_154 rfl ⟨by unfold qFx; rw [if_neg (fun z => z hf1), ← hf2, show n - 1 - q = 0 by omega, if_pos (show (fx2 w r n a m 0 (q + 1)).1 = -1 from rfl)], hAd2.trans hA0 (by decide) (by decide) (by decide) (by decide)⟩
                · refine T_iconst dX12_fix_98 (by decide) ?_
                  refine T_ist dX12_fix_99 (by decide) rfl ?_
                  have h101 : ∀ z : Nat × sD, (z.1 ≤ q + 1 ∧ fstN (fxT w r n a m (q + 1)) (q + 1 - z.1) z.1 = fstN (fxT w r n a m (q + 1)) (q + 1) 0 ∧ (∀ k, k < n → z.2 277 k = r k) ∧ Ag fxC [] d2 z.2) → tB G mX12_fix 101 [vR 271, vI k, vI l, vI a, vI m, vI x, vI (q + 1 : Nat), vI z.1] [] z.2 (qQ d (qFx w r n a m x) mkC pyF) := by
                    refine T_loop (α := Nat × sD) 101 (fun z => [vR 271, vI k, vI l, vI a, vI m, vI x, vI (q + 1 : Nat), vI z.1]) (fun z => z.2) (fun z => z.1 ≤ q + 1 ∧ fstN (fxT w r n a m (q + 1)) (q + 1 - z.1) z.1 = fstN (fxT w r n a m (q + 1)) (q + 1) 0 ∧ (∀ k, k < n → z.2 277 k = r k) ∧ Ag fxC [] d2 z.2) (fun z => q + 1 - z.1) ?_
                    rintro ⟨j, e⟩ ⟨hj, hfj, hre, hAe⟩ ih2
                    try dsimp only at hj hfj hre hAe ih2 ⊢
                    have hWe := Wd_ag hW2 hAe (by decide) (by decide)
                    have hne : e 271 18 = (n : Int) := (hAe.2 18 (by decide)).trans hn2
                    refine T_iload dX12_fix_101 rfl ?_
                    refine T_iload dX12_fix_103 rfl ?_
                    refine T_icmp_ge (tgt := 147) dX12_fix_105 (by decide) (fun c105 => ?_) (fun c105 => ?_)
                    · refine T_inc dX12_fix_147 rfl (by decide) rfl (by omega) ?_
                      refine T_goto (tgt := 89) dX12_fix_150 (by decide) ?_
                      refine T_drop 7 (ih (q + 1, e) ⟨by omega, ?_, hre, hAe⟩ (by omega))
                      dsimp only
                      rw [← hf2, show n - 1 - q = (n - 1 - (q + 1)) + 1 by omega]
                      rw [show q + 1 - j = 0 by omega] at hfj
                      show _ = if _ then _ else _
                      rw [if_pos (show fstN (fxT w r n a m (q + 1)) (q + 1) 0 = -1 from hfj.symm)]
                    · refine T_aload_n dX12_fix_108 rfl ?_
                      refine T_iload_n dX12_fix_109 rfl ?_
                      refine T_iload dX12_fix_110 rfl ?_
                      refine T_iload dX12_fix_112 rfl ?_
                      refine T_iload dX12_fix_114 rfl ?_
                      refine T_callV dX12_fix_116 lX12_391 (As := [_, _, _, _]) (rest := _) rfl rfl k271 (by decide) (Nat.le_of_ble_eq_true rfl) (Nat.le_of_ble_eq_true rfl) (t_isFixed hWe hV hne hn24 hre hr3 ha (by omega) (by omega)) ?_
                      rintro _ e2 ⟨rfl, hre2, hA2⟩
                      have hA2 := hAe.trans hA2 (cs := fxC) (fs := []) (by decide) (by decide) (by decide) (by decide)
                      refine T_if_eq (tgt := 141) dX12_fix_119 (by decide) (fun c119 => ?_) (fun c119 => ?_)
                      · refine T_inc dX12_fix_141 rfl (by decide) rfl (by omega) ?_
                        refine T_goto (tgt := 101) dX12_fix_144 (by decide) ?_
                        refine ih2 (j + 1, e2) ⟨by omega, ?_, hre2, hA2⟩ (by omega)
                        dsimp only
                        rw [← hfj, fstN_f (f := fxT w r n a m (q + 1)) (k := j) (fun z => by have z2 : fxS w r n a m j (q + 1) = 1 := z; omega) (by omega)]; rfl
                      · have hk : fxT w r n a m (q + 1) j := fxS_01.resolve_left c119
                        have hfs := hfj.symm.trans (fstN_t (f := fxT w r n a m (q + 1)) hk (by omega))
                        have htl : fx2 w r n a m (n - 1) 1 = ((j : Int), ((q + 1 : Nat) : Int)) := by rw [← hf2, show n - 1 - q = (n - 1 - q - 1) + 1 by omega]; unfold fx2; rw [hfs, if_neg (by omega)]
                        have hAf : Ag mkC pyF d e2 := hAd2.trans hA2 (by decide) (by decide) (by decide) (by decide)
                        refine T_iload dX12_fix_122 rfl ?_
                        refine T_if_eq (tgt := 139) dX12_fix_124 (by decide) (fun c124 => ?_) (fun c124 => ?_)
                        · refine T_iconst dX12_fix_139 (by decide) ?_
                          exact T_ireturn dX12_fix_140 rfl ⟨by unfold qFx; rw [if_neg (fun z => z hf1), htl, if_neg (by show ¬ (j : Int) = -1; omega), if_pos c124], hAf⟩
                        · refine T_iconst dX12_fix_127 (by decide) ?_
                          refine T_iload dX12_fix_128 rfl ?_
                          refine T_ishl dX12_fix_130 ?_
                          refine T_iconst dX12_fix_131 (by decide) ?_
                          refine T_iload dX12_fix_132 rfl ?_
                          refine T_ishl dX12_fix_134 ?_
                          refine T_ior dX12_fix_135 ?_
                          refine T_goto (tgt := 140) dX12_fix_136 (by decide) ?_
                          exact T_ireturn dX12_fix_140 rfl ⟨by unfold qFx; rw [if_neg (fun z => z hf1), htl, if_neg (by show ¬ (j : Int) = -1; omega), if_neg c124], hAf⟩
                  exact h101 (0, e0) ⟨Nat.zero_le _, rfl, hr0, hA0⟩
              exact h89 (0, e) ⟨Nat.zero_le _, rfl, hre, hAe⟩
            · refine T_aload_n dX12_fix_52 rfl ?_
              refine T_iload_n dX12_fix_53 rfl ?_
              refine T_iload dX12_fix_54 rfl ?_
              refine T_iload dX12_fix_56 rfl ?_
              refine T_iload dX12_fix_58 rfl ?_
              refine T_callV dX12_fix_60 lX12_391 (As := [_, _, _, _]) (rest := _) rfl rfl k271 (by decide) (Nat.le_of_ble_eq_true rfl) (Nat.le_of_ble_eq_true rfl) (t_isFixed hWe hV hne hn24 hre hr3 ha (by omega) (by omega)) ?_
              rintro _ e2 ⟨rfl, hre2, hA2⟩
              have hA2 := hAe.trans hA2 (cs := fxC) (fs := []) (by decide) (by decide) (by decide) (by decide)
              refine T_if_eq (tgt := 80) dX12_fix_63 (by decide) (fun c63 => ?_) (fun c63 => ?_)
              · refine T_inc dX12_fix_80 rfl (by decide) rfl (by omega) ?_
                refine T_goto (tgt := 43) dX12_fix_83 (by decide) ?_
                refine ih (i + 1, e2) ⟨by omega, ?_, hre2, hA2⟩ (by omega)
                dsimp only
                rw [← hf, fstN_f (f := fx1 w r n a m) (k := i) (fun z => by have z2 : fxS w r n a m i i = 1 := z; omega) (by omega)]; rfl
              · have hk : fx1 w r n a m i := fxS_01.resolve_left c63
                have hfs := hf.symm.trans (fstN_t (f := fx1 w r n a m) hk (by omega))
                have hAf : Ag mkC pyF d e2 := hAd2.trans hA2 (by decide) (by decide) (by decide) (by decide)
                refine T_iload dX12_fix_66 rfl ?_
                refine T_if_eq (tgt := 78) dX12_fix_68 (by decide) (fun c68 => ?_) (fun c68 => ?_)
                · refine T_iconst dX12_fix_78 (by decide) ?_
                  exact T_ireturn dX12_fix_79 rfl ⟨by unfold qFx; rw [hfs, if_pos (by omega), if_pos c68], hAf⟩
                · refine T_iconst dX12_fix_71 (by decide) ?_
                  refine T_iload dX12_fix_72 rfl ?_
                  refine T_ishl dX12_fix_74 ?_
                  refine T_goto (tgt := 79) dX12_fix_75 (by decide) ?_
                  exact T_ireturn dX12_fix_79 rfl ⟨by unfold qFx; rw [hfs, if_pos (by omega), if_neg c68], hAf⟩
          exact h43 (0, d2) ⟨Nat.zero_le _, rfl, hr2, Ag.rf⟩
        · refine T_iconst dX12_fix_38 (by decide) ?_
          exact T_ireturn dX12_fix_39 rfl ⟨by unfold qFix; rw [if_neg (fun z => z h13), if_neg (fun z => z h23), Int.toNat_natCast, if_pos c35], hAd2⟩
      · refine T_iconst dX12_fix_26 (by decide) ?_
        exact T_ireturn dX12_fix_27 rfl ⟨by unfold qFix; rw [if_neg (fun z => z h13), if_pos (bI_0 c23)], hA⟩

end M35
