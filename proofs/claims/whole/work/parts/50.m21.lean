/-! the reference: the truce -/
section M21
variable {G : sG} {d : sD} {w g h s : Nat → Int}
abbrev trG (n c : Nat) : Nat → Int := scS n 0 (dgN c n) (fun _ => 0)
theorem GV_tr {n c : Nat} (hn : n ≤ 12) : GV (trG n c) := GV_sc (by omega) (by omega) (fun i _ => dgN_rg _ _ i) (fun i hi => by omega)
abbrev okT (w : Nat → Int) (m0 m1 : Int) (n c : Nat) : Prop := mdS w (trG n c) 0 m0 = 1 ∧ mdS w (trG n c) 1 m1 = 1
def trL (w : Nat → Int) (m0 m1 : Int) : Nat → Nat → Int × Int
  | 0, _ => (-1, -1)
  | f + 1, n => if fstN (okT w m0 m1 n) (4 ^ n) 0 = -1 then trL w m0 m1 f (n + 1) else ((n : Int), fstN (okT w m0 m1 n) (4 ^ n) 0)
def qTr (w : Nat → Int) (m0 m1 x : Int) : Int := if x = 0 then (trL w m0 m1 6 0).1 else (trL w m0 m1 6 0).2
def qTruce (w : Nat → Int) (m0 m1 x : Int) : Int := if ¬ (0 ≤ m0 ∧ m0 ≤ 4) then -1 else if ¬ (0 ≤ m1 ∧ m1 ≤ 4) then -1 else qTr w m0 m1 x
theorem t_X12_truce {k m0 m1 x : Int} (hM : MS d) : tB G mX12_truce 0 [vR 271, vI k, vI m0, vI m1, vI x, vU 0, vU 0] [] d (qQ d (if Vd d 0 k then qTruce (wvD d k.toNat) m0 m1 x else -1) foC [10, 18]) := by
  have c0 := hM.1 0 (by decide)
  refine T_aload_n dX12_truce_0 rfl ?_
  refine T_iload_n dX12_truce_1 rfl ?_
  refine T_callV dX12_truce_2 lX12_224 (As := [_]) (rest := _) rfl rfl k271 (by decide) (Nat.le_of_ble_eq_true rfl) (Nat.le_of_ble_eq_true rfl) (t_X12_isWar c0) ?_
  rintro _ _ (⟨hv, rfl, rfl⟩ | ⟨hv, rfl, rfl⟩)
  ·
    refine T_if_eq (tgt := 26) dX12_truce_5 (by decide) (fun c5 => ?_) (fun c5 => absurd rfl c5)
    refine T_iconst dX12_truce_26 (by decide) ?_
    exact T_ireturn dX12_truce_27 rfl ⟨by rw [if_neg hv], Ag.rf⟩
  · have hW := isWd (d := d) (k := k.toNat) (by omega)
    rw [show (k.toNat : Int) = k by omega] at hW
    rw [if_pos hv]
    have hV := hM.2.1 k.toNat (by omega)
    have hAg : Ag foC [10, 18] d (up d 271 10 (610 + 89 * k)) := Ag_upf Ag.rf (by decide)
    generalize up d 271 10 (610 + 89 * k) = d0 at *
    generalize wvD d k.toNat = w at *
    refine T_if_eq (tgt := 26) dX12_truce_5 (by decide) (fun c5 => absurd c5 (by decide)) (fun c5 => ?_)
    refine T_iload_n dX12_truce_8 rfl ?_
    refine T_iconst dX12_truce_9 (by decide) ?_
    refine T_iconst dX12_truce_10 (by decide) ?_
    refine T_callS dX12_truce_11 lX12_145 (As := [_, _, _]) (rest := _) rfl rfl (by decide) (Nat.le_of_ble_eq_true rfl) (Nat.le_of_ble_eq_true rfl) t_X12_isIn ?_
    rintro _ _ ⟨rfl, rfl⟩
    refine T_if_eq (tgt := 26) dX12_truce_14 (by decide) (fun c14 => ?_) (fun c14 => ?_)
    · refine T_iconst dX12_truce_26 (by decide) ?_
      exact T_ireturn dX12_truce_27 rfl ⟨by unfold qTruce; rw [if_pos (bI_0 c14)], hAg⟩
    · have h14 := bI_1 c14
      refine T_iload_n dX12_truce_17 rfl ?_
      refine T_iconst dX12_truce_18 (by decide) ?_
      refine T_iconst dX12_truce_19 (by decide) ?_
      refine T_callS dX12_truce_20 lX12_145 (As := [_, _, _]) (rest := _) rfl rfl (by decide) (Nat.le_of_ble_eq_true rfl) (Nat.le_of_ble_eq_true rfl) t_X12_isIn ?_
      rintro _ _ ⟨rfl, rfl⟩
      refine T_if_ne (tgt := 28) dX12_truce_23 (by decide) (fun c23 => ?_) (fun c23 => ?_)
      · have h23 := bI_1 c23
        unfold qTruce; rw [if_neg (fun q => q h14), if_neg (fun q => q h23)]
        refine T_iconst dX12_truce_28 (by decide) ?_
        refine T_ist dX12_truce_29 (by decide) rfl ?_
        have h31 : ∀ y : Nat × sD, (y.1 ≤ 6 ∧ Ag foC [18] d0 y.2 ∧ trL w m0 m1 (6 - y.1) y.1 = trL w m0 m1 6 0) → tB G mX12_truce 31 [vR 271, vI k, vI m0, vI m1, vI x, vI y.1, vU 0] [] y.2 (qQ d (qTr w m0 m1 x) foC [10, 18]) := by
          refine T_loop (α := Nat × sD) 31 (fun y => [vR 271, vI k, vI m0, vI m1, vI x, vI y.1, vU 0]) (fun y => y.2) (fun y => y.1 ≤ 6 ∧ Ag foC [18] d0 y.2 ∧ trL w m0 m1 (6 - y.1) y.1 = trL w m0 m1 6 0) (fun y => 6 - y.1) ?_
          rintro ⟨n, e0⟩ ⟨hn6, hA0, hn⟩ ih
          try dsimp only at hn6 hA0 hn ih ⊢
          refine T_iload dX12_truce_31 rfl ?_
          refine T_iconst dX12_truce_33 (by decide) ?_
          refine T_icmp_gt (tgt := 118) dX12_truce_34 (by decide) (fun c34 => ?_) (fun c34 => ?_)
          · refine T_iconst dX12_truce_118 (by decide) ?_
            exact T_ireturn dX12_truce_119 rfl ⟨by unfold qTr; rw [← hn, show 6 - n = 0 by omega]; show _ = some (vI (if _ then (-1 : Int) else -1)); rw [ite_self], hAg.trans hA0 (by decide) (by decide) (by decide) (by decide)⟩
          · have hp := pow4 n (by omega)
            refine T_iconst dX12_truce_37 (by decide) ?_
            refine T_ist dX12_truce_38 (by decide) rfl ?_
            have h40 : ∀ y : Nat × sD, (y.1 ≤ 4 ^ n ∧ Ag foC [18] d0 y.2 ∧ fstN (okT w m0 m1 n) (4 ^ n - y.1) y.1 = fstN (okT w m0 m1 n) (4 ^ n) 0) → tB G mX12_truce 40 [vR 271, vI k, vI m0, vI m1, vI x, vI n, vI y.1] [] y.2 (qQ d (qTr w m0 m1 x) foC [10, 18]) := by
              refine T_loop (α := Nat × sD) 40 (fun y => [vR 271, vI k, vI m0, vI m1, vI x, vI n, vI y.1]) (fun y => y.2) (fun y => y.1 ≤ 4 ^ n ∧ Ag foC [18] d0 y.2 ∧ fstN (okT w m0 m1 n) (4 ^ n - y.1) y.1 = fstN (okT w m0 m1 n) (4 ^ n) 0) (fun y => 4 ^ n - y.1) ?_
              rintro ⟨c, e⟩ ⟨hc, hA, hf⟩ ih2
              try dsimp only at hc hA hf ih2 ⊢
              have hWe := Wd_ag hW hA (by decide) (by decide)
              have hGc : GV (trG n c) := GV_tr (by omega)
              refine T_iload dX12_truce_40 rfl ?_
              refine T_iload dX12_truce_42 rfl ?_
              refine T_callS dX12_truce_44 lX12_294 (As := [_]) (rest := _) rfl rfl (by decide) (Nat.le_of_ble_eq_true rfl) (Nat.le_of_ble_eq_true rfl) (t_codesOf (by omega)) ?_
              rintro _ _ ⟨rfl, rfl⟩
              refine T_icmp_ge (tgt := 112) dX12_truce_47 (by decide) (fun c47 => ?_) (fun c47 => ?_)
              · refine T_inc dX12_truce_112 rfl (by decide) rfl (by omega) ?_
                refine T_goto (tgt := 31) dX12_truce_115 (by decide) ?_
                refine T_drop 6 (ih (n + 1, e) ⟨by omega, hA, ?_⟩ (by omega))
                dsimp only
                rw [← hn, show 6 - n = (6 - (n + 1)) + 1 by omega]
                rw [show 4 ^ n - c = 0 by omega] at hf
                show _ = if _ then _ else _
                rw [if_pos (show fstN (okT w m0 m1 n) (4 ^ n) 0 = -1 from hf.symm)]
              · refine T_aload_n dX12_truce_50 rfl ?_
                refine T_iconst dX12_truce_51 (by decide) ?_
                refine T_iload dX12_truce_52 rfl ?_
                refine T_iload dX12_truce_54 rfl ?_
                refine T_callV dX12_truce_56 lX12_297 (As := [_, _, _]) (rest := _) rfl rfl k271 (by decide) (Nat.le_of_ble_eq_true rfl) (Nat.le_of_ble_eq_true rfl) (t_givesNumber (a := 0) (by decide) (by omega)) ?_
                rintro _ d1 ⟨rfl, hh0, hoth, hA1⟩
                refine T_aload_n dX12_truce_59 rfl ?_
                refine T_getR dX12_truce_60 fX12_23 rfl k271 r271_13 ?_
                refine T_iconst dX12_truce_63 (by decide) ?_
                refine T_iconst dX12_truce_64 (by decide) ?_
                refine T_iast dX12_truce_65 k276 l276 (by omega) (j := 1) rfl ?_
                have hA1' : Ag foC [18] d0 (up d1 276 1 0) := Ag_up (hA.trans hA1 (cs := foC) (fs := [18]) (by decide) (by decide) (by decide) (by decide)) (by decide)
                have hW1 : Wd (up d1 276 1 0) w := Wd_ag hW hA1' (by decide) (by decide)
                have hGH : GH (up d1 276 1 0) (trG n c) := GH_sc ⟨by rw [up_nej (by decide)]; exact hh0.1, fun i hi => by rw [up_nea (by decide)]; exact hh0.2 i hi⟩ ⟨up_same, fun i hi => by omega⟩ (by omega)
                refine T_aload_n dX12_truce_66 rfl ?_
                refine T_callV dX12_truce_67 lX12_246 (As := []) (rest := _) rfl rfl k271 (by decide) (Nat.le_of_ble_eq_true rfl) (Nat.le_of_ble_eq_true rfl) (t_laysG hW1 hV hGH hGc) ?_
                rintro _ d2 ⟨rfl, hL, hA2⟩
                have hW2 := Wd_ag hW1 hA2 (by decide) (by decide)
                refine T_aload_n dX12_truce_70 rfl ?_
                refine T_iconst dX12_truce_71 (by decide) ?_
                refine T_callV dX12_truce_72 lX12_252 (As := [_]) (rest := _) rfl rfl k271 (by decide) (Nat.le_of_ble_eq_true rfl) (Nat.le_of_ble_eq_true rfl) (t_playsG hW2 hV hGc hL) ?_
                rintro _ d3 ⟨rfl, hS, hA3p⟩
                have hW3 := Wd_ag hW2 hA3p (by decide) (by decide)
                have hAd : Ag foC [18] d0 d3 := ((hA1'.trans hA2 (cs := foC) (fs := [18]) (by decide) (by decide) (by decide) (by decide)).trans hA3p (cs := foC) (fs := [18]) (by decide) (by decide) (by decide) (by decide))
                refine T_aload_n dX12_truce_75 rfl ?_
                refine T_iconst dX12_truce_76 (by decide) ?_
                refine T_iload_n dX12_truce_77 rfl ?_
                refine T_callV dX12_truce_78 lX12_301 (As := [_, _]) (rest := _) rfl rfl k271 (by decide) (Nat.le_of_ble_eq_true rfl) (Nat.le_of_ble_eq_true rfl) (t_isMade (a := 0) hW3 hV ((hA3p.2 18 (by decide)).trans hL.1) (rowS_24 hV hGc) (by decide)) ?_
                rintro _ d4 ⟨rfl, hF4⟩
                rw [isMade_py hV (by decide) hS]
                have hA4 := hAd.trans hF4.1 (cs := foC) (fs := [18]) (by decide) (by decide) (by decide) (by decide)
                have hW4 := Wd_ag hW3 hF4.1 (by decide) (by decide)
                have hS4 : Snd d4 w (rB w (trG n c)) (rowS w (trG n c)).length := fun j hj => ⟨(hF4.1.1 279 j (by decide) (by decide)).trans (hS j hj).1, (hF4.1.1 280 j (by decide) (by decide)).trans (hS j hj).2⟩
                refine T_if_eq (tgt := 106) dX12_truce_81 (by decide) (fun c81 => ?_) (fun c81 => ?_)
                · refine T_inc dX12_truce_106 rfl (by decide) rfl (by omega) ?_
                  refine T_goto (tgt := 40) dX12_truce_109 (by decide) ?_
                  refine ih2 (c + 1, d4) ⟨by omega, hA4, ?_⟩ (by omega)
                  dsimp only
                  rw [← hf, fstN_f (k := c) (fun q => by have := q.1; omega) (by omega)]; rfl
                · refine T_aload_n dX12_truce_84 rfl ?_
                  refine T_iconst dX12_truce_85 (by decide) ?_
                  refine T_iload_n dX12_truce_86 rfl ?_
                  refine T_callV dX12_truce_87 lX12_301 (As := [_, _]) (rest := _) rfl rfl k271 (by decide) (Nat.le_of_ble_eq_true rfl) (Nat.le_of_ble_eq_true rfl) (t_isMade (a := 1) hW4 hV ((hF4.1.2 18 (by decide)).trans ((hA3p.2 18 (by decide)).trans hL.1)) (rowS_24 hV hGc) (by decide)) ?_
                  rintro _ d5 ⟨rfl, hF5⟩
                  rw [isMade_py hV (by decide) hS4]
                  have hA5 := hA4.trans hF5.1 (cs := foC) (fs := [18]) (by decide) (by decide) (by decide) (by decide)
                  refine T_if_eq (tgt := 106) dX12_truce_90 (by decide) (fun c90 => ?_) (fun c90 => ?_)
                  · refine T_inc dX12_truce_106 rfl (by decide) rfl (by omega) ?_
                    refine T_goto (tgt := 40) dX12_truce_109 (by decide) ?_
                    refine ih2 (c + 1, d5) ⟨by omega, hA5, ?_⟩ (by omega)
                    dsimp only
                    rw [← hf, fstN_f (k := c) (fun q => by have := q.2; omega) (by omega)]; rfl
                  · have hk : okT w m0 m1 n c := ⟨(mdS_01 _ _ _ _).resolve_left c81, (mdS_01 _ _ _ _).resolve_left c90⟩
                    have hfc := hf.symm.trans (fstN_t (f := okT w m0 m1 n) hk (by omega))
                    have htl : trL w m0 m1 (6 - n) n = ((n : Int), (c : Int)) := by rw [show 6 - n = (5 - n) + 1 by omega]; unfold trL; rw [hfc, if_neg (by omega)]
                    have hAf := hAg.trans hA5 (cs := foC) (fs := [10, 18]) (by decide) (by decide) (by decide) (by decide)
                    refine T_iload dX12_truce_93 rfl ?_
                    refine T_if_eq (tgt := 103) dX12_truce_95 (by decide) (fun c95 => ?_) (fun c95 => ?_)
                    · refine T_iload dX12_truce_103 rfl ?_
                      exact T_ireturn dX12_truce_105 rfl ⟨by unfold qTr; rw [← hn, htl, if_pos c95], hAf⟩
                    · refine T_iload dX12_truce_98 rfl ?_
                      refine T_goto (tgt := 105) dX12_truce_100 (by decide) ?_
                      exact T_ireturn dX12_truce_105 rfl ⟨by unfold qTr; rw [← hn, htl, if_neg c95], hAf⟩
            exact h40 (0, e0) ⟨Nat.zero_le _, hA0, rfl⟩
        exact h31 (0, d0) ⟨Nat.zero_le _, Ag.rf, rfl⟩
      · refine T_iconst dX12_truce_26 (by decide) ?_
        exact T_ireturn dX12_truce_27 rfl ⟨by unfold qTruce; rw [if_neg (fun q => q h14), if_pos (bI_0 c23)], hAg⟩

end M21
