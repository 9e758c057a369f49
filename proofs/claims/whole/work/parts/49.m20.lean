/-! the reference: what was meant, the truce -/
section M20
variable {G : sG} {d : sD} {w g h s : Nat → Int}
/-- a score, the second army's beats a number's -/
abbrev mtG (g : Nat → Int) (n c : Nat) : Nat → Int := scS (g 0) n (fun k => g (2 + k)) (dgN c n)
theorem GV_mt {n c : Nat} (hG : GV g) (hn : n ≤ 12) : GV (mtG g n c) := GV_sc (hG 0 (by decide)).1 (by omega) (fun i hi => by have := (hG 0 (by decide)).2 i hi; rw [show 2 + 12 * 0 + i = 2 + i by omega] at this; exact this) (fun i _ => dgN_rg _ _ i)
abbrev okM (w g h : Nat → Int) (n c : Nat) : Prop := soK w (snS w (mtG g n c)) (rowS w (mtG g n c)).length h 2
def qMe (w g h : Nat → Int) (n : Nat) (x : Int) : Int := if x = 0 then cnN (okM w g h n) (4 ^ n) else fsN (okM w g h n) (4 ^ n)
def qMeant (w g h : Nat → Int) (n x : Int) : Int := if ¬ (0 ≤ n ∧ n ≤ 5) then -2 else qMe w g h n.toNat x
theorem t_X12_meant {k l t n x : Int} (hM : MS d) : tB G mX12_meant 0 [vR 271, vI k, vI l, vI t, vI n, vI x, vU 0, vU 0, vU 0] [] d (qQ d (if Vph d k l t then qMeant (wvD d k.toNat) (gvD d l.toNat) (hvD d t.toNat) n x else -2) mkC soF) := by
  have c0 := hM.1 0 (by decide)
  have c1 := hM.1 1 (by decide)
  have c2 := hM.1 2 (by decide)
  refine T_aload_n dX12_meant_0 rfl ?_
  refine T_iload_n dX12_meant_1 rfl ?_
  refine T_callV dX12_meant_2 lX12_224 (As := [_]) (rest := _) rfl rfl k271 (by decide) (Nat.le_of_ble_eq_true rfl) (Nat.le_of_ble_eq_true rfl) (t_X12_isWar c0) ?_
  rintro _ _ (⟨hv, rfl, rfl⟩ | ⟨hv, rfl, rfl⟩)
  ·
    refine T_if_eq (tgt := 34) dX12_meant_5 (by decide) (fun c5 => ?_) (fun c5 => absurd rfl c5)
    refine T_bipush dX12_meant_34 (by decide) ?_
    exact T_ireturn dX12_meant_36 rfl ⟨by rw [if_neg (fun q => hv q.1.1)], Ag.rf⟩
  · have hW := isWd (d := d) (k := k.toNat) (by omega)
    rw [show (k.toNat : Int) = k by omega] at hW
    have hA1 : Ag [] [10] d (up d 271 10 (610 + 89 * k)) := Ag_upf Ag.rf (by decide)
    refine T_if_eq (tgt := 34) dX12_meant_5 (by decide) (fun c5 => absurd c5 (by decide)) (fun c5 => ?_)
    refine T_aload_n dX12_meant_8 rfl ?_
    refine T_iload_n dX12_meant_9 rfl ?_
    refine T_callV dX12_meant_10 lX12_240 (As := [_]) (rest := _) rfl rfl k271 (by decide) (Nat.le_of_ble_eq_true rfl) (Nat.le_of_ble_eq_true rfl) (t_X12_isScore (by rw [up_nea (by decide)]; exact c1)) ?_
    rintro _ _ (⟨hv2, rfl, rfl⟩ | ⟨hv2, rfl, rfl⟩)
    all_goals rw [up_nea (by decide)] at hv2
    ·
      refine T_if_eq (tgt := 34) dX12_meant_13 (by decide) (fun c13 => ?_) (fun c13 => absurd rfl c13)
      refine T_bipush dX12_meant_34 (by decide) ?_
      exact T_ireturn dX12_meant_36 rfl ⟨by rw [if_neg (fun q => hv2 q.1.2)], hA1.mono (by decide) (by decide)⟩
    · have hA2 : Ag [] [10, 11] d (up (up d 271 10 (610 + 89 * k)) 271 11 (788 + 26 * l)) := Ag_upf (Ag_upf Ag.rf (by decide)) (by decide)
      have hG := isGd (d := up d 271 10 (610 + 89 * k)) (k := l.toNat) (by omega)
      rw [show (l.toNat : Int) = l by omega, gvD_ag hA1 (by decide)] at hG
      have hW := hW.up (a := 271) (j := 11) (x := 788 + 26 * l) (by decide) (by decide)
      have e2 : up (up d 271 10 (610 + 89 * k)) 271 11 (788 + 26 * l) 272 2 = d 272 2 := hA2.1 _ _ (by decide) (by decide)
      refine T_if_eq (tgt := 34) dX12_meant_13 (by decide) (fun c13 => absurd c13 (by decide)) (fun c13 => ?_)
      refine T_aload_n dX12_meant_16 rfl ?_
      refine T_iload_n dX12_meant_17 rfl ?_
      refine T_callV dX12_meant_18 lX12_311 (As := [_]) (rest := _) rfl rfl k271 (by decide) (Nat.le_of_ble_eq_true rfl) (Nat.le_of_ble_eq_true rfl) (t_X12_isHearing (by rw [e2]; exact c2)) ?_
      rintro _ _ (⟨hv3, rfl, rfl⟩ | ⟨hv3, rfl, rfl⟩)
      all_goals rw [e2] at hv3
      ·
        refine T_if_eq (tgt := 34) dX12_meant_21 (by decide) (fun c21 => ?_) (fun c21 => absurd rfl c21)
        refine T_bipush dX12_meant_34 (by decide) ?_
        exact T_ireturn dX12_meant_36 rfl ⟨by rw [if_neg (fun q => hv3 q.2)], hA2.mono (by decide) (by decide)⟩
      · have hH := isHh (d := up (up d 271 10 (610 + 89 * k)) 271 11 (788 + 26 * l)) (k := t.toNat) (by omega)
        rw [show (t.toNat : Int) = t by omega, show hvD (up (up d 271 10 (610 + 89 * k)) 271 11 (788 + 26 * l)) t.toNat = hvD d t.toNat from funext fun x => hA2.1 272 _ (by decide) (by decide)] at hH
        have hA3 : Ag [] [25] (up (up d 271 10 (610 + 89 * k)) 271 11 (788 + 26 * l)) (up (up (up d 271 10 (610 + 89 * k)) 271 11 (788 + 26 * l)) 271 25 (840 + 14 * t)) := Ag_upf Ag.rf (by decide)
        have hW := Wd_ag hW hA3 (by decide) (by decide)
        have hG := Gd_ag hG hA3 (by decide) (by decide)
        have hA3 : Ag mkC soF d (up (up (up d 271 10 (610 + 89 * k)) 271 11 (788 + 26 * l)) 271 25 (840 + 14 * t)) := hA2.trans hA3 (by decide) (by decide) (by decide) (by decide)
        rw [if_pos ⟨⟨hv, hv2⟩, hv3⟩]
        have hV := hM.2.1 k.toNat (by omega)
        have hGV := hM.2.2.1 l.toNat (by omega)
        have hHV := hM.2.2.2.1 t.toNat (by omega)
        have g0 := (hGV 0 (by decide)).1
        clear hA1 hA2 e2
        generalize up (up (up d 271 10 (610 + 89 * k)) 271 11 (788 + 26 * l)) 271 25 (840 + 14 * t) = d0 at *
        generalize wvD d k.toNat = w at *
        generalize gvD d l.toNat = g at *
        generalize hvD d t.toNat = h at *
        refine T_if_eq (tgt := 34) dX12_meant_21 (by decide) (fun c21 => absurd c21 (by decide)) (fun c21 => ?_)
        refine T_iload dX12_meant_24 rfl ?_
        refine T_iconst dX12_meant_26 (by decide) ?_
        refine T_iconst dX12_meant_27 (by decide) ?_
        refine T_callS dX12_meant_28 lX12_145 (As := [_, _, _]) (rest := _) rfl rfl (by decide) (Nat.le_of_ble_eq_true rfl) (Nat.le_of_ble_eq_true rfl) t_X12_isIn ?_
        rintro _ _ ⟨rfl, rfl⟩
        refine T_if_ne (tgt := 37) dX12_meant_31 (by decide) (fun c31 => ?_) (fun c31 => ?_)
        · have h31 := bI_1 c31
          obtain ⟨n, rfl⟩ : ∃ a2 : Nat, n = (a2 : Int) := ⟨n.toNat, by omega⟩
          unfold qMeant; rw [if_neg (fun q => q h31), Int.toNat_natCast]
          refine T_aload_n dX12_meant_37 rfl ?_
          refine T_callV dX12_meant_38 lX12_249 (As := []) (rest := _) rfl rfl k271 (by decide) (Nat.le_of_ble_eq_true rfl) (Nat.le_of_ble_eq_true rfl) (t_takesScore hW hV hG hGV) ?_
          rintro _ d1 ⟨rfl, _, hA1, hGH⟩
          refine T_iconst dX12_meant_41 (by decide) ?_
          refine T_ist dX12_meant_42 (by decide) rfl ?_
          refine T_iconst dX12_meant_44 (by decide) ?_
          refine T_ist dX12_meant_45 (by decide) rfl ?_
          refine T_iconst dX12_meant_47 (by decide) ?_
          refine T_ist dX12_meant_48 (by decide) rfl ?_
          have h50 : ∀ y : Nat × sD, (y.1 ≤ 4 ^ n ∧ Ag mkC [18] d0 y.2 ∧ Hd y.2 0 (g 0) (fun k => g (2 + k))) → tB G mX12_meant 50 [vR 271, vI k, vI l, vI t, vI n, vI x, vI (cnN (okM w g h n) y.1), vI (fsN (okM w g h n) y.1), vI y.1] [] y.2 (qQ d (qMe w g h n x) mkC soF) := by
            refine T_loop (α := Nat × sD) 50 (fun y => [vR 271, vI k, vI l, vI t, vI n, vI x, vI (cnN (okM w g h n) y.1), vI (fsN (okM w g h n) y.1), vI y.1]) (fun y => y.2) (fun y => y.1 ≤ 4 ^ n ∧ Ag mkC [18] d0 y.2 ∧ Hd y.2 0 (g 0) (fun k => g (2 + k))) (fun y => 4 ^ n - y.1) ?_
            rintro ⟨c, e⟩ ⟨hc, hA, hh0⟩ ih
            try dsimp only at hc hA hh0 ih ⊢
            have hp := pow4 n (by omega)
            have hrg := cnN_rg (okM w g h n) c
            have hWe := Wd_ag hW hA (by decide) (by decide)
            have hGc : GV (mtG g n c) := GV_mt hGV (by omega)
            refine T_iload dX12_meant_50 rfl ?_
            refine T_iload dX12_meant_52 rfl ?_
            refine T_callS dX12_meant_54 lX12_294 (As := [_]) (rest := _) rfl rfl (by decide) (Nat.le_of_ble_eq_true rfl) (Nat.le_of_ble_eq_true rfl) (t_codesOf (by omega)) ?_
            rintro _ _ ⟨rfl, rfl⟩
            refine T_icmp_ge (tgt := 112) dX12_meant_57 (by decide) (fun c57 => ?_) (fun c57 => ?_)
            · refine T_iload dX12_meant_112 rfl ?_
              refine T_if_eq (tgt := 122) dX12_meant_114 (by decide) (fun c114 => ?_) (fun c114 => ?_)
              · refine T_iload dX12_meant_122 rfl ?_
                exact T_ireturn dX12_meant_124 rfl ⟨by unfold qMe; rw [if_pos c114, show c = 4 ^ n by omega], hA3.trans hA (by decide) (by decide) (by decide) (by decide)⟩
              · refine T_iload dX12_meant_117 rfl ?_
                refine T_goto (tgt := 124) dX12_meant_119 (by decide) ?_
                exact T_ireturn dX12_meant_124 rfl ⟨by unfold qMe; rw [if_neg c114, show c = 4 ^ n by omega], hA3.trans hA (by decide) (by decide) (by decide) (by decide)⟩
            · refine T_aload_n dX12_meant_60 rfl ?_
              refine T_iconst dX12_meant_61 (by decide) ?_
              refine T_iload dX12_meant_62 rfl ?_
              refine T_iload dX12_meant_64 rfl ?_
              refine T_callV dX12_meant_66 lX12_297 (As := [_, _, _]) (rest := _) rfl rfl k271 (by decide) (Nat.le_of_ble_eq_true rfl) (Nat.le_of_ble_eq_true rfl) (t_givesNumber (a := 1) (by decide) (by omega)) ?_
              rintro _ d1 ⟨rfl, hh1, hoth, hA1⟩
              have hh0' := hoth 0 _ _ (by decide) (by decide) (by omega) hh0
              have hGH : GH d1 (mtG g n c) := GH_sc hh0' hh1 (by omega)
              have hW1 := Wd_ag hWe hA1 (by decide) (by decide)
              refine T_aload_n dX12_meant_69 rfl ?_
              refine T_callV dX12_meant_70 lX12_246 (As := []) (rest := _) rfl rfl k271 (by decide) (Nat.le_of_ble_eq_true rfl) (Nat.le_of_ble_eq_true rfl) (t_laysG hW1 hV hGH hGc) ?_
              rintro _ d2 ⟨rfl, hL, hA2⟩
              have hW2 := Wd_ag hW1 hA2 (by decide) (by decide)
              refine T_aload_n dX12_meant_73 rfl ?_
              refine T_iconst dX12_meant_74 (by decide) ?_
              refine T_callV dX12_meant_75 lX12_252 (As := [_]) (rest := _) rfl rfl k271 (by decide) (Nat.le_of_ble_eq_true rfl) (Nat.le_of_ble_eq_true rfl) (t_playsG hW2 hV hGc hL) ?_
              rintro _ d3 ⟨rfl, hS, hA3p⟩
              have hW3 := Wd_ag hW2 hA3p (by decide) (by decide)
              have hAd : Ag mkC [18] d0 d3 := ((hA.trans hA1 (cs := mkC) (fs := [18]) (by decide) (by decide) (by decide) (by decide)).trans hA2 (cs := mkC) (fs := [18]) (by decide) (by decide) (by decide) (by decide)).trans hA3p (by decide) (by decide) (by decide) (by decide)
              refine T_aload_n dX12_meant_78 rfl ?_
              refine T_callV dX12_meant_79 lX12_314 (As := []) (rest := _) rfl rfl k271 (by decide) (Nat.le_of_ble_eq_true rfl) (Nat.le_of_ble_eq_true rfl) (t_isSo hW3 hV (Hh_ag hH hAd (by decide) (by decide)) hHV ((hA3p.2 18 (by decide)).trans hL.1) (rowS_24 hV hGc)) ?_
              rintro _ d4 ⟨rfl, hA4⟩
              have hAn := hAd.trans hA4 (cs := mkC) (fs := [18]) (by decide) (by decide) (by decide) (by decide)
              have hok : okM w g h n c ↔ soK w (d3 279) (rowS w (mtG g n c)).length h 2 := (soK_congr hV (fun j hj => by rw [(hS j hj).1]; show _ = if _ then _ else _; rw [if_pos hj])).symm
              have e275 : ∀ b j, b = 275 ∨ b = 276 → d4 b j = d1 b j := fun b j hb => by
                rw [hA4.1 b j (by rcases hb with rfl | rfl <;> decide) (by omega), hA3p.1 b j (by rcases hb with rfl | rfl <;> decide) (by omega), hA2.1 b j (by rcases hb with rfl | rfl <;> decide) (by omega)]
              have hh4 : Hd d4 0 (g 0) (fun k => g (2 + k)) := ⟨by rw [e275 _ _ (Or.inr rfl)]; exact hh0'.1, fun i hi => by rw [e275 _ _ (Or.inl rfl)]; exact hh0'.2 i hi⟩
              refine T_if_ne (tgt := 88) dX12_meant_82 (by decide) (fun c82 => ?_) (fun c82 => ?_)
              · have hk := hok.mpr (bI_1 c82)
                refine T_inc dX12_meant_88 rfl (by decide) rfl (by omega) ?_
                refine T_iload dX12_meant_91 rfl ?_
                refine T_iconst dX12_meant_93 (by decide) ?_
                refine T_icmp_ne (tgt := 102) dX12_meant_94 (by decide) (fun c94 => ?_) (fun c94 => ?_)
                · refine T_iload dX12_meant_102 rfl ?_
                  refine T_ist dX12_meant_104 (by decide) rfl ?_
                  refine T_inc dX12_meant_106 rfl (by decide) rfl (by omega) ?_
                  refine T_goto (tgt := 50) dX12_meant_109 (by decide) ?_
                  refine T_leq ?_ (ih (c + 1, d4) ⟨by omega, hAn, hh4⟩ (by omega))
                  rw [cnN_t (f := (okM w g h n)) hk, show fsN (okM w g h n) (c + 1) = fsN (okM w g h n) c from if_neg (fun q => c94 q.2)]; rfl
                · refine T_iload dX12_meant_97 rfl ?_
                  refine T_goto (tgt := 104) dX12_meant_99 (by decide) ?_
                  refine T_ist dX12_meant_104 (by decide) rfl ?_
                  refine T_inc dX12_meant_106 rfl (by decide) rfl (by omega) ?_
                  refine T_goto (tgt := 50) dX12_meant_109 (by decide) ?_
                  refine T_leq ?_ (ih (c + 1, d4) ⟨by omega, hAn, hh4⟩ (by omega))
                  rw [cnN_t (f := (okM w g h n)) hk, show fsN (okM w g h n) (c + 1) = c from if_pos ⟨hk, c94⟩]; rfl
              · refine T_goto (tgt := 106) dX12_meant_85 (by decide) ?_
                refine T_inc dX12_meant_106 rfl (by decide) rfl (by omega) ?_
                refine T_goto (tgt := 50) dX12_meant_109 (by decide) ?_
                have hk : ¬ okM w g h n c := fun q => bI_0 c82 (hok.mp q)
                refine T_leq ?_ (ih (c + 1, d4) ⟨by omega, hAn, hh4⟩ (by omega))
                rw [cnN_f (f := (okM w g h n)) hk, show fsN (okM w g h n) (c + 1) = fsN (okM w g h n) c from if_neg (fun q => hk q.1)]; rfl
          exact h50 (0, d1) ⟨Nat.zero_le _, hA1.mono (by decide) (by decide), by have := GH_Hd hGH (a := 0) (by decide); rw [show (fun k => g (2 + k)) = (fun k => g (2 + 12 * 0 + k)) from funext fun k => by rw [show 2 + 12 * 0 + k = 2 + k by omega]]; exact this⟩
        · refine T_bipush dX12_meant_34 (by decide) ?_
          exact T_ireturn dX12_meant_36 rfl ⟨by unfold qMeant; rw [if_pos (bI_0 c31)], hA3⟩

end M20
