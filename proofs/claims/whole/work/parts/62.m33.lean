/-! the reference: drawn -/
section M33
variable {G : sG} {d : sD} {w g s : Nat → Int} {n a : Nat}
theorem ofA_rg {ML : Nat → List (Nat × Nat)} {T : Nat → Int} (hl : ∀ a, a < 2 → (ML a).length ≤ 24) {i : Nat} : ∀ a : Nat, a ≤ 2 → T i ≤ ofA w ML T a i ∧ ofA w ML T a i ≤ T i + 24 * a
  | 0, _ => by show T i ≤ T i ∧ T i ≤ T i + 24 * 0; omega
  | a + 1, h => by
    have ih := ofA_rg (T := T) hl (i := i) a (by omega)
    have h2 := ofJ_rg (w := w) (a := a) (ml := ML a) (T := ofA w ML T a) (i := i) (ML a).length
    have h3 := hl a (by omega)
    rw [show ofA w ML T (a + 1) = ofJ w a (ML a) (ofA w ML T a) (ML a).length from rfl]
    omega
abbrev drC : List Nat := [275, 276, 277, 278, 279, 280, 281, 282, 283, 284, 285, 286, 293]
abbrev drI : List Nat := [279, 280, 281, 282, 283, 284, 285, 286, 293]
abbrev drG : List Nat := [10, 11, 18, 33]
theorem t_X12_drawn {k l x m y : Int} (hM : MS d) : tB G mX12_drawn 0 [vR 271, vI k, vI l, vI x, vI m, vI y, vU 0, vU 0, vU 0, vU 0, vU 0, vU 0] [] d (qQ d (if Vp d k l then qDrawn (wvD d k.toNat) (gvD d l.toNat) x m y else -1) drC drG) := by
  refine T_aload_n dX12_drawn_0 rfl ?_
  refine T_iload_n dX12_drawn_1 rfl ?_
  refine T_iload_n dX12_drawn_2 rfl ?_
  refine T_callV dX12_drawn_3 lX12_255 (As := [_, _]) (rest := _) rfl rfl k271 (by decide) (Nat.le_of_ble_eq_true rfl) (Nat.le_of_ble_eq_true rfl) (t_arePlayed hM) ?_
  rintro _ d1 (⟨hv, rfl, hA⟩ | ⟨hv, rfl, ⟨hW, hL, hS⟩, hA⟩)
  ·
    refine T_if_eq (tgt := 54) dX12_drawn_6 (by decide) (fun c6 => ?_) (fun c6 => absurd rfl c6)
    refine T_iconst dX12_drawn_54 (by decide) ?_
    exact T_ireturn dX12_drawn_55 rfl ⟨by rw [if_neg hv], hA.mono (by decide) (by decide)⟩
  · rw [if_pos hv]
    have hV := hM.2.1 k.toNat (by omega)
    have hGV := hM.2.2.1 l.toNat (by omega)
    have hn24 := rowS_24 hV hGV
    have hn := hL.1
    have hr : ∀ j, j < (rowS (wvD d k.toNat) (gvD d l.toNat)).length → d1 277 j = rB (wvD d k.toNat) (gvD d l.toNat) j := fun j hj => (hL.2 j hj).1
    have hA : Ag drC drG d d1 := hA.mono (by decide) (by decide)
    unfold qDrawn
    clear hL hS
    generalize (rowS (wvD d k.toNat) (gvD d l.toNat)).length = n at *
    generalize wvD d k.toNat = w at *
    generalize gvD d l.toNat = g at *
    have h56 : (0 ≤ m ∧ m ≤ 40) → ((0 ≤ y ∧ y ≤ 1) ∨ (10 ≤ y ∧ y ≤ 14) ∨ 20 ≤ y ∧ y ≤ 24) → tB G mX12_drawn 56 [vR 271, vI k, vI l, vI x, vI m, vI y, vU 0, vU 0, vU 0, vU 0, vU 0, vU 0] [] d1 (qQ d (if ¬ (0 ≤ m ∧ m ≤ 40) then -1 else if ¬ ((0 ≤ y ∧ y ≤ 1) ∨ (10 ≤ y ∧ y ≤ 14) ∨ 20 ≤ y ∧ y ≤ 24) then -1 else qDr w g n x m.toNat y) drC drG) := by
      intro hm hy
      rw [if_neg (fun z => z hm), if_neg (fun z => z hy)]
      obtain ⟨m, rfl⟩ : ∃ a2 : Nat, m = (a2 : Int) := ⟨m.toNat, by omega⟩
      rw [Int.toNat_natCast]
      refine T_aload_n dX12_drawn_56 rfl ?_
      refine T_iload_n dX12_drawn_57 rfl ?_
      refine T_putI dX12_drawn_58 fX12_358 rfl k271 ?_
      refine T_iconst dX12_drawn_61 (by decide) ?_
      refine T_ist dX12_drawn_62 (by decide) rfl ?_
      refine T_iconst dX12_drawn_64 (by decide) ?_
      refine T_ist dX12_drawn_65 (by decide) rfl ?_
      refine T_iconst dX12_drawn_67 (by decide) ?_
      refine T_ist dX12_drawn_68 (by decide) rfl ?_
      have h70 : ∀ i : Nat, i ≤ 10 → tB G mX12_drawn 70 [vR 271, vI k, vI l, vI x, vI m, vI y, vI 0, vI 0, vI i, vU 0, vU 0, vU 0] [] (ups (up d1 271 33 x) 293 0 i (fun _ => 0)) (qQ d (qDr w g n x m y) drC drG) := by
        refine T_loop (α := Nat) 70 (fun i => [vR 271, vI k, vI l, vI x, vI m, vI y, vI 0, vI 0, vI i, vU 0, vU 0, vU 0]) (fun i => ups (up d1 271 33 x) 293 0 i (fun _ => 0)) (fun i => i ≤ 10) (fun i => 10 - i) ?_
        intro i hi ih0
        try dsimp only at ih0 ⊢
        refine T_iload dX12_drawn_70 rfl ?_
        refine T_bipush dX12_drawn_72 (by decide) ?_
        refine T_icmp_ge (tgt := 91) dX12_drawn_74 (by decide) (fun c74 => ?_) (fun c74 => ?_)
        · refine T_iconst dX12_drawn_91 (by decide) ?_
          refine T_ist dX12_drawn_92 (by decide) rfl ?_
          obtain rfl : i = 10 := by omega
          have h94 : ∀ z : Nat × sD, (z.1 ≤ m ∧ Ag drI [33] d1 z.2 ∧ z.2 271 33 = (drE w g n x z.1).1.1 ∧ ∀ i, i < 10 → z.2 293 i = (drE w g n x z.1).2.2 i) → tB G mX12_drawn 94 [vR 271, vI k, vI l, vI x, vI m, vI y, vI (drE w g n x z.1).1.2, vI (drE w g n x z.1).2.1, vI z.1, vU 0, vU 0, vU 0] [] z.2 (qQ d (qDr w g n x m y) drC drG) := by
            refine T_loop (α := Nat × sD) 94 (fun z => [vR 271, vI k, vI l, vI x, vI m, vI y, vI (drE w g n x z.1).1.2, vI (drE w g n x z.1).2.1, vI z.1, vU 0, vU 0, vU 0]) (fun z => z.2) (fun z => z.1 ≤ m ∧ Ag drI [33] d1 z.2 ∧ z.2 271 33 = (drE w g n x z.1).1.1 ∧ ∀ i, i < 10 → z.2 293 i = (drE w g n x z.1).2.2 i) (fun z => m - z.1) ?_
            rintro ⟨e, e0⟩ ⟨he, hAe, he33, he293⟩ ih
            try dsimp only at he hAe he33 he293 ih ⊢
            have hpr := drE_rg (g := g) hV hn24 (x := x) e
            generalize hp : drE w g n x e = p at hpr he33 he293 ⊢
            refine T_iload dX12_drawn_94 rfl ?_
            refine T_iload dX12_drawn_96 rfl ?_
            refine T_icmp_ge (tgt := 254) dX12_drawn_98 (by decide) (fun c98 => ?_) (fun c98 => ?_)
            · refine T_iload dX12_drawn_254 rfl ?_
              refine T_if_ne (tgt := 264) dX12_drawn_256 (by decide) (fun c256 => ?_) (fun c256 => ?_)
              · refine T_iload dX12_drawn_264 rfl ?_
                refine T_iconst dX12_drawn_266 (by decide) ?_
                refine T_icmp_ne (tgt := 275) dX12_drawn_267 (by decide) (fun c267 => ?_) (fun c267 => ?_)
                · refine T_aload_n dX12_drawn_275 rfl ?_
                  refine T_getR dX12_drawn_276 fX12_74 rfl k271 r271_34 ?_
                  refine T_iconst dX12_drawn_279 (by decide) ?_
                  refine T_iload dX12_drawn_280 rfl ?_
                  refine T_bipush dX12_drawn_282 (by decide) ?_
                  refine T_div dX12_drawn_284 (by omega) (by omega) ?_
                  refine T_iconst dX12_drawn_285 (by decide) ?_
                  refine T_sub dX12_drawn_286 (by omega) ?_
                  refine T_mul dX12_drawn_287 (by omega) ?_
                  refine T_iload dX12_drawn_288 rfl ?_
                  refine T_bipush dX12_drawn_290 (by decide) ?_
                  refine T_rem dX12_drawn_292 (by omega) (by omega) ?_
                  refine T_add dX12_drawn_293 (by omega) ?_
                  refine T_ialdv dX12_drawn_294 k293 l293 (by omega) (j := (5 * (y / 10 - 1) + y % 10).toNat) rfl (x := p.2.2 (5 * (y / 10 - 1) + y % 10).toNat) (he293 _ (by omega)) ?_
                  exact T_ireturn dX12_drawn_295 rfl ⟨by unfold qDr; rw [show m = e by omega, hp, if_neg c256, if_neg c267], hA.trans hAe (by decide) (by decide) (by decide) (by decide)⟩
                · refine T_iload dX12_drawn_270 rfl ?_
                  refine T_goto (tgt := 295) dX12_drawn_272 (by decide) ?_
                  exact T_ireturn dX12_drawn_295 rfl ⟨by unfold qDr; rw [show m = e by omega, hp, if_neg c256, if_pos c267], hA.trans hAe (by decide) (by decide) (by decide) (by decide)⟩
              · refine T_iload dX12_drawn_259 rfl ?_
                refine T_goto (tgt := 295) dX12_drawn_261 (by decide) ?_
                exact T_ireturn dX12_drawn_295 rfl ⟨by unfold qDr; rw [show m = e by omega, hp, if_pos c256], hA.trans hAe (by decide) (by decide) (by decide) (by decide)⟩
            · refine T_iconst dX12_drawn_101 (by decide) ?_
              refine T_ist dX12_drawn_102 (by decide) rfl ?_
              refine T_iconst dX12_drawn_104 (by decide) ?_
              refine T_ist dX12_drawn_105 (by decide) rfl ?_
              have h107 : ∀ z : Nat × sD, (z.1 ≤ n ∧ Ag [] [33] e0 z.2 ∧ z.2 271 33 = (drM p.1.1 z.1).1) → tB G mX12_drawn 107 [vR 271, vI k, vI l, vI x, vI m, vI y, vI p.1.2, vI p.2.1, vI e, vI (drM p.1.1 z.1).2, vI z.1, vU 0] [] z.2 (qQ d (qDr w g n x m y) drC drG) := by
                refine T_loop (α := Nat × sD) 107 (fun z => [vR 271, vI k, vI l, vI x, vI m, vI y, vI p.1.2, vI p.2.1, vI e, vI (drM p.1.1 z.1).2, vI z.1, vU 0]) (fun z => z.2) (fun z => z.1 ≤ n ∧ Ag [] [33] e0 z.2 ∧ z.2 271 33 = (drM p.1.1 z.1).1) (fun z => n - z.1) ?_
                rintro ⟨i, e1⟩ ⟨hi, hAz, hz33⟩ ih1
                try dsimp only at hi hAz hz33 ih1 ⊢
                have hn1 : e1 271 18 = (n : Int) := (hAz.2 18 (by decide)).trans ((hAe.2 18 (by decide)).trans hn)
                have h135 : ∀ v : Int, v = (if rnB (drM p.1.1 i).1 = 0 then i_shl 1 i else 0) → i < n → tB G mX12_drawn 135 [vR 271, vI k, vI l, vI x, vI m, vI y, vI p.1.2, vI p.2.1, vI e, vI (drM p.1.1 i).2, vI i, vU 0] [vI v, vI (drM p.1.1 i).2] (up e1 271 33 (rnX (drM p.1.1 i).1)) (qQ d (qDr w g n x m y) drC drG) := by
                  rintro _ rfl hlt
                  refine T_ior dX12_drawn_135 ?_
                  refine T_ist dX12_drawn_136 (by decide) rfl ?_
                  refine T_inc dX12_drawn_138 rfl (by decide) rfl (by omega) ?_
                  refine T_goto (tgt := 107) dX12_drawn_141 (by decide) ?_
                  exact ih1 (i + 1, up e1 271 33 (rnX (drM p.1.1 i).1)) ⟨by omega, Ag_upf hAz (by decide), by dsimp only; rw [up_same]; rfl⟩ (by omega)
                refine T_iload dX12_drawn_107 rfl ?_
                refine T_aload_n dX12_drawn_109 rfl ?_
                refine T_getIv dX12_drawn_110 fX12_243 rfl k271 (x := (n : Int)) hn1 ?_
                refine T_icmp_ge (tgt := 144) dX12_drawn_113 (by decide) (fun c113 => ?_) (fun c113 => ?_)
                · obtain rfl : n = i := by omega
                  generalize hmk : (drM p.1.1 n).2 = mk
                  have hW1 : Wd e1 w := Wd_ag (Wd_ag hW hAe (by decide) (by decide)) hAz (by decide) (by decide)
                  have hr1 : ∀ j, j < n → e1 277 j = rB w g j := fun j hj => by rw [hAz.1 277 j (by decide) (by decide), hAe.1 277 j (by decide) (by decide)]; exact hr j hj
                  refine T_aload_n dX12_drawn_144 rfl ?_
                  refine T_iload dX12_drawn_145 rfl ?_
                  refine T_callV dX12_drawn_147 lX12_252 (As := [_]) (rest := _) rfl rfl k271 (by decide) (Nat.le_of_ble_eq_true rfl) (Nat.le_of_ble_eq_true rfl) (t_playsS (t := brB w g mk) hW1 hV hn1 hn24 (fun j hj => by rw [hr1 j hj]; exact rB_rg hGV j) (fun j hj => by unfold trM brB; rw [hr1 j hj])) ?_
                  rintro _ e2 ⟨rfl, hS2, hA2⟩
                  have hW2 := Wd_ag hW1 hA2 (by decide) (by decide)
                  have hs2 : ∀ j, j < n → e2 279 j = bsS w g n mk j := fun j hj => by rw [(hS2 j hj).1]; show _ = if _ then _ else _; rw [if_pos hj]
                  refine T_iload dX12_drawn_150 rfl ?_
                  refine T_aload_n dX12_drawn_152 rfl ?_
                  refine T_callV dX12_drawn_153 lX12_291 (As := []) (rest := _) rfl rfl k271 (by decide) (Nat.le_of_ble_eq_true rfl) (Nat.le_of_ble_eq_true rfl) (t_meeting hW2 hV ((hA2.2 18 (by decide)).trans hn1) hn24) ?_
                  rintro _ e3 ⟨rfl, hA3, dn0, dn1, hK0, hK1⟩
                  have hml : ∀ a, a < 2 → (mkS w (e2 279) n a 24 0).1 = drL w g n mk a := fun a ha => by rw [mkS_congr hV ha hs2]
                  rw [hml 0 (by decide)] at hK0
                  rw [hml 1 (by decide)] at hK1
                  rw [hml 0 (by decide), hml 1 (by decide)]
                  have hO : ∀ a, a < 2 → MlOk w n a (drL w g n mk a) := fun a ha => mkS_MlOk hV ha hn24
                  have hO0 := (hO 0 (by decide)).1
                  have hO1 := (hO 1 (by decide)).1
                  have hMk : ∀ a, a < 2 → ∃ dn, Mk e3 w a (drL w g n mk a) dn := fun a ha => by
                    rcases (show a = 0 ∨ a = 1 by omega) with rfl | rfl
                    · exact ⟨dn0, hK0⟩
                    · exact ⟨dn1, hK1⟩
                  have h33 : e3 271 33 = (drM p.1.1 n).1 := by rw [hA3.2 33 (by decide), hA2.2 33 (by decide)]; exact hz33
                  have h293 : ∀ i, i < 10 → e3 293 i = p.2.2 i := fun i hi => by rw [hA3.1 293 i (by decide) (by decide), hA2.1 293 i (by decide) (by decide), hAz.1 293 i (by decide) (by decide)]; exact he293 i hi
                  have hA3 : Ag drI [33] d1 e3 := ((hAe.trans hAz (cs := drI) (fs := [33]) (by decide) (by decide) (by decide) (by decide)).trans hA2 (cs := drI) (fs := [33]) (by decide) (by decide) (by decide) (by decide)).trans hA3 (by decide) (by decide) (by decide) (by decide)
                  have hpS : drE w g n x (e + 1) = (((drM p.1.1 n).1, p.1.2 + bI (maP w (drL w g n mk 0) (drL w g n mk 1))), p.2.1 + bI (¬ mtS w (drL w g n mk 0) (drL w g n mk 1) = -1), ofA w (drL w g n mk) p.2.2 2) := by rw [show drE w g n x (e + 1) = drS w g n (drE w g n x e) from rfl, hp]; unfold drS; rw [hmk]
                  generalize drL w g n mk = ML at *
                  have h182 : ∀ v : Int, v = bI (maP w (ML 0) (ML 1)) → tB G mX12_drawn 182 [vR 271, vI k, vI l, vI x, vI m, vI y, vI p.1.2, vI (p.2.1 + bI (¬ mtS w (ML 0) (ML 1) = -1)), vI e, vI mk, vI n, vU 0] [vI v, vI p.1.2] e3 (qQ d (qDr w g n x m y) drC drG) := by
                    rintro v hvv
                    have hv01 : v = 0 ∨ v = 1 := by rw [hvv]; exact bI_01 _
                    refine T_add dX12_drawn_182 (by omega) ?_
                    refine T_ist dX12_drawn_183 (by decide) rfl ?_
                    refine T_iconst dX12_drawn_185 (by decide) ?_
                    refine T_ist dX12_drawn_186 (by decide) rfl ?_
                    rw [hvv]
                    have h188 : ∀ z : Nat × sD, (z.1 ≤ 2 ∧ Ag [293] [] e3 z.2 ∧ ∀ i, i < 10 → z.2 293 i = ofA w ML p.2.2 z.1 i) → tB G mX12_drawn 188 [vR 271, vI k, vI l, vI x, vI m, vI y, vI (p.1.2 + bI (maP w (ML 0) (ML 1))), vI (p.2.1 + bI (¬ mtS w (ML 0) (ML 1) = -1)), vI e, vI mk, vI z.1, vU 0] [] z.2 (qQ d (qDr w g n x m y) drC drG) := by
                      refine T_loop (α := Nat × sD) 188 (fun z => [vR 271, vI k, vI l, vI x, vI m, vI y, vI (p.1.2 + bI (maP w (ML 0) (ML 1))), vI (p.2.1 + bI (¬ mtS w (ML 0) (ML 1) = -1)), vI e, vI mk, vI z.1, vU 0]) (fun z => z.2) (fun z => z.1 ≤ 2 ∧ Ag [293] [] e3 z.2 ∧ ∀ i, i < 10 → z.2 293 i = ofA w ML p.2.2 z.1 i) (fun z => 2 - z.1) ?_
                      rintro ⟨a, f0⟩ ⟨ha, hAf0, hf0⟩ ih2
                      try dsimp only at ha hAf0 hf0 ih2 ⊢
                      refine T_iload dX12_drawn_188 rfl ?_
                      refine T_iconst dX12_drawn_190 (by decide) ?_
                      refine T_icmp_ge (tgt := 248) dX12_drawn_191 (by decide) (fun c191 => ?_) (fun c191 => ?_)
                      · refine T_inc dX12_drawn_248 rfl (by decide) rfl (by omega) ?_
                        refine T_goto (tgt := 94) dX12_drawn_251 (by decide) ?_
                        obtain rfl : a = 2 := by omega
                        have hih := ih (e + 1, f0) ⟨by omega, hA3.trans hAf0 (by decide) (by decide) (by decide) (by decide), by dsimp only; rw [hAf0.2 33 (by decide), h33, hpS], by dsimp only; rw [hpS]; exact hf0⟩ (by omega)
                        dsimp only at hih
                        rw [hpS] at hih
                        exact T_drop 9 (T_drop 10 (T_drop 11 hih))
                      · have ha2 : a < 2 := by omega
                        obtain ⟨dna, hMk⟩ := hMk a ha2
                        refine T_iconst dX12_drawn_194 (by decide) ?_
                        refine T_ist dX12_drawn_195 (by decide) rfl ?_
                        have h197 : ∀ z : Nat × sD, (z.1 ≤ (ML a).length ∧ Ag [293] [] e3 z.2 ∧ ∀ i, i < 10 → z.2 293 i = ofJ w a (ML a) (ofA w ML p.2.2 a) z.1 i) → tB G mX12_drawn 197 [vR 271, vI k, vI l, vI x, vI m, vI y, vI (p.1.2 + bI (maP w (ML 0) (ML 1))), vI (p.2.1 + bI (¬ mtS w (ML 0) (ML 1) = -1)), vI e, vI mk, vI a, vI z.1] [] z.2 (qQ d (qDr w g n x m y) drC drG) := by
                          refine T_loop (α := Nat × sD) 197 (fun z => [vR 271, vI k, vI l, vI x, vI m, vI y, vI (p.1.2 + bI (maP w (ML 0) (ML 1))), vI (p.2.1 + bI (¬ mtS w (ML 0) (ML 1) = -1)), vI e, vI mk, vI a, vI z.1]) (fun z => z.2) (fun z => z.1 ≤ (ML a).length ∧ Ag [293] [] e3 z.2 ∧ ∀ i, i < 10 → z.2 293 i = ofJ w a (ML a) (ofA w ML p.2.2 a) z.1 i) (fun z => (ML a).length - z.1) ?_
                          rintro ⟨j, f⟩ ⟨hj, hAf, hfi⟩ ih3
                          try dsimp only at hj hAf hfi ih3 ⊢
                          refine T_iload dX12_drawn_197 rfl ?_
                          refine T_aload_n dX12_drawn_199 rfl ?_
                          refine T_getR dX12_drawn_200 fX12_47 rfl k271 r271_22 ?_
                          refine T_iload dX12_drawn_203 rfl ?_
                          refine T_ialdv dX12_drawn_205 k284 l284 (by omega) (j := a) rfl (x := ((ML a).length : Int)) ((hAf.1 284 a (by decide) (by decide)).trans hMk.1) ?_
                          refine T_icmp_ge (tgt := 242) dX12_drawn_206 (by decide) (fun c206 => ?_) (fun c206 => ?_)
                          · refine T_inc dX12_drawn_242 rfl (by decide) rfl (by omega) ?_
                            refine T_goto (tgt := 188) dX12_drawn_245 (by decide) ?_
                            obtain rfl : j = (ML a).length := by omega
                            exact T_drop 11 (ih2 (a + 1, f) ⟨by omega, hAf, hfi⟩ (by omega))
                          · have hmv := (hV.2.2.2.2.2 a _ ha2 ((hO a ha2).2 j (by omega)).1).1
                            obtain ⟨mv, hmv2⟩ : ∃ mv : Nat, w (17 + 36 * a + 6 * ((ML a).getD j (0, 0)).1) = (mv : Int) := ⟨(w (17 + 36 * a + 6 * ((ML a).getD j (0, 0)).1)).toNat, by omega⟩
                            have hof := ofJ_rg (w := w) (a := a) (ml := ML a) (T := ofA w ML p.2.2 a) (i := 5 * a + mv) j
                            have hoa := ofA_rg (w := w) (T := p.2.2) (fun a ha => (hO a ha).1) (i := 5 * a + mv) a (by omega)
                            have hpb := hpr.2.2 (5 * a + mv)
                            have hl24 := (hO a ha2).1
                            refine T_aload_n dX12_drawn_209 rfl ?_
                            refine T_getR dX12_drawn_210 fX12_74 rfl k271 r271_34 ?_
                            refine T_iconst dX12_drawn_213 (by decide) ?_
                            refine T_iload dX12_drawn_214 rfl ?_
                            refine T_mul dX12_drawn_216 (by omega) ?_
                            refine T_aload_n dX12_drawn_217 rfl ?_
                            refine T_getR dX12_drawn_218 fX12_38 rfl k271 r271_19 ?_
                            refine T_bipush dX12_drawn_221 (by decide) ?_
                            refine T_iload dX12_drawn_223 rfl ?_
                            refine T_mul dX12_drawn_225 (by omega) ?_
                            refine T_iload dX12_drawn_226 rfl ?_
                            refine T_add dX12_drawn_228 (by omega) ?_
                            refine T_ialdv dX12_drawn_229 k281 l281 (by omega) (j := 24 * a + j) (by omega) (x := (mv : Int)) ((hAf.1 281 _ (by decide) (by decide)).trans ((hMk.2.2 j (by omega)).1.trans hmv2)) ?_
                            refine T_add dX12_drawn_230 (by omega) ?_
                            refine T_dup2 dX12_drawn_231 rfl rfl ?_
                            refine T_ialdv dX12_drawn_232 k293 l293 (by omega) (j := 5 * a + mv) (by omega) (x := ofJ w a (ML a) (ofA w ML p.2.2 a) j (5 * a + mv)) (hfi _ (by omega)) ?_
                            refine T_iconst dX12_drawn_233 (by decide) ?_
                            refine T_add dX12_drawn_234 (by omega) ?_
                            refine T_iast dX12_drawn_235 k293 l293 (by omega) (j := 5 * a + mv) (by omega) ?_
                            refine T_inc dX12_drawn_236 rfl (by decide) rfl (by omega) ?_
                            refine T_goto (tgt := 197) dX12_drawn_239 (by decide) ?_
                            refine ih3 (j + 1, up f 293 (5 * a + mv) (ofJ w a (ML a) (ofA w ML p.2.2 a) j (5 * a + mv) + 1)) ⟨by omega, Ag_up hAf (by decide), fun i hi => ?_⟩ (by omega)
                            dsimp only
                            rw [show ofJ w a (ML a) (ofA w ML p.2.2 a) (j + 1) i = if i = 5 * a + (w (17 + 36 * a + 6 * ((ML a).getD j (0, 0)).1)).toNat then ofJ w a (ML a) (ofA w ML p.2.2 a) j i + 1 else ofJ w a (ML a) (ofA w ML p.2.2 a) j i from rfl, hmv2, Int.toNat_natCast]
                            by_cases q : i = 5 * a + mv
                            · rw [if_pos q, q, up_same]
                            · rw [if_neg q, up_nej q]; exact hfi i hi
                        exact h197 (0, f0) ⟨Nat.zero_le _, hAf0, hf0⟩
                    exact h188 (0, e3) ⟨Nat.zero_le _, Ag.rf, h293⟩
                  have h165 : ∀ v : Int, v = bI (¬ mtS w (ML 0) (ML 1) = -1) → tB G mX12_drawn 165 [vR 271, vI k, vI l, vI x, vI m, vI y, vI p.1.2, vI p.2.1, vI e, vI mk, vI n, vU 0] [vI v, vI p.2.1] e3 (qQ d (qDr w g n x m y) drC drG) := by
                    rintro v hvv
                    have hv01 : v = 0 ∨ v = 1 := by rw [hvv]; exact bI_01 _
                    refine T_add dX12_drawn_165 (by omega) ?_
                    rw [hvv]
                    refine T_ist dX12_drawn_166 (by decide) rfl ?_
                    refine T_iload dX12_drawn_168 rfl ?_
                    refine T_aload_n dX12_drawn_170 rfl ?_
                    refine T_callV dX12_drawn_171 lX12_365 (As := []) (rest := _) rfl rfl k271 (by decide) (Nat.le_of_ble_eq_true rfl) (Nat.le_of_ble_eq_true rfl) (t_madeAlike hK0 hK1 hO0 hO1) ?_
                    rintro _ _ ⟨rfl, rfl⟩
                    refine T_if_eq (tgt := 181) dX12_drawn_174 (by decide) (fun c174 => ?_) (fun c174 => ?_)
                    · refine T_iconst dX12_drawn_181 (by decide) ?_
                      exact h182 0 (bI_f (bI_0 c174)).symm
                    · refine T_iconst dX12_drawn_177 (by decide) ?_
                      refine T_goto (tgt := 182) dX12_drawn_178 (by decide) ?_
                      exact h182 1 (bI_t (bI_1 c174)).symm
                  refine T_iconst dX12_drawn_156 (by decide) ?_
                  refine T_icmp_ne (tgt := 164) dX12_drawn_157 (by decide) (fun c157 => ?_) (fun c157 => ?_)
                  · refine T_iconst dX12_drawn_164 (by decide) ?_
                    exact h165 1 (bI_t c157).symm
                  · refine T_iconst dX12_drawn_160 (by decide) ?_
                    refine T_goto (tgt := 165) dX12_drawn_161 (by decide) ?_
                    exact h165 0 (bI_f (fun z => z c157)).symm
                · refine T_iload dX12_drawn_116 rfl ?_
                  refine T_aload_n dX12_drawn_118 rfl ?_
                  refine T_bipush dX12_drawn_119 (by decide) ?_
                  refine T_callV dX12_drawn_121 lX12_362 (As := [_]) (rest := _) rfl rfl k271 (by decide) (Nat.le_of_ble_eq_true rfl) (Nat.le_of_ble_eq_true rfl) t_below ?_
                  rintro _ _ ⟨rfl, rfl⟩
                  rw [hz33]
                  refine T_if_ne (tgt := 134) dX12_drawn_124 (by decide) (fun c124 => ?_) (fun c124 => ?_)
                  · refine T_iconst dX12_drawn_134 (by decide) ?_
                    exact h135 _ (by rw [if_neg c124]) (by omega)
                  · refine T_iconst dX12_drawn_127 (by decide) ?_
                    refine T_iload dX12_drawn_128 rfl ?_
                    refine T_ishl dX12_drawn_130 ?_
                    refine T_goto (tgt := 135) dX12_drawn_131 (by decide) ?_
                    exact h135 _ (by rw [if_pos c124]) (by omega)
              exact h107 (0, e0) ⟨Nat.zero_le _, Ag.rf, he33⟩
          refine h94 (0, ups (up d1 271 33 x) 293 0 10 (fun _ => 0)) ⟨Nat.zero_le _, Ag_ups (Ag_upf Ag.rf (by decide)) (by decide), ?_, fun i hi => by dsimp only; rw [ups_in (by omega)]; rfl⟩
          dsimp only
          rw [ups_nea (by decide), up_same]; rfl
        · refine T_aload_n dX12_drawn_77 rfl ?_
          refine T_getR dX12_drawn_78 fX12_74 rfl k271 r271_34 ?_
          refine T_iload dX12_drawn_81 rfl ?_
          refine T_iconst dX12_drawn_83 (by decide) ?_
          refine T_iast dX12_drawn_84 k293 l293 (by omega) (j := i) rfl ?_
          refine T_inc dX12_drawn_85 rfl (by decide) rfl (by omega) ?_
          refine T_goto (tgt := 70) dX12_drawn_88 (by decide) ?_
          exact T_eq (ups_push (Nat.zero_le _) rfl) (ih0 (i + 1) (by omega) (by omega))
      exact T_eq ups_nil.symm (h70 0 (Nat.zero_le _))
    refine T_if_eq (tgt := 54) dX12_drawn_6 (by decide) (fun c6 => absurd c6 (by decide)) (fun c6 => ?_)
    refine T_iload dX12_drawn_9 rfl ?_
    refine T_iconst dX12_drawn_11 (by decide) ?_
    refine T_bipush dX12_drawn_12 (by decide) ?_
    refine T_callS dX12_drawn_14 lX12_145 (As := [_, _, _]) (rest := _) rfl rfl (by decide) (Nat.le_of_ble_eq_true rfl) (Nat.le_of_ble_eq_true rfl) t_X12_isIn ?_
    rintro _ _ ⟨rfl, rfl⟩
    refine T_if_eq (tgt := 54) dX12_drawn_17 (by decide) (fun c17 => ?_) (fun c17 => ?_)
    · refine T_iconst dX12_drawn_54 (by decide) ?_
      exact T_ireturn dX12_drawn_55 rfl ⟨by rw [if_pos (bI_0 c17)], hA⟩
    · refine T_iload dX12_drawn_20 rfl ?_
      refine T_iconst dX12_drawn_22 (by decide) ?_
      refine T_iconst dX12_drawn_23 (by decide) ?_
      refine T_callS dX12_drawn_24 lX12_145 (As := [_, _, _]) (rest := _) rfl rfl (by decide) (Nat.le_of_ble_eq_true rfl) (Nat.le_of_ble_eq_true rfl) t_X12_isIn ?_
      rintro _ _ ⟨rfl, rfl⟩
      refine T_if_ne (tgt := 56) dX12_drawn_27 (by decide) (fun c27 => ?_) (fun c27 => ?_)
      · exact h56 (bI_1 c17) (Or.inl (bI_1 c27))
      · refine T_iload dX12_drawn_30 rfl ?_
        refine T_bipush dX12_drawn_32 (by decide) ?_
        refine T_bipush dX12_drawn_34 (by decide) ?_
        refine T_callS dX12_drawn_36 lX12_145 (As := [_, _, _]) (rest := _) rfl rfl (by decide) (Nat.le_of_ble_eq_true rfl) (Nat.le_of_ble_eq_true rfl) t_X12_isIn ?_
        rintro _ _ ⟨rfl, rfl⟩
        refine T_if_ne (tgt := 56) dX12_drawn_39 (by decide) (fun c39 => ?_) (fun c39 => ?_)
        · exact h56 (bI_1 c17) (Or.inr (Or.inl (bI_1 c39)))
        · refine T_iload dX12_drawn_42 rfl ?_
          refine T_bipush dX12_drawn_44 (by decide) ?_
          refine T_bipush dX12_drawn_46 (by decide) ?_
          refine T_callS dX12_drawn_48 lX12_145 (As := [_, _, _]) (rest := _) rfl rfl (by decide) (Nat.le_of_ble_eq_true rfl) (Nat.le_of_ble_eq_true rfl) t_X12_isIn ?_
          rintro _ _ ⟨rfl, rfl⟩
          refine T_if_ne (tgt := 56) dX12_drawn_51 (by decide) (fun c51 => ?_) (fun c51 => ?_)
          · exact h56 (bI_1 c17) (Or.inr (Or.inr (bI_1 c51)))
          · refine T_iconst dX12_drawn_54 (by decide) ?_
            exact T_ireturn dX12_drawn_55 rfl ⟨by rw [if_neg (fun z => z (bI_1 c17)), if_pos (fun z => z.elim (bI_0 c27) (fun z => z.elim (bI_0 c39) (bI_0 c51)))], hA⟩

end M33
