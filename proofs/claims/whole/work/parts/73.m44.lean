/-! the reference: the next token -/
section M44
variable {G : sG} {d : sD} {T : Nat → Int} {n B : Nat}
theorem ad198 (hT : Tp d n T) (hl : dtP T B) (hB : B ≤ n) {c : Int} : ∀ z : Nat × sD, (Ag [] [3, 4, 6] d z.2 ∧ (z.2 271 3 = ((B + z.1 : Nat) : Int) ∧ z.2 271 4 = (B : Int) ∧ z.2 271 6 = nuN T B (min z.1 2)) ∧ (∀ j, j < z.1 → dtP T (B + j)) ∧ B + z.1 ≤ n ∧ runE (dtP T) (n - (B + z.1)) (B + z.1) = enG T n B) → tB G mX12_advance 198 [vR 271, vI c, vU 0, vU 0] [] z.2 (adQ d T n B) := by
  refine T_loop (α := Nat × sD) 198 (fun z => [vR 271, vI c, vU 0, vU 0]) (fun z => z.2) (fun z => Ag [] [3, 4, 6] d z.2 ∧ (z.2 271 3 = ((B + z.1 : Nat) : Int) ∧ z.2 271 4 = (B : Int) ∧ z.2 271 6 = nuN T B (min z.1 2)) ∧ (∀ j, j < z.1 → dtP T (B + j)) ∧ B + z.1 ≤ n ∧ runE (dtP T) (n - (B + z.1)) (B + z.1) = enG T n B) (fun z => n - z.1) ?_
  rintro ⟨k, e⟩ ⟨hA, ⟨h3, h4, h6⟩, hrun, hkn, hen⟩ ih
  try dsimp only at hA h3 h4 h6 hrun hkn hen ih ⊢
  have hTe := Tp_ag hT hA (by decide) (by decide)
  have hn6 := hT.2.1
  have hnu := nuN_rg (T := T) (i := B) (min k 2) (fun j hj => hrun j (by omega)) (by omega)
  have h248 : ∀ e2 : sD, Ag [] [3, 4, 6] d e2 → (e2 271 3 = ((B + k : Nat) : Int) ∧ e2 271 4 = (B : Int) ∧ e2 271 6 = nuN T B (min (k + 1) 2)) → dtP T (B + k) → tB G mX12_advance 248 [vR 271, vI c, vU 0, vU 0] [] e2 (adQ d T n B) := by
    rintro e2 hA2 ⟨g3, g4, g6⟩ hlk
    have hlt : B + k < n := by
      rcases Nat.lt_or_ge (B + k) n with q | q
      · exact q
      · have := hT.2.2.2.2 (B + k) q; omega
    refine T_aload_n dX12_advance_248 rfl ?_
    refine T_dup dX12_advance_249 rfl ?_
    refine T_getIv dX12_advance_250 fX12_105 rfl k271 (x := ((B + k : Nat) : Int)) g3 ?_
    refine T_iconst dX12_advance_253 (by decide) ?_
    refine T_add dX12_advance_254 (by omega) ?_
    refine T_putI dX12_advance_255 fX12_105 rfl k271 ?_
    refine T_goto (tgt := 198) dX12_advance_258 (by decide) ?_
    refine ih (k + 1, up e2 271 3 (((B + k : Nat) : Int) + 1)) ⟨Ag_upf hA2 (by decide), ⟨by dsimp only; rw [up_same]; omega, by dsimp only; rw [up_nej (by decide)]; exact g4, by dsimp only; rw [up_nej (by decide)]; exact g6⟩, fun j hj => ?_, by dsimp only; omega, ?_⟩ (by dsimp only; omega)
    · dsimp only at hj
      rcases (show j < k ∨ j = k by omega) with z | rfl
      · exact hrun j z
      · exact hlk
    · dsimp only
      rw [← hen, runE_y hlk (by omega)]; rfl
  have hneg : ¬ T B < 0 := by have := hl.1; omega
  have hnlt : ¬ ltP T B := fun z => by have := hl.2; have := z.1; omega
  have hfin : enG T n B = B + k → ∀ t : Int, t = kdT T n B → adQ d T n B none (up e 271 5 t) := by
    rintro hE _ rfl
    refine ⟨rfl, ⟨by rw [up_nej (by decide)]; exact h4, ?_, up_same⟩, ⟨?_, ?_⟩, Ag_upf (hA.mono (by decide) (by decide)) (by decide)⟩
    · rw [up_nej (by decide), h3]; unfold nxT; rw [if_neg hneg, if_neg hnlt, if_pos hl, hE]
    · rw [up_nej (by decide), h6]; unfold nuT; rw [if_pos ⟨hneg, hnlt, hl⟩, hE, show B + k - B = k by omega]
    · rw [up_nej (by decide), hA.2 7 (by decide)]; unfold wrT; rw [if_neg (fun z => hnlt z.2)]
  refine T_aload_n dX12_advance_198 rfl ?_
  refine T_aload_n dX12_advance_199 rfl ?_
  refine T_getIv dX12_advance_200 fX12_105 rfl k271 (x := ((B + k : Nat) : Int)) h3 ?_
  refine T_callV dX12_advance_203 lX12_108 (As := [_]) (rest := _) rfl rfl k271 (by decide) (Nat.le_of_ble_eq_true rfl) (Nat.le_of_ble_eq_true rfl) (t_byteT hTe) ?_
  rintro _ _ ⟨rfl, rfl⟩
  refine T_callS dX12_advance_206 lX12_132 (As := [_]) (rest := _) rfl rfl (by decide) (Nat.le_of_ble_eq_true rfl) (Nat.le_of_ble_eq_true rfl) t_X12_isDigit ?_
  rintro _ _ ⟨rfl, rfl⟩
  refine T_if_eq (tgt := 261) dX12_advance_209 (by decide) (fun c209 => ?_) (fun c209 => ?_)
  · have hnl : ¬ dtP T (B + k) := bI_0 c209
    have hE : enG T n B = B + k := by rw [← hen]; exact runE_n hnl
    have hEk : enG T n B - B = k := by omega
    refine T_aload_n dX12_advance_261 rfl ?_
    refine T_aload_n dX12_advance_262 rfl ?_
    refine T_getIv dX12_advance_263 fX12_105 rfl k271 (x := ((B + k : Nat) : Int)) h3 ?_
    refine T_aload_n dX12_advance_266 rfl ?_
    refine T_getIv dX12_advance_267 fX12_112 rfl k271 (x := (B : Int)) h4 ?_
    refine T_sub dX12_advance_270 (by omega) ?_
    refine T_iconst dX12_advance_271 (by decide) ?_
    refine T_icmp_le (tgt := 279) dX12_advance_272 (by decide) (fun c272 => ?_) (fun c272 => ?_)
    · refine T_iconst dX12_advance_279 (by decide) ?_
      refine T_putI dX12_advance_280 fX12_115 rfl k271 ?_
      refine T_goto (tgt := 311) dX12_advance_283 (by decide) ?_
      exact T_return dX12_advance_311 rfl (hfin hE 1 (by unfold kdT; rw [if_neg hneg, if_neg hnlt, if_pos hl, hEk, if_neg (by omega)]))
    · refine T_iconst dX12_advance_275 (by decide) ?_
      refine T_goto (tgt := 280) dX12_advance_276 (by decide) ?_
      refine T_putI dX12_advance_280 fX12_115 rfl k271 ?_
      refine T_goto (tgt := 311) dX12_advance_283 (by decide) ?_
      exact T_return dX12_advance_311 rfl (hfin hE 4 (by unfold kdT; rw [if_neg hneg, if_neg hnlt, if_pos hl, hEk, if_pos (by omega)]))
  · have hlk := bI_1 c209
    refine T_aload_n dX12_advance_212 rfl ?_
    refine T_getIv dX12_advance_213 fX12_105 rfl k271 (x := ((B + k : Nat) : Int)) h3 ?_
    refine T_aload_n dX12_advance_216 rfl ?_
    refine T_getIv dX12_advance_217 fX12_112 rfl k271 (x := (B : Int)) h4 ?_
    refine T_sub dX12_advance_220 (by omega) ?_
    refine T_iconst dX12_advance_221 (by decide) ?_
    refine T_icmp_ge (tgt := 248) dX12_advance_222 (by decide) (fun c222 => ?_) (fun c222 => ?_)
    · exact h248 e hA ⟨h3, h4, by rw [h6, show min (k + 1) 2 = min k 2 by omega]⟩ hlk
    · rw [show min k 2 = k by omega] at hnu
      have hlk2 := hlk.2
      have hlk1 := hlk.1
      refine T_aload_n dX12_advance_225 rfl ?_
      refine T_bipush dX12_advance_226 (by decide) ?_
      refine T_aload_n dX12_advance_228 rfl ?_
      refine T_getIv dX12_advance_229 fX12_135 rfl k271 (x := nuN T B k) (by rw [h6, show min k 2 = k by omega]) ?_
      refine T_mul dX12_advance_232 (by omega) ?_
      refine T_aload_n dX12_advance_233 rfl ?_
      refine T_aload_n dX12_advance_234 rfl ?_
      refine T_getIv dX12_advance_235 fX12_105 rfl k271 (x := ((B + k : Nat) : Int)) h3 ?_
      refine T_callV dX12_advance_238 lX12_108 (As := [_]) (rest := _) rfl rfl k271 (by decide) (Nat.le_of_ble_eq_true rfl) (Nat.le_of_ble_eq_true rfl) (t_byteT hTe) ?_
      rintro _ _ ⟨rfl, rfl⟩
      refine T_add dX12_advance_241 (by omega) ?_
      refine T_bipush dX12_advance_242 (by decide) ?_
      refine T_sub dX12_advance_244 (by omega) ?_
      refine T_putI dX12_advance_245 fX12_135 rfl k271 ?_
      exact h248 _ (Ag_upf hA (by decide)) ⟨by rw [up_nej (by decide)]; exact h3, by rw [up_nej (by decide)]; exact h4, by rw [up_same, show min (k + 1) 2 = k + 1 by omega]; rfl⟩ hlk

theorem t_advance {i : Nat} (hT : Tp d n T) (hi : d 271 3 = (i : Int)) (hin : i ≤ n) : tB G mX12_advance 0 [vR 271, vU 0, vU 0, vU 0] [] d (adQ d T n (bgT T n i)) := by
  have hn6 := hT.2.1
  have h39 : ∀ (B : Nat) (e : sD), Ag [] [3] d e → e 271 3 = (B : Int) → B ≤ n → tB G mX12_advance 39 [vR 271, vU 0, vU 0, vU 0] [] e (adQ d T n B) := by
    intro B e hA h3 hB
    have hA4 : Ag [] [3, 4] d (up e 271 4 (B : Int)) := Ag_upf (hA.mono (by decide) (by decide)) (by decide)
    have hT4 := Tp_ag hT hA4 (by decide) (by decide)
    have g3 : up e 271 4 (B : Int) 271 3 = (B : Int) := by rw [up_nej (by decide)]; exact h3
    have g4 : up e 271 4 (B : Int) 271 4 = (B : Int) := up_same
    have g6 : up e 271 4 (B : Int) 271 6 = d 271 6 := hA4.2 6 (by decide)
    have g7 : up e 271 4 (B : Int) 271 7 = d 271 7 := hA4.2 7 (by decide)
    refine T_aload_n dX12_advance_39 rfl ?_
    refine T_aload_n dX12_advance_40 rfl ?_
    refine T_getIv dX12_advance_41 fX12_105 rfl k271 (x := (B : Int)) h3 ?_
    refine T_putI dX12_advance_44 fX12_112 rfl k271 ?_
    refine T_aload_n dX12_advance_47 rfl ?_
    refine T_aload_n dX12_advance_48 rfl ?_
    refine T_getIv dX12_advance_49 fX12_105 rfl k271 (x := (B : Int)) g3 ?_
    refine T_callV dX12_advance_52 lX12_108 (As := [_]) (rest := _) rfl rfl k271 (by decide) (Nat.le_of_ble_eq_true rfl) (Nat.le_of_ble_eq_true rfl) (t_byteT hT4) ?_
    rintro _ _ ⟨rfl, rfl⟩
    refine T_ist_n dX12_advance_55 (by decide) rfl ?_
    refine T_iload_n dX12_advance_56 rfl ?_
    refine T_if_ge (tgt := 68) dX12_advance_57 (by decide) (fun c57 => ?_) (fun c57 => ?_)
    · refine T_iload_n dX12_advance_68 rfl ?_
      refine T_callS dX12_advance_69 lX12_118 (As := [_]) (rest := _) rfl rfl (by decide) (Nat.le_of_ble_eq_true rfl) (Nat.le_of_ble_eq_true rfl) t_X12_isLetter ?_
      rintro _ _ ⟨rfl, rfl⟩
      refine T_if_eq (tgt := 186) dX12_advance_72 (by decide) (fun c72 => ?_) (fun c72 => ?_)
      · have hnl : ¬ ltP T B := bI_0 c72
        refine T_iload_n dX12_advance_186 rfl ?_
        refine T_callS dX12_advance_187 lX12_132 (As := [_]) (rest := _) rfl rfl (by decide) (Nat.le_of_ble_eq_true rfl) (Nat.le_of_ble_eq_true rfl) t_X12_isDigit ?_
        rintro _ _ ⟨rfl, rfl⟩
        refine T_if_eq (tgt := 286) dX12_advance_190 (by decide) (fun c190 => ?_) (fun c190 => ?_)
        · have hnd : ¬ dtP T B := bI_0 c190
          refine T_aload_n dX12_advance_286 rfl ?_
          refine T_dup dX12_advance_287 rfl ?_
          refine T_getIv dX12_advance_288 fX12_105 rfl k271 (x := (B : Int)) g3 ?_
          refine T_iconst dX12_advance_291 (by decide) ?_
          refine T_add dX12_advance_292 (by omega) ?_
          refine T_putI dX12_advance_293 fX12_105 rfl k271 ?_
          refine T_aload_n dX12_advance_296 rfl ?_
          refine T_iload_n dX12_advance_297 rfl ?_
          refine T_bipush dX12_advance_298 (by decide) ?_
          refine T_icmp_ne (tgt := 307) dX12_advance_300 (by decide) (fun c300 => ?_) (fun c300 => ?_)
          · refine T_iconst dX12_advance_307 (by decide) ?_
            refine T_putI dX12_advance_308 fX12_115 rfl k271 ?_
            exact T_return dX12_advance_311 rfl ⟨rfl, ⟨by rw [up_nej (by decide), up_nej (by decide)]; exact g4, by rw [up_nej (by decide), up_same]; unfold nxT; rw [if_neg (by omega), if_neg hnl, if_neg hnd]; omega, by rw [up_same]; unfold kdT; rw [if_neg (by omega), if_neg hnl, if_neg hnd, if_neg c300]⟩, ⟨by rw [up_nej (by decide), up_nej (by decide), g6]; unfold nuT; rw [if_neg (fun z => hnd z.2.2)], by rw [up_nej (by decide), up_nej (by decide), g7]; unfold wrT; rw [if_neg (fun z => hnl z.2)]⟩, Ag_upf (Ag_upf (hA4.mono (by decide) (by decide)) (by decide)) (by decide)⟩
          · refine T_iconst dX12_advance_303 (by decide) ?_
            refine T_goto (tgt := 308) dX12_advance_304 (by decide) ?_
            refine T_putI dX12_advance_308 fX12_115 rfl k271 ?_
            exact T_return dX12_advance_311 rfl ⟨rfl, ⟨by rw [up_nej (by decide), up_nej (by decide)]; exact g4, by rw [up_nej (by decide), up_same]; unfold nxT; rw [if_neg (by omega), if_neg hnl, if_neg hnd]; omega, by rw [up_same]; unfold kdT; rw [if_neg (by omega), if_neg hnl, if_neg hnd, if_pos c300]⟩, ⟨by rw [up_nej (by decide), up_nej (by decide), g6]; unfold nuT; rw [if_neg (fun z => hnd z.2.2)], by rw [up_nej (by decide), up_nej (by decide), g7]; unfold wrT; rw [if_neg (fun z => hnl z.2)]⟩, Ag_upf (Ag_upf (hA4.mono (by decide) (by decide)) (by decide)) (by decide)⟩
        · refine T_aload_n dX12_advance_193 rfl ?_
          refine T_iconst dX12_advance_194 (by decide) ?_
          refine T_putI dX12_advance_195 fX12_135 rfl k271 ?_
          exact ad198 (G := G) hT (bI_1 c190) hB (0, up (up e 271 4 (B : Int)) 271 6 0) ⟨Ag_upf (hA4.mono (by decide) (by decide)) (by decide), ⟨by dsimp only; rw [up_nej (by decide), g3]; rfl, by dsimp only; rw [up_nej (by decide)]; exact g4, by dsimp only; rw [up_same]; rfl⟩, fun j hj => absurd hj (Nat.not_lt_zero j), hB, rfl⟩
      · refine T_lconst0 dX12_advance_75 ?_
        refine T_lst_n dX12_advance_76 (by decide) ?_
        exact ad77 (G := G) hT (bI_1 c72) hB (0, up e 271 4 (B : Int)) ⟨hA4, ⟨by dsimp only; rw [g3]; rfl, g4⟩, fun j hj => absurd hj (Nat.not_lt_zero j), hB, rfl⟩
    · refine T_aload_n dX12_advance_60 rfl ?_
      refine T_iconst dX12_advance_61 (by decide) ?_
      refine T_putI dX12_advance_62 fX12_115 rfl k271 ?_
      refine T_goto (tgt := 311) dX12_advance_65 (by decide) ?_
      exact T_return dX12_advance_311 rfl ⟨rfl, ⟨by rw [up_nej (by decide)]; exact g4, by rw [up_nej (by decide), g3]; unfold nxT; rw [if_pos (by omega)], by rw [up_same]; unfold kdT; rw [if_pos (by omega)]⟩, ⟨by rw [up_nej (by decide), g6]; unfold nuT; rw [if_neg (fun z => z.1 (by omega))], by rw [up_nej (by decide), g7]; unfold wrT; rw [if_neg (fun z => z.1 (by omega))]⟩, Ag_upf (hA4.mono (by decide) (by decide)) (by decide)⟩
  have h0 : ∀ z : Nat × sD, (Ag [] [3] d z.2 ∧ z.2 271 3 = (z.1 : Int) ∧ z.1 ≤ n ∧ runE (blP T) (n - z.1) z.1 = bgT T n i) → tB G mX12_advance 0 [vR 271, vU 0, vU 0, vU 0] [] z.2 (adQ d T n (bgT T n i)) := by
    refine T_loop (α := Nat × sD) 0 (fun z => [vR 271, vU 0, vU 0, vU 0]) (fun z => z.2) (fun z => Ag [] [3] d z.2 ∧ z.2 271 3 = (z.1 : Int) ∧ z.1 ≤ n ∧ runE (blP T) (n - z.1) z.1 = bgT T n i) (fun z => n - z.1) ?_
    rintro ⟨k, e⟩ ⟨hA, h3, hk, hr⟩ ih
    try dsimp only at hA h3 hk hr ih ⊢
    have hTe := Tp_ag hT hA (by decide) (by decide)
    have h26 : blP T k → tB G mX12_advance 26 [vR 271, vU 0, vU 0, vU 0] [] e (adQ d T n (bgT T n i)) := by
      intro hb
      have hlt : k < n := by
        rcases Nat.lt_or_ge k n with q | q
        · exact q
        · have := hT.2.2.2.2 k q; omega
      refine T_aload_n dX12_advance_26 rfl ?_
      refine T_dup dX12_advance_27 rfl ?_
      refine T_getIv dX12_advance_28 fX12_105 rfl k271 (x := (k : Int)) h3 ?_
      refine T_iconst dX12_advance_31 (by decide) ?_
      refine T_add dX12_advance_32 (by omega) ?_
      refine T_putI dX12_advance_33 fX12_105 rfl k271 ?_
      refine T_goto (tgt := 0) dX12_advance_36 (by decide) ?_
      refine ih (k + 1, up e 271 3 ((k : Int) + 1)) ⟨Ag_upf hA (by decide), by dsimp only; rw [up_same]; omega, hlt, ?_⟩ (by dsimp only; omega)
      dsimp only
      rw [← hr, runE_y hb (by omega)]; rfl
    refine T_aload_n dX12_advance_0 rfl ?_
    refine T_aload_n dX12_advance_1 rfl ?_
    refine T_getIv dX12_advance_2 fX12_105 rfl k271 (x := (k : Int)) h3 ?_
    refine T_callV dX12_advance_5 lX12_108 (As := [_]) (rest := _) rfl rfl k271 (by decide) (Nat.le_of_ble_eq_true rfl) (Nat.le_of_ble_eq_true rfl) (t_byteT hTe) ?_
    rintro _ _ ⟨rfl, rfl⟩
    refine T_bipush dX12_advance_8 (by decide) ?_
    refine T_icmp_eq (tgt := 26) dX12_advance_10 (by decide) (fun c10 => ?_) (fun c10 => ?_)
    · exact h26 (Or.inl c10)
    · refine T_aload_n dX12_advance_13 rfl ?_
      refine T_aload_n dX12_advance_14 rfl ?_
      refine T_getIv dX12_advance_15 fX12_105 rfl k271 (x := (k : Int)) h3 ?_
      refine T_callV dX12_advance_18 lX12_108 (As := [_]) (rest := _) rfl rfl k271 (by decide) (Nat.le_of_ble_eq_true rfl) (Nat.le_of_ble_eq_true rfl) (t_byteT hTe) ?_
      rintro _ _ ⟨rfl, rfl⟩
      refine T_bipush dX12_advance_21 (by decide) ?_
      refine T_icmp_ne (tgt := 39) dX12_advance_23 (by decide) (fun c23 => ?_) (fun c23 => ?_)
      · rw [← hr, runE_n (p := blP T) (fun z => z.elim c10 c23)]
        exact h39 k e hA h3 hk
      · exact h26 (Or.inr c23)
  exact h0 (i, d) ⟨Ag.rf, hi, hin, rfl⟩

end M44
