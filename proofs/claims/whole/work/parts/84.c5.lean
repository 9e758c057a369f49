/-! the class: an army listens -/
section C5
variable {G : sG} {d d' : sD} {w s : Nat → Int} {wo e n a : Nat}
theorem gA_lt {α : Type} {l : List α} {x y : α} {i : Nat} (h : i < l.length) : (l ++ [y]).getD i x = l.getD i x := by
  rw [List.getD_eq_getElem?_getD, List.getD_eq_getElem?_getD, List.getElem?_append_left h]
theorem gA_eq {α : Type} {l : List α} {x y : α} : (l ++ [y]).getD l.length x = y := by
  rw [List.getD_eq_getElem?_getD, List.getElem?_append_right (Nat.le_refl _), Nat.sub_self]; rfl
/-- what an army made lies in its ear -/
def Em (d : sD) (e : Nat) (w : Nat → Int) (a : Nat) (ml : List (Nat × Nat)) (dn : Nat) : Prop := d e 6 = (ml.length : Int) ∧ d e 7 = (dn : Int) ∧ ∀ i, i < ml.length → d (e + 2) i = w (17 + 36 * a + 6 * (ml.getD i (0, 0)).1) ∧ d (e + 3) i = ((ml.getD i (0, 0)).1 : Int) ∧ d (e + 4) i = ((ml.getD i (0, 0)).2 : Int) ∧ d (e + 5) i = w (18 + 36 * a + 6 * (ml.getD i (0, 0)).1)
theorem Em_fr {lo hi dn : Nat} {ml : List (Nat × Nat)} (h : Em d e w a ml dn) (hF : Fr lo hi d d') (hn : e + 5 < lo ∨ hi < e) : Em d' e w a ml dn := ⟨by rw [hF _ _ (by omega)]; exact h.1, by rw [hF _ _ (by omega)]; exact h.2.1, fun i hi => by
  obtain ⟨h1, h2, h3, h4⟩ := h.2.2 i hi
  exact ⟨by rw [hF _ _ (by omega)]; exact h1, by rw [hF _ _ (by omega)]; exact h2, by rw [hF _ _ (by omega)]; exact h3, by rw [hF _ _ (by omega)]; exact h4⟩⟩
theorem Em_push {acc : List (Nat × Nat)} {dn o k : Nat} {mv l : Int} (h : Em d e w a acc dn) (h1 : mv = w (17 + 36 * a + 6 * o)) (h2 : l = w (18 + 36 * a + 6 * o)) : Em (up (up (up (up (up d (e + 2) acc.length mv) (e + 3) acc.length (o : Int)) (e + 4) acc.length (k : Int)) (e + 5) acc.length l) e 6 ((acc.length : Int) + 1)) e w a (acc ++ [(o, k)]) dn := by
  refine ⟨by rw [up_same, List.length_append]; rfl, by rw [up_nej (by decide), up_nea (by omega), up_nea (by omega), up_nea (by omega), up_nea (by omega)]; exact h.2.1, fun i hi => ?_⟩
  rw [List.length_append] at hi
  have hi' : i < acc.length + 1 := hi
  rcases (show i < acc.length ∨ i = acc.length by omega) with z | rfl
  · rw [gA_lt z]
    obtain ⟨q1, q2, q3, q4⟩ := h.2.2 i z
    refine ⟨?_, ?_, ?_, ?_⟩
    · rw [up_nea (by omega), up_nea (by omega), up_nea (by omega), up_nea (by omega), up_nej (by omega)]; exact q1
    · rw [up_nea (by omega), up_nea (by omega), up_nea (by omega), up_nej (by omega), up_nea (by omega)]; exact q2
    · rw [up_nea (by omega), up_nea (by omega), up_nej (by omega), up_nea (by omega), up_nea (by omega)]; exact q3
    · rw [up_nea (by omega), up_nej (by omega), up_nea (by omega), up_nea (by omega), up_nea (by omega)]; exact q4
  · rw [gA_eq]
    refine ⟨?_, ?_, ?_, ?_⟩
    · rw [up_nea (by omega), up_nea (by omega), up_nea (by omega), up_nea (by omega), up_same]; exact h1
    · rw [up_nea (by omega), up_nea (by omega), up_nea (by omega), up_same]
    · rw [up_nea (by omega), up_nea (by omega), up_same]
    · rw [up_nea (by omega), up_same]; exact h2
abbrev lsQ (d : sD) (e : Nat) (w s : Nat → Int) (n a : Nat) : Option sV → sD → Prop := fun r d' => r = none ∧ Eh d' e w s n a ∧ Em d' e w a (mkS w s n a 24 0).1 (mkS w s n a 24 0).2 ∧ Fr e (e + 5) d d'
theorem ls104 (he : kn S0 e = 2) (hw : kn S0 wo = 10) (hO : Wo d wo w) (hV : WV w) (ha : a < 2) (hn24 : n ≤ 24) : ∀ x : (Nat × Nat) × (List (Nat × Nat) × Nat) × sD, (Eh x.2.2 e w s n a ∧ Em x.2.2 e w a x.2.1.1 x.2.1.2 ∧ Fr e (e + 5) d x.2.2 ∧ (x.1.1 : Int) ≤ hnS w n a ∧ x.2.1.1.length ≤ x.1.1 ∧ x.2.1.2 ≤ x.1.1 ∧ hnS w n a ≤ x.1.2 + x.1.1 ∧ x.2.1.1 ++ (mkS w s n a x.1.2 x.1.1).1 = (mkS w s n a 24 0).1 ∧ x.2.1.2 + (mkS w s n a x.1.2 x.1.1).2 = (mkS w s n a 24 0).2) → tB G mX2_listen 104 [vR e, vR wo, vI a, vR 81, vI x.1.1, vU 0, vU 0] [] x.2.2 (lsQ d e w s n a) := by
  refine T_loop (α := (Nat × Nat) × (List (Nat × Nat) × Nat) × sD) 104 (fun x => [vR e, vR wo, vI a, vR 81, vI x.1.1, vU 0, vU 0]) (fun x => x.2.2) (fun x => Eh x.2.2 e w s n a ∧ Em x.2.2 e w a x.2.1.1 x.2.1.2 ∧ Fr e (e + 5) d x.2.2 ∧ (x.1.1 : Int) ≤ hnS w n a ∧ x.2.1.1.length ≤ x.1.1 ∧ x.2.1.2 ≤ x.1.1 ∧ hnS w n a ≤ x.1.2 + x.1.1 ∧ x.2.1.1 ++ (mkS w s n a x.1.2 x.1.1).1 = (mkS w s n a 24 0).1 ∧ x.2.1.2 + (mkS w s n a x.1.2 x.1.1).2 = (mkS w s n a 24 0).2) (fun x => 24 - x.1.1) ?_
  rintro ⟨⟨k, f⟩, ⟨acc, dn⟩, m⟩ ⟨hE, hM, hF, hk, hl1, hl2, hf, hr1, hr2⟩ ih
  try dsimp only at hE hM hF hk hl1 hl2 hf hr1 hr2 ih ⊢
  have hat := at_W hw
  have hae := at_E he
  have hrg := hnS_rg (n := n) hV ha
  have hOm := Wo_fr hO hF (by omega)
  have hc := (hV.a ha).2.2.2.2
  have hB : bst w s n a k = -1 ∨ (0 ≤ bst w s n a k ∧ bst w s n a k < ((w (15 + a)).toNat : Nat) ∧ isF w s n a (bst w s n a k).toNat k) := bstM_rg (w := w) (s := s) (n := n) (a := a) (k := k) (cnt := (w (15 + a)).toNat) (w (15 + a)).toNat (Nat.le_refl _)
  have h123 : ∀ x : Int, x = bst w s n a k → (k : Int) < hnS w n a → tB G mX2_listen 123 [vR e, vR wo, vI a, vR 81, vI k, vI x, vU 0] [] m (lsQ d e w s n a) := by
    intro x hx hlt
    obtain ⟨f, rfl⟩ : ∃ f', f = f' + 1 := ⟨f - 1, by omega⟩
    rw [mkS_succ (f := f) (k := k), if_neg (by omega)] at hr1 hr2
    refine T_iload dX2_listen_123 rfl ?_
    refine T_iconst dX2_listen_125 (by decide) ?_
    refine T_icmp_ne (tgt := 145) dX2_listen_126 (by decide) (fun c126 => ?_) (fun c126 => ?_)
    · rw [if_neg (hx ▸ c126)] at hr1 hr2
      obtain ⟨o, rfl⟩ : ∃ q : Nat, x = (q : Int) := ⟨x.toNat, by omega⟩
      rw [← hx, Int.toNat_natCast] at hr1 hr2
      have hB2 := hB.resolve_left (hx ▸ c126)
      rw [← hx, Int.toNat_natCast] at hB2
      have ho : (o : Int) < w (15 + a) := by omega
      obtain ⟨l1, l2, l3, l4⟩ := hV.ln ha ho
      have hFe := hB2.2.2.1
      have hmax : max (1 : Int) (lnW w a o : Int) = (lnW w a o : Int) := by omega
      refine T_iload_n dX2_listen_145 rfl ?_
      refine T_iload dX2_listen_146 rfl ?_
      refine T_callS dX2_listen_148 lX2_67 (As := [_, _]) (rest := _) rfl rfl (by decide) (Nat.le_of_ble_eq_true rfl) (Nat.le_of_ble_eq_true rfl) (t_slot (k := o) ha (by omega)) ?_
      rintro _ _ ⟨rfl, rfl⟩
      refine T_ist dX2_listen_151 (by decide) rfl ?_
      refine T_aload_n dX2_listen_153 rfl ?_
      refine T_getR dX2_listen_154 fX2_19 rfl he (rE2 he) ?_
      refine T_aload_n dX2_listen_157 rfl ?_
      refine T_getIv dX2_listen_158 fX2_31 rfl he (x := (acc.length : Int)) hM.1 ?_
      refine T_aload_n dX2_listen_161 rfl ?_
      refine T_getR dX2_listen_162 fX2_70 rfl hw (rW9 hw) ?_
      refine T_iload dX2_listen_165 rfl ?_
      refine T_ialdv dX2_listen_167 (kW9 hw) (lW9 hw) (by omega) (j := 6 * a + o) (by omega) (x := w (17 + 36 * a + 6 * o)) (hOm.mv ha ho) ?_
      refine T_iast dX2_listen_168 (kE2 he) (lE2 he) (by omega) (j := acc.length) (by omega) ?_
      refine T_aload_n dX2_listen_169 rfl ?_
      refine T_getR dX2_listen_170 fX2_22 rfl he (rE3 he) ?_
      refine T_aload_n dX2_listen_173 rfl ?_
      refine T_getIv dX2_listen_174 fX2_31 rfl he (x := (acc.length : Int)) (by rw [up_nea (by omega)]; exact hM.1) ?_
      refine T_iload dX2_listen_177 rfl ?_
      refine T_iast dX2_listen_179 (kE3 he) (lE3 he) (by omega) (j := acc.length) (by omega) ?_
      refine T_aload_n dX2_listen_180 rfl ?_
      refine T_getR dX2_listen_181 fX2_25 rfl he (rE4 he) ?_
      refine T_aload_n dX2_listen_184 rfl ?_
      refine T_getIv dX2_listen_185 fX2_31 rfl he (x := (acc.length : Int)) (by rw [up_nea (by omega), up_nea (by omega)]; exact hM.1) ?_
      refine T_iload dX2_listen_188 rfl ?_
      refine T_iast dX2_listen_190 (kE4 he) (lE4 he) (by omega) (j := acc.length) (by omega) ?_
      refine T_aload_n dX2_listen_191 rfl ?_
      refine T_getR dX2_listen_192 fX2_28 rfl he (rE5 he) ?_
      refine T_aload_n dX2_listen_195 rfl ?_
      refine T_getIv dX2_listen_196 fX2_31 rfl he (x := (acc.length : Int)) (by rw [up_nea (by omega), up_nea (by omega), up_nea (by omega)]; exact hM.1) ?_
      refine T_aload_n dX2_listen_199 rfl ?_
      refine T_getR dX2_listen_200 fX2_71 rfl hw (rW10 hw) ?_
      refine T_iload dX2_listen_203 rfl ?_
      refine T_ialdv dX2_listen_205 (kW10 hw) (lW10 hw) (by omega) (j := 6 * a + o) (by omega) (x := (lnW w a o : Int)) (by rw [up_nea (by omega), up_nea (by omega), up_nea (by omega)]; exact hOm.ln hV ha ho) ?_
      refine T_iast dX2_listen_206 (kE5 he) (lE5 he) (by omega) (j := acc.length) (by omega) ?_
      refine T_iload dX2_listen_207 rfl ?_
      refine T_iconst dX2_listen_209 (by decide) ?_
      refine T_aload_n dX2_listen_210 rfl ?_
      refine T_getR dX2_listen_211 fX2_71 rfl hw (rW10 hw) ?_
      refine T_iload dX2_listen_214 rfl ?_
      refine T_ialdv dX2_listen_216 (kW10 hw) (lW10 hw) (by omega) (j := 6 * a + o) (by omega) (x := (lnW w a o : Int)) (by rw [up_nea (by omega), up_nea (by omega), up_nea (by omega), up_nea (by omega)]; exact hOm.ln hV ha ho) ?_
      refine T_max dX2_listen_217 lX2_49 (by decide) (Nat.le_of_ble_eq_true rfl) ?_
      rw [hmax]
      refine T_add dX2_listen_220 (by omega) ?_
      refine T_top (y := ((k + lnW w a o : Nat) : Int)) (by omega) ?_
      refine T_ist dX2_listen_221 (by decide) rfl ?_
      refine T_aload_n dX2_listen_223 rfl ?_
      refine T_dup dX2_listen_224 rfl ?_
      refine T_getIv dX2_listen_225 fX2_31 rfl he (x := (acc.length : Int)) (by rw [up_nea (by omega), up_nea (by omega), up_nea (by omega), up_nea (by omega)]; exact hM.1) ?_
      refine T_iconst dX2_listen_228 (by decide) ?_
      refine T_add dX2_listen_229 (by omega) ?_
      refine T_putI dX2_listen_230 fX2_31 rfl he ?_
      refine T_goto (tgt := 104) dX2_listen_233 (by decide) ?_
      refine T_drop 5 (T_drop 6 ?_)
      refine T_nm (fun m2 hm2 => ih ((k + lnW w a o, f), (acc ++ [(o, k)], dn), m2) ?_ (by (try dsimp only); omega))
      subst hm2
      try dsimp only
      refine ⟨?_, Em_push hM rfl l3.symm, ((((hF.up (by omega)).up (by omega)).up (by omega)).up (by omega)).up (by omega), by (try dsimp only); omega, by (try dsimp only); rw [List.length_append]; show acc.length + 1 ≤ _; omega, by (try dsimp only); omega, by (try dsimp only); omega, by (try dsimp only); rw [List.append_assoc]; exact hr1, hr2⟩
      refine Eh_eq hE ⟨?_, ?_, ?_⟩ (fun i => ?_)
      · (try dsimp only); rw [up_nej (by decide), up_nea (by omega), up_nea (by omega), up_nea (by omega), up_nea (by omega)]
      · (try dsimp only); rw [up_nej (by decide), up_nea (by omega), up_nea (by omega), up_nea (by omega), up_nea (by omega)]
      · (try dsimp only); rw [up_nej (by decide), up_nea (by omega), up_nea (by omega), up_nea (by omega), up_nea (by omega)]
      · (try dsimp only); rw [up_nea (by omega), up_nea (by omega), up_nea (by omega), up_nea (by omega), up_nea (by omega)]
    · rw [if_pos (hx ▸ c126)] at hr1 hr2
      refine T_aload_n dX2_listen_129 rfl ?_
      refine T_dup dX2_listen_130 rfl ?_
      refine T_getIv dX2_listen_131 fX2_34 rfl he (x := (dn : Int)) hM.2.1 ?_
      refine T_iconst dX2_listen_134 (by decide) ?_
      refine T_add dX2_listen_135 (by omega) ?_
      refine T_putI dX2_listen_136 fX2_34 rfl he ?_
      refine T_inc dX2_listen_139 rfl (by decide) rfl (by omega) ?_
      refine T_goto (tgt := 233) dX2_listen_142 (by decide) ?_
      refine T_goto (tgt := 104) dX2_listen_233 (by decide) ?_
      refine T_drop 5 (T_drop 6 ?_)
      refine T_nm (fun m2 hm2 => ih ((k + 1, f), (acc, dn + 1), m2) ?_ (by (try dsimp only); omega))
      subst hm2
      try dsimp only
      refine ⟨?_, ⟨?_, ?_, fun i hi => ?_⟩, hF.up (by omega), by (try dsimp only); omega, by (try dsimp only); omega, by (try dsimp only); omega, by (try dsimp only); omega, hr1, by (try dsimp only); rw [← hr2]; omega⟩
      · refine Eh_eq hE ⟨?_, ?_, ?_⟩ (fun i => ?_)
        · (try dsimp only); rw [up_nej (by decide)]
        · (try dsimp only); rw [up_nej (by decide)]
        · (try dsimp only); rw [up_nej (by decide)]
        · (try dsimp only); rw [up_nea (by omega)]
      · (try dsimp only); rw [up_nej (by decide)]; exact hM.1
      · (try dsimp only); rw [up_same]; rfl
      · (try dsimp only); rw [up_nea (by omega), up_nea (by omega), up_nea (by omega), up_nea (by omega)]; exact hM.2.2 i hi
  refine T_iload dX2_listen_104 rfl ?_
  refine T_aload_n dX2_listen_106 rfl ?_
  refine T_getIv dX2_listen_107 fX2_15 rfl he (x := hnS w n a) hE.1.1 ?_
  refine T_icmp_ge (tgt := 236) dX2_listen_110 (by decide) (fun c110 => ?_) (fun c110 => ?_)
  · exact T_return dX2_listen_236 rfl ⟨rfl, hE, by rw [mkS_end (by omega)] at hr1 hr2; rw [List.append_nil] at hr1; rw [← hr1, ← hr2]; exact hM, hF⟩
  · refine T_aload_n dX2_listen_113 rfl ?_
    refine T_aload_n dX2_listen_114 rfl ?_
    refine T_iload_n dX2_listen_115 rfl ?_
    refine T_iload dX2_listen_116 rfl ?_
    refine T_callV dX2_listen_118 lX2_63 (As := [_, _, _]) (rest := _) rfl rfl he (by decide) (Nat.le_of_ble_eq_true rfl) (Nat.le_of_ble_eq_true rfl) (t_longestOrder he hw hOm hV hE ha hn24 (by omega)) ?_
    rintro _ _ ⟨rfl, rfl⟩
    refine T_ist dX2_listen_121 (by decide) rfl ?_
    exact h123 _ rfl (by omega)

theorem t_listen (he : kn S0 e = 2) (hw : kn S0 wo = 10) (hO : Wo d wo w) (hV : WV w) (ha : a < 2) (hn : d 81 5 = (n : Int)) (hn24 : n ≤ 24) (hs : ∀ j, j < n → d 85 j = s j) : tB G mX2_listen 0 [vR e, vR wo, vI a, vR 81, vU 0, vU 0, vU 0] [] d (lsQ d e w s n a) := by
  have hat := at_W hw
  have hae := at_E he
  have hv := hV.a ha
  have hrg := hnS_rg (n := n) hV ha
  have hmax : max (1 : Int) (w (9 + a)) = w (9 + a) := by omega
  have h35 : ∀ z : Nat × sD, ((z.1 : Int) ≤ hnS w n a ∧ (z.2 e 1 = (z.1 : Int) ∧ z.2 e 8 = w (7 + a) ∧ z.2 e 9 = w (9 + a)) ∧ (∀ k : Nat, k < z.1 → z.2 (e + 1) k = s (phS w a k).toNat) ∧ Fr e (e + 5) d z.2) → tB G mX2_listen 35 [vR e, vR wo, vI a, vR 81, vI (phS w a z.1), vU 0, vU 0] [] (z.2) (lsQ d e w s n a) := by
    refine T_loop (α := Nat × sD) 35 (fun z => [vR e, vR wo, vI a, vR 81, vI (phS w a z.1), vU 0, vU 0]) (fun z => z.2) (fun z => (z.1 : Int) ≤ hnS w n a ∧ (z.2 e 1 = (z.1 : Int) ∧ z.2 e 8 = w (7 + a) ∧ z.2 e 9 = w (9 + a)) ∧ (∀ k : Nat, k < z.1 → z.2 (e + 1) k = s (phS w a k).toNat) ∧ Fr e (e + 5) d z.2) (fun z => 24 - z.1) ?_
    rintro ⟨k, m⟩ ⟨h1, ⟨h2, h3, h4⟩, h5, h6⟩ ih
    try dsimp only at h1 h2 h3 h4 h5 h6 ih ⊢
    have hnm : m 81 5 = (n : Int) := by rw [h6 81 5 (by omega)]; exact hn
    have hOm := Wo_fr hO h6 (by omega)
    have h91 : (k : Int) = hnS w n a → tB G mX2_listen 91 [vR e, vR wo, vI a, vR 81, vI (phS w a k), vU 0, vU 0] [] m (lsQ d e w s n a) := by
      intro hk
      refine T_aload_n dX2_listen_91 rfl ?_
      refine T_iconst dX2_listen_92 (by decide) ?_
      refine T_putI dX2_listen_93 fX2_31 rfl he ?_
      refine T_aload_n dX2_listen_96 rfl ?_
      refine T_iconst dX2_listen_97 (by decide) ?_
      refine T_putI dX2_listen_98 fX2_34 rfl he ?_
      refine T_iconst dX2_listen_101 (by decide) ?_
      refine T_ist dX2_listen_102 (by decide) rfl ?_
      refine T_nm (fun m2 hm2 => ls104 (G := G) (d := d) he hw hO hV ha hn24 ((0, 24), ([], 0), m2) ?_ )
      subst hm2
      try dsimp only
      refine ⟨⟨⟨?_, ?_, ?_⟩, fun i hi => ?_⟩, ⟨?_, ?_, fun i hi => absurd hi (Nat.not_lt_zero i)⟩, (h6.up (by omega)).up (by omega), by (try dsimp only); omega, Nat.le_refl _, Nat.le_refl _, by (try dsimp only); omega, rfl, by (try dsimp only); omega⟩
      · (try dsimp only); rw [up_nej (by decide), up_nej (by decide)]; omega
      · (try dsimp only); rw [up_nej (by decide), up_nej (by decide)]; exact h3
      · (try dsimp only); rw [up_nej (by decide), up_nej (by decide)]; exact h4
      · (try dsimp only); rw [up_nea (by omega), up_nea (by omega)]; exact h5 i (by omega)
      · (try dsimp only); rw [up_nej (by decide), up_same]; rfl
      · (try dsimp only); rw [up_same]; rfl
    have hph : 0 ≤ phS w a k := by unfold phS; have := Int.mul_nonneg (a := (k : Int)) (b := w (9 + a)) (by omega) (by omega); omega
    refine T_iload dX2_listen_35 rfl ?_
    refine T_aload_n dX2_listen_37 rfl ?_
    refine T_getIv dX2_listen_38 fX2_55 rfl k81 (x := (n : Int)) hnm ?_
    refine T_icmp_ge (tgt := 91) dX2_listen_41 (by decide) (fun c41 => ?_) (fun c41 => ?_)
    · exact h91 (by rcases (show (k : Int) < hnS w n a ∨ (k : Int) = hnS w n a by omega) with z | z; · have := (ph_lt (n := n) hV ha (j := (k : Int)) (by omega) z).2; omega
                    · exact z)
    · have hlt := ph_lt2 (n := n) hV ha (j := (k : Int)) (by omega) (by omega)
      refine T_aload_n dX2_listen_44 rfl ?_
      refine T_getIv dX2_listen_45 fX2_15 rfl he (x := (k : Int)) h2 ?_
      refine T_bipush dX2_listen_48 (by decide) ?_
      refine T_icmp_ge (tgt := 91) dX2_listen_50 (by decide) (fun c50 => absurd c50 (by omega)) (fun c50 => ?_)
      refine T_aload_n dX2_listen_53 rfl ?_
      refine T_getR dX2_listen_54 fX2_9 rfl he (rE0 he) ?_
      refine T_aload_n dX2_listen_57 rfl ?_
      refine T_getIv dX2_listen_58 fX2_15 rfl he (x := (k : Int)) h2 ?_
      refine T_aload_n dX2_listen_61 rfl ?_
      refine T_getR dX2_listen_62 fX2_60 rfl k81 r81_3 ?_
      refine T_iload dX2_listen_65 rfl ?_
      refine T_ialdv dX2_listen_67 k85 l85 (by omega) rfl (x := s (phS w a k).toNat) (by rw [h6 85 _ (by omega)]; exact hs _ (by omega)) ?_
      refine T_iast dX2_listen_68 (kE0 he) (lE0 he) (by omega) (j := k) (by omega) ?_
      refine T_aload_n dX2_listen_69 rfl ?_
      refine T_dup dX2_listen_70 rfl ?_
      refine T_getIv dX2_listen_71 fX2_15 rfl he (x := (k : Int)) (by rw [up_nea (by omega)]; exact h2) ?_
      refine T_iconst dX2_listen_74 (by decide) ?_
      refine T_add dX2_listen_75 (by omega) ?_
      refine T_putI dX2_listen_76 fX2_15 rfl he ?_
      refine T_iload dX2_listen_79 rfl ?_
      refine T_aload_n dX2_listen_81 rfl ?_
      refine T_getIv dX2_listen_82 fX2_40 rfl he (x := w (9 + a)) (by rw [up_nej (by decide), up_nea (by omega)]; exact h4) ?_
      refine T_add dX2_listen_85 (by omega) ?_
      rw [phS_s]
      refine T_ist dX2_listen_86 (by decide) rfl ?_
      refine T_goto (tgt := 35) dX2_listen_88 (by decide) ?_
      refine T_nm (fun m2 hm2 => ih (k + 1, m2) ?_ (by (try dsimp only); omega))
      subst hm2
      try dsimp only
      refine ⟨by (try dsimp only); omega, ⟨by (try dsimp only); rw [up_same]; omega, by (try dsimp only); rw [up_nej (by decide), up_nea (by omega)]; exact h3, by (try dsimp only); rw [up_nej (by decide), up_nea (by omega)]; exact h4⟩, fun i hi => ?_, (h6.up (by omega)).up (by omega)⟩
      try dsimp only at hi ⊢
      rw [up_nea (by omega)]
      rcases (show i < k ∨ i = k by omega) with z | rfl
      · rw [up_nej (by omega)]; exact h5 i z
      · rw [up_same]
  refine T_aload_n dX2_listen_0 rfl ?_
  refine T_aload_n dX2_listen_1 rfl ?_
  refine T_getR dX2_listen_2 fX2_43 rfl hw (rW4 hw) ?_
  refine T_iload_n dX2_listen_5 rfl ?_
  refine T_ialdv dX2_listen_6 (kW4 hw) (lW4 hw) (by omega) (j := a) (by omega) (x := w (7 + a)) (hO.2.2.1 a ha).1 ?_
  refine T_putI dX2_listen_7 fX2_37 rfl he ?_
  refine T_aload_n dX2_listen_10 rfl ?_
  refine T_iconst dX2_listen_11 (by decide) ?_
  refine T_aload_n dX2_listen_12 rfl ?_
  refine T_getR dX2_listen_13 fX2_47 rfl hw (rW5 hw) ?_
  refine T_iload_n dX2_listen_16 rfl ?_
  refine T_ialdv dX2_listen_17 (kW5 hw) (lW5 hw) (by omega) (j := a) (by omega) (x := w (9 + a)) (by rw [up_nea (by omega)]; exact (hO.2.2.1 a ha).2.1) ?_
  refine T_max dX2_listen_18 lX2_49 (by decide) (Nat.le_of_ble_eq_true rfl) ?_
  rw [hmax]
  refine T_putI dX2_listen_21 fX2_40 rfl he ?_
  refine T_aload_n dX2_listen_24 rfl ?_
  refine T_iconst dX2_listen_25 (by decide) ?_
  refine T_putI dX2_listen_26 fX2_15 rfl he ?_
  refine T_aload_n dX2_listen_29 rfl ?_
  refine T_getIv dX2_listen_30 fX2_37 rfl he (x := w (7 + a)) (by rw [up_nej (by decide), up_nej (by decide), up_same]) ?_
  refine T_top (y := phS w a ((0 : Nat) : Int)) (by unfold phS; rw [show ((0 : Nat) : Int) = 0 from rfl, Int.zero_mul]; omega) ?_
  refine T_ist dX2_listen_33 (by decide) rfl ?_
  refine T_nm (fun m2 hm2 => h35 (0, m2) ?_ )
  subst hm2
  try dsimp only
  refine ⟨by (try dsimp only); omega, ⟨by (try dsimp only); rw [up_same]; rfl, by (try dsimp only); rw [up_nej (by decide), up_nej (by decide), up_same], by (try dsimp only); rw [up_nej (by decide), up_same]⟩, fun i hi => absurd hi (Nat.not_lt_zero i), ((Fr.rf.up (by omega)).up (by omega)).up (by omega)⟩

end C5
