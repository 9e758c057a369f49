/-! the class: how they march -/
section C7
variable {G : sG} {d d' : sD} {w s : Nat → Int} {wo e f a dn dn' : Nat} {ml ml' : List (Nat × Nat)}
def sgn (x : Int) : Int := if 0 < x then 1 else if x < 0 then -1 else 0
theorem sgn_0 : ∀ k : Nat, k < 256 → i_or (i_shr ((k : Int) - 128) 31) (i_ushr (w32 (-((k : Int) - 128))) 31) = sgn ((k : Int) - 128) := by decide +kernel
theorem t_signum {x : Int} (hx : -128 ≤ x ∧ x ≤ 127) : tB G mJ6_signum_0f7a4 0 [vI x] [] d (fun r d' => r = some (vI (sgn x)) ∧ d = d') := by
  have h := sgn_0 (x + 128).toNat (by omega)
  rw [show (((x + 128).toNat : Nat) : Int) - 128 = x by omega] at h
  refine T_iload_n dJ6_signum_0f7a4_0 rfl ?_
  refine T_bipush dJ6_signum_0f7a4_1 (by decide) ?_
  refine T_ishr dJ6_signum_0f7a4_3 ?_
  refine T_iload_n dJ6_signum_0f7a4_4 rfl ?_
  refine T_ineg dJ6_signum_0f7a4_5 ?_
  refine T_bipush dJ6_signum_0f7a4_6 (by decide) ?_
  refine T_iushr dJ6_signum_0f7a4_8 ?_
  refine T_ior dJ6_signum_0f7a4_9 ?_
  exact T_ireturn dJ6_signum_0f7a4_10 rfl ⟨by rw [h], rfl⟩

theorem sgn_rg (x : Int) : -1 ≤ sgn x ∧ sgn x ≤ 1 := by unfold sgn; (repeat' split) <;> omega
def stS (m x c : Int) : Int := if m = 1 then -1 else if m = 2 then 1 else if m = 3 then 2 * sgn x else if m = 4 then (if x = 0 then 2 * c else -2 * sgn x) else 0
theorem t_stride {m x c : Int} (hx : -128 ≤ x ∧ x ≤ 127) (hc : c = 1 ∨ c = -1) : tB G mX3_stride 0 [vI m, vI x, vI c] [] d (fun r d' => r = some (vI (stS m x c)) ∧ d = d') := by
  have hs := sgn_rg x
  refine T_iload_n dX3_stride_0 rfl ?_
  by_cases hs1 : m = 1
  · subst hs1
    refine T_tabIn (tgt := 32) (off := 31) dX3_stride_1 (by decide) (by decide) (by decide) (by decide) ?_
    refine T_iconst dX3_stride_32 (by decide) ?_
    exact T_ireturn dX3_stride_33 rfl ⟨rfl, rfl⟩
  by_cases hs2 : m = 2
  · subst hs2
    refine T_tabIn (tgt := 34) (off := 33) dX3_stride_1 (by decide) (by decide) (by decide) (by decide) ?_
    refine T_iconst dX3_stride_34 (by decide) ?_
    exact T_ireturn dX3_stride_35 rfl ⟨rfl, rfl⟩
  by_cases hs3 : m = 3
  · subst hs3
    refine T_tabIn (tgt := 36) (off := 35) dX3_stride_1 (by decide) (by decide) (by decide) (by decide) ?_
    refine T_iconst dX3_stride_36 (by decide) ?_
    refine T_iload_n dX3_stride_37 rfl ?_
    refine T_callS dX3_stride_38 lX3_46 (As := [_]) (rest := _) rfl rfl (by decide) (Nat.le_of_ble_eq_true rfl) (Nat.le_of_ble_eq_true rfl) (t_signum hx) ?_
    rintro _ _ ⟨rfl, rfl⟩
    refine T_mul dX3_stride_41 (by omega) ?_
    exact T_ireturn dX3_stride_42 rfl ⟨rfl, rfl⟩
  by_cases hs4 : m = 4
  · subst hs4
    refine T_tabIn (tgt := 43) (off := 42) dX3_stride_1 (by decide) (by decide) (by decide) (by decide) ?_
    refine T_iload_n dX3_stride_43 rfl ?_
    refine T_if_ne (tgt := 53) dX3_stride_44 (by decide) (fun c44 => ?_) (fun c44 => ?_)
    · refine T_bipush dX3_stride_53 (by decide) ?_
      refine T_iload_n dX3_stride_55 rfl ?_
      refine T_callS dX3_stride_56 lX3_46 (As := [_]) (rest := _) rfl rfl (by decide) (Nat.le_of_ble_eq_true rfl) (Nat.le_of_ble_eq_true rfl) (t_signum hx) ?_
      rintro _ _ ⟨rfl, rfl⟩
      refine T_mul dX3_stride_59 (by omega) ?_
      exact T_ireturn dX3_stride_60 rfl ⟨by unfold stS; rw [if_neg (by decide), if_neg (by decide), if_neg (by decide), if_pos rfl, if_neg c44], rfl⟩
    · refine T_iconst dX3_stride_47 (by decide) ?_
      refine T_iload_n dX3_stride_48 rfl ?_
      refine T_mul dX3_stride_49 (by omega) ?_
      refine T_goto (tgt := 60) dX3_stride_50 (by decide) ?_
      exact T_ireturn dX3_stride_60 rfl ⟨by unfold stS; rw [if_neg (by decide), if_neg (by decide), if_neg (by decide), if_pos rfl, if_pos c44], rfl⟩
  refine T_tabOut (tgt := 61) dX3_stride_1 (by omega) (by decide) ?_
  refine T_iconst dX3_stride_61 (by decide) ?_
  exact T_ireturn dX3_stride_62 rfl ⟨by unfold stS; rw [if_neg hs1, if_neg hs2, if_neg hs3, if_neg hs4], rfl⟩

theorem goS_st0 (m p q : Int) : goS 0 m p q = p + stS m (q - p) (-1) := by
  unfold goS stS goX goY sgn
  (repeat' split) <;> omega
theorem goS_st1 (m p q : Int) : goS 1 m p q = p + stS m (q - p) 1 := by
  unfold goS stS goX goY sgn
  (repeat' split) <;> omega
theorem stS_rg {m x c : Int} (hc : c = 1 ∨ c = -1) : -2 ≤ stS m x c ∧ stS m x c ≤ 2 := by
  have := sgn_rg x
  unfold stS
  (repeat' split) <;> omega
def mvK (w : Nat → Int) (ml : List (Nat × Nat)) (a : Nat) (k : Int) : Int := if 0 ≤ k ∧ k ≤ (ml.length : Int) - 1 then w (17 + 36 * a + 6 * (ml.getD k.toNat (0, 0)).1) else 0
theorem t_cmoveAt {k : Int} (he : kn S0 e = 2) (hM : Em d e w a ml dn) (hl : ml.length ≤ 24) : tB G mX3_moveAt 0 [vR e, vI k] [] d (fun r d' => r = some (vI (mvK w ml a k)) ∧ d = d') := by
  refine T_iload_n dX3_moveAt_0 rfl ?_
  refine T_if_lt (tgt := 21) dX3_moveAt_1 (by decide) (fun c1 => ?_) (fun c1 => ?_)
  · refine T_iconst dX3_moveAt_21 (by decide) ?_
    exact T_ireturn dX3_moveAt_22 rfl ⟨by unfold mvK; rw [if_neg (by omega)], rfl⟩
  · refine T_iload_n dX3_moveAt_4 rfl ?_
    refine T_aload_n dX3_moveAt_5 rfl ?_
    refine T_getIv dX3_moveAt_6 fX3_38 rfl he (x := (ml.length : Int)) hM.1 ?_
    refine T_icmp_ge (tgt := 21) dX3_moveAt_9 (by decide) (fun c9 => ?_) (fun c9 => ?_)
    · refine T_iconst dX3_moveAt_21 (by decide) ?_
      exact T_ireturn dX3_moveAt_22 rfl ⟨by unfold mvK; rw [if_neg (by omega)], rfl⟩
    · refine T_aload_n dX3_moveAt_12 rfl ?_
      refine T_getR dX3_moveAt_13 fX3_43 rfl he (rE2 he) ?_
      refine T_iload_n dX3_moveAt_16 rfl ?_
      refine T_ialdv dX3_moveAt_17 (kE2 he) (lE2 he) (by omega) rfl (x := w (17 + 36 * a + 6 * (ml.getD k.toNat (0, 0)).1)) (hM.2.2 k.toNat (by omega)).1 ?_
      refine T_goto (tgt := 22) dX3_moveAt_18 (by decide) ?_
      exact T_ireturn dX3_moveAt_22 rfl ⟨by unfold mvK; rw [if_pos (by omega)], rfl⟩

theorem fstN_app {p : Nat → Prop} [DecidablePred p] : ∀ n k : Nat, fstN p (n + 1) k = if fstN p n k = -1 then (if p (k + n) then ((k + n : Nat) : Int) else -1) else fstN p n k
  | 0, k => by
    show (if p k then (k : Int) else -1) = if (-1 : Int) = -1 then (if p (k + 0) then ((k + 0 : Nat) : Int) else -1) else -1
    rw [if_pos rfl]; rfl
  | n + 1, k => by
    have ih := fstN_app n (k + 1) (p := p)
    show (if p k then (k : Int) else fstN p (n + 1) (k + 1)) = if (if p k then (k : Int) else fstN p n (k + 1)) = -1 then _ else (if p k then (k : Int) else fstN p n (k + 1))
    by_cases h : p k
    · rw [if_pos h, if_pos h, if_neg (by omega)]
    · rw [if_neg h, if_neg h, ih, show k + 1 + n = k + (n + 1) by omega]
theorem fs_fst {p : Nat → Prop} [DecidablePred p] : ∀ n : Nat, fsN p n = fstN p n 0
  | 0 => rfl
  | n + 1 => by
    have ih := fs_fst n (p := p)
    rw [fstN_app, ← ih, Nat.zero_add]
    show (if p n ∧ fsN p n = -1 then (n : Int) else fsN p n) = _
    by_cases h : fsN p n = -1
    · rw [if_pos h]
      by_cases h2 : p n
      · rw [if_pos ⟨h2, h⟩, if_pos h2]
      · rw [if_neg (fun q => h2 q.1), if_neg h2, h]
    · rw [if_neg (fun q => h q.2), if_neg h]
def Fw (d : sD) (w : Nat → Int) (ml ml' : List (Nat × Nat)) : Prop := (∀ t, t ≤ 24 → d 89 t = (plS w ml ml' t).1 ∧ d 90 t = (plS w ml ml' t).2) ∧ d 88 2 = mtS w ml ml'
abbrev wkQ (d : sD) (w : Nat → Int) (ml ml' : List (Nat × Nat)) : Option sV → sD → Prop := fun r d' => r = none ∧ Fw d' w ml ml' ∧ Fr 88 90 d d'
theorem t_walk (he : kn S0 e = 2) (hf : kn S0 f = 2) (hw : kn S0 wo = 10) (hO : Wo d wo w) (hV : WV w) (hM : Em d e w 0 ml dn) (hM' : Em d f w 1 ml' dn') (hl : ml.length ≤ 24) (hl' : ml'.length ≤ 24) : tB G mX3_walk 0 [vR 88, vR wo, vR e, vR f, vU 0, vU 0, vU 0, vU 0] [] d (wkQ d w ml ml') := by
  have hat := at_W hw
  have hae := at_E he
  have haf := at_E hf
  have hv0 := hV.a (a := 0) (by decide)
  have hv1 := hV.a (a := 1) (by decide)
  have h51 : ∀ x : Nat × sD, (x.1 ≤ 24 ∧ (∀ t, t ≤ x.1 → x.2 89 t = (plS w ml ml' t).1 ∧ x.2 90 t = (plS w ml ml' t).2) ∧ x.2 88 2 = fsN (mtP w ml ml') (x.1 + 1) ∧ Fr 88 90 d x.2) → tB G mX3_walk 51 [vR 88, vR wo, vR e, vR f, vI ((x.1 + 1 : Nat) : Int), vU 0, vU 0, vU 0] [] (x.2) (wkQ d w ml ml') := by
    refine T_loop (α := Nat × sD) 51 (fun x => [vR 88, vR wo, vR e, vR f, vI ((x.1 + 1 : Nat) : Int), vU 0, vU 0, vU 0]) (fun x => x.2) (fun x => x.1 ≤ 24 ∧ (∀ t, t ≤ x.1 → x.2 89 t = (plS w ml ml' t).1 ∧ x.2 90 t = (plS w ml ml' t).2) ∧ x.2 88 2 = fsN (mtP w ml ml') (x.1 + 1) ∧ Fr 88 90 d x.2) (fun x => 24 - x.1) ?_
    rintro ⟨k, m⟩ ⟨h1, h2, h3, h4⟩ ih
    try dsimp only at h1 h2 h3 h4 ih ⊢
    have hOm := Wo_fr hO h4 (by omega)
    have hMm := Em_fr hM h4 (by omega)
    have hMm' := Em_fr hM' h4 (by omega)
    have hrg := plS_rg (ml0 := ml) (ml1 := ml') hV k
    have hrg2 := plS_rg (ml0 := ml) (ml1 := ml') hV (k + 1)
    obtain ⟨a1, a2⟩ := h2 k (Nat.le_refl _)
    have hp1 : (plS w ml ml' (k + 1)).1 = (plS w ml ml' k).1 + stS (mvK w ml 0 (((k + 1 : Nat) : Int) - 1 - w (11 + 0))) ((plS w ml ml' k).2 - (plS w ml ml' k).1) (-1) := goS_st0 _ _ _
    have hp2 : (plS w ml ml' (k + 1)).2 = (plS w ml ml' k).2 + stS (mvK w ml' 1 (((k + 1 : Nat) : Int) - 1 - w (11 + 1))) ((plS w ml ml' k).1 - (plS w ml ml' k).2) 1 := goS_st1 _ _ _
    have hmp : mtP w ml ml' (k + 1) ↔ (plS w ml ml' (k + 1)).2 - (plS w ml ml' (k + 1)).1 = 0 ∨ (0 < (plS w ml ml' k).2 - (plS w ml ml' k).1 ∧ (plS w ml ml' (k + 1)).2 - (plS w ml ml' (k + 1)).1 < 0) ∨ ((plS w ml ml' k).2 - (plS w ml ml' k).1 < 0 ∧ 0 < (plS w ml ml' (k + 1)).2 - (plS w ml ml' (k + 1)).1) := Iff.rfl
    have hs1 := stS_rg (m := mvK w ml 0 (((k + 1 : Nat) : Int) - 1 - w (11 + 0))) (x := (plS w ml ml' k).2 - (plS w ml ml' k).1) (c := -1) (Or.inr rfl)
    have hs2 := stS_rg (m := mvK w ml' 1 (((k + 1 : Nat) : Int) - 1 - w (11 + 1))) (x := (plS w ml ml' k).1 - (plS w ml ml' k).2) (c := 1) (Or.inl rfl)
    have hfs : fsN (mtP w ml ml') (k + 2) = if mtP w ml ml' (k + 1) ∧ fsN (mtP w ml ml') (k + 1) = -1 then ((k + 1 : Nat) : Int) else fsN (mtP w ml ml') (k + 1) := rfl
    have hne0 : e ≠ 89 ∧ e ≠ 90 ∧ f ≠ 89 ∧ f ≠ 90 := by omega
    obtain ⟨ah, hA⟩ : ∃ z : Int, (plS w ml ml' k).2 - (plS w ml ml' k).1 = z := ⟨_, rfl⟩
    obtain ⟨bh, hB⟩ : ∃ z : Int, (plS w ml ml' (k + 1)).2 - (plS w ml ml' (k + 1)).1 = z := ⟨_, rfl⟩
    rw [hA, hB] at hmp
    rw [hA] at hp1 hs1
    have h224 : ∀ (m2 : sD) (c : Int), k + 1 ≤ 24 → Fr 88 90 d m2 → (∀ t, t ≤ k + 1 → m2 89 t = (plS w ml ml' t).1 ∧ m2 90 t = (plS w ml ml' t).2) → m2 88 2 = fsN (mtP w ml ml') (k + 2) → tB G mX3_walk 224 [vR 88, vR wo, vR e, vR f, vI ((k + 1 : Nat) : Int), vI ah, vI bh, vI c] [] m2 (wkQ d w ml ml') := by
      intro m2 c hk g4 g2 g3
      refine T_inc dX3_walk_224 rfl (by decide) rfl (by omega) ?_
      refine T_drop 5 (T_drop 6 (T_drop 7 ?_))
      refine T_goto (tgt := 51) dX3_walk_227 (by decide) ?_
      exact ih (k + 1, m2) ⟨hk, g2, g3, g4⟩ (by dsimp only; omega)
    have h156 : k + 1 ≤ 24 → tB G mX3_walk 156 [vR 88, vR wo, vR e, vR f, vI ((k + 1 : Nat) : Int), vI ah, vU 0, vU 0] [] (up (up m 89 (k + 1) (plS w ml ml' (k + 1)).1) 90 (k + 1) (plS w ml ml' (k + 1)).2) (wkQ d w ml ml') := by
      intro hk
      have g4 : Fr 88 90 d (up (up m 89 (k + 1) (plS w ml ml' (k + 1)).1) 90 (k + 1) (plS w ml ml' (k + 1)).2) := (h4.up (by omega)).up (by omega)
      have g2 : ∀ t, t ≤ k + 1 → (up (up m 89 (k + 1) (plS w ml ml' (k + 1)).1) 90 (k + 1) (plS w ml ml' (k + 1)).2) 89 t = (plS w ml ml' t).1 ∧ (up (up m 89 (k + 1) (plS w ml ml' (k + 1)).1) 90 (k + 1) (plS w ml ml' (k + 1)).2) 90 t = (plS w ml ml' t).2 := fun t ht => by
        rcases (show t ≤ k ∨ t = k + 1 by omega) with q | rfl
        · rw [up_nea (by decide), up_nej (by omega), up_nej (by omega), up_nea (by decide)]; exact h2 t q
        · rw [up_nea (by decide), up_same, up_same]; exact ⟨rfl, rfl⟩
      have g3 : (up (up m 89 (k + 1) (plS w ml ml' (k + 1)).1) 90 (k + 1) (plS w ml ml' (k + 1)).2) 88 2 = fsN (mtP w ml ml') (k + 1) := by rw [up_nea (by decide), up_nea (by decide)]; exact h3
      have h198 : ∀ c : Int, c = bI ((ah < 0 ∧ 0 < bh) ∨ (0 < ah ∧ bh < 0)) → tB G mX3_walk 198 [vR 88, vR wo, vR e, vR f, vI ((k + 1 : Nat) : Int), vI ah, vI bh, vU 0] [vI c] (up (up m 89 (k + 1) (plS w ml ml' (k + 1)).1) 90 (k + 1) (plS w ml ml' (k + 1)).2) (wkQ d w ml ml') := by
        intro c hc
        have hc2 : c = 0 ∨ c = 1 := by rw [hc]; exact bI_01 _
        refine T_ist dX3_walk_198 (by decide) rfl ?_
        refine T_aload_n dX3_walk_200 rfl ?_
        refine T_getIv dX3_walk_201 fX3_18 rfl k88 (x := fsN (mtP w ml ml') (k + 1)) g3 ?_
        refine T_iconst dX3_walk_204 (by decide) ?_
        refine T_icmp_ne (tgt := 224) dX3_walk_205 (by decide) (fun c205 => ?_) (fun c205 => ?_)
        · exact h224 _ _ hk g4 g2 (by rw [g3, hfs, if_neg (fun q => c205 q.2)])
        · refine T_iload dX3_walk_208 rfl ?_
          refine T_if_eq (tgt := 218) dX3_walk_210 (by decide) (fun c210 => ?_) (fun c210 => ?_)
          · refine T_aload_n dX3_walk_218 rfl ?_
            refine T_iload dX3_walk_219 rfl ?_
            refine T_putI dX3_walk_221 fX3_18 rfl k88 ?_
            exact h224 _ _ hk (g4.up (by omega)) (fun t ht => by rw [up_nea (by decide), up_nea (by decide)]; exact g2 t ht) (by rw [up_same, hfs, if_pos ⟨hmp.mpr (Or.inl c210), c205⟩])
          · refine T_iload dX3_walk_213 rfl ?_
            refine T_if_eq (tgt := 224) dX3_walk_215 (by decide) (fun c215 => ?_) (fun c215 => ?_)
            · exact h224 _ _ hk g4 g2 (by rw [g3, hfs, if_neg (fun q => bI_0 (hc ▸ c215) (by have := hmp.mp q.1; omega))])
            · refine T_aload_n dX3_walk_218 rfl ?_
              refine T_iload dX3_walk_219 rfl ?_
              refine T_putI dX3_walk_221 fX3_18 rfl k88 ?_
              exact h224 _ _ hk (g4.up (by omega)) (fun t ht => by rw [up_nea (by decide), up_nea (by decide)]; exact g2 t ht) (by rw [up_same, hfs, if_pos ⟨hmp.mpr (by have := bI_1 (hc ▸ c215); omega), c205⟩])
      refine T_aload_n dX3_walk_156 rfl ?_
      refine T_getR dX3_walk_157 fX3_15 rfl k88 r88_1 ?_
      refine T_iload dX3_walk_160 rfl ?_
      refine T_ialdv dX3_walk_162 k90 l90 (by omega) (j := k + 1) (by omega) (x := (plS w ml ml' (k + 1)).2) (g2 (k + 1) (Nat.le_refl _)).2 ?_
      refine T_aload_n dX3_walk_163 rfl ?_
      refine T_getR dX3_walk_164 fX3_9 rfl k88 r88_0 ?_
      refine T_iload dX3_walk_167 rfl ?_
      refine T_ialdv dX3_walk_169 k89 l89 (by omega) (j := k + 1) (by omega) (x := (plS w ml ml' (k + 1)).1) (g2 (k + 1) (Nat.le_refl _)).1 ?_
      refine T_sub dX3_walk_170 (by omega) ?_
      refine T_top (y := bh) hB ?_
      refine T_ist dX3_walk_171 (by decide) rfl ?_
      refine T_iload dX3_walk_173 rfl ?_
      refine T_if_ge (tgt := 183) dX3_walk_175 (by decide) (fun c175 => ?_) (fun c175 => ?_)
      · refine T_iload dX3_walk_183 rfl ?_
        refine T_if_le (tgt := 197) dX3_walk_185 (by decide) (fun c185 => ?_) (fun c185 => ?_)
        · refine T_iconst dX3_walk_197 (by decide) ?_
          exact h198 _ (by first | (exfalso; omega) | rw [bI_t (by omega)] | rw [bI_f (by omega)])
        · refine T_iload dX3_walk_188 rfl ?_
          refine T_if_ge (tgt := 197) dX3_walk_190 (by decide) (fun c190 => ?_) (fun c190 => ?_)
          · refine T_iconst dX3_walk_197 (by decide) ?_
            exact h198 _ (by first | (exfalso; omega) | rw [bI_t (by omega)] | rw [bI_f (by omega)])
          · refine T_iconst dX3_walk_193 (by decide) ?_
            refine T_goto (tgt := 198) dX3_walk_194 (by decide) ?_
            exact h198 _ (by first | (exfalso; omega) | rw [bI_t (by omega)] | rw [bI_f (by omega)])
      · refine T_iload dX3_walk_178 rfl ?_
        refine T_if_gt (tgt := 193) dX3_walk_180 (by decide) (fun c180 => ?_) (fun c180 => ?_)
        · refine T_iconst dX3_walk_193 (by decide) ?_
          refine T_goto (tgt := 198) dX3_walk_194 (by decide) ?_
          exact h198 _ (by first | (exfalso; omega) | rw [bI_t (by omega)] | rw [bI_f (by omega)])
        · refine T_iload dX3_walk_183 rfl ?_
          refine T_if_le (tgt := 197) dX3_walk_185 (by decide) (fun c185 => ?_) (fun c185 => ?_)
          · refine T_iconst dX3_walk_197 (by decide) ?_
            exact h198 _ (by first | (exfalso; omega) | rw [bI_t (by omega)] | rw [bI_f (by omega)])
          · refine T_iload dX3_walk_188 rfl ?_
            refine T_if_ge (tgt := 197) dX3_walk_190 (by decide) (fun c190 => ?_) (fun c190 => ?_)
            · refine T_iconst dX3_walk_197 (by decide) ?_
              exact h198 _ (by first | (exfalso; omega) | rw [bI_t (by omega)] | rw [bI_f (by omega)])
            · refine T_iconst dX3_walk_193 (by decide) ?_
              refine T_goto (tgt := 198) dX3_walk_194 (by decide) ?_
              exact h198 _ (by first | (exfalso; omega) | rw [bI_t (by omega)] | rw [bI_f (by omega)])
    refine T_iload dX3_walk_51 rfl ?_
    refine T_bipush dX3_walk_53 (by decide) ?_
    refine T_icmp_gt (tgt := 230) dX3_walk_55 (by decide) (fun c55 => ?_) (fun c55 => ?_)
    · exact T_return dX3_walk_230 rfl ⟨rfl, ⟨fun t ht => h2 t (by omega), by rw [h3, show k + 1 = 25 by omega]; exact fs_fst 25⟩, h4⟩
    · refine T_aload_n dX3_walk_58 rfl ?_
      refine T_getR dX3_walk_59 fX3_15 rfl k88 r88_1 ?_
      refine T_iload dX3_walk_62 rfl ?_
      refine T_iconst dX3_walk_64 (by decide) ?_
      refine T_sub dX3_walk_65 (by omega) ?_
      refine T_ialdv dX3_walk_66 k90 l90 (by omega) (j := k) (by omega) (x := (plS w ml ml' k).2) a2 ?_
      refine T_aload_n dX3_walk_67 rfl ?_
      refine T_getR dX3_walk_68 fX3_9 rfl k88 r88_0 ?_
      refine T_iload dX3_walk_71 rfl ?_
      refine T_iconst dX3_walk_73 (by decide) ?_
      refine T_sub dX3_walk_74 (by omega) ?_
      refine T_ialdv dX3_walk_75 k89 l89 (by omega) (j := k) (by omega) (x := (plS w ml ml' k).1) a1 ?_
      refine T_sub dX3_walk_76 (by omega) ?_
      refine T_top (y := ah) hA ?_
      refine T_ist dX3_walk_77 (by decide) rfl ?_
      refine T_aload_n dX3_walk_79 rfl ?_
      refine T_getR dX3_walk_80 fX3_9 rfl k88 r88_0 ?_
      refine T_iload dX3_walk_83 rfl ?_
      refine T_aload_n dX3_walk_85 rfl ?_
      refine T_getR dX3_walk_86 fX3_9 rfl k88 r88_0 ?_
      refine T_iload dX3_walk_89 rfl ?_
      refine T_iconst dX3_walk_91 (by decide) ?_
      refine T_sub dX3_walk_92 (by omega) ?_
      refine T_ialdv dX3_walk_93 k89 l89 (by omega) (j := k) (by omega) (x := (plS w ml ml' k).1) a1 ?_
      refine T_aload_n dX3_walk_94 rfl ?_
      refine T_iload dX3_walk_95 rfl ?_
      refine T_iconst dX3_walk_97 (by decide) ?_
      refine T_sub dX3_walk_98 (by omega) ?_
      refine T_aload_n dX3_walk_99 rfl ?_
      refine T_getR dX3_walk_100 fX3_27 rfl hw (rW6 hw) ?_
      refine T_iconst dX3_walk_103 (by decide) ?_
      refine T_ialdv dX3_walk_104 (kW6 hw) (lW6 hw) (by omega) (j := 0) rfl (x := w (11 + 0)) (hOm.2.2.1 0 (by decide)).2.2.1 ?_
      refine T_sub dX3_walk_105 (by omega) ?_
      refine T_callS dX3_walk_106 lX3_30 (As := [_, _]) (rest := _) rfl rfl (by decide) (Nat.le_of_ble_eq_true rfl) (Nat.le_of_ble_eq_true rfl) (t_cmoveAt (a := 0) he hMm hl) ?_
      rintro _ _ ⟨rfl, rfl⟩
      refine T_iload dX3_walk_109 rfl ?_
      refine T_iconst dX3_walk_111 (by decide) ?_
      refine T_callS dX3_walk_112 lX3_34 (As := [_, _, _]) (rest := _) rfl rfl (by decide) (Nat.le_of_ble_eq_true rfl) (Nat.le_of_ble_eq_true rfl) (t_stride (by omega) (Or.inr rfl)) ?_
      rintro _ _ ⟨rfl, rfl⟩
      refine T_add dX3_walk_115 (by omega) ?_
      refine T_top (y := (plS w ml ml' (k + 1)).1) hp1.symm ?_
      refine T_iast dX3_walk_116 k89 l89 (by omega) (j := k + 1) (by omega) ?_
      refine T_aload_n dX3_walk_117 rfl ?_
      refine T_getR dX3_walk_118 fX3_15 rfl k88 r88_1 ?_
      refine T_iload dX3_walk_121 rfl ?_
      refine T_aload_n dX3_walk_123 rfl ?_
      refine T_getR dX3_walk_124 fX3_15 rfl k88 r88_1 ?_
      refine T_iload dX3_walk_127 rfl ?_
      refine T_iconst dX3_walk_129 (by decide) ?_
      refine T_sub dX3_walk_130 (by omega) ?_
      refine T_ialdv dX3_walk_131 k90 l90 (by omega) (j := k) (by omega) (x := (plS w ml ml' k).2) (by rw [up_nea (by decide)]; exact a2) ?_
      refine T_aload_n dX3_walk_132 rfl ?_
      refine T_iload dX3_walk_133 rfl ?_
      refine T_iconst dX3_walk_135 (by decide) ?_
      refine T_sub dX3_walk_136 (by omega) ?_
      refine T_aload_n dX3_walk_137 rfl ?_
      refine T_getR dX3_walk_138 fX3_27 rfl hw (rW6 hw) ?_
      refine T_iconst dX3_walk_141 (by decide) ?_
      refine T_ialdv dX3_walk_142 (kW6 hw) (lW6 hw) (by omega) (j := 1) rfl (x := w (11 + 1)) (by rw [up_nea (by omega)]; exact (hOm.2.2.1 1 (by decide)).2.2.1) ?_
      refine T_sub dX3_walk_143 (by omega) ?_
      refine T_callS dX3_walk_144 lX3_30 (As := [_, _]) (rest := _) rfl rfl (by decide) (Nat.le_of_ble_eq_true rfl) (Nat.le_of_ble_eq_true rfl) (t_cmoveAt (a := 1) hf (Em_fr (lo := 88) (hi := 90) hMm' (Fr.rf.up (by omega)) (by omega)) hl') ?_
      rintro _ _ ⟨rfl, rfl⟩
      refine T_iload dX3_walk_147 rfl ?_
      refine T_ineg dX3_walk_149 ?_
      rw [w32_id (by omega) (by omega)]
      refine T_top (y := (plS w ml ml' k).1 - (plS w ml ml' k).2) (by omega) ?_
      refine T_iconst dX3_walk_150 (by decide) ?_
      refine T_callS dX3_walk_151 lX3_34 (As := [_, _, _]) (rest := _) rfl rfl (by decide) (Nat.le_of_ble_eq_true rfl) (Nat.le_of_ble_eq_true rfl) (t_stride (by omega) (Or.inl rfl)) ?_
      rintro _ _ ⟨rfl, rfl⟩
      refine T_add dX3_walk_154 (by omega) ?_
      refine T_top (y := (plS w ml ml' (k + 1)).2) hp2.symm ?_
      refine T_iast dX3_walk_155 k90 l90 (by omega) (j := k + 1) (by omega) ?_
      exact h156 (by omega)
  have hm0 : mtP w ml ml' 0 ↔ w 13 = w 14 := by
    show ((w 14 - w 13 = 0) ∨ (0 < w 14 - w 13 ∧ w 14 - w 13 < 0) ∨ (w 14 - w 13 < 0 ∧ 0 < w 14 - w 13)) ↔ _
    omega
  have h45 : ∀ y : Int, y = fsN (mtP w ml ml') 1 → tB G mX3_walk 45 [vR 88, vR wo, vR e, vR f, vU 0, vU 0, vU 0, vU 0] [vI y, vR 88] (up (up d 89 0 (w 13)) 90 0 (w 14)) (wkQ d w ml ml') := by
    rintro _ rfl
    refine T_putI dX3_walk_45 fX3_18 rfl k88 ?_
    refine T_iconst dX3_walk_48 (by decide) ?_
    refine T_ist dX3_walk_49 (by decide) rfl ?_
    refine T_nm (fun m2 hm2 => h51 (0, m2) ?_ )
    subst hm2
    try dsimp only
    refine ⟨Nat.zero_le _, fun t ht => ?_, up_same, ((Fr.rf.up (by omega)).up (by omega)).up (by omega)⟩
    obtain rfl : t = 0 := by (try dsimp only at ht); omega
    try dsimp only
    rw [up_nea (by decide), up_nea (by decide), up_same, up_nea (by decide), up_same]
    exact ⟨rfl, rfl⟩
  refine T_aload_n dX3_walk_0 rfl ?_
  refine T_getR dX3_walk_1 fX3_9 rfl k88 r88_0 ?_
  refine T_iconst dX3_walk_4 (by decide) ?_
  refine T_aload_n dX3_walk_5 rfl ?_
  refine T_getR dX3_walk_6 fX3_22 rfl hw (rW7 hw) ?_
  refine T_iconst dX3_walk_9 (by decide) ?_
  refine T_ialdv dX3_walk_10 (kW7 hw) (lW7 hw) (by omega) (j := 0) rfl (x := w 13) (hO.2.2.1 0 (by decide)).2.2.2.1 ?_
  refine T_iast dX3_walk_11 k89 l89 (by omega) (j := 0) rfl ?_
  refine T_aload_n dX3_walk_12 rfl ?_
  refine T_getR dX3_walk_13 fX3_15 rfl k88 r88_1 ?_
  refine T_iconst dX3_walk_16 (by decide) ?_
  refine T_aload_n dX3_walk_17 rfl ?_
  refine T_getR dX3_walk_18 fX3_22 rfl hw (rW7 hw) ?_
  refine T_iconst dX3_walk_21 (by decide) ?_
  refine T_ialdv dX3_walk_22 (kW7 hw) (lW7 hw) (by omega) (j := 1) rfl (x := w 14) (by rw [up_nea (by omega)]; exact (hO.2.2.1 1 (by decide)).2.2.2.1) ?_
  refine T_iast dX3_walk_23 k90 l90 (by omega) (j := 0) rfl ?_
  refine T_aload_n dX3_walk_24 rfl ?_
  refine T_aload_n dX3_walk_25 rfl ?_
  refine T_getR dX3_walk_26 fX3_9 rfl k88 r88_0 ?_
  refine T_iconst dX3_walk_29 (by decide) ?_
  refine T_ialdv dX3_walk_30 k89 l89 (by omega) (j := 0) rfl (x := w 13) (by rw [up_nea (by decide), up_same]) ?_
  refine T_aload_n dX3_walk_31 rfl ?_
  refine T_getR dX3_walk_32 fX3_15 rfl k88 r88_1 ?_
  refine T_iconst dX3_walk_35 (by decide) ?_
  refine T_ialdv dX3_walk_36 k90 l90 (by omega) (j := 0) rfl (x := w 14) up_same ?_
  refine T_icmp_ne (tgt := 44) dX3_walk_37 (by decide) (fun c37 => ?_) (fun c37 => ?_)
  · refine T_iconst dX3_walk_44 (by decide) ?_
    exact h45 _ (by show _ = if _ then _ else _; rw [if_neg (fun q => c37 (hm0.mp q.1))]; rfl)
  · refine T_iconst dX3_walk_40 (by decide) ?_
    refine T_goto (tgt := 45) dX3_walk_41 (by decide) ?_
    exact h45 _ (by show _ = if _ then _ else _; rw [if_pos ⟨hm0.mpr c37, rfl⟩]; rfl)

end C7
