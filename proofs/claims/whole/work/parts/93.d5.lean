/-! the class: fix -/
section C14
variable {G : sG} {d d' : sD} {w g s t h x y r : Nat → Int} {wo ho so se e n a i j : Nat} {m : Int}
/-- other beats at two places, the sooner one written last -/
def ovR (r : Nat → Int) (i j bl bs : Nat) : Nat → Int := fun k => if k = i then (r i + bs) % 4 else if k = j then (r j + bl) % 4 else r k
abbrev lbP (w r : Nat → Int) (n a : Nat) (m : Int) (i j bl bs : Nat) : Prop := isMadeS w (snF w (ovR r i j bl bs) n) n a m = 1
theorem orN_ex {f : Nat → Int} : ∀ n : Nat, (∀ k, k < n → f k = 0 ∨ f k = 1) → orN f n = 1 → ∃ k, k < n ∧ f k = 1
  | 0, _, h => absurd h (by show ¬ (0 : Int) = 1; omega)
  | n + 1, h01, h => by
    rw [orN_s] at h
    by_cases q : orN f n = 0
    · rw [if_pos q] at h; exact ⟨n, by omega, h⟩
    · obtain ⟨k, hk, hf⟩ := orN_ex n (fun k hk => h01 k (by omega)) ((orN_01 (fun k hk => h01 k (by omega))).resolve_left q)
      exact ⟨k, by omega, hf⟩
theorem orN_in {f : Nat → Int} {n k : Nat} (h01 : ∀ k, k < n → f k = 0 ∨ f k = 1) (hk : k < n) (hf : f k = 1) : orN f n = 1 := by
  have h1 : orN f (k + 1) = 1 := by
    rw [orN_s]
    rcases orN_01 (f := f) (n := k) (fun q hq => h01 q (by omega)) with z | z
    · rw [if_pos z]; exact hf
    · rw [if_neg (by omega)]
  have := orN_mono h1 (n - (k + 1))
  rwa [show k + 1 + (n - (k + 1)) = n by omega] at this
theorem made_congr {r' : Nat → Int} (e : ∀ k, r k = r' k) : isMadeS w (snF w r n) n a m = isMadeS w (snF w r' n) n a m := by rw [show r = r' from funext e]
theorem fx_iff (hri : 0 ≤ r i ∧ r i ≤ 3) (hrj : 0 ≤ r j ∧ r j ≤ 3) : fxS w r n a m i j = 1 ↔ ∃ bl bs : Nat, (1 ≤ bl ∧ bl < (if i = j then 2 else 4)) ∧ (1 ≤ bs ∧ bs < 4) ∧ lbP w r n a m i j bl bs := by
  constructor
  · intro h
    obtain ⟨q, hq, hf⟩ := orN_ex 16 (fun k _ => bI_01 _) h
    have hP : fxP w r n a m i j q := bI_1 (by show ¬ bI _ = 0; have hf' : bI (fxP w r n a m i j q) = 1 := hf; rw [hf']; decide)
    obtain ⟨⟨⟨p1, p2⟩, p3⟩, p4⟩ := hP
    have u1 : ((q / 4 : Nat) : Int) ≤ 3 := by omega
    have u2 : ((q % 4 : Nat) : Int) ≤ 3 := by omega
    by_cases hij : i = j
    · subst hij
      have hu : q / 4 = q % 4 := p3.resolve_left (fun z => z rfl)
      refine ⟨1, ((((q / 4 : Nat) : Int) - r i) % 4).toNat, ⟨by omega, by rw [if_pos rfl]; omega⟩, by omega, ?_⟩
      refine Eq.trans (made_congr (fun k => ?_)) p4
      unfold ovR fxR
      by_cases hk : k = i
      · rw [if_pos hk, if_pos hk]; omega
      · rw [if_neg hk, if_neg hk, if_neg hk, if_neg hk]
    · refine ⟨((((q % 4 : Nat) : Int) - r j) % 4).toNat, ((((q / 4 : Nat) : Int) - r i) % 4).toNat, ⟨by omega, by rw [if_neg hij]; omega⟩, by omega, ?_⟩
      refine Eq.trans (made_congr (fun k => ?_)) p4
      unfold ovR fxR
      by_cases hk : k = i
      · have hkj : k ≠ j := fun z => hij (hk.symm.trans z)
        rw [if_pos hk, if_neg hkj, if_pos hk]; omega
      · by_cases hkj : k = j
        · rw [if_neg hk, if_pos hkj, if_pos hkj]; omega
        · rw [if_neg hk, if_neg hkj, if_neg hkj, if_neg hk]
  · rintro ⟨bl, bs, hbl, hbs, hP⟩
    have h01 : ∀ k, k < 16 → bI (fxP w r n a m i j k) = 0 ∨ bI (fxP w r n a m i j k) = 1 := fun k _ => bI_01 _
    by_cases hij : i = j
    · subst hij
      have hu : ((r i + bs) % 4).toNat < 4 := by omega
      have h5 : ∀ u : Nat, u < 4 → 5 * u / 4 = u ∧ 5 * u % 4 = u := by decide
      obtain ⟨h5a, h5b⟩ := h5 _ hu
      refine orN_in (f := fun q => bI (fxP w r n a m i i q)) (k := 5 * ((r i + bs) % 4).toNat) h01 (by omega) (bI_t ⟨⟨⟨by omega, by omega⟩, Or.inr (by omega)⟩, ?_⟩)
      refine Eq.trans (made_congr (fun k => ?_)) hP
      unfold ovR fxR
      by_cases hk : k = i
      · rw [if_pos hk, if_pos hk]; omega
      · rw [if_neg hk, if_neg hk, if_neg hk, if_neg hk]
    · rw [if_neg hij] at hbl
      have hu : ((r i + bs) % 4).toNat < 4 := by omega
      have hv : ((r j + bl) % 4).toNat < 4 := by omega
      refine orN_in (f := fun q => bI (fxP w r n a m i j q)) (k := 4 * ((r i + bs) % 4).toNat + ((r j + bl) % 4).toNat) h01 (by omega) (bI_t ⟨⟨⟨by omega, by omega⟩, Or.inl hij⟩, ?_⟩)
      refine Eq.trans (made_congr (fun k => ?_)) hP
      unfold ovR fxR
      by_cases hk : k = i
      · have hkj : k ≠ j := fun z => hij (hk.symm.trans z)
        rw [if_pos hk, if_neg hkj, if_pos hk]; omega
      · by_cases hkj : k = j
        · rw [if_neg hk, if_pos hkj, if_pos hkj]; omega
        · rw [if_neg hk, if_neg hkj, if_neg hkj, if_neg hk]
/-- memory changed in truth and where it is played and heard alone -/
def Tf (d d' : sD) : Prop := ∀ b k, ¬ ((84 ≤ b ∧ b ≤ 86) ∨ (259 ≤ b ∧ b ≤ 270)) → d' b k = d b k
theorem Tf.rf : Tf d d := fun _ _ _ => rfl
theorem Tf.trans {d d1 d2 : sD} (h1 : Tf d d1) (h2 : Tf d1 d2) : Tf d d2 := fun b k hb => (h2 b k hb).trans (h1 b k hb)
theorem Tf.cf (h : Tf d d') : Cf d d' := fun b k hn => h b k (by omega)
theorem Lf.tf (h : Lf d d') : Tf d d' := fun b k hn => h b k (by omega)
theorem Tf.up {d1 : sD} {k : Nat} {v : Int} (h : Tf d d1) : Tf d (up d1 84 k v) := fun b k' hn => by rw [up_nea (by omega)]; exact h b k' hn
theorem rest2 {b : sD} (hk : ∀ k, k < n → k ≠ i → k ≠ j → b 84 k = r k) (hri : 0 ≤ r i ∧ r i ≤ 3) (hrj : 0 ≤ r j ∧ r j ≤ 3) {k : Nat} (hkn : k < n) : up (up b 84 j ((r j + ((0 : Nat) : Int)) % 4)) 84 i ((r i + ((0 : Nat) : Int)) % 4) 84 k = r k := by
  by_cases z : k = i
  · subst z; rw [up_same]; omega
  · rw [up_nej z]
    by_cases z2 : k = j
    · subst z2; rw [up_same]; omega
    · rw [up_nej z2]; exact hk k hkn z z2
abbrev lmQ (d : sD) (w r : Nat → Int) (n a : Nat) (m : Int) (i j : Nat) : Option sV → sD → Prop := fun z d' => z = some (vI (fxS w r n a m i j)) ∧ (∀ k, k < n → d' 84 k = r k) ∧ Tf d d'
theorem t_letsMakeBy (hw : kn S0 wo = 10) (hO : Wo d wo w) (hV : WV w) (hn : d 81 5 = (n : Int)) (hn24 : n ≤ 24) (hr : ∀ k, k < n → d 82 k = r k) (hr3 : ∀ k, k < n → 0 ≤ r k ∧ r k ≤ 3) (ht : ∀ k, k < n → d 84 k = r k) (ha : a < 2) (hi : i < n) (hj : j < n) : tB G mX11_letsMakeBy 0 [vR 1, vR wo, vI a, vI m, vI i, vI j, vU 0, vU 0, vU 0, vU 0] [] d (lmQ d w r n a m i j) := by
  have hat := at_W hw
  have hri := hr3 i hi
  have hrj := hr3 j hj
  have hiff := fx_iff (w := w) (n := n) (a := a) (m := m) hri hrj
  have hWt : ∀ b, Tf d b → Wo b wo w := fun b hb => Wo_eq hO (fun x k hx => hb _ _ (by omega))
  have h5 : ∀ b, Tf d b → b 81 5 = (n : Int) := fun b hb => by rw [hb 81 5 (by omega)]; exact hn
  have h8 : ∀ b, Tf d b → ∀ k, k < n → b 82 k = r k := fun b hb k hk => by rw [hb 82 k (by omega)]; exact hr k hk
  have h89 : ∀ (y : Int) (b : sD) (v8 v9 : sV), Tf d b → y = fxS w r n a m i j → (∀ k, k < n → k ≠ i → k ≠ j → b 84 k = r k) → tB G mX11_letsMakeBy 89 [vR 1, vR wo, vI a, vI m, vI i, vI j, vI y, vI (if i = j then 2 else 4), v8, v9] [] b (lmQ d w r n a m i j) := by
    rintro _ b v8 v9 hb rfl hk
    refine T_aload_n dX11_letsMakeBy_89 rfl ?_
    refine T_getR dX11_letsMakeBy_90 fX11_41 rfl k1 r1_5 ?_
    refine T_iload dX11_letsMakeBy_93 rfl ?_
    refine T_iconst dX11_letsMakeBy_95 (by decide) ?_
    refine T_callV dX11_letsMakeBy_96 lX11_452 (As := [_, _]) (rest := _) rfl rfl k81 (by decide) (Nat.le_of_ble_eq_true rfl) (Nat.le_of_ble_eq_true rfl) (t_giveOther (b := 0) (r := r) (h5 b hb) hn24 hj (h8 b hb j hj) hrj (by decide)) ?_
    rintro _ _ ⟨rfl, rfl⟩
    refine T_aload_n dX11_letsMakeBy_99 rfl ?_
    refine T_getR dX11_letsMakeBy_100 fX11_41 rfl k1 r1_5 ?_
    refine T_iload dX11_letsMakeBy_103 rfl ?_
    refine T_iconst dX11_letsMakeBy_105 (by decide) ?_
    refine T_callV dX11_letsMakeBy_106 lX11_452 (As := [_, _]) (rest := _) rfl rfl k81 (by decide) (Nat.le_of_ble_eq_true rfl) (Nat.le_of_ble_eq_true rfl) (t_giveOther (b := 0) (r := r) (h5 _ hb.up) hn24 hi (h8 _ hb.up i hi) hri (by decide)) ?_
    rintro _ _ ⟨rfl, rfl⟩
    refine T_iload dX11_letsMakeBy_109 rfl ?_
    exact T_zreturn dX11_letsMakeBy_111 rfl fxS_01 ⟨rfl, fun k hkn => rest2 hk hri hrj hkn, hb.up.up⟩
  have h20 : ∀ z : (Nat × Int) × sD, ((1 ≤ z.1.1 ∧ z.1.1 ≤ (if i = j then 2 else 4)) ∧ ((z.1.2 = 0 ∧ ∀ bl bs : Nat, 1 ≤ bl → bl < z.1.1 → 1 ≤ bs → bs < 4 → ¬ lbP w r n a m i j bl bs) ∨ (z.1.2 = 1 ∧ fxS w r n a m i j = 1)) ∧ (∀ k, k < n → k ≠ i → k ≠ j → z.2 84 k = r k) ∧ Tf d z.2) → tB G mX11_letsMakeBy 20 [vR 1, vR wo, vI a, vI m, vI i, vI j, vI z.1.2, vI (if i = j then 2 else 4), vI z.1.1, vU 0] [] z.2 (lmQ d w r n a m i j) := by
    refine T_loop (α := (Nat × Int) × sD) 20 (fun z => [vR 1, vR wo, vI a, vI m, vI i, vI j, vI z.1.2, vI (if i = j then 2 else 4), vI z.1.1, vU 0]) (fun z => z.2) (fun z => (1 ≤ z.1.1 ∧ z.1.1 ≤ (if i = j then 2 else 4)) ∧ ((z.1.2 = 0 ∧ ∀ bl bs : Nat, 1 ≤ bl → bl < z.1.1 → 1 ≤ bs → bs < 4 → ¬ lbP w r n a m i j bl bs) ∨ (z.1.2 = 1 ∧ fxS w r n a m i j = 1)) ∧ (∀ k, k < n → k ≠ i → k ≠ j → z.2 84 k = r k) ∧ Tf d z.2) (fun z => 5 - z.1.1) ?_
    rintro ⟨⟨bl, y⟩, b⟩ ⟨⟨h1, h2⟩, h3, h4, hT⟩ ih
    try dsimp only at h1 h2 h3 h4 hT ih ⊢
    have hk4 : (if i = j then (2 : Int) else 4) = ((if i = j then 2 else 4 : Nat) : Int) := by split <;> rfl
    have hkle : (if i = j then 2 else 4 : Nat) ≤ 4 := by split <;> omega
    have h46 : bl < (if i = j then 2 else 4) → ∀ z : (Nat × Int) × sD, ((1 ≤ z.1.1 ∧ z.1.1 ≤ 4) ∧ ((z.1.2 = 0 ∧ (∀ bl' bs : Nat, 1 ≤ bl' → bl' < bl → 1 ≤ bs → bs < 4 → ¬ lbP w r n a m i j bl' bs) ∧ ∀ bs : Nat, 1 ≤ bs → bs < z.1.1 → ¬ lbP w r n a m i j bl bs) ∨ (z.1.2 = 1 ∧ fxS w r n a m i j = 1)) ∧ ((∀ k, k < n → k ≠ i → k ≠ j → z.2 84 k = r k) ∧ (i ≠ j → z.2 84 j = (r j + bl) % 4)) ∧ Tf d z.2) → tB G mX11_letsMakeBy 46 [vR 1, vR wo, vI a, vI m, vI i, vI j, vI z.1.2, vI (if i = j then 2 else 4), vI bl, vI z.1.1] [] z.2 (lmQ d w r n a m i j) := by
      intro hbl
      refine T_loop (α := (Nat × Int) × sD) 46 (fun z => [vR 1, vR wo, vI a, vI m, vI i, vI j, vI z.1.2, vI (if i = j then 2 else 4), vI bl, vI z.1.1]) (fun z => z.2) (fun z => (1 ≤ z.1.1 ∧ z.1.1 ≤ 4) ∧ ((z.1.2 = 0 ∧ (∀ bl' bs : Nat, 1 ≤ bl' → bl' < bl → 1 ≤ bs → bs < 4 → ¬ lbP w r n a m i j bl' bs) ∧ ∀ bs : Nat, 1 ≤ bs → bs < z.1.1 → ¬ lbP w r n a m i j bl bs) ∨ (z.1.2 = 1 ∧ fxS w r n a m i j = 1)) ∧ ((∀ k, k < n → k ≠ i → k ≠ j → z.2 84 k = r k) ∧ (i ≠ j → z.2 84 j = (r j + bl) % 4)) ∧ Tf d z.2) (fun z => 5 - z.1.1) ?_
      rintro ⟨⟨bs, y2⟩, b2⟩ ⟨⟨g1, g2⟩, g3, ⟨g4, g5⟩, gT⟩ ih2
      try dsimp only at g1 g2 g3 g4 g5 gT ih2 ⊢
      have h83 : ((y2 = 0 ∧ ∀ bl' bs : Nat, 1 ≤ bl' → bl' < bl + 1 → 1 ≤ bs → bs < 4 → ¬ lbP w r n a m i j bl' bs) ∨ (y2 = 1 ∧ fxS w r n a m i j = 1)) → tB G mX11_letsMakeBy 83 [vR 1, vR wo, vI a, vI m, vI i, vI j, vI y2, vI (if i = j then 2 else 4), vI bl, vI bs] [] b2 (lmQ d w r n a m i j) := by
        intro hy
        refine T_inc dX11_letsMakeBy_83 rfl (by decide) rfl (by omega) ?_
        refine T_drop 9 ?_
        refine T_goto (tgt := 20) dX11_letsMakeBy_86 (by decide) ?_
        exact ih ((bl + 1, y2), b2) ⟨⟨by dsimp only; omega, by dsimp only; omega⟩, hy, g4, gT⟩ (by dsimp only; omega)
      have hov : ∀ k, k < n → (up b2 84 i ((r i + bs) % 4)) 84 k = ovR r i j bl bs k ∧ 0 ≤ ovR r i j bl bs k ∧ ovR r i j bl bs k ≤ 3 := fun k hk => by
        have hrk := hr3 k hk
        unfold ovR
        by_cases z : k = i
        · subst z; rw [up_same, if_pos rfl]; omega
        · rw [up_nej z, if_neg z]
          by_cases z2 : k = j
          · subst z2; rw [if_pos rfl, g5 (fun q => z q.symm)]; omega
          · rw [if_neg z2, g4 k hk z z2]; omega
      refine T_iload dX11_letsMakeBy_46 rfl ?_
      refine T_iconst dX11_letsMakeBy_48 (by decide) ?_
      refine T_icmp_ge (tgt := 83) dX11_letsMakeBy_49 (by decide) (fun c49 => ?_) (fun c49 => ?_)
      · exact h83 (g3.imp (fun q => ⟨q.1, fun bl' bs' u1 u2 u3 u4 => (Nat.lt_or_eq_of_le (Nat.lt_succ_iff.mp u2)).elim (fun z => q.2.1 bl' bs' u1 z u3 u4) (fun z => by subst z; exact q.2.2 bs' u3 (by omega))⟩) id)
      · have hbs : bs < 4 := by omega
        refine T_iload dX11_letsMakeBy_52 rfl ?_
        refine T_if_ne (tgt := 83) dX11_letsMakeBy_54 (by decide) (fun c54 => ?_) (fun c54 => ?_)
        · exact h83 (Or.inr (g3.resolve_left (fun z => by omega)))
        · obtain ⟨rfl, g6, g7⟩ := g3.resolve_right (fun z => by omega)
          refine T_aload_n dX11_letsMakeBy_57 rfl ?_
          refine T_getR dX11_letsMakeBy_58 fX11_41 rfl k1 r1_5 ?_
          refine T_iload dX11_letsMakeBy_61 rfl ?_
          refine T_iload dX11_letsMakeBy_63 rfl ?_
          refine T_callV dX11_letsMakeBy_65 lX11_452 (As := [_, _]) (rest := _) rfl rfl k81 (by decide) (Nat.le_of_ble_eq_true rfl) (Nat.le_of_ble_eq_true rfl) (t_giveOther (b := bs) (r := r) (h5 b2 gT) hn24 hi (h8 b2 gT i hi) hri (by omega)) ?_
          rintro _ _ ⟨rfl, rfl⟩
          refine T_aload_n dX11_letsMakeBy_68 rfl ?_
          refine T_aload_n dX11_letsMakeBy_69 rfl ?_
          refine T_iload_n dX11_letsMakeBy_70 rfl ?_
          refine T_iload_n dX11_letsMakeBy_71 rfl ?_
          refine T_callV dX11_letsMakeBy_72 lX11_307 (As := [_, _, _]) (rest := _) rfl rfl k1 (by decide) (Nat.le_of_ble_eq_true rfl) (Nat.le_of_ble_eq_true rfl) (t_letsMake (t := ovR r i j bl bs) (m := m) hw (hWt _ gT.up) hV (h5 _ gT.up) hn24 hov ha) ?_
          rintro _ b3 ⟨rfl, f3⟩
          refine T_ist dX11_letsMakeBy_75 (by decide) rfl ?_
          refine T_inc dX11_letsMakeBy_77 rfl (by decide) rfl (by omega) ?_
          refine T_goto (tgt := 46) dX11_letsMakeBy_80 (by decide) ?_
          refine ih2 ((bs + 1, _), b3) ⟨⟨by dsimp only; omega, by dsimp only; omega⟩, ?_, ⟨fun k hk z1 z2 => ?_, fun z => ?_⟩, gT.up.trans f3.tf⟩ (by dsimp only; omega)
          · dsimp only
            rcases orN_01 (f := fun k => bI (w (17 + 36 * a + 6 * ((mkS w (snF w (ovR r i j bl bs) n) n a 24 0).1.getD k (0, 0)).1) = m)) (n := (mkS w (snF w (ovR r i j bl bs) n) n a 24 0).1.length) (fun _ _ => bI_01 _) with q | q
            · refine Or.inl ⟨q, g6, fun bs' u1 u2 => ?_⟩
              rcases (show bs' < bs ∨ bs' = bs by omega) with z | rfl
              · exact g7 bs' u1 z
              · exact fun z => by have z' : isMadeS w (snF w (ovR r i j bl bs') n) n a m = 1 := z; have q' : isMadeS w (snF w (ovR r i j bl bs') n) n a m = 0 := q; omega
            · exact Or.inr ⟨q, hiff.mpr ⟨bl, bs, ⟨by omega, hbl⟩, ⟨by omega, by omega⟩, q⟩⟩
          · dsimp only; rw [f3 84 k (by omega), up_nej z1]; exact g4 k hk z1 z2
          · dsimp only; rw [f3 84 j (by omega), up_nej (fun q => z q.symm)]; exact g5 z
    have hfin : ((y = 0 ∧ ∀ bl' bs : Nat, 1 ≤ bl' → bl' < bl → 1 ≤ bs → bs < 4 → ¬ lbP w r n a m i j bl' bs) ∨ (y = 1 ∧ fxS w r n a m i j = 1)) → (¬ bl < (if i = j then 2 else 4) ∨ ¬ y = 0) → y = fxS w r n a m i j := by
      rintro (⟨q1, q2⟩ | ⟨q1, q2⟩) hc
      · have hb2 : ¬ bl < (if i = j then 2 else 4) := hc.resolve_right (fun z => z q1)
        rcases fxS_01 (w := w) (r := r) (n := n) (a := a) (m := m) (i := i) (j := j) with z | z
        · omega
        · obtain ⟨bl', bs, u1, u2, u3⟩ := hiff.mp z
          exact absurd u3 (q2 bl' bs u1.1 (by omega) u2.1 u2.2)
      · omega
    refine T_iload dX11_letsMakeBy_20 rfl ?_
    refine T_iload dX11_letsMakeBy_22 rfl ?_
    refine T_icmp_ge (tgt := 89) dX11_letsMakeBy_24 (by decide) (fun c24 => ?_) (fun c24 => ?_)
    · exact h89 _ _ _ _ hT (hfin h3 (Or.inl (by omega))) h4
    · refine T_iload dX11_letsMakeBy_27 rfl ?_
      refine T_if_ne (tgt := 89) dX11_letsMakeBy_29 (by decide) (fun c29 => ?_) (fun c29 => ?_)
      · exact h89 _ _ _ _ hT (hfin h3 (Or.inr c29)) h4
      · obtain ⟨rfl, h6⟩ := h3.resolve_right (fun z => by omega)
        have hbl : bl < (if i = j then 2 else 4) := by omega
        refine T_aload_n dX11_letsMakeBy_32 rfl ?_
        refine T_getR dX11_letsMakeBy_33 fX11_41 rfl k1 r1_5 ?_
        refine T_iload dX11_letsMakeBy_36 rfl ?_
        refine T_iload dX11_letsMakeBy_38 rfl ?_
        refine T_callV dX11_letsMakeBy_40 lX11_452 (As := [_, _]) (rest := _) rfl rfl k81 (by decide) (Nat.le_of_ble_eq_true rfl) (Nat.le_of_ble_eq_true rfl) (t_giveOther (b := bl) (r := r) (h5 b hT) hn24 hj (h8 b hT j hj) hrj (by omega)) ?_
        rintro _ _ ⟨rfl, rfl⟩
        refine T_iconst dX11_letsMakeBy_43 (by decide) ?_
        refine T_ist dX11_letsMakeBy_44 (by decide) rfl ?_
        refine h46 hbl ((1, 0), up b 84 j ((r j + bl) % 4)) ⟨⟨by dsimp only; omega, by dsimp only; omega⟩, Or.inl ⟨rfl, h6, fun bs u1 u2 => absurd u2 (by dsimp only; omega)⟩, ⟨fun k hk z1 z2 => ?_, fun _ => up_same⟩, hT.up⟩
        dsimp only; rw [up_nej z2]; exact h4 k hk z1 z2
  have h15 : tB G mX11_letsMakeBy 15 [vR 1, vR wo, vI a, vI m, vI i, vI j, vI 0, vU 0, vU 0, vU 0] [vI (if i = j then 2 else 4)] d (lmQ d w r n a m i j) := by
    refine T_ist dX11_letsMakeBy_15 (by decide) rfl ?_
    refine T_iconst dX11_letsMakeBy_17 (by decide) ?_
    refine T_ist dX11_letsMakeBy_18 (by decide) rfl ?_
    refine h20 ((1, 0), d) ⟨⟨by dsimp only; omega, by dsimp only; split <;> omega⟩, Or.inl ⟨rfl, fun bl bs u1 u2 => absurd u2 (by dsimp only; omega)⟩, fun k hk _ _ => ht k hk, Tf.rf⟩
  refine T_iconst dX11_letsMakeBy_0 (by decide) ?_
  refine T_ist dX11_letsMakeBy_1 (by decide) rfl ?_
  refine T_iload dX11_letsMakeBy_3 rfl ?_
  refine T_iload dX11_letsMakeBy_5 rfl ?_
  refine T_icmp_ne (tgt := 14) dX11_letsMakeBy_7 (by decide) (fun c7 => ?_) (fun c7 => ?_)
  · refine T_iconst dX11_letsMakeBy_14 (by decide) ?_
    refine T_top (y := if i = j then 2 else 4) (by rw [if_neg (by omega)]) ?_
    exact h15
  · refine T_iconst dX11_letsMakeBy_10 (by decide) ?_
    refine T_goto (tgt := 15) dX11_letsMakeBy_11 (by decide) ?_
    refine T_top (y := if i = j then 2 else 4) (by rw [if_pos (by omega)]) ?_
    exact h15

end C14
