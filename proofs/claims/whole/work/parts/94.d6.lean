/-! the class: fix -/
section C15
variable {G : sG} {d d' : sD} {w g s t h x y r : Nat → Int} {wo ho so se e n a i j : Nat} {m : Int}
def fcV (w r : Nat → Int) (n a : Nat) (m : Int) : Int := if ¬ isMadeS w (snF w r n) n a m = 0 then 0 else if ¬ fstN (fx1 w r n a m) n 0 = -1 then i_shl 1 (fstN (fx1 w r n a m) n 0) else if (fx2 w r n a m (n - 1) 1).1 = -1 then -1 else i_or (i_shl 1 (fx2 w r n a m (n - 1) 1).2) (i_shl 1 (fx2 w r n a m (n - 1) 1).1)
abbrev fcQ (d : sD) (w r : Nat → Int) (n a : Nat) (m : Int) : Option sV → sD → Prop := fun z d' => z = some (vI (fcV w r n a m)) ∧ Tf d d'
theorem fx2_s {f i : Nat} : fx2 w r n a m (f + 1) i = if fstN (fxT w r n a m i) i 0 = -1 then fx2 w r n a m f (i + 1) else (fstN (fxT w r n a m i) i 0, (i : Int)) := rfl
theorem t_fewestChanged (hw : kn S0 wo = 10) (hO : Wo d wo w) (hV : WV w) (hn : d 81 5 = (n : Int)) (hn24 : n ≤ 24) (hr : ∀ k, k < n → d 82 k = r k) (hr3 : ∀ k, k < n → 0 ≤ r k ∧ r k ≤ 3) (ht : ∀ k, k < n → d 84 k = r k) (ha : a < 2) : tB G mX11_fewestChanged 0 [vR 1, vR wo, vI a, vI m, vU 0, vU 0] [] d (fcQ d w r n a m) := by
  have hat := at_W hw
  have hWt : ∀ b, Tf d b → Wo b wo w := fun b hb => Wo_eq hO (fun x k hx => hb _ _ (by omega))
  have h5 : ∀ b, Tf d b → b 81 5 = (n : Int) := fun b hb => by rw [hb 81 5 (by omega)]; exact hn
  have h8 : ∀ b, Tf d b → ∀ k, k < n → b 82 k = r k := fun b hb k hk => by rw [hb 82 k (by omega)]; exact hr k hk
  have h55 : isMadeS w (snF w r n) n a m = 0 → fstN (fx1 w r n a m) n 0 = -1 → ∀ z : Nat × sD, ((1 ≤ z.1 ∧ z.1 ≤ 25) ∧ fx2 w r n a m (n - z.1) z.1 = fx2 w r n a m (n - 1) 1 ∧ (∀ k, k < n → z.2 84 k = r k) ∧ Tf d z.2) → tB G mX11_fewestChanged 55 [vR 1, vR wo, vI a, vI m, vI z.1, vU 0] [] z.2 (fcQ d w r n a m) := by
    intro hm0 hf0
    refine T_loop (α := Nat × sD) 55 (fun z => [vR 1, vR wo, vI a, vI m, vI z.1, vU 0]) (fun z => z.2) (fun z => (1 ≤ z.1 ∧ z.1 ≤ 25) ∧ fx2 w r n a m (n - z.1) z.1 = fx2 w r n a m (n - 1) 1 ∧ (∀ k, k < n → z.2 84 k = r k) ∧ Tf d z.2) (fun z => 26 - z.1) ?_
    rintro ⟨i, b⟩ ⟨⟨h1, h2⟩, h3, h4, hT⟩ ih
    try dsimp only at h1 h2 h3 h4 hT ih ⊢
    have h70 : i < n → ∀ z : Nat × sD, (z.1 ≤ i ∧ fstN (fxT w r n a m i) (i - z.1) z.1 = fstN (fxT w r n a m i) i 0 ∧ (∀ k, k < n → z.2 84 k = r k) ∧ Tf d z.2) → tB G mX11_fewestChanged 70 [vR 1, vR wo, vI a, vI m, vI i, vI z.1] [] z.2 (fcQ d w r n a m) := by
      intro hin
      have h3s : fx2 w r n a m (n - 1) 1 = if fstN (fxT w r n a m i) i 0 = -1 then fx2 w r n a m (n - (i + 1)) (i + 1) else (fstN (fxT w r n a m i) i 0, (i : Int)) := by
        rw [← h3, show n - i = (n - (i + 1)) + 1 by omega, fx2_s]
      refine T_loop (α := Nat × sD) 70 (fun z => [vR 1, vR wo, vI a, vI m, vI i, vI z.1]) (fun z => z.2) (fun z => z.1 ≤ i ∧ fstN (fxT w r n a m i) (i - z.1) z.1 = fstN (fxT w r n a m i) i 0 ∧ (∀ k, k < n → z.2 84 k = r k) ∧ Tf d z.2) (fun z => i - z.1) ?_
      rintro ⟨j, b2⟩ ⟨g1, g3, g4, gT⟩ ih2
      try dsimp only at g1 g3 g4 gT ih2 ⊢
      refine T_iload dX11_fewestChanged_70 rfl ?_
      refine T_iload dX11_fewestChanged_72 rfl ?_
      refine T_icmp_ge (tgt := 107) dX11_fewestChanged_74 (by decide) (fun c74 => ?_) (fun c74 => ?_)
      · refine T_inc dX11_fewestChanged_107 rfl (by decide) rfl (by omega) ?_
        refine T_goto (tgt := 55) dX11_fewestChanged_110 (by decide) ?_
        refine T_drop 5 ?_
        exact ih (i + 1, b2) ⟨⟨by dsimp only; omega, by dsimp only; omega⟩, by dsimp only; rw [h3s, if_pos (by rw [← g3, show i - j = 0 by omega]; rfl)], g4, gT⟩ (by dsimp only; omega)
      · refine T_aload_n dX11_fewestChanged_77 rfl ?_
        refine T_aload_n dX11_fewestChanged_78 rfl ?_
        refine T_iload_n dX11_fewestChanged_79 rfl ?_
        refine T_iload_n dX11_fewestChanged_80 rfl ?_
        refine T_iload dX11_fewestChanged_81 rfl ?_
        refine T_iload dX11_fewestChanged_83 rfl ?_
        refine T_callV dX11_fewestChanged_85 lX11_448 (As := [_, _, _, _, _]) (rest := _) rfl rfl k1 (by decide) (Nat.le_of_ble_eq_true rfl) (Nat.le_of_ble_eq_true rfl) (t_letsMakeBy (r := r) (n := n) (i := j) (j := i) hw (hWt _ gT) hV (h5 _ gT) hn24 (h8 _ gT) hr3 g4 ha (by omega) hin) ?_
        rintro _ b3 ⟨rfl, e3, f3⟩
        refine T_if_eq (tgt := 101) dX11_fewestChanged_88 (by decide) (fun c88 => ?_) (fun c88 => ?_)
        · refine T_inc dX11_fewestChanged_101 rfl (by decide) rfl (by omega) ?_
          refine T_goto (tgt := 70) dX11_fewestChanged_104 (by decide) ?_
          exact ih2 (j + 1, b3) ⟨by dsimp only; omega, by dsimp only; rw [← g3, fstN_f (show ¬ fxT w r n a m i j from fun q => by have q2 : fxS w r n a m j i = 1 := q; omega) (by omega), show i - (j + 1) = i - j - 1 by omega], e3, gT.trans f3⟩ (by dsimp only; omega)
        · refine T_iconst dX11_fewestChanged_91 (by decide) ?_
          refine T_iload dX11_fewestChanged_92 rfl ?_
          refine T_ishl dX11_fewestChanged_94 ?_
          refine T_iconst dX11_fewestChanged_95 (by decide) ?_
          refine T_iload dX11_fewestChanged_96 rfl ?_
          refine T_ishl dX11_fewestChanged_98 ?_
          refine T_ior dX11_fewestChanged_99 ?_
          exact T_ireturn dX11_fewestChanged_100 rfl ⟨by unfold fcV; rw [if_neg (fun q => q hm0), if_neg (fun q => q hf0), h3s, ← g3, fstN_t (show fxT w r n a m i j from fxS_01.resolve_left c88) (by omega), if_neg (show ¬ (j : Int) = -1 by omega), if_neg (show ¬ (j : Int) = -1 by omega)], gT.trans f3⟩
    refine T_iload dX11_fewestChanged_55 rfl ?_
    refine T_aload_n dX11_fewestChanged_57 rfl ?_
    refine T_getR dX11_fewestChanged_58 fX11_41 rfl k1 r1_5 ?_
    refine T_getIv dX11_fewestChanged_61 fX11_228 rfl k81 (x := (n : Int)) (h5 _ hT) ?_
    refine T_icmp_ge (tgt := 113) dX11_fewestChanged_64 (by decide) (fun c64 => ?_) (fun c64 => ?_)
    · refine T_iconst dX11_fewestChanged_113 (by decide) ?_
      exact T_ireturn dX11_fewestChanged_114 rfl ⟨by unfold fcV; rw [if_neg (fun q => q hm0), if_neg (fun q => q hf0), if_pos (by rw [← h3, show n - i = 0 by omega]; rfl)], hT⟩
    · refine T_iconst dX11_fewestChanged_67 (by decide) ?_
      refine T_ist dX11_fewestChanged_68 (by decide) rfl ?_
      exact h70 (by omega) (0, b) ⟨Nat.zero_le _, rfl, h4, hT⟩
  have h15 : isMadeS w (snF w r n) n a m = 0 → ∀ z : Nat × sD, (z.1 ≤ 24 ∧ fstN (fx1 w r n a m) (n - z.1) z.1 = fstN (fx1 w r n a m) n 0 ∧ (∀ k, k < n → z.2 84 k = r k) ∧ Tf d z.2) → tB G mX11_fewestChanged 15 [vR 1, vR wo, vI a, vI m, vI z.1, vU 0] [] z.2 (fcQ d w r n a m) := by
    intro hm0
    refine T_loop (α := Nat × sD) 15 (fun z => [vR 1, vR wo, vI a, vI m, vI z.1, vU 0]) (fun z => z.2) (fun z => z.1 ≤ 24 ∧ fstN (fx1 w r n a m) (n - z.1) z.1 = fstN (fx1 w r n a m) n 0 ∧ (∀ k, k < n → z.2 84 k = r k) ∧ Tf d z.2) (fun z => 25 - z.1) ?_
    rintro ⟨i, b⟩ ⟨h1, h3, h4, hT⟩ ih
    try dsimp only at h1 h3 h4 hT ih ⊢
    refine T_iload dX11_fewestChanged_15 rfl ?_
    refine T_aload_n dX11_fewestChanged_17 rfl ?_
    refine T_getR dX11_fewestChanged_18 fX11_41 rfl k1 r1_5 ?_
    refine T_getIv dX11_fewestChanged_21 fX11_228 rfl k81 (x := (n : Int)) (h5 _ hT) ?_
    refine T_icmp_ge (tgt := 52) dX11_fewestChanged_24 (by decide) (fun c24 => ?_) (fun c24 => ?_)
    · refine T_iconst dX11_fewestChanged_52 (by decide) ?_
      refine T_ist dX11_fewestChanged_53 (by decide) rfl ?_
      exact h55 hm0 (by rw [← h3, show n - i = 0 by omega]; rfl) (1, b) ⟨⟨by dsimp only; omega, by dsimp only; omega⟩, rfl, h4, hT⟩
    · refine T_aload_n dX11_fewestChanged_27 rfl ?_
      refine T_aload_n dX11_fewestChanged_28 rfl ?_
      refine T_iload_n dX11_fewestChanged_29 rfl ?_
      refine T_iload_n dX11_fewestChanged_30 rfl ?_
      refine T_iload dX11_fewestChanged_31 rfl ?_
      refine T_iload dX11_fewestChanged_33 rfl ?_
      refine T_callV dX11_fewestChanged_35 lX11_448 (As := [_, _, _, _, _]) (rest := _) rfl rfl k1 (by decide) (Nat.le_of_ble_eq_true rfl) (Nat.le_of_ble_eq_true rfl) (t_letsMakeBy (r := r) (n := n) (i := i) (j := i) hw (hWt _ hT) hV (h5 _ hT) hn24 (h8 _ hT) hr3 h4 ha (by omega) (by omega)) ?_
      rintro _ b3 ⟨rfl, e3, f3⟩
      refine T_if_eq (tgt := 46) dX11_fewestChanged_38 (by decide) (fun c38 => ?_) (fun c38 => ?_)
      · refine T_inc dX11_fewestChanged_46 rfl (by decide) rfl (by omega) ?_
        refine T_goto (tgt := 15) dX11_fewestChanged_49 (by decide) ?_
        exact ih (i + 1, b3) ⟨by dsimp only; omega, by dsimp only; rw [← h3, fstN_f (show ¬ fx1 w r n a m i from fun q => by have q2 : fxS w r n a m i i = 1 := q; omega) (by omega), show n - (i + 1) = n - i - 1 by omega], e3, hT.trans f3⟩ (by dsimp only; omega)
      · refine T_iconst dX11_fewestChanged_41 (by decide) ?_
        refine T_iload dX11_fewestChanged_42 rfl ?_
        refine T_ishl dX11_fewestChanged_44 ?_
        exact T_ireturn dX11_fewestChanged_45 rfl ⟨by unfold fcV; rw [if_neg (fun q => q hm0), ← h3, fstN_t (show fx1 w r n a m i from fxS_01.resolve_left c38) (by omega), if_pos (show ¬ (i : Int) = -1 by omega)], hT.trans f3⟩
  refine T_aload_n dX11_fewestChanged_0 rfl ?_
  refine T_aload_n dX11_fewestChanged_1 rfl ?_
  refine T_iload_n dX11_fewestChanged_2 rfl ?_
  refine T_iload_n dX11_fewestChanged_3 rfl ?_
  refine T_callV dX11_fewestChanged_4 lX11_307 (As := [_, _, _]) (rest := _) rfl rfl k1 (by decide) (Nat.le_of_ble_eq_true rfl) (Nat.le_of_ble_eq_true rfl) (t_letsMake (t := r) hw hO hV hn hn24 (fun k hk => ⟨ht k hk, hr3 k hk⟩) ha) ?_
  rintro _ b ⟨rfl, f1⟩
  refine T_if_eq (tgt := 12) dX11_fewestChanged_7 (by decide) (fun c7 => ?_) (fun c7 => ?_)
  · refine T_iconst dX11_fewestChanged_12 (by decide) ?_
    refine T_ist dX11_fewestChanged_13 (by decide) rfl ?_
    exact h15 c7 (0, b) ⟨by dsimp only; omega, rfl, fun k hk => by dsimp only; rw [f1 84 k (by omega)]; exact ht k hk, f1.tf⟩
  · refine T_iconst dX11_fewestChanged_10 (by decide) ?_
    exact T_ireturn dX11_fewestChanged_11 rfl ⟨by unfold fcV; rw [if_pos c7], f1.tf⟩

theorem fx2_rg : ∀ f i : Nat, fx2 w r n a m f i = (-1, -1) ∨ ∃ p q : Nat, fx2 w r n a m f i = ((p : Int), (q : Int)) ∧ p < q ∧ q < i + f
  | 0, _ => Or.inl rfl
  | f + 1, i => by
    rw [fx2_s]
    by_cases q : fstN (fxT w r n a m i) i 0 = -1
    · rw [if_pos q]
      rcases fx2_rg f (i + 1) with z | ⟨p, q, z, z1, z2⟩
      · exact Or.inl z
      · exact Or.inr ⟨p, q, z, z1, by omega⟩
    · rw [if_neg q]
      rcases fstN_rg (f := fxT w r n a m i) i 0 with z | ⟨c, z, z1, z2⟩
      · exact absurd z q
      · exact Or.inr ⟨c, i, by rw [z], by omega, by omega⟩
theorem or_comm2 (x y : Int) : i_or x y = i_or y x := by unfold i_or; rw [Int32.or_comm]
theorem bs1 : ∀ p : Nat, p < 24 → bcE (i_shl 1 (p : Int)) = 1 ∧ ¬ i_shl 1 (p : Int) = -1 := by decide +kernel
theorem bs2 : ∀ q : Nat, q < 24 → ∀ p : Nat, p < q → bcE (i_or (i_shl 1 (q : Int)) (i_shl 1 (p : Int))) = 2 ∧ ¬ i_or (i_shl 1 (q : Int)) (i_shl 1 (p : Int)) = -1 := by decide +kernel
/-- what is told of the fewest places, out of their bits -/
theorem fcV_fix {x : Int} (hn24 : n ≤ 24) (hm : 0 ≤ m ∧ m ≤ 4) (ha : a < 2) : (if ¬ x = 0 ∨ fcV w (rB w g) n a m = -1 then fcV w (rB w g) n a m else bcE (fcV w (rB w g) n a m)) = if ¬ isMadeS w (snF w (rB w g) n) n a m = 0 then 0 else qFx w (rB w g) n a m x := by
  unfold fcV qFx
  by_cases h0 : ¬ isMadeS w (snF w (rB w g) n) n a m = 0
  · rw [if_pos h0, if_pos h0]
    split
    · rfl
    · decide +kernel
  · rw [if_neg h0, if_neg h0]
    by_cases h1 : ¬ fstN (fx1 w (rB w g) n a m) n 0 = -1
    · rw [if_pos h1, if_pos h1]
      rcases fstN_rg (f := fx1 w (rB w g) n a m) n 0 with z | ⟨c, z, z1, z2⟩
      · exact absurd z h1
      · obtain ⟨b1, b2⟩ := bs1 c (by omega)
        rw [z, b1]
        by_cases hx : x = 0
        · rw [if_neg (fun q => q.elim (fun z => z hx) b2), if_pos hx]
        · rw [if_pos (Or.inl hx), if_neg hx]
    · rw [if_neg h1, if_neg h1]
      rcases fx2_rg (w := w) (r := rB w g) (n := n) (a := a) (m := m) (n - 1) 1 with z | ⟨p, q, z, z1, z2⟩
      · rw [z, if_pos rfl, if_pos (Or.inr rfl), if_pos rfl]
      · obtain ⟨b1, b2⟩ := bs2 q (by omega) p z1
        rw [z, if_neg (show ¬ ((p : Int), (q : Int)).1 = -1 from (by show ¬ (p : Int) = -1; omega)), if_neg (show ¬ ((p : Int), (q : Int)).1 = -1 from (by show ¬ (p : Int) = -1; omega))]
        show (if ¬ x = 0 ∨ i_or (i_shl 1 (q : Int)) (i_shl 1 (p : Int)) = -1 then i_or (i_shl 1 (q : Int)) (i_shl 1 (p : Int)) else bcE (i_or (i_shl 1 (q : Int)) (i_shl 1 (p : Int)))) = if x = 0 then 2 else i_or (i_shl 1 (p : Int)) (i_shl 1 (q : Int))
        by_cases hx : x = 0
        · rw [if_neg (fun q => q.elim (fun z => z hx) b2), if_pos hx, b1]
        · rw [if_pos (Or.inl hx), if_neg hx, or_comm2]
theorem t_C_fix {k l a m x : Int} (hM : MS d) (hC : CS d) : tB G mX11_fix 0 [vR 1, vI k, vI l, vI a, vI m, vI x, vU 0, vU 0, vU 0] [] d (cQ d (if Vp d k l then qFix (wvD d k.toNat) (gvD d l.toNat) a m x else -1)) := by
  have hc0 := hM.1 0 (by decide)
  have hc1 := hM.1 1 (by decide)
  have h14 : ∀ r6 r7 : Nat, r6 = (if Vd d 0 k then 9 + 21 * k.toNat else 0) → r7 = (if Vd d 1 l then 19 + 21 * l.toNat else 0) → tB G mX11_fix 14 [vR 1, vI k, vI l, vI a, vI m, vI x, vR r6, vR r7, vU 0] [] d (cQ d (if Vp d k l then qFix (wvD d k.toNat) (gvD d l.toNat) a m x else -1)) := by
    intro r6 r7 e6 e7
    have h41 : Vp d k l → (0 ≤ a ∧ a ≤ 1) → (0 ≤ m ∧ m ≤ 4) → tB G mX11_fix 41 [vR 1, vI k, vI l, vI a, vI m, vI x, vR r6, vR r7, vU 0] [] d (cQ d (if Vp d k l then qFix (wvD d k.toNat) (gvD d l.toNat) a m x else -1)) := by
      intro hv ha hm
      rw [if_pos hv.1] at e6
      rw [if_pos hv.2] at e7
      subst e6; subst e7
      have hw := (kn_w k.toNat (by omega)).1
      have hs := (kn_s l.toNat (by omega)).1
      have hO := hC.2.1 k.toNat (by omega)
      have hS := hC.2.2.1 l.toNat (by omega)
      have hV := hM.2.1 k.toNat (by omega)
      have hG := hM.2.2.1 l.toNat (by omega)
      rw [if_pos hv]
      have hat := at_W hw
      generalize wvD d k.toNat = w at *
      generalize gvD d l.toNat = g at *
      have hwv := hV.1
      have hlen := rowS_24 hV hG
      obtain ⟨a, rfl⟩ : ∃ q : Nat, a = (q : Int) := ⟨a.toNat, by omega⟩
      have hq : qFix w g a m x = (if ¬ x = 0 ∨ fcV w (rB w g) (rowS w g).length a m = -1 then fcV w (rB w g) (rowS w g).length a m else bcE (fcV w (rB w g) (rowS w g).length a m)) := by
        rw [fcV_fix hlen hm (by omega)]
        unfold qFix
        rw [if_neg (by omega), if_neg (by omega), Int.toNat_natCast]
      rw [hq]
      refine T_aload_n dX11_fix_41 rfl ?_
      refine T_getR dX11_fix_42 fX11_41 rfl k1 r1_5 ?_
      refine T_aload dX11_fix_45 rfl ?_
      refine T_getIv dX11_fix_47 fX11_169 rfl hw (x := ((w 0).toNat : Int)) (by rw [hO.1.1]; omega) ?_
      refine T_aload dX11_fix_50 rfl ?_
      refine T_callV dX11_fix_52 lX11_303 (As := [_, _]) (rest := _) rfl rfl k81 (by decide) (Nat.le_of_ble_eq_true rfl) (Nat.le_of_ble_eq_true rfl) (t_clay (w := w) (t := (w 0).toNat) hs hS hG (by omega) (by omega)) ?_
      rintro _ d1 ⟨rfl, e1, f1⟩
      refine T_aload_n dX11_fix_55 rfl ?_
      refine T_aload dX11_fix_56 rfl ?_
      refine T_iload_n dX11_fix_58 rfl ?_
      refine T_iload dX11_fix_59 rfl ?_
      refine T_callV dX11_fix_61 lX11_445 (As := [_, _, _]) (rest := _) rfl rfl k1 (by decide) (Nat.le_of_ble_eq_true rfl) (Nat.le_of_ble_eq_true rfl) (t_fewestChanged (r := rB w g) (n := (rowS w g).length) hw (Wo_fr hO f1 (by omega)) hV e1.1 hlen (fun k hk => (e1.2 k hk).1) (fun k _ => rB_rg hG k) (fun k hk => (e1.2 k hk).2.2) (by omega)) ?_
      rintro _ d2 ⟨rfl, f2⟩
      have hcf : Cf d d2 := (f1.cf (by omega)).trans f2.cf
      refine T_ist dX11_fix_64 (by decide) rfl ?_
      refine T_iload dX11_fix_66 rfl ?_
      refine T_if_ne (tgt := 77) dX11_fix_68 (by decide) (fun c68 => ?_) (fun c68 => ?_)
      · refine T_iload dX11_fix_77 rfl ?_
        refine T_goto (tgt := 87) dX11_fix_79 (by decide) ?_
        exact T_ireturn dX11_fix_87 rfl ⟨by rw [if_pos (Or.inl c68)], hcf⟩
      · refine T_iload dX11_fix_71 rfl ?_
        refine T_iconst dX11_fix_73 (by decide) ?_
        refine T_icmp_ne (tgt := 82) dX11_fix_74 (by decide) (fun c74 => ?_) (fun c74 => ?_)
        · refine T_iload dX11_fix_82 rfl ?_
          refine T_callS dX11_fix_84 lX11_324 (As := [_]) (rest := _) rfl rfl (by decide) (Nat.le_of_ble_eq_true rfl) (Nat.le_of_ble_eq_true rfl) t_bitCount ?_
          rintro _ _ ⟨rfl, rfl⟩
          exact T_ireturn dX11_fix_87 rfl ⟨by rw [if_neg (fun q => q.elim (fun z => z c68) c74)], hcf⟩
        · refine T_iload dX11_fix_77 rfl ?_
          refine T_goto (tgt := 87) dX11_fix_79 (by decide) ?_
          exact T_ireturn dX11_fix_87 rfl ⟨by rw [if_pos (Or.inr c74)], hcf⟩
    refine T_aload dX11_fix_14 rfl ?_
    refine T_ifnull (tgt := 39) dX11_fix_16 (by decide) (fun c16 => ?_) (fun c16 => ?_)
    · refine T_iconst dX11_fix_39 (by decide) ?_
      exact T_ireturn dX11_fix_40 rfl ⟨by rw [if_neg (fun q : Vp d k l => by rw [if_pos q.1] at e6; omega)], Cf.rf⟩
    · refine T_aload dX11_fix_19 rfl ?_
      refine T_ifnull (tgt := 39) dX11_fix_21 (by decide) (fun c21 => ?_) (fun c21 => ?_)
      · refine T_iconst dX11_fix_39 (by decide) ?_
        exact T_ireturn dX11_fix_40 rfl ⟨by rw [if_neg (fun q : Vp d k l => by rw [if_pos q.2] at e7; omega)], Cf.rf⟩
      · refine T_iload_n dX11_fix_24 rfl ?_
        refine T_callS dX11_fix_25 lX11_181 (As := [_]) (rest := _) rfl rfl (by decide) (Nat.le_of_ble_eq_true rfl) (Nat.le_of_ble_eq_true rfl) t_isArmy ?_
        rintro _ _ ⟨rfl, rfl⟩
        refine T_if_eq (tgt := 39) dX11_fix_28 (by decide) (fun c28 => ?_) (fun c28 => ?_)
        · have h28 := bI_0 c28
          refine T_iconst dX11_fix_39 (by decide) ?_
          exact T_ireturn dX11_fix_40 rfl ⟨by unfold qFix; rw [if_pos h28, ite_self], Cf.rf⟩
        · have h28 := bI_1 c28
          refine T_iload dX11_fix_31 rfl ?_
          refine T_callS dX11_fix_33 lX11_292 (As := [_]) (rest := _) rfl rfl (by decide) (Nat.le_of_ble_eq_true rfl) (Nat.le_of_ble_eq_true rfl) t_isMv ?_
          rintro _ _ ⟨rfl, rfl⟩
          refine T_if_ne (tgt := 41) dX11_fix_36 (by decide) (fun c36 => ?_) (fun c36 => ?_)
          · have h36 := bI_1 c36
            exact h41 ⟨if0 e6 c16, if0 e7 c21⟩ h28 h36
          · have h36 := bI_0 c36
            refine T_iconst dX11_fix_39 (by decide) ?_
            exact T_ireturn dX11_fix_40 rfl ⟨by unfold qFix; rw [if_pos (show ¬ (0 ≤ m ∧ m ≤ 4) from h36), ite_self, ite_self], Cf.rf⟩
  refine T_aload_n dX11_fix_0 rfl ?_
  refine T_iload_n dX11_fix_1 rfl ?_
  refine T_callV dX11_fix_2 lX11_165 (As := [_]) (rest := _) rfl rfl k1 (by decide) (Nat.le_of_ble_eq_true rfl) (Nat.le_of_ble_eq_true rfl) (t_warAtI hM hC) ?_
  rintro _ _ ⟨rfl, rfl⟩
  refine T_ast dX11_fix_5 (by decide) rfl ?_
  refine T_aload_n dX11_fix_7 rfl ?_
  refine T_iload_n dX11_fix_8 rfl ?_
  refine T_callV dX11_fix_9 lX11_219 (As := [_]) (rest := _) rfl rfl k1 (by decide) (Nat.le_of_ble_eq_true rfl) (Nat.le_of_ble_eq_true rfl) (t_scoreAtI hM hC) ?_
  rintro _ _ ⟨rfl, rfl⟩
  refine T_ast dX11_fix_12 (by decide) rfl ?_
  exact h14 _ _ rfl rfl

end C15
