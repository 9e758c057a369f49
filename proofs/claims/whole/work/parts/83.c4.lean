/-! the class: what an army hears; the longest order -/
section C4
variable {G : sG} {d d' : sD} {w s : Nat → Int} {wo e n a : Nat}
def Eh (d : sD) (e : Nat) (w s : Nat → Int) (n a : Nat) : Prop := (d e 1 = hnS w n a ∧ d e 8 = w (7 + a) ∧ d e 9 = w (9 + a)) ∧ ∀ k : Nat, (k : Int) < hnS w n a → d (e + 1) k = s (phS w a k).toNat
theorem Eh_eq (h : Eh d e w s n a) (h1 : d' e 1 = d e 1 ∧ d' e 8 = d e 8 ∧ d' e 9 = d e 9) (h2 : ∀ k, d' (e + 1) k = d (e + 1) k) : Eh d' e w s n a := ⟨⟨h1.1.trans h.1.1, h1.2.1.trans h.1.2.1, h1.2.2.trans h.1.2.2⟩, fun k hk => (h2 k).trans (h.2 k hk)⟩
theorem Eh_fr {lo hi : Nat} (h : Eh d e w s n a) (hF : Fr lo hi d d') (hn : e + 5 < lo ∨ hi < e) : Eh d' e w s n a := Eh_eq h ⟨hF _ _ (by omega), hF _ _ (by omega), hF _ _ (by omega)⟩ (fun k => hF _ _ (by omega))
theorem ph_lt2 (hV : WV w) (ha : a < 2) {j : Int} (h0 : 0 ≤ j) (h : phS w a j < n) : j < hnS w n a := by
  have hv := hV.a ha
  unfold phS at h
  unfold hnS
  have hj : 0 ≤ j * w (9 + a) := Int.mul_nonneg h0 (by omega)
  rw [if_neg (by omega)]
  have : j ≤ ((n : Int) - 1 - w (7 + a)) / w (9 + a) := (Int.le_ediv_iff_mul_le (by omega)).mpr (by omega)
  omega
theorem phS_s {k : Nat} : phS w a (k : Int) + w (9 + a) = phS w a ((k + 1 : Nat) : Int) := by
  unfold phS
  rw [show ((k + 1 : Nat) : Int) = (k : Int) + 1 by omega, Int.add_mul, Int.one_mul]; omega
theorem t_chears {o k : Nat} (he : kn S0 e = 2) (hw : kn S0 wo = 10) (hO : Wo d wo w) (hV : WV w) (hE : Eh d e w s n a) (ha : a < 2) (hn24 : n ≤ 24) (ho : (o : Int) < w (15 + a)) (hk : k ≤ 24) : tB G mX2_hears 0 [vR e, vR wo, vI ((6 * a + o : Nat) : Int), vI k, vU 0, vU 0] [] d (fun r d' => r = some (vI (bI (isF w s n a o k))) ∧ d = d') := by
  obtain ⟨l1, l2, l3, l4⟩ := hV.ln ha ho
  have e1 := hO.ln hV ha ho
  have hrg := hnS_rg (n := n) hV ha
  have hL : (w (18 + 36 * a + 6 * o)).toNat = lnW w a o := rfl
  have h24 : ∀ z : Nat, ((z ≤ lnW w a o ∧ (k : Int) + lnW w a o ≤ hnS w n a) ∧ ∀ i : Nat, i < z → s (phS w a ((k : Int) + i)).toNat = btW w a o i) → tB G mX2_hears 24 [vR e, vR wo, vI ((6 * a + o : Nat) : Int), vI k, vI (lnW w a o : Int), vI z] [] (d) (fun r d' => r = some (vI (bI (isF w s n a o k))) ∧ d = d') := by
    refine T_loop (α := Nat) 24 (fun z => [vR e, vR wo, vI ((6 * a + o : Nat) : Int), vI k, vI (lnW w a o : Int), vI z]) (fun z => d) (fun z => (z ≤ lnW w a o ∧ (k : Int) + lnW w a o ≤ hnS w n a) ∧ ∀ i : Nat, i < z → s (phS w a ((k : Int) + i)).toNat = btW w a o i) (fun z => lnW w a o - z) ?_
    rintro i ⟨⟨h1, h2⟩, h3⟩ ih
    try dsimp only at h1 h2 h3 ih ⊢
    refine T_iload dX2_hears_24 rfl ?_
    refine T_iload dX2_hears_26 rfl ?_
    refine T_icmp_ge (tgt := 62) dX2_hears_28 (by decide) (fun c28 => ?_) (fun c28 => ?_)
    · refine T_iconst dX2_hears_62 (by decide) ?_
      exact T_zreturn dX2_hears_63 rfl (by omega) ⟨by rw [bI_t ⟨by omega, fun j hj => h3 j (by omega)⟩], rfl⟩
    · refine T_aload_n dX2_hears_31 rfl ?_
      refine T_getR dX2_hears_32 fX2_9 rfl he (rE0 he) ?_
      refine T_iload_n dX2_hears_35 rfl ?_
      refine T_iload dX2_hears_36 rfl ?_
      refine T_add dX2_hears_38 (by omega) ?_
      refine T_ialdv dX2_hears_39 (kE0 he) (lE0 he) (by omega) (j := k + i) (by omega) (x := s (phS w a ((k : Int) + i)).toNat) (by have := hE.2 (k + i) (by omega); rwa [Int.natCast_add] at this) ?_
      refine T_aload_n dX2_hears_40 rfl ?_
      refine T_getR dX2_hears_41 fX2_79 rfl hw (rW11 hw) ?_
      refine T_iload_n dX2_hears_44 rfl ?_
      refine T_iconst dX2_hears_45 (by decide) ?_
      refine T_mul dX2_hears_46 (by omega) ?_
      refine T_iload dX2_hears_47 rfl ?_
      refine T_add dX2_hears_49 (by omega) ?_
      refine T_ialdv dX2_hears_50 (kW11 hw) (lW11 hw) (by omega) (j := 24 * a + 4 * o + i) (by omega) (x := btW w a o i) (hO.bt hV ha ho (by omega)) ?_
      refine T_icmp_eq (tgt := 56) dX2_hears_51 (by decide) (fun c51 => ?_) (fun c51 => ?_)
      · refine T_inc dX2_hears_56 rfl (by decide) rfl (by omega) ?_
        refine T_goto (tgt := 24) dX2_hears_59 (by decide) ?_
        refine ih (i + 1) ⟨⟨by omega, h2⟩, fun j hj => ?_⟩ (by omega)
        rcases (show j < i ∨ j = i by omega) with z | rfl
        · exact h3 j z
        · exact c51
      · refine T_iconst dX2_hears_54 (by decide) ?_
        exact T_zreturn dX2_hears_55 rfl (by omega) ⟨by rw [bI_f (fun z => c51 (z.2 i (by omega)))], rfl⟩
  refine T_aload_n dX2_hears_0 rfl ?_
  refine T_getR dX2_hears_1 fX2_71 rfl hw (rW10 hw) ?_
  refine T_iload_n dX2_hears_4 rfl ?_
  refine T_ialdv dX2_hears_5 (kW10 hw) (lW10 hw) (by omega) (j := 6 * a + o) (by omega) (x := (lnW w a o : Int)) e1 ?_
  refine T_ist dX2_hears_6 (by decide) rfl ?_
  refine T_iload_n dX2_hears_8 rfl ?_
  refine T_iload dX2_hears_9 rfl ?_
  refine T_add dX2_hears_11 (by omega) ?_
  refine T_aload_n dX2_hears_12 rfl ?_
  refine T_getIv dX2_hears_13 fX2_15 rfl he (x := hnS w n a) hE.1.1 ?_
  refine T_icmp_le (tgt := 21) dX2_hears_16 (by decide) (fun c16 => ?_) (fun c16 => ?_)
  · refine T_iconst dX2_hears_21 (by decide) ?_
    refine T_ist dX2_hears_22 (by decide) rfl ?_
    exact h24 0 ⟨⟨Nat.zero_le _, by omega⟩, fun j hj => absurd hj (Nat.not_lt_zero j)⟩
  · refine T_iconst dX2_hears_19 (by decide) ?_
    exact T_zreturn dX2_hears_20 rfl (by omega) ⟨by rw [bI_f (fun z => by have := z.1; omega)], rfl⟩

/-- the longest order, of several the least, by going forward -/
def lgM (w s : Nat → Int) (n a k : Nat) : Nat → Int × Int
  | 0 => (-1, 0)
  | m + 1 => if (lgM w s n a k m).2 < (lnW w a m : Int) ∧ isF w s n a m k then ((m : Int), (lnW w a m : Int)) else lgM w s n a k m
theorem lgM_s {k m : Nat} : lgM w s n a k (m + 1) = if (lgM w s n a k m).2 < (lnW w a m : Int) ∧ isF w s n a m k then ((m : Int), (lnW w a m : Int)) else lgM w s n a k m := rfl
def Bst (w s : Nat → Int) (n a k lo hi : Nat) (x : Int) : Prop := (x = -1 ∧ ∀ o : Nat, lo ≤ o → o < hi → ¬ isF w s n a o k) ∨ ∃ q : Nat, x = (q : Int) ∧ lo ≤ q ∧ q < hi ∧ isF w s n a q k ∧ ∀ o : Nat, lo ≤ o → o < hi → isF w s n a o k → lnW w a o ≤ lnW w a q ∧ (o < q → lnW w a o < lnW w a q)
theorem Bst_uniq {k lo hi : Nat} {x y : Int} (h1 : Bst w s n a k lo hi x) (h2 : Bst w s n a k lo hi y) : x = y := by
  rcases h1 with ⟨rfl, h1⟩ | ⟨p, rfl, p1, p2, p3, p4⟩
  · rcases h2 with ⟨rfl, _⟩ | ⟨q, rfl, q1, q2, q3, _⟩
    · rfl
    · exact absurd q3 (h1 q q1 q2)
  · rcases h2 with ⟨rfl, h2⟩ | ⟨q, rfl, q1, q2, q3, q4⟩
    · exact absurd p3 (h2 p p1 p2)
    · have a1 := p4 q q1 q2 q3
      have a2 := q4 p p1 p2 p3
      rcases (show p < q ∨ q < p ∨ p = q by omega) with z | z | z
      · have := a2.2 z; omega
      · have := a1.2 z; omega
      · rw [z]
theorem lgM_bst (hV : WV w) (ha : a < 2) {k : Nat} : ∀ m : Nat, (m : Int) ≤ w (15 + a) → Bst w s n a k 0 m (lgM w s n a k m).1 ∧ (((lgM w s n a k m).1 = -1 ∧ (lgM w s n a k m).2 = 0) ∨ ∃ q : Nat, (lgM w s n a k m).1 = (q : Int) ∧ (lgM w s n a k m).2 = (lnW w a q : Int))
  | 0, _ => ⟨Or.inl ⟨rfl, fun o _ ho => absurd ho (Nat.not_lt_zero o)⟩, Or.inl ⟨rfl, rfl⟩⟩
  | m + 1, hm => by
    obtain ⟨ih1, ih2⟩ := lgM_bst hV ha (k := k) m (by omega)
    have hl := (hV.ln ha (o := m) (by omega)).1
    rw [lgM_s]
    by_cases q : (lgM w s n a k m).2 < (lnW w a m : Int) ∧ isF w s n a m k
    · rw [if_pos q]
      refine ⟨Or.inr ⟨m, rfl, Nat.zero_le _, by omega, q.2, fun o _ ho hF => ?_⟩, Or.inr ⟨m, rfl, rfl⟩⟩
      rcases (show o < m ∨ o = m by omega) with z | rfl
      · rcases ih1 with ⟨_, h⟩ | ⟨p, hp, _, p2, p3, p4⟩
        · exact absurd hF (h o (Nat.zero_le _) z)
        · have h4 := p4 o (Nat.zero_le _) z hF
          have h1 := q.1
          rcases ih2 with h | ⟨q', h, h'⟩
          · omega
          · have : q' = p := by omega
            subst this
            omega
      · omega
    · rw [if_neg q]
      refine ⟨?_, ih2⟩
      rcases ih1 with ⟨h0, h⟩ | ⟨p, hp, p1, p2, p3, p4⟩
      · refine Or.inl ⟨h0, fun o h1 h2 => ?_⟩
        rcases (show o < m ∨ o = m by omega) with z | rfl
        · exact h o h1 z
        · intro hF
          rcases ih2 with z | ⟨q', z, _⟩
          · exact q ⟨by omega, hF⟩
          · omega
      · refine Or.inr ⟨p, hp, p1, by omega, p3, fun o h1 h2 hF => ?_⟩
        rcases (show o < m ∨ o = m by omega) with z | rfl
        · exact p4 o h1 z hF
        · have h3 : ¬ (lgM w s n a k o).2 < (lnW w a o : Int) := fun z => q ⟨z, hF⟩
          rcases ih2 with z | ⟨q', z, z'⟩
          · omega
          · have : q' = p := by omega
            subst this
            omega
theorem bstM_bst {k cnt : Nat} (hL : ∀ o : Nat, o < cnt → 1 ≤ w (18 + 36 * a + 6 * o)) : ∀ m : Nat, m ≤ cnt → Bst w s n a k (cnt - m) cnt (bstM w s n a k cnt m)
  | 0, _ => Or.inl ⟨rfl, fun o h1 h2 => by omega⟩
  | m + 1, hm => by
    have ih := bstM_bst (k := k) (cnt := cnt) hL m (by omega)
    unfold bstM
    by_cases q : isF w s n a (cnt - 1 - m) k ∧ (bstM w s n a k cnt m = -1 ∨ w (18 + 36 * a + 6 * (bstM w s n a k cnt m).toNat) ≤ w (18 + 36 * a + 6 * (cnt - 1 - m)))
    · rw [if_pos q]
      refine Or.inr ⟨cnt - 1 - m, rfl, by omega, by omega, q.1, fun o h1 h2 hF => ?_⟩
      rcases (show cnt - m ≤ o ∨ o = cnt - 1 - m by omega) with z | rfl
      · rcases ih with ⟨_, h⟩ | ⟨p, hp, p1, p2, p3, p4⟩
        · exact absurd hF (h o z h2)
        · have h4 := (p4 o z h2 hF).1
          have h5 := q.2
          rw [hp, Int.toNat_natCast] at h5
          refine ⟨?_, fun y => by omega⟩
          have : lnW w a p ≤ lnW w a (cnt - 1 - m) := by unfold lnW; omega
          omega
      · exact ⟨Nat.le_refl _, fun y => by omega⟩
    · rw [if_neg q]
      rcases ih with ⟨h0, h⟩ | ⟨p, hp, p1, p2, p3, p4⟩
      · refine Or.inl ⟨h0, fun o h1 h2 hF => ?_⟩
        rcases (show cnt - m ≤ o ∨ o = cnt - 1 - m by omega) with z | rfl
        · exact h o z h2 hF
        · exact q ⟨hF, Or.inl h0⟩
      · refine Or.inr ⟨p, hp, by omega, p2, p3, fun o h1 h2 hF => ?_⟩
        rcases (show cnt - m ≤ o ∨ o = cnt - 1 - m by omega) with z | rfl
        · exact p4 o z h2 hF
        · have h5 : ¬ (bstM w s n a k cnt m = -1 ∨ w (18 + 36 * a + 6 * (bstM w s n a k cnt m).toNat) ≤ w (18 + 36 * a + 6 * (cnt - 1 - m))) := fun z => q ⟨hF, z⟩
          rw [hp, Int.toNat_natCast] at h5
          have : lnW w a (cnt - 1 - m) < lnW w a p := by
            have hz := hL p p2
            unfold lnW; omega
          omega
theorem lg_bst (hV : WV w) (ha : a < 2) {k : Nat} : (lgM w s n a k (w (15 + a)).toNat).1 = bst w s n a k := by
  have h1 := (lgM_bst (s := s) (n := n) hV ha (k := k) (w (15 + a)).toNat (by have := (hV.a ha).2.2.2.2; omega)).1
  have h2 := bstM_bst (w := w) (s := s) (n := n) (a := a) (k := k) (cnt := (w (15 + a)).toNat) (fun o ho => (hV.2.2.2.2.2 a o ha (by omega)).2.1.1) (w (15 + a)).toNat (Nat.le_refl _)
  rw [Nat.sub_self] at h2
  exact Bst_uniq h1 h2
theorem t_longestOrder {k : Nat} (he : kn S0 e = 2) (hw : kn S0 wo = 10) (hO : Wo d wo w) (hV : WV w) (hE : Eh d e w s n a) (ha : a < 2) (hn24 : n ≤ 24) (hk : k ≤ 24) : tB G mX2_longestOrder 0 [vR e, vR wo, vI a, vI k, vU 0, vU 0, vU 0, vU 0] [] d (fun r d' => r = some (vI (bst w s n a k)) ∧ d = d') := by
  have hc := (hV.a ha).2.2.2.2
  have hct := hO.ct ha
  have h9 : ∀ z : Nat, ((z : Int) ≤ w (15 + a)) → tB G mX2_longestOrder 9 [vR e, vR wo, vI a, vI k, vI (lgM w s n a k z).1, vI (lgM w s n a k z).2, vI z, vU 0] [] (d) (fun r d' => r = some (vI (bst w s n a k)) ∧ d = d') := by
    refine T_loop (α := Nat) 9 (fun z => [vR e, vR wo, vI a, vI k, vI (lgM w s n a k z).1, vI (lgM w s n a k z).2, vI z, vU 0]) (fun z => d) (fun z => (z : Int) ≤ w (15 + a)) (fun z => 7 - z) ?_
    rintro m h1 ih
    try dsimp only at h1 ih ⊢
    have h64 : ∀ x y : Int, x = (lgM w s n a k (m + 1)).1 → y = (lgM w s n a k (m + 1)).2 → (m : Int) < w (15 + a) → tB G mX2_longestOrder 64 [vR e, vR wo, vI a, vI k, vI x, vI y, vI m, vI ((6 * a + m : Nat) : Int)] [] d (fun r d' => r = some (vI (bst w s n a k)) ∧ d = d') := by
      rintro _ _ rfl rfl hm
      refine T_inc dX2_longestOrder_64 rfl (by decide) rfl (by omega) ?_
      refine T_drop 7 ?_
      refine T_goto (tgt := 9) dX2_longestOrder_67 (by decide) ?_
      exact ih (m + 1) (by omega) (by omega)
    refine T_iload dX2_longestOrder_9 rfl ?_
    refine T_aload_n dX2_longestOrder_11 rfl ?_
    refine T_getR dX2_longestOrder_12 fX2_72 rfl hw (rW8 hw) ?_
    refine T_iload_n dX2_longestOrder_15 rfl ?_
    refine T_ialdv dX2_longestOrder_16 (kW8 hw) (lW8 hw) (by omega) (j := a) (by omega) (x := w (15 + a)) hct ?_
    refine T_icmp_ge (tgt := 70) dX2_longestOrder_17 (by decide) (fun c17 => ?_) (fun c17 => ?_)
    · refine T_iload dX2_longestOrder_70 rfl ?_
      exact T_ireturn dX2_longestOrder_72 rfl ⟨by rw [show m = (w (15 + a)).toNat by omega, lg_bst hV ha], rfl⟩
    · refine T_iload_n dX2_longestOrder_20 rfl ?_
      refine T_iload dX2_longestOrder_21 rfl ?_
      refine T_callS dX2_longestOrder_23 lX2_67 (As := [_, _]) (rest := _) rfl rfl (by decide) (Nat.le_of_ble_eq_true rfl) (Nat.le_of_ble_eq_true rfl) (t_slot ha (by omega)) ?_
      rintro _ _ ⟨rfl, rfl⟩
      refine T_ist dX2_longestOrder_26 (by decide) rfl ?_
      refine T_aload_n dX2_longestOrder_28 rfl ?_
      refine T_getR dX2_longestOrder_29 fX2_71 rfl hw (rW10 hw) ?_
      refine T_iload dX2_longestOrder_32 rfl ?_
      refine T_ialdv dX2_longestOrder_34 (kW10 hw) (lW10 hw) (by omega) (j := 6 * a + m) (by omega) (x := (lnW w a m : Int)) (hO.ln hV ha (by omega)) ?_
      refine T_iload dX2_longestOrder_35 rfl ?_
      refine T_icmp_le (tgt := 64) dX2_longestOrder_37 (by decide) (fun c37 => ?_) (fun c37 => ?_)
      · exact h64 _ _ (by rw [lgM_s, if_neg (fun z => by omega)]) (by rw [lgM_s, if_neg (fun z => by omega)]) (by omega)
      · refine T_aload_n dX2_longestOrder_40 rfl ?_
        refine T_aload_n dX2_longestOrder_41 rfl ?_
        refine T_iload dX2_longestOrder_42 rfl ?_
        refine T_iload_n dX2_longestOrder_44 rfl ?_
        refine T_callV dX2_longestOrder_45 lX2_75 (As := [_, _, _]) (rest := _) rfl rfl he (by decide) (Nat.le_of_ble_eq_true rfl) (Nat.le_of_ble_eq_true rfl) (t_chears he hw hO hV hE ha hn24 (by omega) hk) ?_
        rintro _ _ ⟨rfl, rfl⟩
        refine T_if_eq (tgt := 64) dX2_longestOrder_48 (by decide) (fun c48 => ?_) (fun c48 => ?_)
        · exact h64 _ _ (by rw [lgM_s, if_neg (fun z => bI_0 c48 z.2)]) (by rw [lgM_s, if_neg (fun z => bI_0 c48 z.2)]) (by omega)
        · refine T_iload dX2_longestOrder_51 rfl ?_
          refine T_ist dX2_longestOrder_53 (by decide) rfl ?_
          refine T_aload_n dX2_longestOrder_55 rfl ?_
          refine T_getR dX2_longestOrder_56 fX2_71 rfl hw (rW10 hw) ?_
          refine T_iload dX2_longestOrder_59 rfl ?_
          refine T_ialdv dX2_longestOrder_61 (kW10 hw) (lW10 hw) (by omega) (j := 6 * a + m) (by omega) (x := (lnW w a m : Int)) (hO.ln hV ha (by omega)) ?_
          refine T_ist dX2_longestOrder_62 (by decide) rfl ?_
          exact h64 _ _ (by rw [lgM_s, if_pos ⟨by omega, bI_1 c48⟩]) (by rw [lgM_s, if_pos ⟨by omega, bI_1 c48⟩]) (by omega)
  refine T_iconst dX2_longestOrder_0 (by decide) ?_
  refine T_ist dX2_longestOrder_1 (by decide) rfl ?_
  refine T_iconst dX2_longestOrder_3 (by decide) ?_
  refine T_ist dX2_longestOrder_4 (by decide) rfl ?_
  refine T_iconst dX2_longestOrder_6 (by decide) ?_
  refine T_ist dX2_longestOrder_7 (by decide) rfl ?_
  exact h9 0 (by omega)

end C4
