/-! the class: shortestTwofold and unique -/
section C33
variable {G : sG} {d : sD} {w : Nat → Int} {wo a : Nat}
theorem t_reach {o f L : Nat} {v : Int} (ho : o < 6) (hf : f < 20) (hL : L ≤ 4) : tB G mX0_reach 0 [vR 102, vI o, vI f, vI L, vI v, vU 0] [] d (fun r d' => (L ≤ f ∧ r = some (vI 0) ∧ d' = reD d v) ∨ (f < L ∧ r = some (vI (bI (v < d 110 (4 * o + f)))) ∧ d' = rcD d (4 * o + f) v)) := by
  refine T_iload_n dX0_reach_0 rfl ?_
  refine T_iload_n dX0_reach_1 rfl ?_
  refine T_icmp_lt (tgt := 20) dX0_reach_2 (by decide) (fun c2 => ?_) (fun c2 => ?_)
  · refine T_iload_n dX0_reach_20 rfl ?_
    refine T_iconst dX0_reach_21 (by decide) ?_
    refine T_mul dX0_reach_22 (by omega) ?_
    refine T_iload_n dX0_reach_23 rfl ?_
    refine T_add dX0_reach_24 (by omega) ?_
    refine T_ist dX0_reach_25 (by decide) rfl ?_
    refine T_iload dX0_reach_27 rfl ?_
    refine T_aload_n dX0_reach_29 rfl ?_
    refine T_getR dX0_reach_30 fX0_30 rfl k102 r102_5 ?_
    refine T_iload dX0_reach_33 rfl ?_
    refine T_ialdv dX0_reach_35 k110 l110 (by omega) (j := 4 * o + f) (by omega) (x := d 110 (4 * o + f)) rfl ?_
    refine T_icmp_lt (tgt := 41) dX0_reach_36 (by decide) (fun c36 => ?_) (fun c36 => ?_)
    · refine T_aload_n dX0_reach_41 rfl ?_
      refine T_getR dX0_reach_42 fX0_30 rfl k102 r102_5 ?_
      refine T_iload dX0_reach_45 rfl ?_
      refine T_iload dX0_reach_47 rfl ?_
      refine T_iast dX0_reach_49 k110 l110 (by omega) (j := 4 * o + f) (by omega) ?_
      refine T_iconst dX0_reach_50 (by decide) ?_
      exact T_zreturn dX0_reach_51 rfl (by omega) (Or.inr ⟨by omega, by rw [bI_t c36], by unfold rcD; rw [if_pos c36]⟩)
    · refine T_iconst dX0_reach_39 (by decide) ?_
      exact T_zreturn dX0_reach_40 rfl (by omega) (Or.inr ⟨by omega, by rw [bI_f c36], by unfold rcD; rw [if_neg c36]⟩)
  · refine T_aload_n dX0_reach_5 rfl ?_
    refine T_aload_n dX0_reach_6 rfl ?_
    refine T_getIv dX0_reach_7 fX0_34 rfl k102 (x := d 102 6) rfl ?_
    refine T_iload dX0_reach_10 rfl ?_
    refine T_min dX0_reach_12 lX0_38 (by decide) (Nat.le_of_ble_eq_true rfl) ?_
    refine T_putI dX0_reach_15 fX0_34 rfl k102 ?_
    refine T_iconst dX0_reach_18 (by decide) ?_
    exact T_zreturn dX0_reach_19 rfl (by omega) (Or.inl ⟨by omega, rfl, rfl⟩)

theorem t_reachB {o p : Nat} {e : sD} {q : Nat → Nat → Prop} (hV : WV w) (ha : a < 2) (ho : isO w a o) (hb : Bg w a o p) (hl : lnW w a p ≤ lnW w a o) (hB : BV w a d e q) : tB G mX0_reach 0 [vR 102, vI o, vI (lnW w a p), vI (lnW w a o), vI (lnW w a o), vU 0] [] e (fun r e' => ∃ x : Int, r = some (vI x) ∧ BV w a d e' (qp q o p)) := by
  have l1 := hV.ln ha ho
  refine (t_reach (by omega) (by omega) (by omega)).mono ?_
  rintro r e' (⟨h, rfl, rfl⟩ | ⟨h, rfl, rfl⟩)
  · exact ⟨_, rfl, BV_re hV ha hB ho hb (by omega)⟩
  · exact ⟨_, rfl, BV_rc hV ha hB ho hb h⟩
theorem t_reachE {o f p : Nat} {e0 e : sD} {q : Nat → Nat → Prop} {m v : Int} (hV : WV w) (ha : a < 2) (hn : Nd w a o f) (hp : isO w a p) (he : Eg w a o f p) (hl : lnW w a p ≤ lnW w a o - f) (hw : ∃ n, Wk w a n o f v) (hv : v ≤ e0 110 (4 * o + f)) (hR : RV w a d e0 q m e) : tB G mX0_reach 0 [vR 102, vI o, vI (f + lnW w a p : Nat), vI (lnW w a o), vI v, vU 0] [] e (fun r e' => ∃ x : Int, r = some (vI x) ∧ (x = 0 ∨ x = 1) ∧ RV w a d e0 (qp q (4 * o + f) p) (if x = 0 then m else 1) e') := by
  have l1 := hV.ln ha hn.1
  have l2 := hV.ln ha hp
  have hnf := hn.2
  refine (t_reach (by omega) (by omega) (by omega)).mono ?_
  rintro r e' (⟨h, rfl, rfl⟩ | ⟨h, rfl, rfl⟩)
  · refine ⟨_, rfl, Or.inl rfl, ?_⟩
    rw [if_pos rfl]
    exact RV_re hV ha hR hn ⟨⟨hp, he⟩, by omega⟩ hw hv
  · refine ⟨_, rfl, bI_01 _, ?_⟩
    have h2 := RV_rc hV ha hR hn (c := 0) (o2 := o) (f2 := f + lnW w a p) ⟨⟨hp, he⟩, Or.inr ⟨by omega, rfl, rfl, rfl⟩⟩ hw hv
    rw [Int.add_zero] at h2
    by_cases z : v < e 110 (4 * o + (f + lnW w a p))
    · rw [if_pos z] at h2; rw [bI_t z, if_neg (by decide)]; exact h2
    · rw [if_neg z] at h2; rw [bI_f z, if_pos rfl]; exact h2
theorem t_reachS {o f p : Nat} {e0 e : sD} {q : Nat → Nat → Prop} {m v y : Int} (hV : WV w) (ha : a < 2) (hn : Nd w a o f) (hp : isO w a p) (he : Eg w a o f p) (hl : lnW w a o - f < lnW w a p) (hw : ∃ n, Wk w a n o f v) (hv : v ≤ e0 110 (4 * o + f)) (hR : RV w a d e0 q m e) (hy : y = v + ((lnW w a p : Int) - (lnW w a o - f : Nat))) : tB G mX0_reach 0 [vR 102, vI p, vI (lnW w a o - f : Nat), vI (lnW w a p), vI y, vU 0] [] e (fun r e' => ∃ x : Int, r = some (vI x) ∧ (x = 0 ∨ x = 1) ∧ RV w a d e0 (qp q (4 * o + f) p) (if x = 0 then m else 1) e') := by
  subst hy
  have l1 := hV.ln ha hn.1
  have l2 := hV.ln ha hp
  have hnf := hn.2
  refine (t_reach (by omega) (by omega) (by omega)).mono ?_
  rintro r e' (⟨h, rfl, rfl⟩ | ⟨h, rfl, rfl⟩)
  · omega
  · refine ⟨_, rfl, bI_01 _, ?_⟩
    have h2 := RV_rc hV ha hR hn (o2 := p) (f2 := lnW w a o - f) ⟨⟨hp, he⟩, Or.inl ⟨by omega, rfl, rfl, rfl⟩⟩ hw hv
    by_cases z : v + ((lnW w a p : Int) - (lnW w a o - f : Nat)) < e 110 (4 * p + (lnW w a o - f))
    · rw [if_pos z] at h2; rw [bI_t z, if_neg (by decide)]; exact h2
    · rw [if_neg z] at h2; rw [bI_f z, if_pos rfl]; exact h2

theorem t_beginTwofold {o p : Nat} {e : sD} {q : Nat → Nat → Prop} (hw : kn S0 wo = 10) (hO : Wo d wo w) (hV : WV w) (ha : a < 2) (ho : isO w a o) (hp : isO w a p) (hne : p ≠ o) (hB : BV w a d e q) : tB G mX0_beginTwofold 0 [vR 102, vR wo, vI a, vI o, vI p, vU 0, vU 0, vU 0] [] e (fun r e' => r = none ∧ BV w a d e' (qp q o p)) := by
  have l1 := hV.ln ha ho
  have l2 := hV.ln ha hp
  have hat := at_W hw
  have hOe := Wo_fr hO hB.1 (by omega)
  have e1 := hOe.ln hV ha ho
  have e2 := hOe.ln hV ha hp
  refine T_iload_n dX0_beginTwofold_0 rfl ?_
  refine T_iload_n dX0_beginTwofold_1 rfl ?_
  refine T_callS dX0_beginTwofold_2 lX0_63 (As := [_, _]) (rest := _) rfl rfl (by decide) (Nat.le_of_ble_eq_true rfl) (Nat.le_of_ble_eq_true rfl) (t_slot ha (by omega)) ?_
  rintro _ _ ⟨rfl, rfl⟩
  refine T_ist dX0_beginTwofold_5 (by decide) rfl ?_
  refine T_iload_n dX0_beginTwofold_7 rfl ?_
  refine T_iload dX0_beginTwofold_8 rfl ?_
  refine T_callS dX0_beginTwofold_10 lX0_63 (As := [_, _]) (rest := _) rfl rfl (by decide) (Nat.le_of_ble_eq_true rfl) (Nat.le_of_ble_eq_true rfl) (t_slot ha (by omega)) ?_
  rintro _ _ ⟨rfl, rfl⟩
  refine T_ist dX0_beginTwofold_13 (by decide) rfl ?_
  refine T_aload_n dX0_beginTwofold_15 rfl ?_
  refine T_getR dX0_beginTwofold_16 fX0_49 rfl hw (rW10 hw) ?_
  refine T_iload dX0_beginTwofold_19 rfl ?_
  refine T_ialdv dX0_beginTwofold_21 (kW10 hw) (lW10 hw) (by omega) (j := 6 * a + p) (by omega) (x := (lnW w a p : Int)) e2 ?_
  refine T_ist dX0_beginTwofold_22 (by decide) rfl ?_
  refine T_aload_n dX0_beginTwofold_24 rfl ?_
  refine T_iload dX0_beginTwofold_25 rfl ?_
  refine T_iconst dX0_beginTwofold_27 (by decide) ?_
  refine T_iload dX0_beginTwofold_28 rfl ?_
  refine T_iload dX0_beginTwofold_30 rfl ?_
  refine T_callV dX0_beginTwofold_32 lX0_73 (As := [_, _, _, _]) (rest := _) rfl rfl hw (by decide) (Nat.le_of_ble_eq_true rfl) (Nat.le_of_ble_eq_true rfl) (t_agree (f := 0) (m := lnW w a p) hw hOe hV ha ha ho hp (by omega) (by omega)) ?_
  rintro _ _ ⟨rfl, rfl⟩
  refine T_if_eq (tgt := 60) dX0_beginTwofold_35 (by decide) (fun c35 => ?_) (fun c35 => ?_)
  · have h35 := bI_0 c35
    exact T_return dX0_beginTwofold_60 rfl ⟨rfl, BV_none hB (fun z => h35 ⟨by omega, Nat.le_refl _, fun u hu => by rw [Nat.zero_add]; exact z.2 u hu⟩)⟩
  · have h35 := bI_1 c35
    have h35 := bI_1 c35
    have hb : Bg w a o p := ⟨hp, hne, fun u hu => by have := h35.2.2 u hu; rw [Nat.zero_add] at this; exact this.symm⟩
    have hb1 := h35.1
    refine T_aload_n dX0_beginTwofold_38 rfl ?_
    refine T_iload_n dX0_beginTwofold_39 rfl ?_
    refine T_iload dX0_beginTwofold_40 rfl ?_
    refine T_aload_n dX0_beginTwofold_42 rfl ?_
    refine T_getR dX0_beginTwofold_43 fX0_49 rfl hw (rW10 hw) ?_
    refine T_iload dX0_beginTwofold_46 rfl ?_
    refine T_ialdv dX0_beginTwofold_48 (kW10 hw) (lW10 hw) (by omega) (j := 6 * a + o) (by omega) (x := (lnW w a o : Int)) e1 ?_
    refine T_aload_n dX0_beginTwofold_49 rfl ?_
    refine T_getR dX0_beginTwofold_50 fX0_49 rfl hw (rW10 hw) ?_
    refine T_iload dX0_beginTwofold_53 rfl ?_
    refine T_ialdv dX0_beginTwofold_55 (kW10 hw) (lW10 hw) (by omega) (j := 6 * a + o) (by omega) (x := (lnW w a o : Int)) e1 ?_
    refine T_callV dX0_beginTwofold_56 lX0_97 (As := [_, _, _, _]) (rest := _) rfl rfl k102 (by decide) (Nat.le_of_ble_eq_true rfl) (Nat.le_of_ble_eq_true rfl) (t_reachB hV ha ho hb (by omega) hB) ?_
    rintro _ e2 ⟨x, rfl, hB2⟩
    refine T_pop dX0_beginTwofold_59 rfl ?_
    exact T_return dX0_beginTwofold_60 rfl ⟨rfl, hB2⟩

theorem t_slotA {a k : Nat} {y : Int} (ha : a < 2) (hk : k < 100) (hy : y = (k : Int)) : tB G mX10_slot 0 [vI a, vI y] [] d (fun r d' => r = some (vI ((6 * a + k : Nat) : Int)) ∧ d = d') := by subst hy; exact t_slot ha hk
theorem t_goOnTwofold {o f : Nat} {e0 e : sD} {q : Nat → Nat → Prop} {m v : Int} (hw : kn S0 wo = 10) (hO : Wo d wo w) (hV : WV w) (ha : a < 2) (hn : Nd w a o f) (hv : e 110 (4 * o + f) = v) (hv1 : v < 1000000) (hR : RV w a d e0 q m e) : tB G mX0_goOnTwofold 0 [vR 102, vR wo, vI a, vI (4 * o + f : Nat), vU 0, vU 0, vU 0, vU 0, vU 0, vU 0, vU 0, vU 0, vU 0] [] e (fun r e' => ∃ x : Int, r = some (vI x) ∧ (x = 0 ∨ x = 1) ∧ RV w a d e0 (fun i' p' => q i' p' ∨ i' = 4 * o + f) (if x = 0 then m else 1) e') := by
  have l1 := hV.ln ha hn.1
  have hnf := hn.2
  have hwa := (hV.a ha).2.2.2.2
  have hat := at_W hw
  have h46 := nd46 hV ha hn
  have hm01 := hR.1
  have hwk : ∃ n, Wk w a n o f v := by
    rcases hR.2.2.1.2.1 o f h46.1 h46.2 with z | z
    · omega
    · rw [hv] at z; exact z.2
  have hx1 : 0 ≤ v := by have := (hR.2.2.1.1 (4 * o + f) (by omega)).1; omega
  have hle : v ≤ e0 110 (4 * o + f) := by have := hR.2.2.2.1 (4 * o + f) (by omega); omega
  have h44 : ∀ z : Nat × Int × sD, ((z.1 : Int) ≤ w (15 + a) ∧ (z.2.1 = 0 ∨ z.2.1 = 1) ∧ RV w a d e0 (fun i' p' => q i' p' ∨ (i' = 4 * o + f ∧ p' < z.1)) (if z.2.1 = 0 then m else 1) z.2.2) → tB G mX0_goOnTwofold 44 [vR 102, vR wo, vI a, vI (4 * o + f : Nat), vI o, vI f, vI ((6 * a + o : Nat) : Int), vI (lnW w a o - f : Nat), vI v, vI z.2.1, vI z.1, vU 0, vU 0] [] (z.2.2) (fun r e' => ∃ x : Int, r = some (vI x) ∧ (x = 0 ∨ x = 1) ∧ RV w a d e0 (fun i' p' => q i' p' ∨ i' = 4 * o + f) (if x = 0 then m else 1) e') := by
    refine T_loop (α := Nat × Int × sD) 44 (fun z => [vR 102, vR wo, vI a, vI (4 * o + f : Nat), vI o, vI f, vI ((6 * a + o : Nat) : Int), vI (lnW w a o - f : Nat), vI v, vI z.2.1, vI z.1, vU 0, vU 0]) (fun z => z.2.2) (fun z => (z.1 : Int) ≤ w (15 + a) ∧ (z.2.1 = 0 ∨ z.2.1 = 1) ∧ RV w a d e0 (fun i' p' => q i' p' ∨ (i' = 4 * o + f ∧ p' < z.1)) (if z.2.1 = 0 then m else 1) z.2.2) (fun z => 6 - z.1) ?_
    rintro ⟨p, x, b⟩ ⟨h1, h2, h3⟩ ih
    try dsimp only at h1 h2 h3 ih ⊢
    have hOe := Wo_fr hO h3.2.1 (by omega)
    have e1 := hOe.ln hV ha hn.1
    refine T_iload dX0_goOnTwofold_44 rfl ?_
    refine T_aload_n dX0_goOnTwofold_46 rfl ?_
    refine T_getR dX0_goOnTwofold_47 fX0_60 rfl hw (rW8 hw) ?_
    refine T_iload_n dX0_goOnTwofold_50 rfl ?_
    refine T_ialdv dX0_goOnTwofold_51 (kW8 hw) (lW8 hw) (by omega) (j := a) (by omega) (x := w (15 + a)) (hOe.ct ha) ?_
    refine T_icmp_ge (tgt := 156) dX0_goOnTwofold_52 (by decide) (fun c52 => ?_) (fun c52 => ?_)
    · refine T_iload dX0_goOnTwofold_156 rfl ?_
      exact T_zreturn dX0_goOnTwofold_158 rfl (by omega) ⟨x, rfl, h2, RV_mono h3 (fun o2 f2 p2 hn2 hp2 hq2 _ => by
        try dsimp only at hq2 ⊢
        rcases hq2 with z | z
        · exact Or.inl z
        · exact Or.inr ⟨z, by have : (p2 : Int) < w (15 + a) := hp2; omega⟩)⟩
    · have hp : isO w a p := by show (p : Int) < _; omega
      have l2 := hV.ln ha hp
      refine T_iload_n dX0_goOnTwofold_55 rfl ?_
      refine T_iload dX0_goOnTwofold_56 rfl ?_
      refine T_callS dX0_goOnTwofold_58 lX0_63 (As := [_, _]) (rest := _) rfl rfl (by decide) (Nat.le_of_ble_eq_true rfl) (Nat.le_of_ble_eq_true rfl) (t_slot ha (by omega)) ?_
      rintro _ _ ⟨rfl, rfl⟩
      refine T_ist dX0_goOnTwofold_61 (by decide) rfl ?_
      refine T_aload_n dX0_goOnTwofold_63 rfl ?_
      refine T_getR dX0_goOnTwofold_64 fX0_49 rfl hw (rW10 hw) ?_
      refine T_iload dX0_goOnTwofold_67 rfl ?_
      refine T_ialdv dX0_goOnTwofold_69 (kW10 hw) (lW10 hw) (by omega) (j := 6 * a + p) (by omega) (x := (lnW w a p : Int)) (hOe.ln hV ha (by omega)) ?_
      refine T_ist dX0_goOnTwofold_70 (by decide) rfl ?_
      refine T_aload_n dX0_goOnTwofold_72 rfl ?_
      refine T_iload dX0_goOnTwofold_73 rfl ?_
      refine T_iload dX0_goOnTwofold_75 rfl ?_
      refine T_iload dX0_goOnTwofold_77 rfl ?_
      refine T_iload dX0_goOnTwofold_79 rfl ?_
      refine T_iload dX0_goOnTwofold_81 rfl ?_
      refine T_min dX0_goOnTwofold_83 lX0_38 (by decide) (Nat.le_of_ble_eq_true rfl) ?_
      refine T_callV dX0_goOnTwofold_86 lX0_73 (As := [_, _, _, _]) (rest := _) rfl rfl hw (by decide) (Nat.le_of_ble_eq_true rfl) (Nat.le_of_ble_eq_true rfl) (T_args4 (y := min (lnW w a o - f) (lnW w a p)) (by omega) (t_agree hw hOe hV ha ha hn.1 (by omega) (by omega) (by omega))) ?_
      rintro _ _ ⟨rfl, rfl⟩
      refine T_if_eq (tgt := 150) dX0_goOnTwofold_89 (by decide) (fun c89 => ?_) (fun c89 => ?_)
      · have h89 := bI_0 c89
        refine T_inc dX0_goOnTwofold_150 rfl (by decide) rfl (by omega) ?_
        refine T_goto (tgt := 44) dX0_goOnTwofold_153 (by decide) ?_
        refine T_drop 11 (T_drop 12 (ih (p + 1, x, b) ⟨by omega, h2, RV_mono (RV_none hV ha h3 hn (p := p) (fun z => h89 ((ag_Eg (by omega)).mpr z))) (fun o' f' p' hn' hp' hq' _ => ?_)⟩ (by omega)))
        try dsimp only at hq' ⊢
        rcases hq' with z | ⟨z1, z2⟩
        · exact Or.inl (Or.inl z)
        · rcases (show p' < p ∨ p' = p by omega) with y2 | y2
          · exact Or.inl (Or.inr ⟨z1, y2⟩)
          · exact Or.inr ⟨z1, y2⟩
      · have h89 := bI_1 c89
        have he := (ag_Eg (by omega)).mp h89
        refine T_iload dX0_goOnTwofold_92 rfl ?_
        refine T_iload dX0_goOnTwofold_94 rfl ?_
        refine T_icmp_gt (tgt := 127) dX0_goOnTwofold_96 (by decide) (fun c96 => ?_) (fun c96 => ?_)
        · refine T_iload dX0_goOnTwofold_127 rfl ?_
          refine T_aload_n dX0_goOnTwofold_129 rfl ?_
          refine T_iload dX0_goOnTwofold_130 rfl ?_
          refine T_iload dX0_goOnTwofold_132 rfl ?_
          refine T_iload dX0_goOnTwofold_134 rfl ?_
          refine T_iload dX0_goOnTwofold_136 rfl ?_
          refine T_iload dX0_goOnTwofold_138 rfl ?_
          refine T_add dX0_goOnTwofold_140 (by omega) ?_
          refine T_iload dX0_goOnTwofold_141 rfl ?_
          refine T_sub dX0_goOnTwofold_143 (by omega) ?_
          refine T_callV dX0_goOnTwofold_144 lX0_97 (As := [_, _, _, _]) (rest := _) rfl rfl k102 (by decide) (Nat.le_of_ble_eq_true rfl) (Nat.le_of_ble_eq_true rfl) (t_reachS hV ha hn hp he (by omega) hwk hle h3 (by omega)) ?_
          rintro _ e2 ⟨y, rfl, hx2, hR2⟩
          refine T_ior dX0_goOnTwofold_147 ?_
          refine T_ist dX0_goOnTwofold_148 (by decide) rfl ?_
          refine T_inc dX0_goOnTwofold_150 rfl (by decide) rfl (by omega) ?_
          refine T_goto (tgt := 44) dX0_goOnTwofold_153 (by decide) ?_
          have hor := or01 h2 hx2
          rw [hor]
          have hx3 : (if x = 0 then y else 1) = 0 ∨ (if x = 0 then y else 1) = 1 := by split <;> omega
          refine T_drop 11 (T_drop 12 (ih (p + 1, (if x = 0 then y else 1), e2) ⟨by omega, hx3, RV_mono (q := qp (fun i' p' => q i' p' ∨ (i' = 4 * o + f ∧ p' < p)) (4 * o + f) p) ?_ (fun o' f' p' hn' hp' hq' _ => ?_)⟩ (by omega)))
          · try dsimp only
            rcases h2 with z | z
            · rw [z, if_pos rfl] at hR2; rw [z, if_pos rfl]; exact hR2
            · rw [z, if_neg (show ¬ (1 : Int) = 0 by decide), ite_self] at hR2; rw [z, if_neg (show ¬ (1 : Int) = 0 by decide), if_neg (show ¬ (1 : Int) = 0 by decide)]; exact hR2
          · try dsimp only at hq' ⊢
            rcases hq' with z | ⟨z1, z2⟩
            · exact Or.inl (Or.inl z)
            · rcases (show p' < p ∨ p' = p by omega) with y2 | y2
              · exact Or.inl (Or.inr ⟨z1, y2⟩)
              · exact Or.inr ⟨z1, y2⟩
        · refine T_iload dX0_goOnTwofold_99 rfl ?_
          refine T_aload_n dX0_goOnTwofold_101 rfl ?_
          refine T_iload dX0_goOnTwofold_102 rfl ?_
          refine T_iload dX0_goOnTwofold_104 rfl ?_
          refine T_iload dX0_goOnTwofold_106 rfl ?_
          refine T_add dX0_goOnTwofold_108 (by omega) ?_
          refine T_aload_n dX0_goOnTwofold_109 rfl ?_
          refine T_getR dX0_goOnTwofold_110 fX0_49 rfl hw (rW10 hw) ?_
          refine T_iload dX0_goOnTwofold_113 rfl ?_
          refine T_ialdv dX0_goOnTwofold_115 (kW10 hw) (lW10 hw) (by omega) (j := 6 * a + o) (by omega) (x := (lnW w a o : Int)) e1 ?_
          refine T_iload dX0_goOnTwofold_116 rfl ?_
          refine T_callV dX0_goOnTwofold_118 lX0_97 (As := [_, _, _, _]) (rest := _) rfl rfl k102 (by decide) (Nat.le_of_ble_eq_true rfl) (Nat.le_of_ble_eq_true rfl) (T_args2 (y := f + lnW w a p) (by omega) (t_reachE hV ha hn hp he (by omega) hwk hle h3)) ?_
          rintro _ e2 ⟨y, rfl, hx2, hR2⟩
          refine T_ior dX0_goOnTwofold_121 ?_
          refine T_ist dX0_goOnTwofold_122 (by decide) rfl ?_
          refine T_goto (tgt := 150) dX0_goOnTwofold_124 (by decide) ?_
          refine T_inc dX0_goOnTwofold_150 rfl (by decide) rfl (by omega) ?_
          refine T_goto (tgt := 44) dX0_goOnTwofold_153 (by decide) ?_
          have hor := or01 h2 hx2
          rw [hor]
          have hx3 : (if x = 0 then y else 1) = 0 ∨ (if x = 0 then y else 1) = 1 := by split <;> omega
          refine T_drop 11 (T_drop 12 (ih (p + 1, (if x = 0 then y else 1), e2) ⟨by omega, hx3, RV_mono (q := qp (fun i' p' => q i' p' ∨ (i' = 4 * o + f ∧ p' < p)) (4 * o + f) p) ?_ (fun o' f' p' hn' hp' hq' _ => ?_)⟩ (by omega)))
          · try dsimp only
            rcases h2 with z | z
            · rw [z, if_pos rfl] at hR2; rw [z, if_pos rfl]; exact hR2
            · rw [z, if_neg (show ¬ (1 : Int) = 0 by decide), ite_self] at hR2; rw [z, if_neg (show ¬ (1 : Int) = 0 by decide), if_neg (show ¬ (1 : Int) = 0 by decide)]; exact hR2
          · try dsimp only at hq' ⊢
            rcases hq' with z | ⟨z1, z2⟩
            · exact Or.inl (Or.inl z)
            · rcases (show p' < p ∨ p' = p by omega) with y2 | y2
              · exact Or.inl (Or.inr ⟨z1, y2⟩)
              · exact Or.inr ⟨z1, y2⟩
  have hOe := Wo_fr hO hR.2.1 (by omega)
  have e1 := hOe.ln hV ha hn.1
  refine T_iload_n dX0_goOnTwofold_0 rfl ?_
  refine T_iconst dX0_goOnTwofold_1 (by decide) ?_
  refine T_div dX0_goOnTwofold_2 (by omega) (by omega) ?_
  refine T_ist dX0_goOnTwofold_3 (by decide) rfl ?_
  refine T_iload_n dX0_goOnTwofold_5 rfl ?_
  refine T_iconst dX0_goOnTwofold_6 (by decide) ?_
  refine T_rem dX0_goOnTwofold_7 (by omega) (by omega) ?_
  refine T_ist dX0_goOnTwofold_8 (by decide) rfl ?_
  refine T_iload_n dX0_goOnTwofold_10 rfl ?_
  refine T_iload dX0_goOnTwofold_11 rfl ?_
  refine T_callS dX0_goOnTwofold_13 lX0_63 (As := [_, _]) (rest := _) rfl rfl (by decide) (Nat.le_of_ble_eq_true rfl) (Nat.le_of_ble_eq_true rfl) (t_slotA ha (k := o) (by omega) (by omega)) ?_
  rintro _ _ ⟨rfl, rfl⟩
  refine T_ist dX0_goOnTwofold_16 (by decide) rfl ?_
  refine T_aload_n dX0_goOnTwofold_18 rfl ?_
  refine T_getR dX0_goOnTwofold_19 fX0_49 rfl hw (rW10 hw) ?_
  refine T_iload dX0_goOnTwofold_22 rfl ?_
  refine T_ialdv dX0_goOnTwofold_24 (kW10 hw) (lW10 hw) (by omega) (j := 6 * a + o) (by omega) (x := (lnW w a o : Int)) e1 ?_
  refine T_iload dX0_goOnTwofold_25 rfl ?_
  refine T_sub dX0_goOnTwofold_27 (by omega) ?_
  refine T_ist dX0_goOnTwofold_28 (by decide) rfl ?_
  refine T_aload_n dX0_goOnTwofold_30 rfl ?_
  refine T_getR dX0_goOnTwofold_31 fX0_30 rfl k102 r102_5 ?_
  refine T_iload_n dX0_goOnTwofold_34 rfl ?_
  refine T_ialdv dX0_goOnTwofold_35 k110 l110 (by omega) (j := 4 * o + f) (by omega) (x := v) hv ?_
  refine T_ist dX0_goOnTwofold_36 (by decide) rfl ?_
  refine T_iconst dX0_goOnTwofold_38 (by decide) ?_
  refine T_ist dX0_goOnTwofold_39 (by decide) rfl ?_
  refine T_iconst dX0_goOnTwofold_41 (by decide) ?_
  refine T_ist dX0_goOnTwofold_42 (by decide) rfl ?_
  refine T_leq ?_ (h44 (0, 0, e) ⟨by show (0 : Int) ≤ _; omega, Or.inl rfl, ?_⟩)
  · show [vR 102, vR wo, vI a, vI (4 * o + f : Nat), vI (((4 * o + f : Nat) : Int) / 4), vI (((4 * o + f : Nat) : Int) % 4), vI ((6 * a + o : Nat) : Int), vI ((lnW w a o : Int) - (((4 * o + f : Nat) : Int) % 4)), vI v, vI 0, vI 0, vU 0, vU 0] = [vR 102, vR wo, vI a, vI (4 * o + f : Nat), vI o, vI f, vI ((6 * a + o : Nat) : Int), vI (lnW w a o - f : Nat), vI v, vI 0, vI ((0 : Nat) : Int), vU 0, vU 0]
    rw [show ((4 * o + f : Nat) : Int) / 4 = (o : Int) by omega, show ((4 * o + f : Nat) : Int) % 4 = (f : Int) by omega, show (lnW w a o : Int) - (f : Int) = ((lnW w a o - f : Nat) : Int) by omega]; rfl
  · try dsimp only
    rw [if_pos rfl]
    exact RV_mono hR (fun o' f' p' hn' hp' hq' _ => by
      try dsimp only at hq' ⊢
      rcases hq' with z | z
      · exact z
      · omega)

end C33
