/-! the class: its state beside the reference's; what is performed -/
section C8
variable {G : sG} {d d' : sD} {w g s t h : Nat → Int} {wo ho n a : Nat}
/-- the class's state is the reference's -/
def CS (d : sD) : Prop := (∀ s, s < 4 → d 4 s = d 272 s) ∧ (∀ k : Nat, (k : Int) < d 272 0 → Wo d (9 + 21 * k) (wvD d k)) ∧ (∀ k : Nat, (k : Int) < d 272 1 → So d (19 + 21 * k) (gvD d k)) ∧ (∀ k : Nat, (k : Int) < d 272 2 → Ho d (22 + 21 * k) (hvD d k)) ∧ ∀ k : Nat, (k : Int) < d 272 3 → Vo d (25 + 21 * k) (vvD d k)
/-- memory changed in the class's workplaces alone -/
def Cf (d d' : sD) : Prop := ∀ b j, ¬ ((78 ≤ b ∧ b ≤ 111) ∨ (259 ≤ b ∧ b ≤ 270)) → d' b j = d b j
theorem Cf.rf : Cf d d := fun _ _ _ => rfl
theorem Cf.trans {d d1 d2 : sD} (h1 : Cf d d1) (h2 : Cf d1 d2) : Cf d d2 := fun b j hb => (h2 b j hb).trans (h1 b j hb)
theorem Fr.cf {lo hi : Nat} (h : Fr lo hi d d') (hb : (78 ≤ lo ∧ hi ≤ 111) ∨ (259 ≤ lo ∧ hi ≤ 270)) : Cf d d' := fun b j hn => h b j (by omega)
theorem Wo_cf (hw : kn S0 wo = 10) (hO : Wo d wo w) (hF : Cf d d') : Wo d' wo w := by have hat := at_W hw; exact Wo_eq hO (fun x j hx => hF _ _ (by omega))
theorem Ho_cf (hh : kn S0 ho = 4) (hO : Ho d ho w) (hF : Cf d d') : Ho d' ho w := by have hat := at_H hh; exact Ho_eq hO (fun x j hx => hF _ _ (by omega))
theorem kn_w : ∀ k, k < 2 → kn S0 (9 + 21 * k) = 10 ∧ rf0 5 k = 9 + 21 * k := by decide +kernel
theorem kn_s : ∀ k, k < 2 → kn S0 (19 + 21 * k) = 6 ∧ rf0 6 k = 19 + 21 * k := by decide +kernel
theorem kn_h : ∀ k, k < 2 → kn S0 (22 + 21 * k) = 4 ∧ rf0 7 k = 22 + 21 * k := by decide +kernel
theorem kn_v : ∀ k, k < 2 → kn S0 (25 + 21 * k) = 9 ∧ rf0 8 k = 25 + 21 * k := by decide +kernel
theorem kn_e : ∀ k, k < 2 → kn S0 (259 + 6 * k) = 2 ∧ rf0 87 k = 259 + 6 * k := by decide +kernel
theorem t_isArmy {a : Int} : tB G mX11_isArmy 0 [vI a] [] d (fun r d' => r = some (vI (bI (0 ≤ a ∧ a ≤ 1))) ∧ d = d') := by
  refine T_iload_n dX11_isArmy_0 rfl ?_
  refine T_if_lt (tgt := 13) dX11_isArmy_1 (by decide) (fun c1 => ?_) (fun c1 => ?_)
  · refine T_iconst dX11_isArmy_13 (by decide) ?_
    exact T_zreturn dX11_isArmy_14 rfl (by omega) (by refine ⟨?_, rfl⟩; first | rfl | (refine congrArg (fun z => some (vI z)) ?_; first | omega | (simp only [bI]; (repeat' split) <;> omega)))
  · refine T_iload_n dX11_isArmy_4 rfl ?_
    refine T_iconst dX11_isArmy_5 (by decide) ?_
    refine T_icmp_ge (tgt := 13) dX11_isArmy_6 (by decide) (fun c6 => ?_) (fun c6 => ?_)
    · refine T_iconst dX11_isArmy_13 (by decide) ?_
      exact T_zreturn dX11_isArmy_14 rfl (by omega) (by refine ⟨?_, rfl⟩; first | rfl | (refine congrArg (fun z => some (vI z)) ?_; first | omega | (simp only [bI]; (repeat' split) <;> omega)))
    · refine T_iconst dX11_isArmy_9 (by decide) ?_
      refine T_goto (tgt := 14) dX11_isArmy_10 (by decide) ?_
      exact T_zreturn dX11_isArmy_14 rfl (by omega) (by refine ⟨?_, rfl⟩; first | rfl | (refine congrArg (fun z => some (vI z)) ?_; first | omega | (simp only [bI]; (repeat' split) <;> omega)))

theorem t_isMv {a : Int} : tB G mX11_isMove 0 [vI a] [] d (fun r d' => r = some (vI (bI (0 ≤ a ∧ a ≤ 4))) ∧ d = d') := by
  refine T_iload_n dX11_isMove_0 rfl ?_
  refine T_if_lt (tgt := 13) dX11_isMove_1 (by decide) (fun c1 => ?_) (fun c1 => ?_)
  · refine T_iconst dX11_isMove_13 (by decide) ?_
    exact T_zreturn dX11_isMove_14 rfl (by omega) (by refine ⟨?_, rfl⟩; first | rfl | (refine congrArg (fun z => some (vI z)) ?_; first | omega | (simp only [bI]; (repeat' split) <;> omega)))
  · refine T_iload_n dX11_isMove_4 rfl ?_
    refine T_iconst dX11_isMove_5 (by decide) ?_
    refine T_icmp_ge (tgt := 13) dX11_isMove_6 (by decide) (fun c6 => ?_) (fun c6 => ?_)
    · refine T_iconst dX11_isMove_13 (by decide) ?_
      exact T_zreturn dX11_isMove_14 rfl (by omega) (by refine ⟨?_, rfl⟩; first | rfl | (refine congrArg (fun z => some (vI z)) ?_; first | omega | (simp only [bI]; (repeat' split) <;> omega)))
    · refine T_iconst dX11_isMove_9 (by decide) ?_
      refine T_goto (tgt := 14) dX11_isMove_10 (by decide) ?_
      exact T_zreturn dX11_isMove_14 rfl (by omega) (by refine ⟨?_, rfl⟩; first | rfl | (refine congrArg (fun z => some (vI z)) ?_; first | omega | (simp only [bI]; (repeat' split) <;> omega)))

theorem t_isSort {a : Int} : tB G mX11_isSort 0 [vI a] [] d (fun r d' => r = some (vI (bI (0 ≤ a ∧ a ≤ 3))) ∧ d = d') := by
  refine T_iload_n dX11_isSort_0 rfl ?_
  refine T_if_lt (tgt := 13) dX11_isSort_1 (by decide) (fun c1 => ?_) (fun c1 => ?_)
  · refine T_iconst dX11_isSort_13 (by decide) ?_
    exact T_zreturn dX11_isSort_14 rfl (by omega) (by refine ⟨?_, rfl⟩; first | rfl | (refine congrArg (fun z => some (vI z)) ?_; first | omega | (simp only [bI]; (repeat' split) <;> omega)))
  · refine T_iload_n dX11_isSort_4 rfl ?_
    refine T_iconst dX11_isSort_5 (by decide) ?_
    refine T_icmp_ge (tgt := 13) dX11_isSort_6 (by decide) (fun c6 => ?_) (fun c6 => ?_)
    · refine T_iconst dX11_isSort_13 (by decide) ?_
      exact T_zreturn dX11_isSort_14 rfl (by omega) (by refine ⟨?_, rfl⟩; first | rfl | (refine congrArg (fun z => some (vI z)) ?_; first | omega | (simp only [bI]; (repeat' split) <;> omega)))
    · refine T_iconst dX11_isSort_9 (by decide) ?_
      refine T_goto (tgt := 14) dX11_isSort_10 (by decide) ?_
      exact T_zreturn dX11_isSort_14 rfl (by omega) (by refine ⟨?_, rfl⟩; first | rfl | (refine congrArg (fun z => some (vI z)) ?_; first | omega | (simp only [bI]; (repeat' split) <;> omega)))

theorem t_cisOrder {a k : Int} (hw : kn S0 wo = 10) (hO : Wo d wo w) (hV : WV w) : tB G mX11_isOrder 0 [vR wo, vI a, vI k] [] d (fun r d' => r = some (vI (bI ((0 ≤ a ∧ a ≤ 1) ∧ 0 ≤ k ∧ k ≤ w (15 + a.toNat) - 1))) ∧ d = d') := by
  refine T_iload_n dX11_isOrder_0 rfl ?_
  refine T_callS dX11_isOrder_1 lX11_181 (As := [_]) (rest := _) rfl rfl (by decide) (Nat.le_of_ble_eq_true rfl) (Nat.le_of_ble_eq_true rfl) t_isArmy ?_
  rintro _ _ ⟨rfl, rfl⟩
  refine T_if_eq (tgt := 25) dX11_isOrder_4 (by decide) (fun c4 => ?_) (fun c4 => ?_)
  · refine T_iconst dX11_isOrder_25 (by decide) ?_
    exact T_zreturn dX11_isOrder_26 rfl (by omega) ⟨by rw [bI_f (fun q => bI_0 c4 q.1)], rfl⟩
  · have h4 := bI_1 c4
    refine T_iload_n dX11_isOrder_7 rfl ?_
    refine T_if_lt (tgt := 25) dX11_isOrder_8 (by decide) (fun c8 => ?_) (fun c8 => ?_)
    · refine T_iconst dX11_isOrder_25 (by decide) ?_
      exact T_zreturn dX11_isOrder_26 rfl (by omega) ⟨by rw [bI_f (fun q => by omega)], rfl⟩
    · refine T_iload_n dX11_isOrder_11 rfl ?_
      refine T_aload_n dX11_isOrder_12 rfl ?_
      refine T_getR dX11_isOrder_13 fX11_200 rfl hw (rW8 hw) ?_
      refine T_iload_n dX11_isOrder_16 rfl ?_
      refine T_ialdv dX11_isOrder_17 (kW8 hw) (lW8 hw) (by omega) (j := a.toNat) rfl (x := w (15 + a.toNat)) (hO.ct (by omega)) ?_
      refine T_icmp_ge (tgt := 25) dX11_isOrder_18 (by decide) (fun c18 => ?_) (fun c18 => ?_)
      · refine T_iconst dX11_isOrder_25 (by decide) ?_
        exact T_zreturn dX11_isOrder_26 rfl (by omega) ⟨by rw [bI_f (fun q => by omega)], rfl⟩
      · refine T_iconst dX11_isOrder_21 (by decide) ?_
        refine T_goto (tgt := 26) dX11_isOrder_22 (by decide) ?_
        exact T_zreturn dX11_isOrder_26 rfl (by omega) ⟨by rw [bI_t ⟨h4, by omega, by omega⟩], rfl⟩

theorem t_warAt {k : Int} (hM : MS d) (hC : CS d) : tB G mX11_warAt 0 [vR 1, vI k] [] d (fun r d' => (¬ Vd d 0 k ∧ r = some (vR 0) ∧ d = d') ∨ (Vd d 0 k ∧ r = some (vR (9 + 21 * k.toNat)) ∧ d = d')) := by
  have hc := hM.1 0 (by decide)
  have he := hC.1 0 (by decide)
  refine T_iload_n dX11_warAt_0 rfl ?_
  refine T_if_lt (tgt := 29) dX11_warAt_1 (by decide) (fun c1 => ?_) (fun c1 => ?_)
  · refine T_null dX11_warAt_29 ?_
    exact T_areturn dX11_warAt_30 rfl (Or.inl ⟨by omega, rfl, rfl⟩)
  · refine T_iload_n dX11_warAt_4 rfl ?_
    refine T_aload_n dX11_warAt_5 rfl ?_
    refine T_getR dX11_warAt_6 fX11_10 rfl k1 r1_0 ?_
    refine T_getR dX11_warAt_9 fX11_113 rfl k2 r2_4 ?_
    refine T_iconst dX11_warAt_12 (by decide) ?_
    refine T_ialdv dX11_warAt_13 k4 l4 (by omega) (j := 0) rfl (x := d 272 0) he ?_
    refine T_icmp_ge (tgt := 29) dX11_warAt_14 (by decide) (fun c14 => ?_) (fun c14 => ?_)
    · refine T_null dX11_warAt_29 ?_
      exact T_areturn dX11_warAt_30 rfl (Or.inl ⟨by omega, rfl, rfl⟩)
    · refine T_aload_n dX11_warAt_17 rfl ?_
      refine T_getR dX11_warAt_18 fX11_10 rfl k1 r1_0 ?_
      refine T_getR dX11_warAt_21 fX11_116 rfl k2 r2_5 ?_
      refine T_iload_n dX11_warAt_24 rfl ?_
      refine T_aald dX11_warAt_25 k5 (by decide) l5 (by omega) (kn_w k.toNat (by omega)).2 ?_
      refine T_goto (tgt := 30) dX11_warAt_26 (by decide) ?_
      exact T_areturn dX11_warAt_30 rfl (Or.inr ⟨by omega, rfl, rfl⟩)

theorem t_scoreAt {k : Int} (hM : MS d) (hC : CS d) : tB G mX11_scoreAt 0 [vR 1, vI k] [] d (fun r d' => (¬ Vd d 1 k ∧ r = some (vR 0) ∧ d = d') ∨ (Vd d 1 k ∧ r = some (vR (19 + 21 * k.toNat)) ∧ d = d')) := by
  have hc := hM.1 1 (by decide)
  have he := hC.1 1 (by decide)
  refine T_iload_n dX11_scoreAt_0 rfl ?_
  refine T_if_lt (tgt := 29) dX11_scoreAt_1 (by decide) (fun c1 => ?_) (fun c1 => ?_)
  · refine T_null dX11_scoreAt_29 ?_
    exact T_areturn dX11_scoreAt_30 rfl (Or.inl ⟨by omega, rfl, rfl⟩)
  · refine T_iload_n dX11_scoreAt_4 rfl ?_
    refine T_aload_n dX11_scoreAt_5 rfl ?_
    refine T_getR dX11_scoreAt_6 fX11_10 rfl k1 r1_0 ?_
    refine T_getR dX11_scoreAt_9 fX11_113 rfl k2 r2_4 ?_
    refine T_iconst dX11_scoreAt_12 (by decide) ?_
    refine T_ialdv dX11_scoreAt_13 k4 l4 (by omega) (j := 1) rfl (x := d 272 1) he ?_
    refine T_icmp_ge (tgt := 29) dX11_scoreAt_14 (by decide) (fun c14 => ?_) (fun c14 => ?_)
    · refine T_null dX11_scoreAt_29 ?_
      exact T_areturn dX11_scoreAt_30 rfl (Or.inl ⟨by omega, rfl, rfl⟩)
    · refine T_aload_n dX11_scoreAt_17 rfl ?_
      refine T_getR dX11_scoreAt_18 fX11_10 rfl k1 r1_0 ?_
      refine T_getR dX11_scoreAt_21 fX11_130 rfl k2 r2_6 ?_
      refine T_iload_n dX11_scoreAt_24 rfl ?_
      refine T_aald dX11_scoreAt_25 k6 (by decide) l6 (by omega) (kn_s k.toNat (by omega)).2 ?_
      refine T_goto (tgt := 30) dX11_scoreAt_26 (by decide) ?_
      exact T_areturn dX11_scoreAt_30 rfl (Or.inr ⟨by omega, rfl, rfl⟩)

theorem t_hearingAt {k : Int} (hM : MS d) (hC : CS d) : tB G mX11_hearingAt 0 [vR 1, vI k] [] d (fun r d' => (¬ Vd d 2 k ∧ r = some (vR 0) ∧ d = d') ∨ (Vd d 2 k ∧ r = some (vR (22 + 21 * k.toNat)) ∧ d = d')) := by
  have hc := hM.1 2 (by decide)
  have he := hC.1 2 (by decide)
  refine T_iload_n dX11_hearingAt_0 rfl ?_
  refine T_if_lt (tgt := 29) dX11_hearingAt_1 (by decide) (fun c1 => ?_) (fun c1 => ?_)
  · refine T_null dX11_hearingAt_29 ?_
    exact T_areturn dX11_hearingAt_30 rfl (Or.inl ⟨by omega, rfl, rfl⟩)
  · refine T_iload_n dX11_hearingAt_4 rfl ?_
    refine T_aload_n dX11_hearingAt_5 rfl ?_
    refine T_getR dX11_hearingAt_6 fX11_10 rfl k1 r1_0 ?_
    refine T_getR dX11_hearingAt_9 fX11_113 rfl k2 r2_4 ?_
    refine T_iconst dX11_hearingAt_12 (by decide) ?_
    refine T_ialdv dX11_hearingAt_13 k4 l4 (by omega) (j := 2) rfl (x := d 272 2) he ?_
    refine T_icmp_ge (tgt := 29) dX11_hearingAt_14 (by decide) (fun c14 => ?_) (fun c14 => ?_)
    · refine T_null dX11_hearingAt_29 ?_
      exact T_areturn dX11_hearingAt_30 rfl (Or.inl ⟨by omega, rfl, rfl⟩)
    · refine T_aload_n dX11_hearingAt_17 rfl ?_
      refine T_getR dX11_hearingAt_18 fX11_10 rfl k1 r1_0 ?_
      refine T_getR dX11_hearingAt_21 fX11_140 rfl k2 r2_7 ?_
      refine T_iload_n dX11_hearingAt_24 rfl ?_
      refine T_aald dX11_hearingAt_25 k7 (by decide) l7 (by omega) (kn_h k.toNat (by omega)).2 ?_
      refine T_goto (tgt := 30) dX11_hearingAt_26 (by decide) ?_
      exact T_areturn dX11_hearingAt_30 rfl (Or.inr ⟨by omega, rfl, rfl⟩)

theorem t_villagesAt {k : Int} (hM : MS d) (hC : CS d) : tB G mX11_villagesAt 0 [vR 1, vI k] [] d (fun r d' => (¬ Vd d 3 k ∧ r = some (vR 0) ∧ d = d') ∨ (Vd d 3 k ∧ r = some (vR (25 + 21 * k.toNat)) ∧ d = d')) := by
  have hc := hM.1 3 (by decide)
  have he := hC.1 3 (by decide)
  refine T_iload_n dX11_villagesAt_0 rfl ?_
  refine T_if_lt (tgt := 29) dX11_villagesAt_1 (by decide) (fun c1 => ?_) (fun c1 => ?_)
  · refine T_null dX11_villagesAt_29 ?_
    exact T_areturn dX11_villagesAt_30 rfl (Or.inl ⟨by omega, rfl, rfl⟩)
  · refine T_iload_n dX11_villagesAt_4 rfl ?_
    refine T_aload_n dX11_villagesAt_5 rfl ?_
    refine T_getR dX11_villagesAt_6 fX11_10 rfl k1 r1_0 ?_
    refine T_getR dX11_villagesAt_9 fX11_113 rfl k2 r2_4 ?_
    refine T_iconst dX11_villagesAt_12 (by decide) ?_
    refine T_ialdv dX11_villagesAt_13 k4 l4 (by omega) (j := 3) rfl (x := d 272 3) he ?_
    refine T_icmp_ge (tgt := 29) dX11_villagesAt_14 (by decide) (fun c14 => ?_) (fun c14 => ?_)
    · refine T_null dX11_villagesAt_29 ?_
      exact T_areturn dX11_villagesAt_30 rfl (Or.inl ⟨by omega, rfl, rfl⟩)
    · refine T_aload_n dX11_villagesAt_17 rfl ?_
      refine T_getR dX11_villagesAt_18 fX11_10 rfl k1 r1_0 ?_
      refine T_getR dX11_villagesAt_21 fX11_153 rfl k2 r2_8 ?_
      refine T_iload_n dX11_villagesAt_24 rfl ?_
      refine T_aald dX11_villagesAt_25 k8 (by decide) l8 (by omega) (kn_v k.toNat (by omega)).2 ?_
      refine T_goto (tgt := 30) dX11_villagesAt_26 (by decide) ?_
      exact T_areturn dX11_villagesAt_30 rfl (Or.inr ⟨by omega, rfl, rfl⟩)

theorem Dl_fr {R : List (Int × Int)} {lo hi : Nat} (h : Dl d R) (hF : Fr lo hi d d') (hn : 84 < lo ∨ hi < 81) : Dl d' R := ⟨by rw [hF _ _ (by omega)]; exact h.1, fun j hj => by
  rw [hF _ _ (by omega), hF _ _ (by omega), hF _ _ (by omega)]; exact h.2 j hj⟩
abbrev pfQ (d : sD) (k l : Int) : Option sV → sD → Prop := fun r d' => (¬ Vp d k l ∧ r = some (vI 0) ∧ d = d') ∨ (Vp d k l ∧ r = some (vI 1) ∧ Dl d' (rowS (wvD d k.toNat) (gvD d l.toNat)) ∧ Ds d' (wvD d k.toNat) (rB (wvD d k.toNat) (gvD d l.toNat)) (rowS (wvD d k.toNat) (gvD d l.toNat)).length ∧ Fr 81 86 d d')
theorem t_perform {k l : Int} (hM : MS d) (hC : CS d) : tB G mX11_perform 0 [vR 1, vI k, vI l, vU 0, vU 0] [] d (pfQ d k l) := by
  refine T_aload_n dX11_perform_0 rfl ?_
  refine T_iload_n dX11_perform_1 rfl ?_
  refine T_callV dX11_perform_2 lX11_165 (As := [_]) (rest := _) rfl rfl k1 (by decide) (Nat.le_of_ble_eq_true rfl) (Nat.le_of_ble_eq_true rfl) (t_warAt hM hC) ?_
  rintro _ _ (⟨hv, rfl, rfl⟩ | ⟨hv, rfl, rfl⟩)
  ·
    refine T_ast_n dX11_perform_5 (by decide) rfl ?_
    refine T_aload_n dX11_perform_6 rfl ?_
    refine T_iload_n dX11_perform_7 rfl ?_
    refine T_callV dX11_perform_8 lX11_219 (As := [_]) (rest := _) rfl rfl k1 (by decide) (Nat.le_of_ble_eq_true rfl) (Nat.le_of_ble_eq_true rfl) (t_scoreAt hM hC) ?_
    rintro _ _ (⟨hu, rfl, rfl⟩ | ⟨hu, rfl, rfl⟩)
    ·
      refine T_ast dX11_perform_11 (by decide) rfl ?_
      refine T_aload_n dX11_perform_13 rfl ?_
      refine T_ifnull (tgt := 22) dX11_perform_14 (by decide) (fun c14 => ?_) (fun c14 => absurd rfl c14)
      refine T_iconst dX11_perform_22 (by decide) ?_
      exact T_zreturn dX11_perform_23 rfl (by omega) (Or.inl ⟨fun q => hv q.1, rfl, rfl⟩)
    ·
      refine T_ast dX11_perform_11 (by decide) rfl ?_
      refine T_aload_n dX11_perform_13 rfl ?_
      refine T_ifnull (tgt := 22) dX11_perform_14 (by decide) (fun c14 => ?_) (fun c14 => absurd rfl c14)
      refine T_iconst dX11_perform_22 (by decide) ?_
      exact T_zreturn dX11_perform_23 rfl (by omega) (Or.inl ⟨fun q => hv q.1, rfl, rfl⟩)
  · have hc0 := hM.1 0 (by decide)
    have hc1 := hM.1 1 (by decide)
    have hw := (kn_w k.toNat (by omega)).1
    have hO := hC.2.1 k.toNat (by omega)
    have hV := hM.2.1 k.toNat (by omega)
    refine T_ast_n dX11_perform_5 (by decide) rfl ?_
    refine T_aload_n dX11_perform_6 rfl ?_
    refine T_iload_n dX11_perform_7 rfl ?_
    refine T_callV dX11_perform_8 lX11_219 (As := [_]) (rest := _) rfl rfl k1 (by decide) (Nat.le_of_ble_eq_true rfl) (Nat.le_of_ble_eq_true rfl) (t_scoreAt hM hC) ?_
    rintro _ _ (⟨hu, rfl, rfl⟩ | ⟨hu, rfl, rfl⟩)
    ·
      refine T_ast dX11_perform_11 (by decide) rfl ?_
      refine T_aload_n dX11_perform_13 rfl ?_
      refine T_ifnull (tgt := 22) dX11_perform_14 (by decide) (fun c14 => absurd c14 (by omega)) (fun c14 => ?_)
      refine T_aload dX11_perform_17 rfl ?_
      refine T_ifnonnull (tgt := 24) dX11_perform_19 (by decide) (fun c19 => absurd rfl c19) (fun c19 => ?_)
      refine T_iconst dX11_perform_22 (by decide) ?_
      exact T_zreturn dX11_perform_23 rfl (by omega) (Or.inl ⟨fun q => hu q.2, rfl, rfl⟩)
    · have hs := (kn_s l.toNat (by omega)).1
      have hS := hC.2.2.1 l.toNat (by omega)
      have hG := hM.2.2.1 l.toNat (by omega)
      have hat := at_W hw
      have hlen := rowS_24 hV hG
      refine T_ast dX11_perform_11 (by decide) rfl ?_
      refine T_aload_n dX11_perform_13 rfl ?_
      refine T_ifnull (tgt := 22) dX11_perform_14 (by decide) (fun c14 => absurd c14 (by omega)) (fun c14 => ?_)
      refine T_aload dX11_perform_17 rfl ?_
      refine T_ifnonnull (tgt := 24) dX11_perform_19 (by decide) (fun c19 => ?_) (fun c19 => absurd c19 (by omega))
      refine T_aload_n dX11_perform_24 rfl ?_
      refine T_getR dX11_perform_25 fX11_41 rfl k1 r1_5 ?_
      refine T_aload_n dX11_perform_28 rfl ?_
      refine T_getIv dX11_perform_29 fX11_169 rfl hw (x := ((wvD d k.toNat 0).toNat : Int)) (by rw [hO.1.1]; have := hV.1; omega) ?_
      refine T_aload dX11_perform_32 rfl ?_
      refine T_callV dX11_perform_34 lX11_303 (As := [_, _]) (rest := _) rfl rfl k81 (by decide) (Nat.le_of_ble_eq_true rfl) (Nat.le_of_ble_eq_true rfl) (t_clay (w := wvD d k.toNat) (t := (wvD d k.toNat 0).toNat) hs hS hG (by have := hV.1; omega) (by have := hV.1; omega)) ?_
      rintro _ d1 ⟨rfl, e1, f1⟩
      refine T_aload_n dX11_perform_37 rfl ?_
      refine T_getR dX11_perform_38 fX11_41 rfl k1 r1_5 ?_
      refine T_aload_n dX11_perform_41 rfl ?_
      refine T_callV dX11_perform_42 lX11_459 (As := [_]) (rest := _) rfl rfl k81 (by decide) (Nat.le_of_ble_eq_true rfl) (Nat.le_of_ble_eq_true rfl) (t_cplay (w := wvD d k.toNat) (t := rB (wvD d k.toNat) (gvD d l.toNat)) hw (Wo_fr hO f1 (by omega)) hV e1.1 hlen (fun j hj => ⟨(e1.2 j hj).2.2, rB_rg hG j⟩)) ?_
      rintro _ d2 ⟨rfl, e2, f2⟩
      refine T_iconst dX11_perform_45 (by decide) ?_
      exact T_zreturn dX11_perform_46 rfl (by omega) (Or.inr ⟨⟨hv, hu⟩, rfl, Dl_fr e1 f2 (by omega), e2, (f1.mono (by omega)).trans (f2.mono (by omega))⟩)

/-- both armies have heard, and made what they made of it -/
def Bo (d : sD) (w s : Nat → Int) (n : Nat) : Prop := (Eh d 259 w s n 0 ∧ Em d 259 w 0 (mkS w s n 0 24 0).1 (mkS w s n 0 24 0).2) ∧ Eh d 265 w s n 1 ∧ Em d 265 w 1 (mkS w s n 1 24 0).1 (mkS w s n 1 24 0).2
theorem t_listenBoth (hw : kn S0 wo = 10) (hO : Wo d wo w) (hV : WV w) (hn : d 81 5 = (n : Int)) (hn24 : n ≤ 24) (hs : ∀ j, j < n → d 85 j = s j) : tB G mX11_listenBoth 0 [vR 1, vR wo, vU 0] [] d (fun r d' => r = none ∧ Bo d' w s n ∧ Fr 259 270 d d') := by
  have hat := at_W hw
  have h2 : ∀ x : Nat × sD, (x.1 ≤ 2 ∧ (∀ b, b < x.1 → Eh x.2 (259 + 6 * b) w s n b ∧ Em x.2 (259 + 6 * b) w b (mkS w s n b 24 0).1 (mkS w s n b 24 0).2) ∧ Fr 259 270 d x.2) → tB G mX11_listenBoth 2 [vR 1, vR wo, vI x.1] [] (x.2) (fun r d' => r = none ∧ Bo d' w s n ∧ Fr 259 270 d d') := by
    refine T_loop (α := Nat × sD) 2 (fun x => [vR 1, vR wo, vI x.1]) (fun x => x.2) (fun x => x.1 ≤ 2 ∧ (∀ b, b < x.1 → Eh x.2 (259 + 6 * b) w s n b ∧ Em x.2 (259 + 6 * b) w b (mkS w s n b 24 0).1 (mkS w s n b 24 0).2) ∧ Fr 259 270 d x.2) (fun x => 2 - x.1) ?_
    rintro ⟨a, m⟩ ⟨h1, h2, h3⟩ ih
    try dsimp only at h1 h2 h3 ih ⊢
    refine T_iload_n dX11_listenBoth_2 rfl ?_
    refine T_iconst dX11_listenBoth_3 (by decide) ?_
    refine T_icmp_ge (tgt := 28) dX11_listenBoth_4 (by decide) (fun c4 => ?_) (fun c4 => ?_)
    · exact T_return dX11_listenBoth_28 rfl ⟨rfl, ⟨h2 0 (by omega), h2 1 (by omega)⟩, h3⟩
    · have he := (kn_e a (by omega)).1
      refine T_aload_n dX11_listenBoth_7 rfl ?_
      refine T_getR dX11_listenBoth_8 fX11_47 rfl k1 r1_6 ?_
      refine T_iload_n dX11_listenBoth_11 rfl ?_
      refine T_aald dX11_listenBoth_12 k87 (by decide) l87 (by omega) (kn_e a (by omega)).2 ?_
      refine T_aload_n dX11_listenBoth_13 rfl ?_
      refine T_iload_n dX11_listenBoth_14 rfl ?_
      refine T_aload_n dX11_listenBoth_15 rfl ?_
      refine T_getR dX11_listenBoth_16 fX11_41 rfl k1 r1_5 ?_
      refine T_callV dX11_listenBoth_19 lX11_465 (As := [_, _, _]) (rest := _) rfl rfl he (by decide) (Nat.le_of_ble_eq_true rfl) (Nat.le_of_ble_eq_true rfl) (t_listen (s := s) (n := n) he hw (Wo_fr hO h3 (by omega)) hV (by omega) (by rw [h3 81 5 (by omega)]; exact hn) hn24 (fun j hj => by rw [h3 85 j (by omega)]; exact hs j hj)) ?_
      rintro _ d1 ⟨rfl, e1, e2, f1⟩
      refine T_inc dX11_listenBoth_22 rfl (by decide) rfl (by omega) ?_
      refine T_goto (tgt := 2) dX11_listenBoth_25 (by decide) ?_
      refine ih (a + 1, d1) ⟨by dsimp only; omega, fun b hb => ?_, h3.trans (f1.mono (by omega))⟩ (by dsimp only; omega)
      dsimp only at hb ⊢
      rcases (show b < a ∨ b = a by omega) with q | rfl
      · exact ⟨Eh_fr (h2 b q).1 f1 (by omega), Em_fr (h2 b q).2 f1 (by omega)⟩
      · exact ⟨e1, e2⟩
  refine T_iconst dX11_listenBoth_0 (by decide) ?_
  refine T_ist_n dX11_listenBoth_1 (by decide) rfl ?_
  exact h2 (0, d) ⟨Nat.zero_le _, fun b hb => absurd hb (Nat.not_lt_zero b), Fr.rf⟩

theorem Bo_fr {lo hi : Nat} (h : Bo d w s n) (hF : Fr lo hi d d') (hn : 270 < lo ∨ hi < 259) : Bo d' w s n := ⟨⟨Eh_fr h.1.1 hF (by omega), Em_fr h.1.2 hF (by omega)⟩, Eh_fr h.2.1 hF (by omega), Em_fr h.2.2 hF (by omega)⟩
theorem Ds_fr {lo hi : Nat} (h : Ds d w t n) (hF : Fr lo hi d d') (hn : 86 < lo ∨ hi < 85) : Ds d' w t n := fun j hj => by rw [hF _ _ (by omega), hF _ _ (by omega)]; exact h j hj
abbrev pbQ (d : sD) (k l : Int) : Option sV → sD → Prop := fun r d' => (¬ Vp d k l ∧ r = some (vI 0) ∧ d = d') ∨ (Vp d k l ∧ r = some (vI 1) ∧ Dl d' (rowS (wvD d k.toNat) (gvD d l.toNat)) ∧ Ds d' (wvD d k.toNat) (rB (wvD d k.toNat) (gvD d l.toNat)) (rowS (wvD d k.toNat) (gvD d l.toNat)).length ∧ Bo d' (wvD d k.toNat) (snS (wvD d k.toNat) (gvD d l.toNat)) (rowS (wvD d k.toNat) (gvD d l.toNat)).length ∧ Cf d d')
theorem t_performToBoth {k l : Int} (hM : MS d) (hC : CS d) : tB G mX11_performToBoth 0 [vR 1, vI k, vI l] [] d (pbQ d k l) := by
  have hc0 := hM.1 0 (by decide)
  refine T_aload_n dX11_performToBoth_0 rfl ?_
  refine T_iload_n dX11_performToBoth_1 rfl ?_
  refine T_iload_n dX11_performToBoth_2 rfl ?_
  refine T_callV dX11_performToBoth_3 lX11_225 (As := [_, _]) (rest := _) rfl rfl k1 (by decide) (Nat.le_of_ble_eq_true rfl) (Nat.le_of_ble_eq_true rfl) (t_perform hM hC) ?_
  rintro _ d1 (⟨hv, rfl, rfl⟩ | ⟨hv, rfl, e1, e2, f1⟩)
  ·
    refine T_if_ne (tgt := 11) dX11_performToBoth_6 (by decide) (fun c6 => absurd rfl c6) (fun c6 => ?_)
    refine T_iconst dX11_performToBoth_9 (by decide) ?_
    exact T_zreturn dX11_performToBoth_10 rfl (by omega) (Or.inl ⟨hv, rfl, rfl⟩)
  · have hw := (kn_w k.toNat (by omega)).1
    have hO := hC.2.1 k.toNat (by omega)
    have hV := hM.2.1 k.toNat (by omega)
    have hG := hM.2.2.1 l.toNat (by omega)
    have hat := at_W hw
    have hlen := rowS_24 hV hG
    refine T_if_ne (tgt := 11) dX11_performToBoth_6 (by decide) (fun c6 => ?_) (fun c6 => absurd c6 (by decide))
    refine T_aload_n dX11_performToBoth_11 rfl ?_
    refine T_aload_n dX11_performToBoth_12 rfl ?_
    refine T_getR dX11_performToBoth_13 fX11_10 rfl k1 r1_0 ?_
    refine T_getR dX11_performToBoth_16 fX11_116 rfl k2 r2_5 ?_
    refine T_iload_n dX11_performToBoth_19 rfl ?_
    refine T_aald dX11_performToBoth_20 k5 (by decide) l5 (by omega) (kn_w k.toNat (by omega)).2 ?_
    refine T_callV dX11_performToBoth_21 lX11_462 (As := [_]) (rest := _) rfl rfl k1 (by decide) (Nat.le_of_ble_eq_true rfl) (Nat.le_of_ble_eq_true rfl) (t_listenBoth (s := snS (wvD d k.toNat) (gvD d l.toNat)) hw (Wo_fr hO f1 (by omega)) hV e1.1 hlen (fun j hj => by rw [(e2 j hj).1]; unfold snS; rw [if_pos hj])) ?_
    rintro _ d2 ⟨rfl, e3, f2⟩
    refine T_iconst dX11_performToBoth_24 (by decide) ?_
    exact T_zreturn dX11_performToBoth_25 rfl (by omega) (Or.inr ⟨hv, rfl, Dl_fr e1 f2 (by omega), Ds_fr e2 f2 (by omega), e3, (f1.cf (by omega)).trans (f2.cf (by omega))⟩)

/-- memory changed where it is played and heard alone -/
def Lf (d d' : sD) : Prop := ∀ b j, ¬ ((85 ≤ b ∧ b ≤ 86) ∨ (259 ≤ b ∧ b ≤ 270)) → d' b j = d b j
theorem Lf.rf : Lf d d := fun _ _ _ => rfl
theorem Lf.trans {d d1 d2 : sD} (h1 : Lf d d1) (h2 : Lf d1 d2) : Lf d d2 := fun b j hb => (h2 b j hb).trans (h1 b j hb)
theorem Lf.cf (h : Lf d d') : Cf d d' := fun b j hn => h b j (by omega)
theorem Fr.lf {lo hi : Nat} (h : Fr lo hi d d') (hb : (85 ≤ lo ∧ hi ≤ 86) ∨ (259 ≤ lo ∧ hi ≤ 270)) : Lf d d' := fun b j hn => h b j (by omega)
theorem Dl_lf {R : List (Int × Int)} (h : Dl d R) (hF : Lf d d') : Dl d' R := ⟨by rw [hF _ _ (by omega)]; exact h.1, fun j hj => by
  rw [hF _ _ (by omega), hF _ _ (by omega), hF _ _ (by omega)]; exact h.2 j hj⟩
theorem t_letsMake {m : Int} (hw : kn S0 wo = 10) (hO : Wo d wo w) (hV : WV w) (hn : d 81 5 = (n : Int)) (hn24 : n ≤ 24) (ht : ∀ j, j < n → d 84 j = t j ∧ 0 ≤ t j ∧ t j ≤ 3) (ha : a < 2) : tB G mX11_letsMake 0 [vR 1, vR wo, vI a, vI m] [] d (fun r d' => r = some (vI (isMadeS w (snF w t n) n a m)) ∧ Lf d d') := by
  have hat := at_W hw
  have he := (kn_e a ha).1
  refine T_aload_n dX11_letsMake_0 rfl ?_
  refine T_getR dX11_letsMake_1 fX11_41 rfl k1 r1_5 ?_
  refine T_aload_n dX11_letsMake_4 rfl ?_
  refine T_callV dX11_letsMake_5 lX11_459 (As := [_]) (rest := _) rfl rfl k81 (by decide) (Nat.le_of_ble_eq_true rfl) (Nat.le_of_ble_eq_true rfl) (t_cplay (w := w) (t := t) hw hO hV hn hn24 ht) ?_
  rintro _ d1 ⟨rfl, e1, f1⟩
  refine T_aload_n dX11_letsMake_8 rfl ?_
  refine T_getR dX11_letsMake_9 fX11_47 rfl k1 r1_6 ?_
  refine T_iload_n dX11_letsMake_12 rfl ?_
  refine T_aald dX11_letsMake_13 k87 (by decide) l87 (by omega) (kn_e a ha).2 ?_
  refine T_aload_n dX11_letsMake_14 rfl ?_
  refine T_iload_n dX11_letsMake_15 rfl ?_
  refine T_aload_n dX11_letsMake_16 rfl ?_
  refine T_getR dX11_letsMake_17 fX11_41 rfl k1 r1_5 ?_
  refine T_callV dX11_letsMake_20 lX11_465 (As := [_, _, _]) (rest := _) rfl rfl he (by decide) (Nat.le_of_ble_eq_true rfl) (Nat.le_of_ble_eq_true rfl) (t_listen (s := snF w t n) (n := n) he hw (Wo_fr hO f1 (by omega)) hV ha (by rw [f1 81 5 (by omega)]; exact hn) hn24 (fun j hj => by rw [(e1 j hj).1]; unfold snF; rw [if_pos hj])) ?_
  rintro _ d2 ⟨rfl, e2, e3, f2⟩
  refine T_aload_n dX11_letsMake_23 rfl ?_
  refine T_getR dX11_letsMake_24 fX11_47 rfl k1 r1_6 ?_
  refine T_iload_n dX11_letsMake_27 rfl ?_
  refine T_aald dX11_letsMake_28 k87 (by decide) l87 (by omega) (kn_e a ha).2 ?_
  refine T_iload_n dX11_letsMake_29 rfl ?_
  refine T_callV dX11_letsMake_30 lX11_469 (As := [_]) (rest := _) rfl rfl he (by decide) (Nat.le_of_ble_eq_true rfl) (Nat.le_of_ble_eq_true rfl) (t_hasMade he e3 (mkS_MlOk hV ha hn24).1) ?_
  rintro _ _ ⟨rfl, rfl⟩
  exact T_zreturn dX11_letsMake_33 rfl (orN_01 (fun _ _ => bI_01 _)) ⟨rfl, (f1.lf (by omega)).trans (f2.lf (by omega))⟩

theorem soK_s {a : Nat} : soK w s n h (a + 1) ↔ soK w s n h a ∧ soM w s n h a := ⟨fun q => ⟨fun b hb => q b (by omega), q a (by omega)⟩, fun q b hb => by
  rcases (show b < a ∨ b = a by omega) with z | rfl
  · exact q.1 b z
  · exact q.2⟩
theorem t_soundsAsTold (hw : kn S0 wo = 10) (hh : kn S0 ho = 4) (hO : Wo d wo w) (hV : WV w) (hH : Ho d ho h) (hHV : HV h) (hn : d 81 5 = (n : Int)) (hn24 : n ≤ 24) (ht : ∀ j, j < n → d 84 j = t j ∧ 0 ≤ t j ∧ t j ≤ 3) : tB G mX11_soundsAsTold 0 [vR 1, vR wo, vR ho, vU 0] [] d (fun r d' => r = some (vI (bI (soK w (snF w t n) n h 2))) ∧ Lf d d') := by
  have hat := at_W hw
  have hah := at_H hh
  have h10 : ∀ x : Nat × sD, (x.1 ≤ 2 ∧ soK w (snF w t n) n h x.1 ∧ (∀ j, j < n → x.2 85 j = snF w t n j) ∧ Lf d x.2) → tB G mX11_soundsAsTold 10 [vR 1, vR wo, vR ho, vI x.1] [] (x.2) (fun r d' => r = some (vI (bI (soK w (snF w t n) n h 2))) ∧ Lf d d') := by
    refine T_loop (α := Nat × sD) 10 (fun x => [vR 1, vR wo, vR ho, vI x.1]) (fun x => x.2) (fun x => x.1 ≤ 2 ∧ soK w (snF w t n) n h x.1 ∧ (∀ j, j < n → x.2 85 j = snF w t n j) ∧ Lf d x.2) (fun x => 2 - x.1) ?_
    rintro ⟨a, m⟩ ⟨h1, h2, h3, h4⟩ ih
    try dsimp only at h1 h2 h3 h4 ih ⊢
    have hHm := Ho_eq hH (d' := m) (fun x j hx => h4 _ _ (by omega))
    have h56 : ∀ m2, a < 2 → (∀ j, j < n → m2 85 j = snF w t n j) → Lf d m2 → soM w (snF w t n) n h a → tB G mX11_soundsAsTold 56 [vR 1, vR wo, vR ho, vI a] [] m2 (fun r d' => r = some (vI (bI (soK w (snF w t n) n h 2))) ∧ Lf d d') := by
      intro m2 ha g3 g4 g5
      refine T_inc dX11_soundsAsTold_56 rfl (by decide) rfl (by omega) ?_
      refine T_goto (tgt := 10) dX11_soundsAsTold_59 (by decide) ?_
      exact ih (a + 1, m2) ⟨by dsimp only; omega, soK_s.mpr ⟨h2, g5⟩, g3, g4⟩ (by dsimp only; omega)
    refine T_iload_n dX11_soundsAsTold_10 rfl ?_
    refine T_iconst dX11_soundsAsTold_11 (by decide) ?_
    refine T_icmp_ge (tgt := 62) dX11_soundsAsTold_12 (by decide) (fun c12 => ?_) (fun c12 => ?_)
    · refine T_iconst dX11_soundsAsTold_62 (by decide) ?_
      exact T_zreturn dX11_soundsAsTold_63 rfl (by omega) ⟨by rw [bI_t (show soK w (snF w t n) n h 2 by rw [show a = 2 by omega] at h2; exact h2)], h4⟩
    · have he := (kn_e a (by omega)).1
      refine T_aload_n dX11_soundsAsTold_15 rfl ?_
      refine T_getR dX11_soundsAsTold_16 fX11_314 rfl hh (rH0 hh) ?_
      refine T_iload_n dX11_soundsAsTold_19 rfl ?_
      refine T_ialdv dX11_soundsAsTold_20 (kH0 hh) (lH0 hh) (by omega) (j := a) (by omega) (x := h a) (hHm a (by omega)).1 ?_
      refine T_iconst dX11_soundsAsTold_21 (by decide) ?_
      refine T_icmp_eq (tgt := 56) dX11_soundsAsTold_22 (by decide) (fun c22 => ?_) (fun c22 => ?_)
      · exact h56 m (by omega) h3 h4 (Or.inl c22)
      · refine T_aload_n dX11_soundsAsTold_25 rfl ?_
        refine T_getR dX11_soundsAsTold_26 fX11_47 rfl k1 r1_6 ?_
        refine T_iload_n dX11_soundsAsTold_29 rfl ?_
        refine T_aald dX11_soundsAsTold_30 k87 (by decide) l87 (by omega) (kn_e a (by omega)).2 ?_
        refine T_aload_n dX11_soundsAsTold_31 rfl ?_
        refine T_iload_n dX11_soundsAsTold_32 rfl ?_
        refine T_aload_n dX11_soundsAsTold_33 rfl ?_
        refine T_getR dX11_soundsAsTold_34 fX11_41 rfl k1 r1_5 ?_
        refine T_callV dX11_soundsAsTold_37 lX11_465 (As := [_, _, _]) (rest := _) rfl rfl he (by decide) (Nat.le_of_ble_eq_true rfl) (Nat.le_of_ble_eq_true rfl) (t_listen (s := snF w t n) (n := n) he hw (Wo_eq hO (fun x j hx => h4 _ _ (by omega))) hV (by omega) (by rw [h4 81 5 (by omega)]; exact hn) hn24 h3) ?_
        rintro _ d2 ⟨rfl, e2, e3, f2⟩
        refine T_aload_n dX11_soundsAsTold_40 rfl ?_
        refine T_getR dX11_soundsAsTold_41 fX11_47 rfl k1 r1_6 ?_
        refine T_iload_n dX11_soundsAsTold_44 rfl ?_
        refine T_aald dX11_soundsAsTold_45 k87 (by decide) l87 (by omega) (kn_e a (by omega)).2 ?_
        refine T_aload_n dX11_soundsAsTold_46 rfl ?_
        refine T_iload_n dX11_soundsAsTold_47 rfl ?_
        refine T_callV dX11_soundsAsTold_48 lX11_472 (As := [_, _]) (rest := _) rfl rfl he (by decide) (Nat.le_of_ble_eq_true rfl) (Nat.le_of_ble_eq_true rfl) (t_madeAsTold he hh (Ho_fr hHm f2 (by omega)) hHV e3 (mkS_MlOk hV (by omega) hn24).1 (by omega)) ?_
        rintro _ _ ⟨rfl, rfl⟩
        refine T_if_ne (tgt := 56) dX11_soundsAsTold_51 (by decide) (fun c51 => ?_) (fun c51 => ?_)
        · exact h56 d2 (by omega) (fun j hj => by rw [f2 85 j (by omega)]; exact h3 j hj) (h4.trans (f2.lf (by omega))) (Or.inr (bI_1 c51))
        · refine T_iconst dX11_soundsAsTold_54 (by decide) ?_
          exact T_zreturn dX11_soundsAsTold_55 rfl (by omega) ⟨by rw [bI_f (fun q => (q a (by omega)).elim c22 (bI_0 c51))], h4.trans (f2.lf (by omega))⟩
  refine T_aload_n dX11_soundsAsTold_0 rfl ?_
  refine T_getR dX11_soundsAsTold_1 fX11_41 rfl k1 r1_5 ?_
  refine T_aload_n dX11_soundsAsTold_4 rfl ?_
  refine T_callV dX11_soundsAsTold_5 lX11_459 (As := [_]) (rest := _) rfl rfl k81 (by decide) (Nat.le_of_ble_eq_true rfl) (Nat.le_of_ble_eq_true rfl) (t_cplay (w := w) (t := t) hw hO hV hn hn24 ht) ?_
  rintro _ d1 ⟨rfl, e1, f1⟩
  refine T_iconst dX11_soundsAsTold_8 (by decide) ?_
  refine T_ist_n dX11_soundsAsTold_9 (by decide) rfl ?_
  exact h10 (0, d1) ⟨Nat.zero_le _, fun b hb => absurd hb (Nat.not_lt_zero b), fun j hj => by dsimp only; rw [(e1 j hj).1]; unfold snF; rw [if_pos hj], f1.lf (by omega)⟩

end C8
