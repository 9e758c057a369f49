/-! the reference: given, told, order, row, heard -/
section M12
variable {G : sG} {d : sD} {w g : Nat → Int}
theorem T_args1 {M : sM} {pc : Nat} {r : Nat} {x : Int} {y : Nat} {l : List sV} {Q : Option sV → sD → Prop} (h : x = (y : Int)) (k : tB G M pc (vR r :: vI (y : Int) :: l) [] d Q) : tB G M pc (vR r :: vI x :: l) [] d Q := by rw [h]; exact k
theorem T_args3 {M : sM} {pc : Nat} {r : Nat} {z z2 : sV} {x : Int} {y : Nat} {l : List sV} {Q : Option sV → sD → Prop} (h : x = (y : Int)) (k : tB G M pc (vR r :: z :: z2 :: vI (y : Int) :: l) [] d Q) : tB G M pc (vR r :: z :: z2 :: vI x :: l) [] d Q := by rw [h]; exact k
abbrev Vd (d : sD) (s : Nat) (k : Int) : Prop := 0 ≤ k ∧ k ≤ d 272 s - 1
abbrev qQ (d : sD) (v : Int) (cs fs : List Nat) : Option sV → sD → Prop := fun r d' => r = some (vI v) ∧ Ag cs fs d d'

def qGiven (g : Nat → Int) (a k : Int) : Int := if ¬ (0 ≤ a ∧ a ≤ 1) then -1 else if k = -1 then g a.toNat else if 0 ≤ k ∧ k ≤ g a.toNat - 1 then g (2 + 12 * a.toNat + k.toNat) else -1
theorem t_X12_given {k a i : Int} (hM : MS d) : tB G mX12_given 0 [vR 271, vI k, vI a, vI i] [] d (qQ d (if Vd d 1 k then qGiven (gvD d k.toNat) a i else -1) [] [11]) := by
  have c1 := hM.1 1 (by decide)
  refine T_aload_n dX12_given_0 rfl ?_
  refine T_iload_n dX12_given_1 rfl ?_
  refine T_callV dX12_given_2 lX12_240 (As := [_]) (rest := _) rfl rfl k271 (by decide) (Nat.le_of_ble_eq_true rfl) (Nat.le_of_ble_eq_true rfl) (t_X12_isScore c1) ?_
  rintro _ _ (⟨hv, rfl, rfl⟩ | ⟨hv, rfl, rfl⟩)
  ·
    refine T_if_eq (tgt := 15) dX12_given_5 (by decide) (fun c5 => ?_) (fun c5 => absurd rfl c5)
    refine T_iconst dX12_given_15 (by decide) ?_
    exact T_ireturn dX12_given_16 rfl ⟨by rw [if_neg hv], Ag.rf⟩
  · have hGd := isGd (d := d) (k := k.toNat) (by omega)
    rw [show (k.toNat : Int) = k by omega] at hGd
    have hGV := hM.2.2.1 k.toNat (by omega)
    rw [if_pos hv]
    obtain ⟨p, q1, q2, q3⟩ := hGd
    have hAg : Ag [] [11] d (up d 271 11 (788 + 26 * k)) := Ag_upf Ag.rf (by decide)
    refine T_if_eq (tgt := 15) dX12_given_5 (by decide) (fun c5 => absurd c5 (by decide)) (fun c5 => ?_)
    refine T_iload_n dX12_given_8 rfl ?_
    refine T_callS dX12_given_9 lX12_218 (As := [_]) (rest := _) rfl rfl (by decide) (Nat.le_of_ble_eq_true rfl) (Nat.le_of_ble_eq_true rfl) t_X12_isArmy ?_
    rintro _ _ ⟨rfl, rfl⟩
    refine T_if_ne (tgt := 17) dX12_given_12 (by decide) (fun c12 => ?_) (fun c12 => ?_)
    · have h12 := bI_1 c12
      obtain ⟨a, rfl⟩ : ∃ a2 : Nat, a = (a2 : Int) := ⟨a.toNat, by omega⟩
      have hga := (hGV a (by omega)).1
      refine T_iload_n dX12_given_17 rfl ?_
      refine T_iconst dX12_given_18 (by decide) ?_
      refine T_icmp_ne (tgt := 36) dX12_given_19 (by decide) (fun c19 => ?_) (fun c19 => ?_)
      · refine T_iload_n dX12_given_36 rfl ?_
        refine T_iconst dX12_given_37 (by decide) ?_
        refine T_aload_n dX12_given_38 rfl ?_
        refine T_getR dX12_given_39 fX12_7 rfl k271 r271_0 ?_
        refine T_aload_n dX12_given_42 rfl ?_
        refine T_getIv dX12_given_43 fX12_237 rfl k271 (x := (p : Int)) q1 ?_
        refine T_iload_n dX12_given_46 rfl ?_
        refine T_add dX12_given_47 (by omega) ?_
        refine T_ialdv dX12_given_48 k272 l272 (by omega) (j := p + a) (by omega) (x := gvD d k.toNat a) (q3 a (by omega)) ?_
        refine T_iconst dX12_given_49 (by decide) ?_
        refine T_sub dX12_given_50 (by omega) ?_
        refine T_callS dX12_given_51 lX12_145 (As := [_, _, _]) (rest := _) rfl rfl (by decide) (Nat.le_of_ble_eq_true rfl) (Nat.le_of_ble_eq_true rfl) t_X12_isIn ?_
        rintro _ _ ⟨rfl, rfl⟩
        refine T_if_eq (tgt := 78) dX12_given_54 (by decide) (fun c54 => ?_) (fun c54 => ?_)
        · refine T_iconst dX12_given_78 (by decide) ?_
          exact T_ireturn dX12_given_79 rfl ⟨by unfold qGiven; (try simp only [Int.toNat_natCast]); rw [if_neg (fun q => q h12), if_neg c19, if_neg (bI_0 c54)], hAg⟩
        · have h54 := bI_1 c54
          obtain ⟨i, rfl⟩ : ∃ i2 : Nat, i = (i2 : Int) := ⟨i.toNat, by omega⟩
          refine T_aload_n dX12_given_57 rfl ?_
          refine T_getR dX12_given_58 fX12_7 rfl k271 r271_0 ?_
          refine T_aload_n dX12_given_61 rfl ?_
          refine T_getIv dX12_given_62 fX12_237 rfl k271 (x := (p : Int)) q1 ?_
          refine T_iconst dX12_given_65 (by decide) ?_
          refine T_add dX12_given_66 (by omega) ?_
          refine T_bipush dX12_given_67 (by decide) ?_
          refine T_iload_n dX12_given_69 rfl ?_
          refine T_mul dX12_given_70 (by omega) ?_
          refine T_add dX12_given_71 (by omega) ?_
          refine T_iload_n dX12_given_72 rfl ?_
          refine T_add dX12_given_73 (by omega) ?_
          refine T_ialdv dX12_given_74 k272 l272 (by omega) (j := p + (2 + 12 * a + i)) (by omega) (x := gvD d k.toNat (2 + 12 * a + i)) (q3 _ (by omega)) ?_
          refine T_goto (tgt := 79) dX12_given_75 (by decide) ?_
          exact T_ireturn dX12_given_79 rfl ⟨by unfold qGiven; (try simp only [Int.toNat_natCast]); rw [if_neg (fun q => q h12), if_neg c19, if_pos h54], hAg⟩
      · refine T_aload_n dX12_given_22 rfl ?_
        refine T_getR dX12_given_23 fX12_7 rfl k271 r271_0 ?_
        refine T_aload_n dX12_given_26 rfl ?_
        refine T_getIv dX12_given_27 fX12_237 rfl k271 (x := (p : Int)) q1 ?_
        refine T_iload_n dX12_given_30 rfl ?_
        refine T_add dX12_given_31 (by omega) ?_
        refine T_ialdv dX12_given_32 k272 l272 (by omega) (j := p + a) (by omega) (x := gvD d k.toNat a) (q3 a (by omega)) ?_
        refine T_goto (tgt := 79) dX12_given_33 (by decide) ?_
        exact T_ireturn dX12_given_79 rfl ⟨by unfold qGiven; (try simp only [Int.toNat_natCast]); rw [if_neg (fun q => q h12), if_pos c19], hAg⟩
    · refine T_iconst dX12_given_15 (by decide) ?_
      exact T_ireturn dX12_given_16 rfl ⟨by unfold qGiven; (try simp only [Int.toNat_natCast]); rw [if_pos (bI_0 c12)], hAg⟩

def qTold (h : Nat → Int) (a k : Int) : Int := if ¬ (0 ≤ a ∧ a ≤ 1) then -2 else if k = -1 then h a.toNat else if 0 ≤ k ∧ k ≤ h a.toNat - 1 then h (2 + 6 * a.toNat + k.toNat) else -2
theorem t_X12_told {k a i : Int} (hM : MS d) : tB G mX12_told 0 [vR 271, vI k, vI a, vI i] [] d (qQ d (if Vd d 2 k then qTold (hvD d k.toNat) a i else -2) [] [25]) := by
  have c1 := hM.1 2 (by decide)
  refine T_aload_n dX12_told_0 rfl ?_
  refine T_iload_n dX12_told_1 rfl ?_
  refine T_callV dX12_told_2 lX12_311 (As := [_]) (rest := _) rfl rfl k271 (by decide) (Nat.le_of_ble_eq_true rfl) (Nat.le_of_ble_eq_true rfl) (t_X12_isHearing c1) ?_
  rintro _ _ (⟨hv, rfl, rfl⟩ | ⟨hv, rfl, rfl⟩)
  ·
    refine T_if_eq (tgt := 15) dX12_told_5 (by decide) (fun c5 => ?_) (fun c5 => absurd rfl c5)
    refine T_bipush dX12_told_15 (by decide) ?_
    exact T_ireturn dX12_told_17 rfl ⟨by rw [if_neg hv], Ag.rf⟩
  · have hHV := hM.2.2.2.1 k.toNat (by omega)
    rw [if_pos hv]
    have q1 : up d 271 25 (840 + 14 * k) 271 25 = ((840 + 14 * k.toNat : Nat) : Int) := by rw [up_same]; omega
    have q3 : ∀ x, up d 271 25 (840 + 14 * k) 272 (840 + 14 * k.toNat + x) = hvD d k.toNat x := fun x => up_nea (by decide)
    have hAg : Ag [] [25] d (up d 271 25 (840 + 14 * k)) := Ag_upf Ag.rf (by decide)
    refine T_if_eq (tgt := 15) dX12_told_5 (by decide) (fun c5 => absurd c5 (by decide)) (fun c5 => ?_)
    refine T_iload_n dX12_told_8 rfl ?_
    refine T_callS dX12_told_9 lX12_218 (As := [_]) (rest := _) rfl rfl (by decide) (Nat.le_of_ble_eq_true rfl) (Nat.le_of_ble_eq_true rfl) t_X12_isArmy ?_
    rintro _ _ ⟨rfl, rfl⟩
    refine T_if_ne (tgt := 18) dX12_told_12 (by decide) (fun c12 => ?_) (fun c12 => ?_)
    · have h12 := bI_1 c12
      obtain ⟨a, rfl⟩ : ∃ a2 : Nat, a = (a2 : Int) := ⟨a.toNat, by omega⟩
      have hga := (hHV a (by omega)).1
      refine T_iload_n dX12_told_18 rfl ?_
      refine T_iconst dX12_told_19 (by decide) ?_
      refine T_icmp_ne (tgt := 35) dX12_told_20 (by decide) (fun c20 => ?_) (fun c20 => ?_)
      · refine T_iload_n dX12_told_35 rfl ?_
        refine T_iconst dX12_told_36 (by decide) ?_
        refine T_aload_n dX12_told_37 rfl ?_
        refine T_getR dX12_told_38 fX12_7 rfl k271 r271_0 ?_
        refine T_aload_n dX12_told_41 rfl ?_
        refine T_getIv dX12_told_42 fX12_308 rfl k271 (x := ((840 + 14 * k.toNat : Nat) : Int)) q1 ?_
        refine T_iload_n dX12_told_45 rfl ?_
        refine T_add dX12_told_46 (by omega) ?_
        refine T_ialdv dX12_told_47 k272 l272 (by omega) (j := 840 + 14 * k.toNat + a) (by omega) (x := hvD d k.toNat a) (q3 a) ?_
        refine T_iconst dX12_told_48 (by decide) ?_
        refine T_sub dX12_told_49 (by omega) ?_
        refine T_callS dX12_told_50 lX12_145 (As := [_, _, _]) (rest := _) rfl rfl (by decide) (Nat.le_of_ble_eq_true rfl) (Nat.le_of_ble_eq_true rfl) t_X12_isIn ?_
        rintro _ _ ⟨rfl, rfl⟩
        refine T_if_eq (tgt := 77) dX12_told_53 (by decide) (fun c53 => ?_) (fun c53 => ?_)
        · refine T_bipush dX12_told_77 (by decide) ?_
          exact T_ireturn dX12_told_79 rfl ⟨by unfold qTold; (try simp only [Int.toNat_natCast]); rw [if_neg (fun q => q h12), if_neg c20, if_neg (bI_0 c53)], hAg⟩
        · have h53 := bI_1 c53
          obtain ⟨i, rfl⟩ : ∃ i2 : Nat, i = (i2 : Int) := ⟨i.toNat, by omega⟩
          refine T_aload_n dX12_told_56 rfl ?_
          refine T_getR dX12_told_57 fX12_7 rfl k271 r271_0 ?_
          refine T_aload_n dX12_told_60 rfl ?_
          refine T_getIv dX12_told_61 fX12_308 rfl k271 (x := ((840 + 14 * k.toNat : Nat) : Int)) q1 ?_
          refine T_iconst dX12_told_64 (by decide) ?_
          refine T_add dX12_told_65 (by omega) ?_
          refine T_bipush dX12_told_66 (by decide) ?_
          refine T_iload_n dX12_told_68 rfl ?_
          refine T_mul dX12_told_69 (by omega) ?_
          refine T_add dX12_told_70 (by omega) ?_
          refine T_iload_n dX12_told_71 rfl ?_
          refine T_add dX12_told_72 (by omega) ?_
          refine T_ialdv dX12_told_73 k272 l272 (by omega) (j := 840 + 14 * k.toNat + (2 + 6 * a + i)) (by omega) (x := hvD d k.toNat (2 + 6 * a + i)) (q3 _) ?_
          refine T_goto (tgt := 79) dX12_told_74 (by decide) ?_
          exact T_ireturn dX12_told_79 rfl ⟨by unfold qTold; (try simp only [Int.toNat_natCast]); rw [if_neg (fun q => q h12), if_neg c20, if_pos h53], hAg⟩
      · refine T_aload_n dX12_told_23 rfl ?_
        refine T_getR dX12_told_24 fX12_7 rfl k271 r271_0 ?_
        refine T_aload_n dX12_told_27 rfl ?_
        refine T_getIv dX12_told_28 fX12_308 rfl k271 (x := ((840 + 14 * k.toNat : Nat) : Int)) q1 ?_
        refine T_iload_n dX12_told_31 rfl ?_
        refine T_add dX12_told_32 (by omega) ?_
        refine T_ialdv dX12_told_33 k272 l272 (by omega) (j := 840 + 14 * k.toNat + a) (by omega) (x := hvD d k.toNat a) (q3 a) ?_
        exact T_ireturn dX12_told_34 rfl ⟨by unfold qTold; (try simp only [Int.toNat_natCast]); rw [if_neg (fun q => q h12), if_pos c20], hAg⟩
    · refine T_bipush dX12_told_15 (by decide) ?_
      exact T_ireturn dX12_told_17 rfl ⟨by unfold qTold; (try simp only [Int.toNat_natCast]); rw [if_pos (bI_0 c12)], hAg⟩

theorem t_isOrder {a k : Int} (hW : Wd d w) (hV : WV w) : tB G mX12_isOrder 0 [vR 271, vI a, vI k] [] d (fun r d' => r = some (vI (bI ((0 ≤ a ∧ a ≤ 1) ∧ 0 ≤ k ∧ k ≤ w (15 + a.toNat) - 1))) ∧ d = d') := by
  refine T_iload_n dX12_isOrder_0 rfl ?_
  refine T_callS dX12_isOrder_1 lX12_218 (As := [_]) (rest := _) rfl rfl (by decide) (Nat.le_of_ble_eq_true rfl) (Nat.le_of_ble_eq_true rfl) t_X12_isArmy ?_
  rintro _ _ ⟨rfl, rfl⟩
  refine T_if_eq (tgt := 26) dX12_isOrder_4 (by decide) (fun c4 => ?_) (fun c4 => ?_)
  · refine T_iconst dX12_isOrder_26 (by decide) ?_
    exact T_zreturn dX12_isOrder_27 rfl (by omega) ⟨by rw [bI_f (fun q => bI_0 c4 q.1)], rfl⟩
  · have h1 := bI_1 c4
    obtain ⟨a, rfl⟩ : ∃ a2 : Nat, a = (a2 : Int) := ⟨a.toNat, by omega⟩
    have hva := (hV.a (a := a) (by omega)).2.2.2.2
    refine T_iload_n dX12_isOrder_7 rfl ?_
    refine T_iconst dX12_isOrder_8 (by decide) ?_
    refine T_aload_n dX12_isOrder_9 rfl ?_
    refine T_iload_n dX12_isOrder_10 rfl ?_
    refine T_callV dX12_isOrder_11 lX12_221 (As := [_]) (rest := _) rfl rfl k271 (by decide) (Nat.le_of_ble_eq_true rfl) (Nat.le_of_ble_eq_true rfl) (t_orders hW (by omega)) ?_
    rintro _ _ ⟨rfl, rfl⟩
    refine T_iconst dX12_isOrder_14 (by decide) ?_
    refine T_sub dX12_isOrder_15 (by omega) ?_
    refine T_callS dX12_isOrder_16 lX12_145 (As := [_, _, _]) (rest := _) rfl rfl (by decide) (Nat.le_of_ble_eq_true rfl) (Nat.le_of_ble_eq_true rfl) t_X12_isIn ?_
    rintro _ _ ⟨rfl, rfl⟩
    refine T_if_eq (tgt := 26) dX12_isOrder_19 (by decide) (fun c19 => ?_) (fun c19 => ?_)
    · refine T_iconst dX12_isOrder_26 (by decide) ?_
      exact T_zreturn dX12_isOrder_27 rfl (by omega) ⟨by rw [bI_f (fun q => bI_0 c19 q.2)], rfl⟩
    · refine T_iconst dX12_isOrder_22 (by decide) ?_
      refine T_goto (tgt := 27) dX12_isOrder_23 (by decide) ?_
      exact T_zreturn dX12_isOrder_27 rfl (by omega) ⟨by rw [bI_t ⟨h1, bI_1 c19⟩], rfl⟩

def qOrder (w : Nat → Int) (a k x : Int) : Int := if ¬ ((0 ≤ a ∧ a ≤ 1) ∧ 0 ≤ k ∧ k ≤ w (15 + a.toNat) - 1) then -1 else if 0 ≤ x ∧ x ≤ 1 then w (17 + 36 * a.toNat + 6 * k.toNat + x.toNat) else if 10 ≤ x ∧ x ≤ 9 + w (18 + 36 * a.toNat + 6 * k.toNat) then w (19 + 36 * a.toNat + 6 * k.toNat + (x - 10).toNat) else -1
theorem t_X12_order {k a i x : Int} (hM : MS d) : tB G mX12_order 0 [vR 271, vI k, vI a, vI i, vI x] [] d (qQ d (if Vd d 0 k then qOrder (wvD d k.toNat) a i x else -1) [] [10]) := by
  have c1 := hM.1 0 (by decide)
  refine T_aload_n dX12_order_0 rfl ?_
  refine T_iload_n dX12_order_1 rfl ?_
  refine T_callV dX12_order_2 lX12_224 (As := [_]) (rest := _) rfl rfl k271 (by decide) (Nat.le_of_ble_eq_true rfl) (Nat.le_of_ble_eq_true rfl) (t_X12_isWar c1) ?_
  rintro _ _ (⟨hv, rfl, rfl⟩ | ⟨hv, rfl, rfl⟩)
  ·
    refine T_if_eq (tgt := 17) dX12_order_5 (by decide) (fun c5 => ?_) (fun c5 => absurd rfl c5)
    refine T_iconst dX12_order_17 (by decide) ?_
    exact T_ireturn dX12_order_18 rfl ⟨by rw [if_neg hv], Ag.rf⟩
  · have hWd := isWd (d := d) (k := k.toNat) (by omega)
    rw [show (k.toNat : Int) = k by omega] at hWd
    have hV := hM.2.1 k.toNat (by omega)
    rw [if_pos hv]
    have hAg : Ag [] [10] d (up d 271 10 (610 + 89 * k)) := Ag_upf Ag.rf (by decide)
    have hWd2 := hWd
    obtain ⟨p, q1, q2, q3⟩ := hWd2
    refine T_if_eq (tgt := 17) dX12_order_5 (by decide) (fun c5 => absurd c5 (by decide)) (fun c5 => ?_)
    refine T_aload_n dX12_order_8 rfl ?_
    refine T_iload_n dX12_order_9 rfl ?_
    refine T_iload_n dX12_order_10 rfl ?_
    refine T_callV dX12_order_11 lX12_227 (As := [_, _]) (rest := _) rfl rfl k271 (by decide) (Nat.le_of_ble_eq_true rfl) (Nat.le_of_ble_eq_true rfl) (t_isOrder hWd hV) ?_
    rintro _ _ ⟨rfl, rfl⟩
    refine T_if_ne (tgt := 19) dX12_order_14 (by decide) (fun c14 => ?_) (fun c14 => ?_)
    · have h14 := bI_1 c14
      obtain ⟨a, rfl⟩ : ∃ a2 : Nat, a = (a2 : Int) := ⟨a.toNat, by omega⟩
      obtain ⟨i, rfl⟩ : ∃ i2 : Nat, i = (i2 : Int) := ⟨i.toNat, by omega⟩
      rw [Int.toNat_natCast] at h14
      have hva := (hV.a (a := a) (by omega)).2.2.2.2
      have hL := (hV.2.2.2.2.2 a i (by omega) (by omega)).2.1
      refine T_iload dX12_order_19 rfl ?_
      refine T_iconst dX12_order_21 (by decide) ?_
      refine T_iconst dX12_order_22 (by decide) ?_
      refine T_callS dX12_order_23 lX12_145 (As := [_, _, _]) (rest := _) rfl rfl (by decide) (Nat.le_of_ble_eq_true rfl) (Nat.le_of_ble_eq_true rfl) t_X12_isIn ?_
      rintro _ _ ⟨rfl, rfl⟩
      refine T_if_eq (tgt := 44) dX12_order_26 (by decide) (fun c26 => ?_) (fun c26 => ?_)
      · refine T_iload dX12_order_44 rfl ?_
        refine T_bipush dX12_order_46 (by decide) ?_
        refine T_bipush dX12_order_48 (by decide) ?_
        refine T_aload_n dX12_order_50 rfl ?_
        refine T_iload_n dX12_order_51 rfl ?_
        refine T_iload_n dX12_order_52 rfl ?_
        refine T_callV dX12_order_53 lX12_230 (As := [_, _]) (rest := _) rfl rfl k271 (by decide) (Nat.le_of_ble_eq_true rfl) (Nat.le_of_ble_eq_true rfl) (t_lengthOf hWd (by omega) (by omega)) ?_
        rintro _ _ ⟨rfl, rfl⟩
        refine T_add dX12_order_56 (by omega) ?_
        refine T_callS dX12_order_57 lX12_145 (As := [_, _, _]) (rest := _) rfl rfl (by decide) (Nat.le_of_ble_eq_true rfl) (Nat.le_of_ble_eq_true rfl) t_X12_isIn ?_
        rintro _ _ ⟨rfl, rfl⟩
        refine T_if_eq (tgt := 77) dX12_order_60 (by decide) (fun c60 => ?_) (fun c60 => ?_)
        · refine T_iconst dX12_order_77 (by decide) ?_
          exact T_ireturn dX12_order_78 rfl ⟨by unfold qOrder; (try simp only [Int.toNat_natCast]); rw [if_neg (fun q => q h14), if_neg (bI_0 c26), if_neg (bI_0 c60)], hAg⟩
        · have h60 := bI_1 c60
          refine T_aload_n dX12_order_63 rfl ?_
          refine T_iload_n dX12_order_64 rfl ?_
          refine T_iload_n dX12_order_65 rfl ?_
          refine T_iload dX12_order_66 rfl ?_
          refine T_bipush dX12_order_68 (by decide) ?_
          refine T_sub dX12_order_70 (by omega) ?_
          refine T_callV dX12_order_71 lX12_233 (As := [_, _, _]) (rest := _) rfl rfl k271 (by decide) (Nat.le_of_ble_eq_true rfl) (Nat.le_of_ble_eq_true rfl) (T_args3 (y := (x - 10).toNat) (by omega) (t_beatOf hWd (by omega) (by omega) (by omega))) ?_
          rintro _ _ ⟨rfl, rfl⟩
          refine T_goto (tgt := 78) dX12_order_74 (by decide) ?_
          exact T_ireturn dX12_order_78 rfl ⟨by unfold qOrder; (try simp only [Int.toNat_natCast]); rw [if_neg (fun q => q h14), if_neg (bI_0 c26), if_pos h60], hAg⟩
      · have h26 := bI_1 c26
        refine T_aload_n dX12_order_29 rfl ?_
        refine T_getR dX12_order_30 fX12_7 rfl k271 r271_0 ?_
        refine T_aload_n dX12_order_33 rfl ?_
        refine T_iload_n dX12_order_34 rfl ?_
        refine T_iload_n dX12_order_35 rfl ?_
        refine T_callV dX12_order_36 lX12_215 (As := [_, _]) (rest := _) rfl rfl k271 (by decide) (Nat.le_of_ble_eq_true rfl) (Nat.le_of_ble_eq_true rfl) (t_orderAt q1 (by omega) (by omega) (by omega)) ?_
        rintro _ _ ⟨rfl, rfl⟩
        refine T_iload dX12_order_39 rfl ?_
        refine T_add dX12_order_41 (by omega) ?_
        refine T_ialdv dX12_order_42 k272 l272 (by omega) (j := p + (17 + 36 * a + 6 * i + x.toNat)) (by omega) (x := wvD d k.toNat (17 + 36 * a + 6 * i + x.toNat)) (q3 _ (by omega)) ?_
        exact T_ireturn dX12_order_43 rfl ⟨by unfold qOrder; (try simp only [Int.toNat_natCast]); rw [if_neg (fun q => q h14), if_pos h26], hAg⟩
    · refine T_iconst dX12_order_17 (by decide) ?_
      exact T_ireturn dX12_order_18 rfl ⟨by unfold qOrder; (try simp only [Int.toNat_natCast]); rw [if_pos (bI_0 c14)], hAg⟩

end M12
