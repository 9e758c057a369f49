/-! the class: what is asked of wars, scores, hearings, rows; what is heard and made, marches -/
section C9
variable {G : sG} {d d' : sD} {w g s t h : Nat → Int} {wo ho e n a : Nat}
abbrev cQ (d : sD) (v : Int) : Option sV → sD → Prop := fun r d' => r = some (vI v) ∧ Cf d d'
def ofS (w : Nat → Int) (y : Int) (a : Nat) : Int := if y = 2 then w (7 + a) else if y = 3 then w (9 + a) else if y = 4 then w (11 + a) else if y = 5 then w (13 + a) else if y = 6 then w (15 + a) else -1
theorem qWar_hi {x : Int} (h : 20 ≤ x) (ha : x % 10 = (a : Int)) (ha2 : a < 2) : qWar w x = ofS w (x / 10) a := by
  unfold qWar ofS
  rw [if_neg (by omega), if_neg (by omega)]
  by_cases h2 : x / 10 = 2
  · rw [if_pos h2, if_pos (by omega)]; congr 1; omega
  rw [if_neg h2]
  by_cases h3 : x / 10 = 3
  · rw [if_pos h3, if_pos (by omega)]; congr 1; omega
  rw [if_neg h3]
  by_cases h4 : x / 10 = 4
  · rw [if_pos h4, if_pos (by omega)]; congr 1; omega
  rw [if_neg h4]
  by_cases h5 : x / 10 = 5
  · rw [if_pos h5, if_pos (by omega)]; congr 1; omega
  rw [if_neg h5]
  by_cases h6 : x / 10 = 6
  · rw [if_pos h6, if_pos (by omega)]; congr 1; omega
  rw [if_neg h6, if_neg (by omega)]
theorem t_ofArmy {y : Int} (hw : kn S0 wo = 10) (hO : Wo d wo w) (ha : a < 2) : tB G mX11_ofArmy 0 [vR wo, vI y, vI a] [] d (fun r d' => r = some (vI (ofS w y a)) ∧ d = d') := by
  obtain ⟨o1, o2, o3, o4, o5⟩ := hO.2.2.1 a ha
  refine T_iload_n dX11_ofArmy_0 rfl ?_
  by_cases hs2 : y = 2
  · subst hs2
    refine T_tabIn (tgt := 36) (off := 35) dX11_ofArmy_1 (by decide) (by decide) (by decide) (by decide) ?_
    refine T_aload_n dX11_ofArmy_36 rfl ?_
    refine T_getR dX11_ofArmy_37 fX11_188 rfl hw (rW4 hw) ?_
    refine T_iload_n dX11_ofArmy_40 rfl ?_
    refine T_ialdv dX11_ofArmy_41 (kW4 hw) (lW4 hw) (by omega) (j := a) (by omega) (x := w (7 + a)) o1 ?_
    exact T_ireturn dX11_ofArmy_42 rfl ⟨rfl, rfl⟩
  by_cases hs3 : y = 3
  · subst hs3
    refine T_tabIn (tgt := 43) (off := 42) dX11_ofArmy_1 (by decide) (by decide) (by decide) (by decide) ?_
    refine T_aload_n dX11_ofArmy_43 rfl ?_
    refine T_getR dX11_ofArmy_44 fX11_191 rfl hw (rW5 hw) ?_
    refine T_iload_n dX11_ofArmy_47 rfl ?_
    refine T_ialdv dX11_ofArmy_48 (kW5 hw) (lW5 hw) (by omega) (j := a) (by omega) (x := w (9 + a)) o2 ?_
    exact T_ireturn dX11_ofArmy_49 rfl ⟨rfl, rfl⟩
  by_cases hs4 : y = 4
  · subst hs4
    refine T_tabIn (tgt := 50) (off := 49) dX11_ofArmy_1 (by decide) (by decide) (by decide) (by decide) ?_
    refine T_aload_n dX11_ofArmy_50 rfl ?_
    refine T_getR dX11_ofArmy_51 fX11_194 rfl hw (rW6 hw) ?_
    refine T_iload_n dX11_ofArmy_54 rfl ?_
    refine T_ialdv dX11_ofArmy_55 (kW6 hw) (lW6 hw) (by omega) (j := a) (by omega) (x := w (11 + a)) o3 ?_
    exact T_ireturn dX11_ofArmy_56 rfl ⟨rfl, rfl⟩
  by_cases hs5 : y = 5
  · subst hs5
    refine T_tabIn (tgt := 57) (off := 56) dX11_ofArmy_1 (by decide) (by decide) (by decide) (by decide) ?_
    refine T_aload_n dX11_ofArmy_57 rfl ?_
    refine T_getR dX11_ofArmy_58 fX11_197 rfl hw (rW7 hw) ?_
    refine T_iload_n dX11_ofArmy_61 rfl ?_
    refine T_ialdv dX11_ofArmy_62 (kW7 hw) (lW7 hw) (by omega) (j := a) (by omega) (x := w (13 + a)) o4 ?_
    exact T_ireturn dX11_ofArmy_63 rfl ⟨rfl, rfl⟩
  by_cases hs6 : y = 6
  · subst hs6
    refine T_tabIn (tgt := 64) (off := 63) dX11_ofArmy_1 (by decide) (by decide) (by decide) (by decide) ?_
    refine T_aload_n dX11_ofArmy_64 rfl ?_
    refine T_getR dX11_ofArmy_65 fX11_200 rfl hw (rW8 hw) ?_
    refine T_iload_n dX11_ofArmy_68 rfl ?_
    refine T_ialdv dX11_ofArmy_69 (kW8 hw) (lW8 hw) (by omega) (j := a) (by omega) (x := w (15 + a)) o5 ?_
    exact T_ireturn dX11_ofArmy_70 rfl ⟨rfl, rfl⟩
  refine T_tabOut (tgt := 71) dX11_ofArmy_1 (by omega) (by decide) ?_
  refine T_iconst dX11_ofArmy_71 (by decide) ?_
  exact T_ireturn dX11_ofArmy_72 rfl ⟨by unfold ofS; rw [if_neg hs2, if_neg hs3, if_neg hs4, if_neg hs5, if_neg hs6], rfl⟩

theorem t_C_war {k x : Int} (hM : MS d) (hC : CS d) : tB G mX11_war 0 [vR 1, vI k, vI x, vU 0] [] d (cQ d (if Vd d 0 k then qWar (wvD d k.toNat) x else -1)) := by
  have hc0 := hM.1 0 (by decide)
  refine T_aload_n dX11_war_0 rfl ?_
  refine T_iload_n dX11_war_1 rfl ?_
  refine T_callV dX11_war_2 lX11_165 (As := [_]) (rest := _) rfl rfl k1 (by decide) (Nat.le_of_ble_eq_true rfl) (Nat.le_of_ble_eq_true rfl) (t_warAt hM hC) ?_
  rintro _ _ (⟨hv, rfl, rfl⟩ | ⟨hv, rfl, rfl⟩)
  ·
    refine T_ast_n dX11_war_5 (by decide) rfl ?_
    refine T_aload_n dX11_war_6 rfl ?_
    refine T_ifnonnull (tgt := 12) dX11_war_7 (by decide) (fun c7 => absurd rfl c7) (fun c7 => ?_)
    refine T_iconst dX11_war_10 (by decide) ?_
    exact T_ireturn dX11_war_11 rfl ⟨by rw [if_neg hv], Cf.rf⟩
  · have hw := (kn_w k.toNat (by omega)).1
    have hO := hC.2.1 k.toNat (by omega)
    have hV := hM.2.1 k.toNat (by omega)
    rw [if_pos hv]
    generalize wvD d k.toNat = w at *
    have h63 : ¬ (0 ≤ x ∧ x ≤ 2) → ¬ (10 ≤ x ∧ x ≤ 13) → tB G mX11_war 63 [vR 1, vI k, vI x, vR (9 + 21 * k.toNat)] [] d (cQ d (qWar w x)) := by
      intro n1 n2
      refine T_iload_n dX11_war_63 rfl ?_
      refine T_bipush dX11_war_64 (by decide) ?_
      refine T_icmp_lt (tgt := 94) dX11_war_66 (by decide) (fun c66 => ?_) (fun c66 => ?_)
      · refine T_iconst dX11_war_94 (by decide) ?_
        exact T_ireturn dX11_war_95 rfl ⟨by unfold qWar; (repeat' split) <;> first | rfl | (exfalso; omega), Cf.rf⟩
      · refine T_iload_n dX11_war_69 rfl ?_
        refine T_bipush dX11_war_70 (by decide) ?_
        refine T_rem dX11_war_72 (by omega) (by omega) ?_
        refine T_callS dX11_war_73 lX11_181 (As := [_]) (rest := _) rfl rfl (by decide) (Nat.le_of_ble_eq_true rfl) (Nat.le_of_ble_eq_true rfl) t_isArmy ?_
        rintro _ _ ⟨rfl, rfl⟩
        refine T_if_eq (tgt := 94) dX11_war_76 (by decide) (fun c76 => ?_) (fun c76 => ?_)
        · have h76 := bI_0 c76
          refine T_iconst dX11_war_94 (by decide) ?_
          exact T_ireturn dX11_war_95 rfl ⟨by unfold qWar; (repeat' split) <;> first | rfl | (exfalso; omega), Cf.rf⟩
        · have h76 := bI_1 c76
          refine T_aload_n dX11_war_79 rfl ?_
          refine T_iload_n dX11_war_80 rfl ?_
          refine T_bipush dX11_war_81 (by decide) ?_
          refine T_div dX11_war_83 (by omega) (by omega) ?_
          refine T_iload_n dX11_war_84 rfl ?_
          refine T_bipush dX11_war_85 (by decide) ?_
          refine T_rem dX11_war_87 (by omega) (by omega) ?_
          refine T_callS dX11_war_88 lX11_184 (As := [_, _, _]) (rest := _) rfl rfl (by decide) (Nat.le_of_ble_eq_true rfl) (Nat.le_of_ble_eq_true rfl) (T_args2 (y := (x % 10).toNat) (by omega) (t_ofArmy (y := x / 10) (a := (x % 10).toNat) hw hO (by omega))) ?_
          rintro _ _ ⟨rfl, rfl⟩
          refine T_goto (tgt := 95) dX11_war_91 (by decide) ?_
          exact T_ireturn dX11_war_95 rfl ⟨by rw [qWar_hi (a := (x % 10).toNat) (by omega) (by omega) (by omega)], Cf.rf⟩
    refine T_ast_n dX11_war_5 (by decide) rfl ?_
    refine T_aload_n dX11_war_6 rfl ?_
    refine T_ifnonnull (tgt := 12) dX11_war_7 (by decide) (fun c7 => ?_) (fun c7 => absurd c7 (by omega))
    refine T_iload_n dX11_war_12 rfl ?_
    refine T_if_ne (tgt := 21) dX11_war_13 (by decide) (fun c13 => ?_) (fun c13 => ?_)
    · refine T_iload_n dX11_war_21 rfl ?_
      refine T_iconst dX11_war_22 (by decide) ?_
      refine T_icmp_ne (tgt := 31) dX11_war_23 (by decide) (fun c23 => ?_) (fun c23 => ?_)
      · refine T_iload_n dX11_war_31 rfl ?_
        refine T_iconst dX11_war_32 (by decide) ?_
        refine T_icmp_ne (tgt := 41) dX11_war_33 (by decide) (fun c33 => ?_) (fun c33 => ?_)
        · refine T_iload_n dX11_war_41 rfl ?_
          refine T_bipush dX11_war_42 (by decide) ?_
          refine T_icmp_lt (tgt := 63) dX11_war_44 (by decide) (fun c44 => ?_) (fun c44 => ?_)
          · exact h63 (by omega) (by omega)
          · refine T_iload_n dX11_war_47 rfl ?_
            refine T_bipush dX11_war_48 (by decide) ?_
            refine T_icmp_ge (tgt := 63) dX11_war_50 (by decide) (fun c50 => ?_) (fun c50 => ?_)
            · exact h63 (by omega) (by omega)
            · refine T_aload_n dX11_war_53 rfl ?_
              refine T_getR dX11_war_54 fX11_178 rfl hw (rW3 hw) ?_
              refine T_iload_n dX11_war_57 rfl ?_
              refine T_bipush dX11_war_58 (by decide) ?_
              refine T_sub dX11_war_60 (by omega) ?_
              refine T_ialdv dX11_war_61 (kW3 hw) (lW3 hw) (by omega) rfl (x := w (3 + x - 10).toNat) (by rw [hO.2.1 (x - 10).toNat (by omega)]; congr 1; omega) ?_
              exact T_ireturn dX11_war_62 rfl ⟨by unfold qWar; rw [if_neg (by omega), if_pos (by omega)], Cf.rf⟩
        · refine T_aload_n dX11_war_36 rfl ?_
          refine T_getIv dX11_war_37 fX11_175 rfl hw (x := w 2) hO.1.2.2 ?_
          exact T_ireturn dX11_war_40 rfl ⟨by unfold qWar; rw [c33]; rfl, Cf.rf⟩
      · refine T_aload_n dX11_war_26 rfl ?_
        refine T_getIv dX11_war_27 fX11_172 rfl hw (x := w 1) hO.1.2.1 ?_
        exact T_ireturn dX11_war_30 rfl ⟨by unfold qWar; rw [c23]; rfl, Cf.rf⟩
    · refine T_aload_n dX11_war_16 rfl ?_
      refine T_getIv dX11_war_17 fX11_169 rfl hw (x := w 0) hO.1.1 ?_
      exact T_ireturn dX11_war_20 rfl ⟨by unfold qWar; rw [c13]; rfl, Cf.rf⟩

theorem qOrder_n {a i : Nat} {x : Int} (ha : a < 2) (hi : (i : Int) < w (15 + a)) : qOrder w a i x = if 0 ≤ x ∧ x ≤ 1 then w (17 + 36 * a + 6 * i + x.toNat) else if 10 ≤ x ∧ x ≤ 9 + w (18 + 36 * a + 6 * i) then w (19 + 36 * a + 6 * i + (x - 10).toNat) else -1 := by
  unfold qOrder
  rw [Int.toNat_natCast, Int.toNat_natCast, if_neg (by omega)]
theorem t_C_order {k a i x : Int} (hM : MS d) (hC : CS d) : tB G mX11_order 0 [vR 1, vI k, vI a, vI i, vI x, vU 0, vU 0, vU 0] [] d (cQ d (if Vd d 0 k then qOrder (wvD d k.toNat) a i x else -1)) := by
  have hc0 := hM.1 0 (by decide)
  refine tB.rgl (fun hr => ?_)
  have hxr := okV_i (hr (vI x) (by simp only [List.mem_cons, true_or, or_true]))
  clear hr
  refine T_aload_n dX11_order_0 rfl ?_
  refine T_iload_n dX11_order_1 rfl ?_
  refine T_callV dX11_order_2 lX11_165 (As := [_]) (rest := _) rfl rfl k1 (by decide) (Nat.le_of_ble_eq_true rfl) (Nat.le_of_ble_eq_true rfl) (t_warAt hM hC) ?_
  rintro _ _ (⟨hv, rfl, rfl⟩ | ⟨hv, rfl, rfl⟩)
  ·
    refine T_ast dX11_order_5 (by decide) rfl ?_
    refine T_aload dX11_order_7 rfl ?_
    refine T_ifnull (tgt := 22) dX11_order_9 (by decide) (fun c9 => ?_) (fun c9 => absurd rfl c9)
    refine T_iconst dX11_order_22 (by decide) ?_
    exact T_ireturn dX11_order_23 rfl ⟨by rw [if_neg hv], Cf.rf⟩
  · have hw := (kn_w k.toNat (by omega)).1
    have hO := hC.2.1 k.toNat (by omega)
    have hV := hM.2.1 k.toNat (by omega)
    rw [if_pos hv]
    generalize wvD d k.toNat = w at *
    have h88 : ∀ (a i : Nat) (y : Int), a < 2 → (i : Int) < w (15 + a) → ¬ (0 ≤ x ∧ x ≤ 1) → y = bI (10 ≤ x ∧ x ≤ 9 + w (18 + 36 * a + 6 * i)) → tB G mX11_order 88 [vR 1, vI k, vI a, vI i, vI x, vR (9 + 21 * k.toNat), vI ((6 * a + i : Nat) : Int), vU 0] [vI y] d (cQ d (qOrder w a i x)) := by
      intro a i y ha hi hx hy
      obtain ⟨l1, l2, l3, l4⟩ := hV.ln ha hi
      refine T_ist dX11_order_88 (by decide) rfl ?_
      refine T_iload dX11_order_90 rfl ?_
      refine T_if_eq (tgt := 114) dX11_order_92 (by decide) (fun c92 => ?_) (fun c92 => ?_)
      · have h92 := bI_0 (hy ▸ c92)
        refine T_iconst dX11_order_114 (by decide) ?_
        exact T_ireturn dX11_order_115 rfl ⟨by rw [qOrder_n ha hi, if_neg hx, if_neg h92], Cf.rf⟩
      · have h92 := bI_1 (hy ▸ c92)
        refine T_aload dX11_order_95 rfl ?_
        refine T_getR dX11_order_97 fX11_216 rfl hw (rW11 hw) ?_
        refine T_iload dX11_order_100 rfl ?_
        refine T_iconst dX11_order_102 (by decide) ?_
        refine T_mul dX11_order_103 (by omega) ?_
        refine T_iload dX11_order_104 rfl ?_
        refine T_add dX11_order_106 (by omega) ?_
        refine T_bipush dX11_order_107 (by decide) ?_
        refine T_sub dX11_order_109 (by omega) ?_
        refine T_ialdv dX11_order_110 (kW11 hw) (lW11 hw) (by omega) (j := 24 * a + 4 * i + (x - 10).toNat) (by omega) (x := w (19 + 36 * a + 6 * i + (x - 10).toNat)) (hO.bt hV ha hi (by omega)) ?_
        refine T_goto (tgt := 115) dX11_order_111 (by decide) ?_
        exact T_ireturn dX11_order_115 rfl ⟨by rw [qOrder_n ha hi, if_neg hx, if_pos h92], Cf.rf⟩
    refine T_ast dX11_order_5 (by decide) rfl ?_
    refine T_aload dX11_order_7 rfl ?_
    refine T_ifnull (tgt := 22) dX11_order_9 (by decide) (fun c9 => absurd c9 (by omega)) (fun c9 => ?_)
    refine T_aload dX11_order_12 rfl ?_
    refine T_iload_n dX11_order_14 rfl ?_
    refine T_iload_n dX11_order_15 rfl ?_
    refine T_callS dX11_order_16 lX11_203 (As := [_, _, _]) (rest := _) rfl rfl (by decide) (Nat.le_of_ble_eq_true rfl) (Nat.le_of_ble_eq_true rfl) (t_cisOrder hw hO hV) ?_
    rintro _ _ ⟨rfl, rfl⟩
    refine T_if_ne (tgt := 24) dX11_order_19 (by decide) (fun c19 => ?_) (fun c19 => ?_)
    · have h19 := bI_1 c19
      obtain ⟨a, rfl⟩ : ∃ q : Nat, a = (q : Int) := ⟨a.toNat, by omega⟩
      obtain ⟨i, rfl⟩ : ∃ q : Nat, i = (q : Int) := ⟨i.toNat, by omega⟩
      rw [Int.toNat_natCast] at h19
      have hac := (hV.a (a := a) (by omega)).2.2.2.2
      obtain ⟨l1, l2, l3, l4⟩ := hV.ln (a := a) (o := i) (by omega) (by omega)
      refine T_iload_n dX11_order_24 rfl ?_
      refine T_iload_n dX11_order_25 rfl ?_
      refine T_callS dX11_order_26 lX11_207 (As := [_, _]) (rest := _) rfl rfl (by decide) (Nat.le_of_ble_eq_true rfl) (Nat.le_of_ble_eq_true rfl) (t_slot (a := a) (k := i) (by omega) (by omega)) ?_
      rintro _ _ ⟨rfl, rfl⟩
      refine T_ist dX11_order_29 (by decide) rfl ?_
      refine T_iload dX11_order_31 rfl ?_
      refine T_if_ne (tgt := 45) dX11_order_33 (by decide) (fun c33 => ?_) (fun c33 => ?_)
      · refine T_iload dX11_order_45 rfl ?_
        refine T_iconst dX11_order_47 (by decide) ?_
        refine T_icmp_ne (tgt := 60) dX11_order_48 (by decide) (fun c48 => ?_) (fun c48 => ?_)
        · refine T_iload dX11_order_60 rfl ?_
          refine T_bipush dX11_order_62 (by decide) ?_
          refine T_icmp_lt (tgt := 87) dX11_order_64 (by decide) (fun c64 => ?_) (fun c64 => ?_)
          · refine T_iconst dX11_order_87 (by decide) ?_
            exact h88 a i _ (by omega) (by omega) (by omega) (by first | rw [bI_f (by omega)] | rw [bI_t (by omega)])
          · refine T_iload dX11_order_67 rfl ?_
            refine T_bipush dX11_order_69 (by decide) ?_
            refine T_sub dX11_order_71 (by omega) ?_
            refine T_aload dX11_order_72 rfl ?_
            refine T_getR dX11_order_74 fX11_213 rfl hw (rW10 hw) ?_
            refine T_iload dX11_order_77 rfl ?_
            refine T_ialdv dX11_order_79 (kW10 hw) (lW10 hw) (by omega) (j := 6 * a + i) (by omega) (x := w (18 + 36 * a + 6 * i)) (by rw [hO.ln hV (by omega) (by omega)]; exact l3.symm) ?_
            refine T_icmp_ge (tgt := 87) dX11_order_80 (by decide) (fun c80 => ?_) (fun c80 => ?_)
            · refine T_iconst dX11_order_87 (by decide) ?_
              exact h88 a i _ (by omega) (by omega) (by omega) (by first | rw [bI_f (by omega)] | rw [bI_t (by omega)])
            · refine T_iconst dX11_order_83 (by decide) ?_
              refine T_goto (tgt := 88) dX11_order_84 (by decide) ?_
              exact h88 a i _ (by omega) (by omega) (by omega) (by first | rw [bI_f (by omega)] | rw [bI_t (by omega)])
        · refine T_aload dX11_order_51 rfl ?_
          refine T_getR dX11_order_53 fX11_213 rfl hw (rW10 hw) ?_
          refine T_iload dX11_order_56 rfl ?_
          refine T_ialdv dX11_order_58 (kW10 hw) (lW10 hw) (by omega) (j := 6 * a + i) (by omega) (x := w (18 + 36 * a + 6 * i)) (by rw [hO.ln hV (by omega) (by omega)]; exact l3.symm) ?_
          exact T_ireturn dX11_order_59 rfl ⟨by rw [qOrder_n (by omega) (by omega), if_pos (by omega), c48, show 17 + 36 * a + 6 * i + Int.toNat 1 = 18 + 36 * a + 6 * i by omega], Cf.rf⟩
      · refine T_aload dX11_order_36 rfl ?_
        refine T_getR dX11_order_38 fX11_210 rfl hw (rW9 hw) ?_
        refine T_iload dX11_order_41 rfl ?_
        refine T_ialdv dX11_order_43 (kW9 hw) (lW9 hw) (by omega) (j := 6 * a + i) (by omega) (x := w (17 + 36 * a + 6 * i)) (hO.mv (by omega) (by omega)) ?_
        exact T_ireturn dX11_order_44 rfl ⟨by rw [qOrder_n (by omega) (by omega), if_pos (by omega), c33, show 17 + 36 * a + 6 * i + Int.toNat 0 = 17 + 36 * a + 6 * i by omega], Cf.rf⟩
    · have h19 := bI_0 c19
      refine T_iconst dX11_order_22 (by decide) ?_
      exact T_ireturn dX11_order_23 rfl ⟨by unfold qOrder; rw [if_pos h19], Cf.rf⟩

theorem t_C_given {k a i : Int} (hM : MS d) (hC : CS d) : tB G mX11_given 0 [vR 1, vI k, vI a, vI i, vU 0] [] d (cQ d (if Vd d 1 k then qGiven (gvD d k.toNat) a i else -1)) := by
  have hc0 := hM.1 1 (by decide)
  refine T_aload_n dX11_given_0 rfl ?_
  refine T_iload_n dX11_given_1 rfl ?_
  refine T_callV dX11_given_2 lX11_219 (As := [_]) (rest := _) rfl rfl k1 (by decide) (Nat.le_of_ble_eq_true rfl) (Nat.le_of_ble_eq_true rfl) (t_scoreAt hM hC) ?_
  rintro _ _ (⟨hv, rfl, rfl⟩ | ⟨hv, rfl, rfl⟩)
  ·
    refine T_ast dX11_given_5 (by decide) rfl ?_
    refine T_aload dX11_given_7 rfl ?_
    refine T_ifnull (tgt := 19) dX11_given_9 (by decide) (fun c9 => ?_) (fun c9 => absurd rfl c9)
    refine T_iconst dX11_given_19 (by decide) ?_
    exact T_ireturn dX11_given_20 rfl ⟨by rw [if_neg hv], Cf.rf⟩
  · have hs := (kn_s k.toNat (by omega)).1
    have hO := hC.2.2.1 k.toNat (by omega)
    have hV := hM.2.2.1 k.toNat (by omega)
    rw [if_pos hv]
    generalize gvD d k.toNat = g at *
    refine T_ast dX11_given_5 (by decide) rfl ?_
    refine T_aload dX11_given_7 rfl ?_
    refine T_ifnull (tgt := 19) dX11_given_9 (by decide) (fun c9 => absurd c9 (by omega)) (fun c9 => ?_)
    refine T_iload_n dX11_given_12 rfl ?_
    refine T_callS dX11_given_13 lX11_181 (As := [_]) (rest := _) rfl rfl (by decide) (Nat.le_of_ble_eq_true rfl) (Nat.le_of_ble_eq_true rfl) t_isArmy ?_
    rintro _ _ ⟨rfl, rfl⟩
    refine T_if_ne (tgt := 21) dX11_given_16 (by decide) (fun c16 => ?_) (fun c16 => ?_)
    · have h16 := bI_1 c16
      obtain ⟨a, rfl⟩ : ∃ q : Nat, a = (q : Int) := ⟨a.toNat, by omega⟩
      have hv1 := (hV a (by omega)).1
      refine T_iload_n dX11_given_21 rfl ?_
      refine T_iconst dX11_given_22 (by decide) ?_
      refine T_icmp_ne (tgt := 34) dX11_given_23 (by decide) (fun c23 => ?_) (fun c23 => ?_)
      · refine T_iload_n dX11_given_34 rfl ?_
        refine T_if_lt (tgt := 64) dX11_given_35 (by decide) (fun c35 => ?_) (fun c35 => ?_)
        · refine T_iconst dX11_given_64 (by decide) ?_
          exact T_ireturn dX11_given_65 rfl ⟨by unfold qGiven; rw [if_neg (by omega), if_neg (by omega), Int.toNat_natCast, if_neg (by omega)], Cf.rf⟩
        · refine T_iload_n dX11_given_38 rfl ?_
          refine T_aload dX11_given_39 rfl ?_
          refine T_getR dX11_given_41 fX11_223 rfl hs (rS0 hs) ?_
          refine T_iload_n dX11_given_44 rfl ?_
          refine T_ialdv dX11_given_45 (kS0 hs) (lS0 hs) (by omega) (j := a) (by omega) (x := g a) (hO a (by omega)).1 ?_
          refine T_icmp_ge (tgt := 64) dX11_given_46 (by decide) (fun c46 => ?_) (fun c46 => ?_)
          · refine T_iconst dX11_given_64 (by decide) ?_
            exact T_ireturn dX11_given_65 rfl ⟨by unfold qGiven; rw [if_neg (by omega), if_neg (by omega), Int.toNat_natCast, if_neg (by omega)], Cf.rf⟩
          · refine T_aload dX11_given_49 rfl ?_
            refine T_getR dX11_given_51 fX11_224 rfl hs (rS1 hs) ?_
            refine T_iload_n dX11_given_54 rfl ?_
            refine T_bipush dX11_given_55 (by decide) ?_
            refine T_mul dX11_given_57 (by omega) ?_
            refine T_iload_n dX11_given_58 rfl ?_
            refine T_add dX11_given_59 (by omega) ?_
            refine T_ialdv dX11_given_60 (kS1 hs) (lS1 hs) (by omega) (j := 12 * a + i.toNat) (by omega) (x := g (2 + 12 * a + i.toNat)) ((hO a (by omega)).2 i.toNat (by omega)) ?_
            refine T_goto (tgt := 65) dX11_given_61 (by decide) ?_
            exact T_ireturn dX11_given_65 rfl ⟨by unfold qGiven; rw [if_neg (by omega), if_neg (by omega), Int.toNat_natCast, if_pos (by omega)], Cf.rf⟩
      · refine T_aload dX11_given_26 rfl ?_
        refine T_getR dX11_given_28 fX11_223 rfl hs (rS0 hs) ?_
        refine T_iload_n dX11_given_31 rfl ?_
        refine T_ialdv dX11_given_32 (kS0 hs) (lS0 hs) (by omega) (j := a) (by omega) (x := g a) (hO a (by omega)).1 ?_
        exact T_ireturn dX11_given_33 rfl ⟨by unfold qGiven; rw [if_neg (by omega), if_pos (by omega), Int.toNat_natCast], Cf.rf⟩
    · have h16 := bI_0 c16
      refine T_iconst dX11_given_19 (by decide) ?_
      exact T_ireturn dX11_given_20 rfl ⟨by unfold qGiven; rw [if_pos h16], Cf.rf⟩

theorem t_C_told {k a i : Int} (hM : MS d) (hC : CS d) : tB G mX11_told 0 [vR 1, vI k, vI a, vI i, vU 0] [] d (cQ d (if Vd d 2 k then qTold (hvD d k.toNat) a i else -2)) := by
  have hc0 := hM.1 2 (by decide)
  refine T_aload_n dX11_told_0 rfl ?_
  refine T_iload_n dX11_told_1 rfl ?_
  refine T_callV dX11_told_2 lX11_310 (As := [_]) (rest := _) rfl rfl k1 (by decide) (Nat.le_of_ble_eq_true rfl) (Nat.le_of_ble_eq_true rfl) (t_hearingAt hM hC) ?_
  rintro _ _ (⟨hv, rfl, rfl⟩ | ⟨hv, rfl, rfl⟩)
  ·
    refine T_ast dX11_told_5 (by decide) rfl ?_
    refine T_aload dX11_told_7 rfl ?_
    refine T_ifnull (tgt := 19) dX11_told_9 (by decide) (fun c9 => ?_) (fun c9 => absurd rfl c9)
    refine T_bipush dX11_told_19 (by decide) ?_
    exact T_ireturn dX11_told_21 rfl ⟨by rw [if_neg hv], Cf.rf⟩
  · have hh := (kn_h k.toNat (by omega)).1
    have hO := hC.2.2.2.1 k.toNat (by omega)
    have hV := hM.2.2.2.1 k.toNat (by omega)
    rw [if_pos hv]
    generalize hvD d k.toNat = g at *
    refine T_ast dX11_told_5 (by decide) rfl ?_
    refine T_aload dX11_told_7 rfl ?_
    refine T_ifnull (tgt := 19) dX11_told_9 (by decide) (fun c9 => absurd c9 (by omega)) (fun c9 => ?_)
    refine T_iload_n dX11_told_12 rfl ?_
    refine T_callS dX11_told_13 lX11_181 (As := [_]) (rest := _) rfl rfl (by decide) (Nat.le_of_ble_eq_true rfl) (Nat.le_of_ble_eq_true rfl) t_isArmy ?_
    rintro _ _ ⟨rfl, rfl⟩
    refine T_if_ne (tgt := 22) dX11_told_16 (by decide) (fun c16 => ?_) (fun c16 => ?_)
    · have h16 := bI_1 c16
      obtain ⟨a, rfl⟩ : ∃ q : Nat, a = (q : Int) := ⟨a.toNat, by omega⟩
      have hv1 := (hV a (by omega)).1
      refine T_iload_n dX11_told_22 rfl ?_
      refine T_iconst dX11_told_23 (by decide) ?_
      refine T_icmp_ne (tgt := 35) dX11_told_24 (by decide) (fun c24 => ?_) (fun c24 => ?_)
      · refine T_iload_n dX11_told_35 rfl ?_
        refine T_if_lt (tgt := 65) dX11_told_36 (by decide) (fun c36 => ?_) (fun c36 => ?_)
        · refine T_bipush dX11_told_65 (by decide) ?_
          exact T_ireturn dX11_told_67 rfl ⟨by unfold qTold; rw [if_neg (by omega), if_neg (by omega), Int.toNat_natCast, if_neg (by omega)], Cf.rf⟩
        · refine T_iload_n dX11_told_39 rfl ?_
          refine T_aload dX11_told_40 rfl ?_
          refine T_getR dX11_told_42 fX11_314 rfl hh (rH0 hh) ?_
          refine T_iload_n dX11_told_45 rfl ?_
          refine T_ialdv dX11_told_46 (kH0 hh) (lH0 hh) (by omega) (j := a) (by omega) (x := g a) (hO a (by omega)).1 ?_
          refine T_icmp_ge (tgt := 65) dX11_told_47 (by decide) (fun c47 => ?_) (fun c47 => ?_)
          · refine T_bipush dX11_told_65 (by decide) ?_
            exact T_ireturn dX11_told_67 rfl ⟨by unfold qTold; rw [if_neg (by omega), if_neg (by omega), Int.toNat_natCast, if_neg (by omega)], Cf.rf⟩
          · refine T_aload dX11_told_50 rfl ?_
            refine T_getR dX11_told_52 fX11_315 rfl hh (rH1 hh) ?_
            refine T_iload_n dX11_told_55 rfl ?_
            refine T_bipush dX11_told_56 (by decide) ?_
            refine T_mul dX11_told_58 (by omega) ?_
            refine T_iload_n dX11_told_59 rfl ?_
            refine T_add dX11_told_60 (by omega) ?_
            refine T_ialdv dX11_told_61 (kH1 hh) (lH1 hh) (by omega) (j := 6 * a + i.toNat) (by omega) (x := g (2 + 6 * a + i.toNat)) ((hO a (by omega)).2 i.toNat (by omega)) ?_
            refine T_goto (tgt := 67) dX11_told_62 (by decide) ?_
            exact T_ireturn dX11_told_67 rfl ⟨by unfold qTold; rw [if_neg (by omega), if_neg (by omega), Int.toNat_natCast, if_pos (by omega)], Cf.rf⟩
      · refine T_aload dX11_told_27 rfl ?_
        refine T_getR dX11_told_29 fX11_314 rfl hh (rH0 hh) ?_
        refine T_iload_n dX11_told_32 rfl ?_
        refine T_ialdv dX11_told_33 (kH0 hh) (lH0 hh) (by omega) (j := a) (by omega) (x := g a) (hO a (by omega)).1 ?_
        exact T_ireturn dX11_told_34 rfl ⟨by unfold qTold; rw [if_neg (by omega), if_pos (by omega), Int.toNat_natCast], Cf.rf⟩
    · have h16 := bI_0 c16
      refine T_bipush dX11_told_19 (by decide) ?_
      exact T_ireturn dX11_told_21 rfl ⟨by unfold qTold; rw [if_pos h16], Cf.rf⟩

theorem t_C_row {k l i x : Int} (hM : MS d) (hC : CS d) : tB G mX11_row 0 [vR 1, vI k, vI l, vI i, vI x] [] d (cQ d (if Vp d k l then qRow (wvD d k.toNat) (gvD d l.toNat) i x else -2)) := by
  have hc0 := hM.1 0 (by decide)
  refine T_aload_n dX11_row_0 rfl ?_
  refine T_iload_n dX11_row_1 rfl ?_
  refine T_iload_n dX11_row_2 rfl ?_
  refine T_callV dX11_row_3 lX11_225 (As := [_, _]) (rest := _) rfl rfl k1 (by decide) (Nat.le_of_ble_eq_true rfl) (Nat.le_of_ble_eq_true rfl) (t_perform hM hC) ?_
  rintro _ d1 (⟨hv, rfl, rfl⟩ | ⟨hv, rfl, e1, e2, f1⟩)
  ·
    refine T_if_ne (tgt := 12) dX11_row_6 (by decide) (fun c6 => absurd rfl c6) (fun c6 => ?_)
    refine T_bipush dX11_row_9 (by decide) ?_
    exact T_ireturn dX11_row_11 rfl ⟨by rw [if_neg hv], Cf.rf⟩
  · have hV := hM.2.1 k.toNat (by omega)
    have hG := hM.2.2.1 l.toNat (by omega)
    have hlen := rowS_24 hV hG
    have hcf : Cf d d1 := f1.cf (by omega)
    rw [if_pos hv]
    generalize wvD d k.toNat = w at *
    generalize gvD d l.toNat = g at *
    have h01 : ∀ j, j < (rowS w g).length → d1 86 j = 0 ∨ d1 86 j = 1 := fun j hj => by rw [(e2 j hj).2]; exact bI_01 _
    refine T_if_ne (tgt := 12) dX11_row_6 (by decide) (fun c6 => ?_) (fun c6 => absurd c6 (by decide))
    refine T_iload_n dX11_row_12 rfl ?_
    refine T_iconst dX11_row_13 (by decide) ?_
    refine T_icmp_ne (tgt := 35) dX11_row_14 (by decide) (fun c14 => ?_) (fun c14 => ?_)
    · refine T_iload_n dX11_row_35 rfl ?_
      refine T_if_lt (tgt := 50) dX11_row_36 (by decide) (fun c36 => ?_) (fun c36 => ?_)
      · refine T_bipush dX11_row_50 (by decide) ?_
        exact T_ireturn dX11_row_52 rfl ⟨by unfold qRow; rw [if_neg c14, if_pos (by omega)], hcf⟩
      · refine T_iload_n dX11_row_39 rfl ?_
        refine T_aload_n dX11_row_40 rfl ?_
        refine T_getR dX11_row_41 fX11_41 rfl k1 r1_5 ?_
        refine T_getIv dX11_row_44 fX11_228 rfl k81 (x := ((rowS w g).length : Int)) e1.1 ?_
        refine T_icmp_lt (tgt := 53) dX11_row_47 (by decide) (fun c47 => ?_) (fun c47 => ?_)
        · refine T_iload dX11_row_53 rfl ?_
          by_cases hs0 : x = 0
          · subst hs0
            refine T_tabIn (tgt := 84) (off := 29) dX11_row_55 (by decide) (by decide) (by decide) (by decide) ?_
            refine T_aload_n dX11_row_84 rfl ?_
            refine T_getR dX11_row_85 fX11_41 rfl k1 r1_5 ?_
            refine T_getR dX11_row_88 fX11_231 rfl k81 r81_0 ?_
            refine T_iload_n dX11_row_91 rfl ?_
            refine T_ialdv dX11_row_92 k82 l82 (by omega) rfl (x := rB w g i.toNat) (e1.2 i.toNat (by omega)).1 ?_
            exact T_ireturn dX11_row_93 rfl ⟨by unfold qRow; rw [if_neg c14, if_neg (by omega), if_pos rfl], hcf⟩
          by_cases hs1 : x = 1
          · subst hs1
            refine T_tabIn (tgt := 94) (off := 39) dX11_row_55 (by decide) (by decide) (by decide) (by decide) ?_
            refine T_aload_n dX11_row_94 rfl ?_
            refine T_getR dX11_row_95 fX11_41 rfl k1 r1_5 ?_
            refine T_getR dX11_row_98 fX11_234 rfl k81 r81_1 ?_
            refine T_iload_n dX11_row_101 rfl ?_
            refine T_ialdv dX11_row_102 k83 l83 (by omega) rfl (x := ((rowS w g).getD i.toNat (0, 0)).2) (e1.2 i.toNat (by omega)).2.1 ?_
            exact T_ireturn dX11_row_103 rfl ⟨by unfold qRow; rw [if_neg c14, if_neg (by omega), if_neg (by decide), if_pos rfl], hcf⟩
          by_cases hs2 : x = 2
          · subst hs2
            refine T_tabIn (tgt := 104) (off := 49) dX11_row_55 (by decide) (by decide) (by decide) (by decide) ?_
            refine T_aload_n dX11_row_104 rfl ?_
            refine T_getR dX11_row_105 fX11_41 rfl k1 r1_5 ?_
            refine T_getR dX11_row_108 fX11_237 rfl k81 r81_3 ?_
            refine T_iload_n dX11_row_111 rfl ?_
            refine T_ialdv dX11_row_112 k85 l85 (by omega) rfl (x := sndB w (rB w g) i.toNat) (e2 i.toNat (by omega)).1 ?_
            exact T_ireturn dX11_row_113 rfl ⟨by unfold qRow; rw [if_neg c14, if_neg (by omega), if_neg (by decide), if_neg (by decide), if_pos rfl], hcf⟩
          by_cases hs3 : x = 3
          · subst hs3
            refine T_tabIn (tgt := 114) (off := 59) dX11_row_55 (by decide) (by decide) (by decide) (by decide) ?_
            refine T_aload_n dX11_row_114 rfl ?_
            refine T_getR dX11_row_115 fX11_41 rfl k1 r1_5 ?_
            refine T_iload_n dX11_row_118 rfl ?_
            refine T_callV dX11_row_119 lX11_240 (As := [_]) (rest := _) rfl rfl k81 (by decide) (Nat.le_of_ble_eq_true rfl) (Nat.le_of_ble_eq_true rfl) (t_echoesAt e1.1 hlen) ?_
            rintro _ _ ⟨rfl, rfl⟩
            refine T_top (y := bI (ecP w (sndA w (rB w g)) i.toNat)) (by rw [bI_and (by omega) (h01 i.toNat (by omega))]; exact (e2 i.toNat (by omega)).2) ?_
            refine T_if_eq (tgt := 129) dX11_row_122 (by decide) (fun c122 => ?_) (fun c122 => ?_)
            · have h122 := bI_0 c122
              refine T_iconst dX11_row_129 (by decide) ?_
              exact T_ireturn dX11_row_130 rfl ⟨by unfold qRow; rw [if_neg c14, if_neg (by omega), if_neg (by decide), if_neg (by decide), if_neg (by decide), if_pos rfl, c122], hcf⟩
            · have h122 := bI_1 c122
              refine T_iconst dX11_row_125 (by decide) ?_
              refine T_goto (tgt := 130) dX11_row_126 (by decide) ?_
              exact T_ireturn dX11_row_130 rfl ⟨by unfold qRow; rw [if_neg c14, if_neg (by omega), if_neg (by decide), if_neg (by decide), if_neg (by decide), if_pos rfl, (bI_01 _).resolve_left c122], hcf⟩
          refine T_tabOut (tgt := 131) dX11_row_55 (by omega) (by decide) ?_
          refine T_bipush dX11_row_131 (by decide) ?_
          exact T_ireturn dX11_row_133 rfl ⟨by unfold qRow; rw [if_neg c14, if_neg (by omega), if_neg hs0, if_neg hs1, if_neg hs2, if_neg hs3], hcf⟩
        · refine T_bipush dX11_row_50 (by decide) ?_
          exact T_ireturn dX11_row_52 rfl ⟨by unfold qRow; rw [if_neg c14, if_pos (by omega)], hcf⟩
    · refine T_iload dX11_row_17 rfl ?_
      refine T_if_ne (tgt := 32) dX11_row_19 (by decide) (fun c19 => ?_) (fun c19 => ?_)
      · refine T_bipush dX11_row_32 (by decide) ?_
        exact T_ireturn dX11_row_34 rfl ⟨by unfold qRow; rw [if_pos c14, if_neg c19], hcf⟩
      · refine T_aload_n dX11_row_22 rfl ?_
        refine T_getR dX11_row_23 fX11_41 rfl k1 r1_5 ?_
        refine T_getIv dX11_row_26 fX11_228 rfl k81 (x := ((rowS w g).length : Int)) e1.1 ?_
        refine T_goto (tgt := 34) dX11_row_29 (by decide) ?_
        exact T_ireturn dX11_row_34 rfl ⟨by unfold qRow; rw [if_pos c14, if_pos c19], hcf⟩

end C9
