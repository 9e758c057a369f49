/-! the class: shortestTwofold and unique, whole -/
section C34
variable {G : sG} {d : sD} {w : Nat → Int} {wo a : Nat}
theorem t_shortestTwofold (hw : kn S0 wo = 10) (hO : Wo d wo w) (hV : WV w) (ha : a < 2) : tB G mX0_shortestTwofold 0 [vR 102, vR wo, vI a, vU 0, vU 0, vU 0] [] d (fun r d' => r = some (vI (tfW w a)) ∧ Fr 102 110 d d') := by
  have hwa := (hV.a ha).2.2.2.2
  have hat := at_W hw
  have h86 : ∀ z : Nat × Int × sD, (z.1 ≤ 24 ∧ (z.2.1 = 0 ∨ z.2.1 = 1) ∧ BV w a d z.2.2 (fun _ _ => True) ∧ (DLw w a (Cc z.2.2) ∨ (z.1 : Int) + 1 ≤ cEx w a (Cc z.2.2)) ∧ (z.2.1 = 0 ∨ z.1 = 24 → FIN w a (z.2.2 102 6))) → tB G mX0_shortestTwofold 86 [vR 102, vR wo, vI a, vI z.2.1, vI z.1, vU 0] [] (z.2.2) (fun r d' => r = some (vI (tfW w a)) ∧ Fr 102 110 d d') := by
    refine T_loop (α := Nat × Int × sD) 86 (fun z => [vR 102, vR wo, vI a, vI z.2.1, vI z.1, vU 0]) (fun z => z.2.2) (fun z => z.1 ≤ 24 ∧ (z.2.1 = 0 ∨ z.2.1 = 1) ∧ BV w a d z.2.2 (fun _ _ => True) ∧ (DLw w a (Cc z.2.2) ∨ (z.1 : Int) + 1 ≤ cEx w a (Cc z.2.2)) ∧ (z.2.1 = 0 ∨ z.1 = 24 → FIN w a (z.2.2 102 6))) (fun z => 24 - z.1) ?_
    rintro ⟨r, ch, e0⟩ ⟨h1, h2, h3, h4, h5⟩ ih
    try dsimp only at h1 h2 h3 h4 h5 ih ⊢
    have h102 : ∀ z : Nat × Int × sD, (r < 24 ∧ z.1 ≤ 24 ∧ RV w a d e0 (fun i' _ => i' < z.1) z.2.1 z.2.2) → tB G mX0_shortestTwofold 102 [vR 102, vR wo, vI a, vI z.2.1, vI r, vI z.1] [] (z.2.2) (fun r d' => r = some (vI (tfW w a)) ∧ Fr 102 110 d d') := by
      refine T_loop (α := Nat × Int × sD) 102 (fun z => [vR 102, vR wo, vI a, vI z.2.1, vI r, vI z.1]) (fun z => z.2.2) (fun z => r < 24 ∧ z.1 ≤ 24 ∧ RV w a d e0 (fun i' _ => i' < z.1) z.2.1 z.2.2) (fun z => 24 - z.1) ?_
      rintro ⟨i, m, e⟩ ⟨g0, g1, g2⟩ ih2
      try dsimp only at g0 g1 g2 ih2 ⊢
      have hm01 := g2.1
      have h138 : ∀ (y m2 : Int) (e2 : sD), i < 24 → (y = 0 ∨ y = 1) → RV w a d e0 (fun i' _ => i' < i + 1) (if m = 0 then y else 1) e2 → tB G mX0_shortestTwofold 138 [vR 102, vR wo, vI a, vI m, vI r, vI i] [vI y, vI m] e2 (fun r d' => r = some (vI (tfW w a)) ∧ Fr 102 110 d d') := by
        intro y m2 e2 hi hy hR2
        have hor := or01 hm01 hy
        refine T_ior dX0_shortestTwofold_138 ?_
        refine T_ist_n dX0_shortestTwofold_139 (by decide) rfl ?_
        refine T_inc dX0_shortestTwofold_140 rfl (by decide) rfl (by omega) ?_
        refine T_goto (tgt := 102) dX0_shortestTwofold_143 (by decide) ?_
        rw [hor]
        exact ih2 (i + 1, (if m = 0 then y else 1), e2) ⟨g0, by omega, hR2⟩ (by omega)
      have hnd : i < 24 → e 110 i < 1000000 → Nd w a (i / 4) (i % 4) := fun hi hlt => by
        rcases g2.2.2.1.2.1 (i / 4) (i % 4) (by omega) (by omega) with z | z
        · rw [show 4 * (i / 4) + i % 4 = i by omega] at z; omega
        · exact z.1
      refine T_iload dX0_shortestTwofold_102 rfl ?_
      refine T_bipush dX0_shortestTwofold_104 (by decide) ?_
      refine T_icmp_ge (tgt := 146) dX0_shortestTwofold_106 (by decide) (fun c106 => ?_) (fun c106 => ?_)
      · refine T_inc dX0_shortestTwofold_146 rfl (by decide) rfl (by omega) ?_
        refine T_goto (tgt := 86) dX0_shortestTwofold_149 (by decide) ?_
        have g3 : RV w a d e0 (fun _ _ => True) m e := RV_mono g2 (fun o2 f2 p2 hn2 _ _ _ => by have := nd46 hV ha hn2; (try dsimp only); omega)
        obtain ⟨k1, k2⟩ := RV_end hV ha g3 h3 h4
        refine T_drop 5 (ih (r + 1, m, e) ⟨by omega, hm01, RV_BV hV ha g3 h3, k1, fun z => k2 ?_⟩ (by omega))
        rcases z with z | z
        · exact Or.inl z
        · exact Or.inr (by (try dsimp only at z); omega)
      · refine T_iload_n dX0_shortestTwofold_109 rfl ?_
        refine T_aload_n dX0_shortestTwofold_110 rfl ?_
        refine T_getR dX0_shortestTwofold_111 fX0_30 rfl k102 r102_5 ?_
        refine T_iload dX0_shortestTwofold_114 rfl ?_
        refine T_ialdv dX0_shortestTwofold_116 k110 l110 (by omega) (j := i) (by omega) (x := e 110 i) rfl ?_
        refine T_ldc dX0_shortestTwofold_117 (by decide) kX0_33 ?_
        refine T_icmp_ge (tgt := 137) dX0_shortestTwofold_119 (by decide) (fun c119 => ?_) (fun c119 => ?_)
        · refine T_iconst dX0_shortestTwofold_137 (by decide) ?_
          refine h138 0 0 e (by omega) (Or.inl rfl) ?_
          have hm2 : (if m = 0 then 0 else 1) = m := by rcases hm01 with z | z <;> rw [z] <;> decide
          rw [hm2]
          refine RV_mono g2 (fun o2 f2 p2 hn2 hp2 hq2 hlt => ?_)
          try dsimp only at hq2 ⊢
          have q4 := g2.2.2.2.1 i (by omega)
          rcases (show 4 * o2 + f2 < i ∨ 4 * o2 + f2 = i by omega) with z | z
          · exact z
          · rw [z] at hlt; omega
        · refine T_aload_n dX0_shortestTwofold_122 rfl ?_
          refine T_aload_n dX0_shortestTwofold_123 rfl ?_
          refine T_iload_n dX0_shortestTwofold_124 rfl ?_
          refine T_iload dX0_shortestTwofold_125 rfl ?_
          refine T_callV dX0_shortestTwofold_127 lX0_94 (As := [_, _, _]) (rest := _) rfl rfl k102 (by decide) (Nat.le_of_ble_eq_true rfl) (Nat.le_of_ble_eq_true rfl) (T_args3 (y := 4 * (i / 4) + i % 4) (by omega) (t_goOnTwofold hw hO hV ha (hnd (by omega) (by omega)) rfl (by rw [show 4 * (i / 4) + i % 4 = i by omega]; omega) g2)) ?_
          rintro _ e2 ⟨x, rfl, hx, hR2⟩
          have hR3 := RV_mono (q' := fun i' _ => i' < i + 1) hR2 (fun o2 f2 p2 hn2 hp2 hq2 _ => by (try dsimp only at hq2 ⊢); omega)
          refine T_if_eq (tgt := 137) dX0_shortestTwofold_130 (by decide) (fun c130 => ?_) (fun c130 => ?_)
          · refine T_iconst dX0_shortestTwofold_137 (by decide) ?_
            refine h138 0 0 e2 (by omega) (Or.inl rfl) ?_
            have hm2 : (if m = 0 then 0 else 1) = m := by rcases hm01 with z | z <;> rw [z] <;> decide
            rw [hm2]
            rw [if_pos (by omega)] at hR3
            exact hR3
          · refine T_iconst dX0_shortestTwofold_133 (by decide) ?_
            refine T_goto (tgt := 138) dX0_shortestTwofold_134 (by decide) ?_
            refine h138 1 0 e2 (by omega) (Or.inr rfl) ?_
            rw [ite_self]
            rw [if_neg (by omega)] at hR3
            exact hR3
    refine T_iload dX0_shortestTwofold_86 rfl ?_
    refine T_bipush dX0_shortestTwofold_88 (by decide) ?_
    refine T_icmp_ge (tgt := 152) dX0_shortestTwofold_90 (by decide) (fun c90 => ?_) (fun c90 => ?_)
    · have hF := TF_cls hV ha h3 (h5 (by (try dsimp only); omega))
      refine T_aload_n dX0_shortestTwofold_152 rfl ?_
      refine T_getIv dX0_shortestTwofold_153 fX0_34 rfl k102 (x := e0 102 6) rfl ?_
      refine T_ldc dX0_shortestTwofold_156 (by decide) kX0_33 ?_
      refine T_icmp_ge (tgt := 168) dX0_shortestTwofold_158 (by decide) (fun c158 => ?_) (fun c158 => ?_)
      · refine T_iconst dX0_shortestTwofold_168 (by decide) ?_
        exact T_ireturn dX0_shortestTwofold_169 rfl ⟨by rw [hF, if_neg (by omega)], h3.1⟩
      · refine T_aload_n dX0_shortestTwofold_161 rfl ?_
        refine T_getIv dX0_shortestTwofold_162 fX0_34 rfl k102 (x := e0 102 6) rfl ?_
        refine T_goto (tgt := 169) dX0_shortestTwofold_165 (by decide) ?_
        exact T_ireturn dX0_shortestTwofold_169 rfl ⟨by rw [hF, if_pos (by omega)], h3.1⟩
    · refine T_iload_n dX0_shortestTwofold_93 rfl ?_
      refine T_if_eq (tgt := 152) dX0_shortestTwofold_94 (by decide) (fun c94 => ?_) (fun c94 => ?_)
      · have hF := TF_cls hV ha h3 (h5 (by (try dsimp only); omega))
        refine T_aload_n dX0_shortestTwofold_152 rfl ?_
        refine T_getIv dX0_shortestTwofold_153 fX0_34 rfl k102 (x := e0 102 6) rfl ?_
        refine T_ldc dX0_shortestTwofold_156 (by decide) kX0_33 ?_
        refine T_icmp_ge (tgt := 168) dX0_shortestTwofold_158 (by decide) (fun c158 => ?_) (fun c158 => ?_)
        · refine T_iconst dX0_shortestTwofold_168 (by decide) ?_
          exact T_ireturn dX0_shortestTwofold_169 rfl ⟨by rw [hF, if_neg (by omega)], h3.1⟩
        · refine T_aload_n dX0_shortestTwofold_161 rfl ?_
          refine T_getIv dX0_shortestTwofold_162 fX0_34 rfl k102 (x := e0 102 6) rfl ?_
          refine T_goto (tgt := 169) dX0_shortestTwofold_165 (by decide) ?_
          exact T_ireturn dX0_shortestTwofold_169 rfl ⟨by rw [hF, if_pos (by omega)], h3.1⟩
      · refine T_iconst dX0_shortestTwofold_97 (by decide) ?_
        refine T_ist_n dX0_shortestTwofold_98 (by decide) rfl ?_
        refine T_iconst dX0_shortestTwofold_99 (by decide) ?_
        refine T_ist dX0_shortestTwofold_100 (by decide) rfl ?_
        refine h102 (0, 0, e0) ⟨by omega, Nat.zero_le _, Or.inl rfl, h3.1, h3.2.1, fun j hj => Int.le_refl _, Int.le_refl _, fun _ j hj => rfl, fun o f p _ _ hq => absurd hq (Nat.not_lt_zero _)⟩
  have h30 : ∀ z : Nat × sD, ((z.1 : Int) ≤ w (15 + a) ∧ BV w a d z.2 (fun x _ => x < z.1)) → tB G mX0_shortestTwofold 30 [vR 102, vR wo, vI a, vI z.1, vU 0, vU 0] [] (z.2) (fun r d' => r = some (vI (tfW w a)) ∧ Fr 102 110 d d') := by
    refine T_loop (α := Nat × sD) 30 (fun z => [vR 102, vR wo, vI a, vI z.1, vU 0, vU 0]) (fun z => z.2) (fun z => (z.1 : Int) ≤ w (15 + a) ∧ BV w a d z.2 (fun x _ => x < z.1)) (fun z => 6 - z.1) ?_
    rintro ⟨i, e⟩ ⟨h1, h2⟩ ih
    try dsimp only at h1 h2 ih ⊢
    have h43 : ∀ z : Nat × sD, ((i : Int) < w (15 + a) ∧ (z.1 : Int) ≤ w (15 + a) ∧ BV w a d z.2 (fun x y => x < i ∨ (x = i ∧ y < z.1))) → tB G mX0_shortestTwofold 43 [vR 102, vR wo, vI a, vI i, vI z.1, vU 0] [] (z.2) (fun r d' => r = some (vI (tfW w a)) ∧ Fr 102 110 d d') := by
      refine T_loop (α := Nat × sD) 43 (fun z => [vR 102, vR wo, vI a, vI i, vI z.1, vU 0]) (fun z => z.2) (fun z => (i : Int) < w (15 + a) ∧ (z.1 : Int) ≤ w (15 + a) ∧ BV w a d z.2 (fun x y => x < i ∨ (x = i ∧ y < z.1))) (fun z => 6 - z.1) ?_
      rintro ⟨j, e⟩ ⟨g0, g1, g2⟩ ih2
      try dsimp only at g0 g1 g2 ih2 ⊢
      have hOe := Wo_fr hO g2.1 (by omega)
      refine T_iload dX0_shortestTwofold_43 rfl ?_
      refine T_aload_n dX0_shortestTwofold_45 rfl ?_
      refine T_getR dX0_shortestTwofold_46 fX0_60 rfl hw (rW8 hw) ?_
      refine T_iload_n dX0_shortestTwofold_49 rfl ?_
      refine T_ialdv dX0_shortestTwofold_50 (kW8 hw) (lW8 hw) (by omega) (j := a) (by omega) (x := w (15 + a)) (hOe.ct ha) ?_
      refine T_icmp_ge (tgt := 75) dX0_shortestTwofold_51 (by decide) (fun c51 => ?_) (fun c51 => ?_)
      · refine T_inc dX0_shortestTwofold_75 rfl (by decide) rfl (by omega) ?_
        refine T_goto (tgt := 30) dX0_shortestTwofold_78 (by decide) ?_
        exact T_drop 4 (ih (i + 1, e) ⟨by omega, BV_mono g2 (fun o2 p2 ho2 hp2 hne hq => by (try dsimp only at hq ⊢); omega)⟩ (by omega))
      · refine T_iload_n dX0_shortestTwofold_54 rfl ?_
        refine T_iload dX0_shortestTwofold_55 rfl ?_
        refine T_icmp_eq (tgt := 69) dX0_shortestTwofold_57 (by decide) (fun c57 => ?_) (fun c57 => ?_)
        · refine T_inc dX0_shortestTwofold_69 rfl (by decide) rfl (by omega) ?_
          refine T_goto (tgt := 43) dX0_shortestTwofold_72 (by decide) ?_
          exact ih2 (j + 1, e) ⟨g0, by omega, BV_mono g2 (fun o2 p2 ho2 hp2 hne hq => by (try dsimp only at hq ⊢); omega)⟩ (by omega)
        · refine T_aload_n dX0_shortestTwofold_60 rfl ?_
          refine T_aload_n dX0_shortestTwofold_61 rfl ?_
          refine T_iload_n dX0_shortestTwofold_62 rfl ?_
          refine T_iload_n dX0_shortestTwofold_63 rfl ?_
          refine T_iload dX0_shortestTwofold_64 rfl ?_
          refine T_callV dX0_shortestTwofold_66 lX0_90 (As := [_, _, _, _]) (rest := _) rfl rfl k102 (by decide) (Nat.le_of_ble_eq_true rfl) (Nat.le_of_ble_eq_true rfl) (t_beginTwofold hw hO hV ha (by omega) (by omega) (by omega) g2) ?_
          rintro _ e2 ⟨rfl, hB2⟩
          refine T_inc dX0_shortestTwofold_69 rfl (by decide) rfl (by omega) ?_
          refine T_goto (tgt := 43) dX0_shortestTwofold_72 (by decide) ?_
          exact ih2 (j + 1, e2) ⟨g0, by omega, BV_mono hB2 (fun o2 p2 ho2 hp2 hne hq => by (try dsimp only at hq ⊢); omega)⟩ (by omega)
    have hOe := Wo_fr hO h2.1 (by omega)
    refine T_iload_n dX0_shortestTwofold_30 rfl ?_
    refine T_aload_n dX0_shortestTwofold_31 rfl ?_
    refine T_getR dX0_shortestTwofold_32 fX0_60 rfl hw (rW8 hw) ?_
    refine T_iload_n dX0_shortestTwofold_35 rfl ?_
    refine T_ialdv dX0_shortestTwofold_36 (kW8 hw) (lW8 hw) (by omega) (j := a) (by omega) (x := w (15 + a)) (hOe.ct ha) ?_
    refine T_icmp_ge (tgt := 81) dX0_shortestTwofold_37 (by decide) (fun c37 => ?_) (fun c37 => ?_)
    · refine T_iconst dX0_shortestTwofold_81 (by decide) ?_
      refine T_ist_n dX0_shortestTwofold_82 (by decide) rfl ?_
      refine T_iconst dX0_shortestTwofold_83 (by decide) ?_
      refine T_ist dX0_shortestTwofold_84 (by decide) rfl ?_
      refine h86 (0, 1, e) ⟨Nat.zero_le _, Or.inr rfl, BV_mono h2 (fun o2 p2 ho2 hp2 hne hq => by (try dsimp only); omega), Or.inr (cEx_0 hV ha), fun z => ?_⟩
      dsimp only at z
      omega
    · refine T_iconst dX0_shortestTwofold_40 (by decide) ?_
      refine T_ist dX0_shortestTwofold_41 (by decide) rfl ?_
      exact h43 (0, e) ⟨by omega, by show (0 : Int) ≤ _; omega, BV_mono h2 (fun o2 p2 ho2 hp2 hne hq => by (try dsimp only at hq ⊢); omega)⟩
  have h2 : ∀ z : Nat × sD, (z.1 ≤ 24 ∧ Fr 102 110 d z.2 ∧ ∀ j, j < z.1 → z.2 110 j = 1000000) → tB G mX0_shortestTwofold 2 [vR 102, vR wo, vI a, vI z.1, vU 0, vU 0] [] (z.2) (fun r d' => r = some (vI (tfW w a)) ∧ Fr 102 110 d d') := by
    refine T_loop (α := Nat × sD) 2 (fun z => [vR 102, vR wo, vI a, vI z.1, vU 0, vU 0]) (fun z => z.2) (fun z => z.1 ≤ 24 ∧ Fr 102 110 d z.2 ∧ ∀ j, j < z.1 → z.2 110 j = 1000000) (fun z => 24 - z.1) ?_
    rintro ⟨i, e⟩ ⟨h1, h2, h3⟩ ih
    try dsimp only at h1 h2 h3 ih ⊢
    refine T_iload_n dX0_shortestTwofold_2 rfl ?_
    refine T_bipush dX0_shortestTwofold_3 (by decide) ?_
    refine T_icmp_ge (tgt := 22) dX0_shortestTwofold_5 (by decide) (fun c5 => ?_) (fun c5 => ?_)
    · refine T_aload_n dX0_shortestTwofold_22 rfl ?_
      refine T_ldc dX0_shortestTwofold_23 (by decide) kX0_33 ?_
      refine T_putI dX0_shortestTwofold_25 fX0_34 rfl k102 ?_
      refine T_iconst dX0_shortestTwofold_28 (by decide) ?_
      refine T_ist_n dX0_shortestTwofold_29 (by decide) rfl ?_
      obtain rfl : i = 24 := by omega
      have c1 : ∀ j, j < 24 → up e 102 6 1000000 110 j = 1000000 := fun j hj => by rw [up_nea (by decide)]; exact h3 j hj
      have c2 : up e 102 6 1000000 102 6 = 1000000 := up_same
      refine h30 (0, up e 102 6 1000000) ⟨by show (0 : Int) ≤ _; omega, h2.up (by decide), ⟨fun j hj => by dsimp only; rw [c1 j hj]; decide, fun o f ho hf => Or.inl (c1 _ (by omega)), Or.inl c2, by dsimp only; rw [c2]; decide⟩, fun o p _ _ hq => absurd hq (Nat.not_lt_zero _)⟩
    · refine T_aload_n dX0_shortestTwofold_8 rfl ?_
      refine T_getR dX0_shortestTwofold_9 fX0_30 rfl k102 r102_5 ?_
      refine T_iload_n dX0_shortestTwofold_12 rfl ?_
      refine T_ldc dX0_shortestTwofold_13 (by decide) kX0_33 ?_
      refine T_iast dX0_shortestTwofold_15 k110 l110 (by omega) (j := i) (by omega) ?_
      refine T_inc dX0_shortestTwofold_16 rfl (by decide) rfl (by omega) ?_
      refine T_goto (tgt := 2) dX0_shortestTwofold_19 (by decide) ?_
      refine ih (i + 1, up e 110 i 1000000) ⟨by omega, h2.up (by decide), fun j h => ?_⟩ (by omega)
      try dsimp only at h ⊢
      rcases (show j < i ∨ j = i by omega) with z | rfl
      · rw [up_nej (by omega)]; exact h3 j z
      · rw [up_same]
  refine T_iconst dX0_shortestTwofold_0 (by decide) ?_
  refine T_ist_n dX0_shortestTwofold_1 (by decide) rfl ?_
  exact h2 (0, d) ⟨by omega, Fr.rf, fun j h => absurd h (Nat.not_lt_zero _)⟩

theorem t_C_unique {k a x : Int} (hM : MS d) (hC : CS d) : tB G mX11_unique 0 [vR 1, vI k, vI a, vI x, vU 0, vU 0] [] d (cQ d (if Vd d 0 k then qUnique (wvD d k.toNat) a x else -2)) := by
  have hc0 := hM.1 0 (by decide)
  refine T_aload_n dX11_unique_0 rfl ?_
  refine T_iload_n dX11_unique_1 rfl ?_
  refine T_callV dX11_unique_2 lX11_165 (As := [_]) (rest := _) rfl rfl k1 (by decide) (Nat.le_of_ble_eq_true rfl) (Nat.le_of_ble_eq_true rfl) (t_warAt hM hC) ?_
  rintro _ _ (⟨hv, rfl, rfl⟩ | ⟨hv, rfl, rfl⟩)
  ·
    refine T_ast dX11_unique_5 (by decide) rfl ?_
    refine T_aload dX11_unique_7 rfl ?_
    refine T_ifnull (tgt := 19) dX11_unique_9 (by decide) (fun c9 => ?_) (fun c9 => absurd rfl c9)
    refine T_bipush dX11_unique_19 (by decide) ?_
    exact T_ireturn dX11_unique_21 rfl ⟨by rw [if_neg hv], Cf.rf⟩
  · have hw := (kn_w k.toNat (by omega)).1
    have hO := hC.2.1 k.toNat (by omega)
    have hV := hM.2.1 k.toNat (by omega)
    rw [if_pos hv]
    generalize wvD d k.toNat = w at *
    refine T_ast dX11_unique_5 (by decide) rfl ?_
    refine T_aload dX11_unique_7 rfl ?_
    refine T_ifnull (tgt := 19) dX11_unique_9 (by decide) (fun c9 => absurd c9 (by omega)) (fun c9 => ?_)
    refine T_iload_n dX11_unique_12 rfl ?_
    refine T_callS dX11_unique_13 lX11_181 (As := [_]) (rest := _) rfl rfl (by decide) (Nat.le_of_ble_eq_true rfl) (Nat.le_of_ble_eq_true rfl) t_isArmy ?_
    rintro _ _ ⟨rfl, rfl⟩
    refine T_if_ne (tgt := 22) dX11_unique_16 (by decide) (fun c16 => ?_) (fun c16 => ?_)
    · have h16 := bI_1 c16
      obtain ⟨a, rfl⟩ : ∃ z : Nat, a = (z : Int) := ⟨a.toNat, by omega⟩
      have hq : qUnique w (a : Int) x = if x = 0 then (if tfW w a = -1 then 1 else 0) else tfW w a := by unfold qUnique; rw [if_neg (fun z => z h16), Int.toNat_natCast]
      refine T_aload_n dX11_unique_22 rfl ?_
      refine T_getR dX11_unique_23 fX11_68 rfl k1 r1_9 ?_
      refine T_aload dX11_unique_26 rfl ?_
      refine T_iload_n dX11_unique_28 rfl ?_
      refine T_callV dX11_unique_29 lX11_442 (As := [_, _]) (rest := _) rfl rfl k102 (by decide) (Nat.le_of_ble_eq_true rfl) (Nat.le_of_ble_eq_true rfl) (t_shortestTwofold hw hO hV (by omega)) ?_
      rintro _ d1 ⟨rfl, f1⟩
      have f2 : Cf d d1 := f1.cf (by decide)
      refine T_ist dX11_unique_32 (by decide) rfl ?_
      refine T_iload_n dX11_unique_34 rfl ?_
      refine T_if_eq (tgt := 41) dX11_unique_35 (by decide) (fun c35 => ?_) (fun c35 => ?_)
      · refine T_iload dX11_unique_41 rfl ?_
        refine T_iconst dX11_unique_43 (by decide) ?_
        refine T_icmp_ne (tgt := 51) dX11_unique_44 (by decide) (fun c44 => ?_) (fun c44 => ?_)
        · refine T_iconst dX11_unique_51 (by decide) ?_
          exact T_ireturn dX11_unique_52 rfl ⟨by rw [hq, if_pos c35, if_neg c44], f2⟩
        · refine T_iconst dX11_unique_47 (by decide) ?_
          refine T_goto (tgt := 52) dX11_unique_48 (by decide) ?_
          exact T_ireturn dX11_unique_52 rfl ⟨by rw [hq, if_pos c35, if_pos c44], f2⟩
      · refine T_iload dX11_unique_38 rfl ?_
        exact T_ireturn dX11_unique_40 rfl ⟨by rw [hq, if_neg c35], f2⟩
    · have h16 := bI_0 c16
      refine T_bipush dX11_unique_19 (by decide) ?_
      exact T_ireturn dX11_unique_21 rfl ⟨by unfold qUnique; rw [if_pos h16], Cf.rf⟩

end C34
