/-! the class: drafts are cleared -/
section C63
variable {G : sG} {d d' d0 e : sD} {T : Nat → Int} {n p q : Nat} {x : Int × Int} {dr : Nat → Int}
theorem c_wreset : tB G mX10_reset 0 [vR 54, vU 0] [] d (fun r d' => r = none ∧ Wo d' 54 (clS 0) ∧ BC0 d' ∧ Fr 54 63 d d') := by
  have hfin : ∀ e : sD, (∀ b, b < 4 → e 55 b = (b : Int)) → (∀ a, a < 2 → e 56 a = 0 ∧ e 57 a = 1 ∧ e 58 a = 0 ∧ e 59 a = 10 * (a : Int) ∧ e 60 a = 0) → (∀ b j, (b < 55 ∨ 60 < b) → e b j = (up (up (up d 54 0 1) 54 1 0) 54 2 0) b j) → (fun r d' => r = none ∧ Wo d' 54 (clS 0) ∧ BC0 d' ∧ Fr 54 63 d d') (none : Option sV) e := by
    intro e h1 h2 h3
    have f0 : e 54 0 = 1 := by rw [h3 54 0 (by decide), up_nej (by decide), up_nej (by decide), up_same]
    have f1 : e 54 1 = 0 := by rw [h3 54 1 (by decide), up_nej (by decide), up_same]
    have f2 : e 54 2 = 0 := by rw [h3 54 2 (by decide), up_same]
    have c15 : ∀ a, a < 2 → clS 0 (15 + a) = 0 := by decide
    refine ⟨rfl, ⟨⟨f0, f1, f2⟩, fun b hb => ?_, fun a ha => ?_, fun a k ha hk => ?_⟩, fun a ha => ?_, fun b j hb => ?_⟩
    · show e 55 b = _
      rw [h1 b hb]
      rcases (show b = 0 ∨ b = 1 ∨ b = 2 ∨ b = 3 by omega) with rfl | rfl | rfl | rfl <;> decide
    · obtain ⟨g1, g2, g3, g4, g5⟩ := h2 a ha
      show e 56 a = _ ∧ e 57 a = _ ∧ e 58 a = _ ∧ e 59 a = _ ∧ e 60 a = _
      rw [g1, g2, g3, g4, g5]
      rcases (show a = 0 ∨ a = 1 by omega) with rfl | rfl <;> decide
    · rw [c15 a ha] at hk; omega
    · rw [(h2 a ha).2.2.2.2]; decide
    · rw [h3 b j (by omega), up_nea (by omega), up_nea (by omega), up_nea (by omega)]
  have h37 : ∀ z : Nat × sD, (z.1 ≤ 2 ∧ (∀ b, b < 4 → z.2 55 b = (b : Int)) ∧ (∀ a, a < z.1 → z.2 56 a = 0 ∧ z.2 57 a = 1 ∧ z.2 58 a = 0 ∧ z.2 59 a = 10 * (a : Int) ∧ z.2 60 a = 0) ∧ ∀ b j, (b < 55 ∨ 60 < b) → z.2 b j = (up (up (up d 54 0 1) 54 1 0) 54 2 0) b j) → tB G mX10_reset 37 [vR 54, vI z.1] [] z.2 (fun r d' => r = none ∧ Wo d' 54 (clS 0) ∧ BC0 d' ∧ Fr 54 63 d d') := by
    refine T_loop (α := Nat × sD) 37 (fun z => [vR 54, vI z.1]) (fun z => z.2) (fun z => z.1 ≤ 2 ∧ (∀ b, b < 4 → z.2 55 b = (b : Int)) ∧ (∀ a, a < z.1 → z.2 56 a = 0 ∧ z.2 57 a = 1 ∧ z.2 58 a = 0 ∧ z.2 59 a = 10 * (a : Int) ∧ z.2 60 a = 0) ∧ ∀ b j, (b < 55 ∨ 60 < b) → z.2 b j = (up (up (up d 54 0 1) 54 1 0) 54 2 0) b j) (fun z => 2 - z.1) ?_
    rintro ⟨i, e⟩ ⟨h1, h2, h3, h4⟩ ih
    try dsimp only at h1 h2 h3 h4 ih ⊢
    refine T_iload_n dX10_reset_37 rfl ?_
    refine T_iconst dX10_reset_38 (by decide) ?_
    refine T_icmp_ge (tgt := 86) dX10_reset_39 (by decide) (fun c39 => ?_) (fun c39 => ?_)
    · exact T_return dX10_reset_86 rfl (hfin e h2 (fun a ha => h3 a (by omega)) h4)
    · refine T_aload_n dX10_reset_42 rfl ?_
      refine T_getR dX10_reset_43 fX10_15 rfl k54 r54_4 ?_
      refine T_iload_n dX10_reset_46 rfl ?_
      refine T_iconst dX10_reset_47 (by decide) ?_
      refine T_iast dX10_reset_48 k56 l56 (by omega) (j := i) (by omega) ?_
      refine T_aload_n dX10_reset_49 rfl ?_
      refine T_getR dX10_reset_50 fX10_18 rfl k54 r54_5 ?_
      refine T_iload_n dX10_reset_53 rfl ?_
      refine T_iconst dX10_reset_54 (by decide) ?_
      refine T_iast dX10_reset_55 k57 l57 (by omega) (j := i) (by omega) ?_
      refine T_aload_n dX10_reset_56 rfl ?_
      refine T_getR dX10_reset_57 fX10_21 rfl k54 r54_6 ?_
      refine T_iload_n dX10_reset_60 rfl ?_
      refine T_iconst dX10_reset_61 (by decide) ?_
      refine T_iast dX10_reset_62 k58 l58 (by omega) (j := i) (by omega) ?_
      refine T_aload_n dX10_reset_63 rfl ?_
      refine T_getR dX10_reset_64 fX10_24 rfl k54 r54_7 ?_
      refine T_iload_n dX10_reset_67 rfl ?_
      refine T_bipush dX10_reset_68 (by decide) ?_
      refine T_iload_n dX10_reset_70 rfl ?_
      refine T_mul dX10_reset_71 (by omega) ?_
      refine T_iast dX10_reset_72 k59 l59 (by omega) (j := i) (by omega) ?_
      refine T_aload_n dX10_reset_73 rfl ?_
      refine T_getR dX10_reset_74 fX10_27 rfl k54 r54_8 ?_
      refine T_iload_n dX10_reset_77 rfl ?_
      refine T_iconst dX10_reset_78 (by decide) ?_
      refine T_iast dX10_reset_79 k60 l60 (by omega) (j := i) (by omega) ?_
      refine T_inc dX10_reset_80 rfl (by decide) rfl (by omega) ?_
      refine T_goto (tgt := 37) dX10_reset_83 (by decide) ?_
      refine ih (i + 1, up (up (up (up (up e 56 i 0) 57 i 1) 58 i 0) 59 i (10 * (i : Int))) 60 i 0) ⟨by omega, fun b hb => ?_, fun a ha => ?_, fun b j hb => ?_⟩ (by omega)
      · try dsimp only
        rw [up_nea (by decide), up_nea (by decide), up_nea (by decide), up_nea (by decide), up_nea (by decide)]; exact h2 b hb
      · try dsimp only at ha ⊢
        by_cases y : a = i
        · rw [y, up_nea (by decide), up_nea (by decide), up_nea (by decide), up_nea (by decide), up_same, up_nea (by decide), up_nea (by decide), up_nea (by decide), up_same, up_nea (by decide), up_nea (by decide), up_same, up_nea (by decide), up_same, up_same]
          exact ⟨rfl, rfl, rfl, rfl, rfl⟩
        · obtain ⟨g1, g2, g3, g4, g5⟩ := h3 a (by omega)
          rw [up_nea (by decide), up_nea (by decide), up_nea (by decide), up_nea (by decide), up_nej y, up_nea (by decide), up_nea (by decide), up_nea (by decide), up_nej y, up_nea (by decide), up_nea (by decide), up_nea (by decide), up_nej y, up_nea (by decide), up_nea (by decide), up_nea (by decide), up_nej y, up_nea (by decide), up_nea (by decide), up_nea (by decide), up_nej y, up_nea (by decide), up_nea (by decide), up_nea (by decide), up_nea (by decide)]
          exact ⟨g1, g2, g3, g4, g5⟩
      · try dsimp only
        rw [up_nea (by omega), up_nea (by omega), up_nea (by omega), up_nea (by omega), up_nea (by omega)]; exact h4 b j hb
  have h17 : ∀ z : Nat × sD, (z.1 ≤ 4 ∧ (∀ b, b < z.1 → z.2 55 b = (b : Int)) ∧ ∀ b j, b ≠ 55 → z.2 b j = (up (up (up d 54 0 1) 54 1 0) 54 2 0) b j) → tB G mX10_reset 17 [vR 54, vI z.1] [] z.2 (fun r d' => r = none ∧ Wo d' 54 (clS 0) ∧ BC0 d' ∧ Fr 54 63 d d') := by
    refine T_loop (α := Nat × sD) 17 (fun z => [vR 54, vI z.1]) (fun z => z.2) (fun z => z.1 ≤ 4 ∧ (∀ b, b < z.1 → z.2 55 b = (b : Int)) ∧ ∀ b j, b ≠ 55 → z.2 b j = (up (up (up d 54 0 1) 54 1 0) 54 2 0) b j) (fun z => 4 - z.1) ?_
    rintro ⟨i, e⟩ ⟨h1, h2, h4⟩ ih
    try dsimp only at h1 h2 h4 ih ⊢
    refine T_iload_n dX10_reset_17 rfl ?_
    refine T_iconst dX10_reset_18 (by decide) ?_
    refine T_icmp_ge (tgt := 35) dX10_reset_19 (by decide) (fun c19 => ?_) (fun c19 => ?_)
    · refine T_iconst dX10_reset_35 (by decide) ?_
      refine T_ist_n dX10_reset_36 (by decide) rfl ?_
      exact h37 (0, e) ⟨Nat.zero_le _, fun b hb => h2 b (by omega), fun a ha => absurd ha (by (try dsimp only); omega), fun b j hb => h4 b j (by omega)⟩
    · refine T_aload_n dX10_reset_22 rfl ?_
      refine T_getR dX10_reset_23 fX10_9 rfl k54 r54_3 ?_
      refine T_iload_n dX10_reset_26 rfl ?_
      refine T_iload_n dX10_reset_27 rfl ?_
      refine T_iast dX10_reset_28 k55 l55 (by omega) (j := i) (by omega) ?_
      refine T_inc dX10_reset_29 rfl (by decide) rfl (by omega) ?_
      refine T_goto (tgt := 17) dX10_reset_32 (by decide) ?_
      refine ih (i + 1, up e 55 i (i : Int)) ⟨by omega, fun b hb => ?_, fun b j hb => ?_⟩ (by omega)
      · try dsimp only at hb ⊢
        by_cases y : b = i
        · rw [y, up_same]
        · rw [up_nej y]; exact h2 b (by omega)
      · try dsimp only
        rw [up_nea hb]; exact h4 b j hb
  refine T_aload_n dX10_reset_0 rfl ?_
  refine T_iconst dX10_reset_1 (by decide) ?_
  refine T_putI dX10_reset_2 fX10_42 rfl k54 ?_
  refine T_aload_n dX10_reset_5 rfl ?_
  refine T_iconst dX10_reset_6 (by decide) ?_
  refine T_putI dX10_reset_7 fX10_46 rfl k54 ?_
  refine T_aload_n dX10_reset_10 rfl ?_
  refine T_iconst dX10_reset_11 (by decide) ?_
  refine T_putI dX10_reset_12 fX10_49 rfl k54 ?_
  refine T_iconst dX10_reset_15 (by decide) ?_
  refine T_ist_n dX10_reset_16 (by decide) rfl ?_
  refine T_nm (fun m2 hm2 => h17 (0, m2) ?_ )
  subst hm2
  try dsimp only
  refine ⟨Nat.zero_le _, fun b hb => absurd hb (by (try dsimp only); omega), fun b j _ => rfl⟩

theorem c_sreset : tB G mX6_reset 0 [vR 64] [] d (fun r d' => r = none ∧ d' = up (up d 65 0 0) 65 1 0) := by
  refine T_aload_n dX6_reset_0 rfl ?_
  refine T_getR dX6_reset_1 fX6_9 rfl k64 r64_0 ?_
  refine T_iconst dX6_reset_4 (by decide) ?_
  refine T_iconst dX6_reset_5 (by decide) ?_
  refine T_iast dX6_reset_6 k65 l65 (by omega) (j := 0) rfl ?_
  refine T_aload_n dX6_reset_7 rfl ?_
  refine T_getR dX6_reset_8 fX6_9 rfl k64 r64_0 ?_
  refine T_iconst dX6_reset_11 (by decide) ?_
  refine T_iconst dX6_reset_12 (by decide) ?_
  refine T_iast dX6_reset_13 k65 l65 (by omega) (j := 1) rfl ?_
  exact T_return dX6_reset_14 rfl ⟨rfl, rfl⟩

theorem c_hreset : tB G mX4_reset 0 [vR 67] [] d (fun r d' => r = none ∧ d' = up (up d 68 0 (-1)) 68 1 (-1)) := by
  refine T_aload_n dX4_reset_0 rfl ?_
  refine T_getR dX4_reset_1 fX4_9 rfl k67 r67_0 ?_
  refine T_iconst dX4_reset_4 (by decide) ?_
  refine T_iconst dX4_reset_5 (by decide) ?_
  refine T_iast dX4_reset_6 k68 l68 (by omega) (j := 0) rfl ?_
  refine T_aload_n dX4_reset_7 rfl ?_
  refine T_getR dX4_reset_8 fX4_9 rfl k67 r67_0 ?_
  refine T_iconst dX4_reset_11 (by decide) ?_
  refine T_iconst dX4_reset_12 (by decide) ?_
  refine T_iast dX4_reset_13 k68 l68 (by omega) (j := 1) rfl ?_
  exact T_return dX4_reset_14 rfl ⟨rfl, rfl⟩

/-- the draft of a sort; its counts -/
def Dt (s : Nat) (d : sD) (w : Nat → Int) : Prop := if s = 0 then Wo d 54 w else if s = 1 then So d 64 w else if s = 2 then Ho d 67 w else Vo d 70 w
def BCs (s : Nat) (d : sD) : Prop := if s = 0 then BC0 d else if s = 1 then BC1 d else if s = 2 then True else BC3 d
theorem c_resetDrafts {s : Nat} (hs : s < 4) : tB G mX5_resetDrafts 0 [vR 53] [] d (fun r d' => r = none ∧ Dt s d' (clS (s : Int)) ∧ BCs s d' ∧ Fr 54 74 d d') := by
  refine T_aload_n dX5_resetDrafts_0 rfl ?_
  refine T_getR dX5_resetDrafts_1 fX5_12 rfl k53 r53_0 ?_
  refine T_callV dX5_resetDrafts_4 lX5_94 (As := []) (rest := _) rfl rfl k54 (by decide) (Nat.le_of_ble_eq_true rfl) (Nat.le_of_ble_eq_true rfl) (c_wreset) ?_
  rintro _ e1 ⟨rfl, hW, hB, hF⟩
  refine T_aload_n dX5_resetDrafts_7 rfl ?_
  refine T_getR dX5_resetDrafts_8 fX5_21 rfl k53 r53_1 ?_
  refine T_callV dX5_resetDrafts_11 lX5_97 (As := []) (rest := _) rfl rfl k64 (by decide) (Nat.le_of_ble_eq_true rfl) (Nat.le_of_ble_eq_true rfl) (c_sreset) ?_
  rintro _ _ ⟨rfl, rfl⟩
  refine T_aload_n dX5_resetDrafts_14 rfl ?_
  refine T_getR dX5_resetDrafts_15 fX5_28 rfl k53 r53_2 ?_
  refine T_callV dX5_resetDrafts_18 lX5_98 (As := []) (rest := _) rfl rfl k67 (by decide) (Nat.le_of_ble_eq_true rfl) (Nat.le_of_ble_eq_true rfl) (c_hreset) ?_
  rintro _ _ ⟨rfl, rfl⟩
  refine T_aload_n dX5_resetDrafts_21 rfl ?_
  refine T_getR dX5_resetDrafts_22 fX5_35 rfl k53 r53_3 ?_
  refine T_iconst dX5_resetDrafts_25 (by decide) ?_
  refine T_putI dX5_resetDrafts_26 fX5_99 rfl k70 ?_
  refine T_return dX5_resetDrafts_29 rfl ⟨rfl, ?_, ?_, fun b j hb => ?_⟩
  · rcases (show s = 0 ∨ s = 1 ∨ s = 2 ∨ s = 3 by omega) with rfl | rfl | rfl | rfl
    · exact Wo_eq hW (fun x j hx => by rw [up_nea (by omega), up_nea (by omega), up_nea (by omega), up_nea (by omega), up_nea (by omega)])
    · intro a ha
      show up (up (up (up (up e1 65 0 0) 65 1 0) 68 0 (-1)) 68 1 (-1)) 70 0 0 65 a = _ ∧ _
      rcases (show a = 0 ∨ a = 1 by omega) with rfl | rfl
      · exact ⟨by rw [up_nea (by decide), up_nea (by decide), up_nea (by decide), up_nej (by decide), up_same]; rfl, fun k hk => absurd (show (k : Int) < 0 from hk) (by omega)⟩
      · exact ⟨by rw [up_nea (by decide), up_nea (by decide), up_nea (by decide), up_same]; rfl, fun k hk => absurd (show (k : Int) < 0 from hk) (by omega)⟩
    · intro a ha
      show up (up (up (up (up e1 65 0 0) 65 1 0) 68 0 (-1)) 68 1 (-1)) 70 0 0 68 a = _ ∧ _
      rcases (show a = 0 ∨ a = 1 by omega) with rfl | rfl
      · exact ⟨by rw [up_nea (by decide), up_nej (by decide), up_same]; rfl, fun k hk => absurd (show (k : Int) < -1 from hk) (by omega)⟩
      · exact ⟨by rw [up_nea (by decide), up_same]; rfl, fun k hk => absurd (show (k : Int) < -1 from hk) (by omega)⟩
    · exact ⟨by show up (up (up (up (up e1 65 0 0) 65 1 0) 68 0 (-1)) 68 1 (-1)) 70 0 0 70 0 = _; rw [up_same]; rfl, fun k hk => absurd (show (k : Int) < 0 from hk) (by omega)⟩
  · rcases (show s = 0 ∨ s = 1 ∨ s = 2 ∨ s = 3 by omega) with rfl | rfl | rfl | rfl
    · exact fun a ha => by rw [up_nea (by decide), up_nea (by decide), up_nea (by decide), up_nea (by decide), up_nea (by decide)]; exact hB a ha
    · exact fun a ha => by
        rw [up_nea (by decide), up_nea (by decide), up_nea (by decide)]
        rcases (show a = 0 ∨ a = 1 by omega) with rfl | rfl
        · rw [up_nej (by decide), up_same]; decide
        · rw [up_same]; decide
    · exact trivial
    · exact ⟨by rw [up_same]; decide, by rw [up_same]; decide⟩
  · rw [up_nea (by omega), up_nea (by omega), up_nea (by omega), up_nea (by omega), up_nea (by omega)]; exact hF b j (by omega)

end C63
