/-! the class: a text is read line by line -/
section C64
variable {G : sG} {d d' d0 e : sD} {T : Nat → Int} {n p q : Nat} {x : Int × Int} {dr : Nat → Int}
theorem LnC_b {g : Bool × Nat} {t : sD → Prop} {r : Option sV} (h : LnC d0 T n g x t r d) : ∃ b : Int, (b = 0 ∨ b = 1) ∧ r = some (vI b) := by
  rcases h with z | ⟨_, z, _⟩
  · exact ⟨0, Or.inl rfl, z.1⟩
  · exact ⟨1, Or.inr rfl, z⟩
theorem c_rl87 {s : Nat} {sv wv b : Int} (hL : LnC d0 T n (gLn T n s p) (xLn T n s x dr p) (fun d => BCs s d ∧ ((xLn T n s x dr p).1 = 0 → Dt s d (dLn T n s dr p))) (some (vI b)) e) (hBn : ∀ (y : Prop) (w : Nat → Int) (d1 d2 : sD), (BCs s d1 ∧ (y → Dt s d1 w)) → NF d1 d2 → BCs s d2 ∧ (y → Dt s d2 w)) : tB G mX5_readLine 87 [vR 53, vI sv, vI wv, vI (p : Int), vI b] [] e (fun r d' => (r = some (vI 0) ∧ (gLn T n s p).1 = false ∧ CE d0 d' (gLn T n s p).2) ∨ (r = some (vI 1) ∧ (gLn T n s p).1 = true ∧ CR d0 d' T n (gLn T n s p).2 (xLn T n s x dr p) ∧ NL (xLn T n s x dr p) ((gLn T n s p).2 : Nat) ∧ BCs s d' ∧ ((xLn T n s x dr p).1 = 0 → Dt s d' (dLn T n s dr p)))) := by
  rcases hL with ⟨z, h1, h2⟩ | ⟨q, z, h1, h2, h3, h4⟩
  · have hb : b = 0 := by injection z with z; injection z
    subst hb
    refine T_iload dX5_readLine_87 rfl ?_
    refine T_if_eq (tgt := 103) dX5_readLine_89 (by decide) (fun c89 => ?_) (fun c89 => absurd rfl c89)
    refine T_iconst dX5_readLine_103 (by decide) ?_
    exact T_zreturn dX5_readLine_104 rfl (by omega) (Or.inl ⟨rfl, h1, h2⟩)
  · have hb : b = 1 := by injection z with z; injection z
    subst hb
    have hT := h2.tv
    have hq := h2.le
    refine T_iload dX5_readLine_87 rfl ?_
    refine T_if_eq (tgt := 103) dX5_readLine_89 (by decide) (fun c89 => absurd c89 (by decide)) (fun c89 => ?_)
    refine T_aload_n dX5_readLine_92 rfl ?_
    refine T_callV dX5_readLine_93 lX5_115 (As := []) (rest := _) rfl rfl k53 (by decide) (Nat.le_of_ble_eq_true rfl) (Nat.le_of_ble_eq_true rfl) (c_takeSemicolon h2) ?_
    rintro _ e2 (⟨hk, rfl, hR2, hN2⟩ | ⟨hk, rfl, rfl⟩)
    ·
      have hlt := hT.lt hq (show ¬ kdT T n q = 0 by omega)
      refine T_if_eq (tgt := 103) dX5_readLine_96 (by decide) (fun c96 => absurd c96 (by decide)) (fun c96 => ?_)
      refine T_iconst dX5_readLine_99 (by decide) ?_
      refine T_goto (tgt := 104) dX5_readLine_100 (by decide) ?_
      exact T_zreturn dX5_readLine_104 rfl (by omega) (Or.inr ⟨rfl, by rw [h1, show gSem T n q = (true, avT T n q) from if_pos hk], by rw [h1, show gSem T n q = (true, avT T n q) from if_pos hk]; exact hR2, by rw [h1, show gSem T n q = (true, avT T n q) from if_pos hk]; exact h3.mono (by show (q : Int) ≤ (avT T n q : Nat); omega), hBn _ _ _ _ h4 hN2⟩)
    ·
      refine T_if_eq (tgt := 103) dX5_readLine_96 (by decide) (fun c96 => ?_) (fun c96 => absurd rfl c96)
      refine T_iconst dX5_readLine_103 (by decide) ?_
      exact T_zreturn dX5_readLine_104 rfl (by omega) (Or.inl ⟨rfl, by rw [h1, show gSem T n q = (false, q) from if_neg hk], by rw [h1, show gSem T n q = (false, q) from if_neg hk]; exact h2.ce⟩)

theorem BDn {s : Nat} (hs : s < 4) : ∀ (y : Prop) (w : Nat → Int) (d1 d2 : sD), (BCs s d1 ∧ (y → Dt s d1 w)) → NF d1 d2 → BCs s d2 ∧ (y → Dt s d2 w) := by
  intro y w d1 d2 h hN
  rcases (show s = 0 ∨ s = 1 ∨ s = 2 ∨ s = 3 by omega) with rfl | rfl | rfl | rfl
  · exact ⟨BC0_nf h.1 hN, fun z => Wo_nf (h.2 z) hN⟩
  · exact ⟨BC1_nf h.1 hN, fun z => So_nf (h.2 z) hN⟩
  · exact ⟨trivial, fun z => Ho_nf (h.2 z) hN⟩
  · exact ⟨BC3_nf h.1 hN, fun z => Vo_nf (h.2 z) hN⟩
theorem c_readLine {s : Nat} {sv : Int} (hs : s < 4) (hsv : sv = (s : Int)) (h : CR d0 d T n p x) (hx : NL x p) (hB : BCs s d) (hd : x.1 = 0 → SV s dr ∧ Dt s d dr) : tB G mX5_readLine 0 [vR 53, vI sv, vU 0, vU 0, vU 0] [] d (fun r d' => (r = some (vI 0) ∧ (gLn T n s p).1 = false ∧ CE d0 d' (gLn T n s p).2) ∨ (r = some (vI 1) ∧ (gLn T n s p).1 = true ∧ CR d0 d' T n (gLn T n s p).2 (xLn T n s x dr p) ∧ NL (xLn T n s x dr p) ((gLn T n s p).2 : Nat) ∧ BCs s d' ∧ ((xLn T n s x dr p).1 = 0 → Dt s d' (dLn T n s dr p)))) := by
  have hBn := BDn hs
  have hcw := CK_cw h.ck
  have h16 : ∀ wv : Int, CW T n p wv → tB G mX5_readLine 16 [vR 53, vI sv, vU 0, vU 0, vU 0] [vI wv] d (fun r d' => (r = some (vI 0) ∧ (gLn T n s p).1 = false ∧ CE d0 d' (gLn T n s p).2) ∨ (r = some (vI 1) ∧ (gLn T n s p).1 = true ∧ CR d0 d' T n (gLn T n s p).2 (xLn T n s x dr p) ∧ NL (xLn T n s x dr p) ((gLn T n s p).2 : Nat) ∧ BCs s d' ∧ ((xLn T n s x dr p).1 = 0 → Dt s d' (dLn T n s dr p)))) := by
    intro wv hW
    refine T_ist_n dX5_readLine_16 (by decide) rfl ?_
    refine T_aload_n dX5_readLine_17 rfl ?_
    refine T_getIv dX5_readLine_18 fX5_65 rfl k53 (x := (p : Int)) h.pl ?_
    refine T_ist_n dX5_readLine_21 (by decide) rfl ?_
    refine T_iload_n dX5_readLine_22 rfl ?_
    by_cases hs0 : sv = 0
    · subst hs0
      refine T_tabIn (tgt := 48) (off := 25) dX5_readLine_23 (by decide) (by decide) (by decide) (by decide) ?_
      have hs0 : s = 0 := by omega
      subst hs0
      refine T_aload_n dX5_readLine_48 rfl ?_
      refine T_iload_n dX5_readLine_49 rfl ?_
      refine T_iload_n dX5_readLine_50 rfl ?_
      refine T_callV dX5_readLine_51 lX5_102 (As := [_, _]) (rest := _) rfl rfl k53 (by decide) (Nat.le_of_ble_eq_true rfl) (Nat.le_of_ble_eq_true rfl) (c_readWarLine h hx hW hB hd) ?_
      rintro r e1 hL
      obtain ⟨b, hb, rfl⟩ := LnC_b hL
      refine T_ist dX5_readLine_54 (by decide) rfl ?_
      refine T_goto (tgt := 87) dX5_readLine_56 (by decide) ?_
      exact c_rl87 hL hBn
    by_cases hs1 : sv = 1
    · subst hs1
      refine T_tabIn (tgt := 59) (off := 36) dX5_readLine_23 (by decide) (by decide) (by decide) (by decide) ?_
      have hs1 : s = 1 := by omega
      subst hs1
      refine T_aload_n dX5_readLine_59 rfl ?_
      refine T_iload_n dX5_readLine_60 rfl ?_
      refine T_callV dX5_readLine_61 lX5_106 (As := [_]) (rest := _) rfl rfl k53 (by decide) (Nat.le_of_ble_eq_true rfl) (Nat.le_of_ble_eq_true rfl) (c_readScoreLine h hx hW hB hd) ?_
      rintro r e1 hL
      obtain ⟨b, hb, rfl⟩ := LnC_b hL
      refine T_ist dX5_readLine_64 (by decide) rfl ?_
      refine T_goto (tgt := 87) dX5_readLine_66 (by decide) ?_
      exact c_rl87 hL hBn
    by_cases hs2 : sv = 2
    · subst hs2
      refine T_tabIn (tgt := 69) (off := 46) dX5_readLine_23 (by decide) (by decide) (by decide) (by decide) ?_
      have hs2 : s = 2 := by omega
      subst hs2
      refine T_aload_n dX5_readLine_69 rfl ?_
      refine T_iload_n dX5_readLine_70 rfl ?_
      refine T_callV dX5_readLine_71 lX5_109 (As := [_]) (rest := _) rfl rfl k53 (by decide) (Nat.le_of_ble_eq_true rfl) (Nat.le_of_ble_eq_true rfl) (c_readHearingLine h hx hW hd) ?_
      rintro r e1 hL
      obtain ⟨b, hb, rfl⟩ := LnC_b hL
      refine T_ist dX5_readLine_74 (by decide) rfl ?_
      refine T_goto (tgt := 87) dX5_readLine_76 (by decide) ?_
      exact c_rl87 (LnC_cg hL rfl rfl (fun z => ⟨trivial, z⟩)) hBn
    refine T_tabOut (tgt := 79) dX5_readLine_23 (by omega) (by decide) ?_
    have hs3 : s = 3 := by omega
    subst hs3
    refine T_aload_n dX5_readLine_79 rfl ?_
    refine T_iload_n dX5_readLine_80 rfl ?_
    refine T_iload_n dX5_readLine_81 rfl ?_
    refine T_callV dX5_readLine_82 lX5_112 (As := [_, _]) (rest := _) rfl rfl k53 (by decide) (Nat.le_of_ble_eq_true rfl) (Nat.le_of_ble_eq_true rfl) (c_readVillageLine h hx hW hB hd) ?_
    rintro r e1 hL
    obtain ⟨b, hb, rfl⟩ := LnC_b hL
    refine T_ist dX5_readLine_85 (by decide) rfl ?_
    exact c_rl87 hL hBn
  refine T_aload_n dX5_readLine_0 rfl ?_
  refine T_getIv dX5_readLine_1 fX5_62 rfl k53 (x := d 53 11) rfl ?_
  refine T_iconst dX5_readLine_4 (by decide) ?_
  refine T_icmp_ne (tgt := 15) dX5_readLine_5 (by decide) (fun c5 => ?_) (fun c5 => ?_)
  · refine T_iconst dX5_readLine_15 (by decide) ?_
    exact h16 (-1) (hcw.2 c5)
  · refine T_aload_n dX5_readLine_8 rfl ?_
    refine T_getIv dX5_readLine_9 fX5_68 rfl k53 (x := d 53 13) rfl ?_
    refine T_goto (tgt := 16) dX5_readLine_12 (by decide) ?_
    exact h16 _ (hcw.1 (by omega))

theorem c_r37 {s : Nat} {R : (Int × Int) × (Nat → Int)} (hs : s < 4) : ∀ z : ((Nat × Nat) × (Int × Int) × (Nat → Int)) × Nat × sD, (z.2.1 ≤ z.1.1.1 ∧ n + 1 - z.1.1.1 ≤ z.1.1.2 ∧ CR d0 z.2.2 T n z.1.1.1 z.1.2.1 ∧ NL z.1.2.1 (z.1.1.1 : Nat) ∧ BCs s z.2.2 ∧ (z.1.2.1.1 = 0 → SV s z.1.2.2 ∧ Dt s z.2.2 z.1.2.2) ∧ psT T n s z.1.1.2 z.1.1.1 z.1.2.1 z.1.2.2 = R) → tB G mX5_read 37 [vR 53, vR 3, vI n, vI (s : Int), vI z.2.1] [] z.2.2 (fun r d' => r = none ∧ Fr 53 77 d0 d' ∧ d' 53 4 = R.1.1 ∧ d' 53 5 = R.1.2 ∧ (R.1.1 = 0 → SV s R.2 ∧ Dt s d' R.2)) := by
  refine T_loop (α := ((Nat × Nat) × (Int × Int) × (Nat → Int)) × Nat × sD) 37 (fun z => [vR 53, vR 3, vI n, vI (s : Int), vI z.2.1]) (fun z => z.2.2) (fun z => z.2.1 ≤ z.1.1.1 ∧ n + 1 - z.1.1.1 ≤ z.1.1.2 ∧ CR d0 z.2.2 T n z.1.1.1 z.1.2.1 ∧ NL z.1.2.1 (z.1.1.1 : Nat) ∧ BCs s z.2.2 ∧ (z.1.2.1.1 = 0 → SV s z.1.2.2 ∧ Dt s z.2.2 z.1.2.2) ∧ psT T n s z.1.1.2 z.1.1.1 z.1.2.1 z.1.2.2 = R) (fun z => n + 1 - z.1.1.1) ?_
  rintro ⟨⟨⟨p, f⟩, x, dr⟩, l, e⟩ ⟨h1, h2, h3, h4, h5, h6, h7⟩ ih
  try dsimp only at h1 h2 h3 h4 h5 h6 h7 ih ⊢
  have hT := h3.tv
  have hn := hT.1
  have hp := h3.le
  obtain ⟨n1, n2, n3, n4⟩ := CK_n h3.ck
  obtain ⟨f, rfl⟩ : ∃ g, f = g + 1 := ⟨f - 1, by omega⟩
  have hu : psT T n s (f + 1) p x dr = if kdT T n p = 0 then (x, dr) else if (gLn T n s p).1 = true then psT T n s f (gLn T n s p).2 (xLn T n s x dr p) (dLn T n s dr p) else ((1, ((gLn T n s p).2 : Int)), dr) := rfl
  rw [hu] at h7
  refine T_iload dX5_read_37 rfl ?_
  refine T_sipush dX5_read_39 (by decide) ?_
  refine T_icmp_gt (tgt := 80) dX5_read_42 (by decide) (fun c42 => absurd c42 (by omega)) (fun c42 => ?_)
  refine T_aload_n dX5_read_45 rfl ?_
  refine T_getIv dX5_read_46 fX5_62 rfl k53 (x := e 53 11) rfl ?_
  refine T_if_eq (tgt := 80) dX5_read_49 (by decide) (fun c49 => ?_) (fun c49 => ?_)
  · exact T_return dX5_read_80 rfl ⟨rfl, h3.2.2.2, by rw [← h7, if_pos (n4.mp c49)]; exact h3.2.1, by rw [← h7, if_pos (n4.mp c49)]; exact h3.2.2.1, fun z => by rw [← h7, if_pos (n4.mp c49)] at z ⊢; exact h6 z⟩
  · rw [if_neg (fun z => c49 (n4.mpr z))] at h7
    refine T_aload_n dX5_read_52 rfl ?_
    refine T_iload_n dX5_read_53 rfl ?_
    refine T_callV dX5_read_54 lX5_90 (As := [_]) (rest := _) rfl rfl k53 (by decide) (Nat.le_of_ble_eq_true rfl) (Nat.le_of_ble_eq_true rfl) (c_readLine hs rfl h3 h4 h5 h6) ?_
    rintro _ e2 (⟨rfl, hg, hc⟩ | ⟨rfl, hg, hR, hN, hB2, hD⟩)
    ·
      rw [if_neg (by rw [hg]; decide)] at h7
      refine T_if_ne (tgt := 74) dX5_read_57 (by decide) (fun c57 => absurd rfl c57) (fun c57 => ?_)
      refine T_aload_n dX5_read_60 rfl ?_
      refine T_iconst dX5_read_61 (by decide) ?_
      refine T_putI dX5_read_62 fX5_39 rfl k53 ?_
      refine T_aload_n dX5_read_65 rfl ?_
      refine T_aload_n dX5_read_66 rfl ?_
      refine T_getIv dX5_read_67 fX5_65 rfl k53 (x := ((gLn T n s p).2 : Int)) (by rw [up_nej (by decide)]; exact hc.1) ?_
      refine T_putI dX5_read_70 fX5_43 rfl k53 ?_
      exact T_return dX5_read_73 rfl ⟨rfl, (hc.2.up (by decide)).up (by decide), by rw [← h7, up_nej (by decide), up_same], by rw [← h7, up_same], fun z => absurd z (by rw [← h7]; exact fun y => absurd (show (1 : Int) = 0 from y) (by decide))⟩
    ·
      rw [if_pos hg] at h7
      have hon := gOn_ln (s := s) hT hp hg
      refine T_if_ne (tgt := 74) dX5_read_57 (by decide) (fun c57 => ?_) (fun c57 => absurd c57 (by decide))
      refine T_inc dX5_read_74 rfl (by decide) rfl (by omega) ?_
      refine T_goto (tgt := 37) dX5_read_77 (by decide) ?_
      refine ih ((((gLn T n s p).2, f), xLn T n s x dr p, dLn T n s dr p), l + 1, e2) ⟨by (try dsimp only); omega, by (try dsimp only); omega, hR, hN, hB2, fun z => ⟨SV_ln hT hp (h6 (by rw [← KP_ln z]; exact z)).1 hg z, hD z⟩, h7⟩ (by (try dsimp only); omega)

end C64
