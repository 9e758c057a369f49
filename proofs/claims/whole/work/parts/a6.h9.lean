/-! the class: a line of a score -/
section C52
variable {G : sG} {d d' d0 e : sD} {T : Nat → Int} {n p q : Nat} {x : Int × Int} {dr : Nat → Int}
/-- the word that a line begins with, by the class's number -/
def CW (T : Nat → Int) (n p : Nat) (w : Int) : Prop := (kdT T n p = 3 ∧ w = cwT (woT T n p) ∧ 1 ≤ woT T n p ∧ woT T n p ≤ 24) ∨ (¬ kdT T n p = 3 ∧ w = -1)
theorem CK_cw {k v : Int} (h : CK T n p k v) : (k = 1 → CW T n p v) ∧ (¬ k = 1 → CW T n p (-1)) := by
  unfold CK at h
  rcases h with ⟨h1, h2⟩ | ⟨h1, h2, h3⟩ | ⟨h1, h2⟩ | ⟨h1, h2, h3, h4⟩ | ⟨h1, h2⟩
  · exact ⟨fun z => by omega, fun z => Or.inr ⟨by omega, rfl⟩⟩
  · exact ⟨fun z => by omega, fun z => Or.inr ⟨by omega, rfl⟩⟩
  · exact ⟨fun z => by omega, fun z => Or.inr ⟨by omega, rfl⟩⟩
  · exact ⟨fun z => Or.inl ⟨h1, h3, h4⟩, fun z => absurd h2 z⟩
  · exact ⟨fun z => Or.inr ⟨by omega, by omega⟩, fun z => Or.inr ⟨by omega, rfl⟩⟩
theorem CW_lo {w : Int} (h : CW T n p w) : (9 ≤ w ∧ w ≤ 17 ↔ isW T n p 1 9) ∧ (9 ≤ w ∧ w ≤ 17 → w = woT T n p + 8) := by
  rcases h with ⟨h1, h2, h3⟩ | ⟨h1, h2⟩
  · unfold cwT at h2
    split at h2
    · exact ⟨⟨fun z => ⟨h1, by omega, by omega⟩, fun z => by omega⟩, fun z => h2⟩
    · split at h2
      · exact ⟨⟨fun z => by omega, fun z => by have := z.2; omega⟩, fun z => by omega⟩
      · exact ⟨⟨fun z => by omega, fun z => by have := z.2; omega⟩, fun z => by omega⟩
  · exact ⟨⟨fun z => by omega, fun z => absurd z.1 h1⟩, fun z => by omega⟩
theorem CW_hi {w : Int} (h : CW T n p w) : (w = 18 ↔ isW T n p 19 19) ∧ (w = 19 ↔ isW T n p 20 20) ∧ (20 ≤ w ↔ isW T n p 21 24) ∧ (20 ≤ w → w = woT T n p - 1 ∧ w ≤ 23) := by
  rcases h with ⟨h1, h2, h3⟩ | ⟨h1, h2⟩
  · unfold cwT at h2
    split at h2
    · exact ⟨⟨fun z => by omega, fun z => by have := z.2; omega⟩, ⟨fun z => by omega, fun z => by have := z.2; omega⟩, ⟨fun z => by omega, fun z => by have := z.2; omega⟩, fun z => by omega⟩
    · split at h2
      · exact ⟨⟨fun z => by omega, fun z => by have := z.2; omega⟩, ⟨fun z => by omega, fun z => by have := z.2; omega⟩, ⟨fun z => by omega, fun z => by have := z.2; omega⟩, fun z => by omega⟩
      · exact ⟨⟨fun z => ⟨h1, by omega, by omega⟩, fun z => by have := z.2; omega⟩, ⟨fun z => ⟨h1, by omega, by omega⟩, fun z => by have := z.2; omega⟩, ⟨fun z => ⟨h1, by omega, by omega⟩, fun z => by have := z.2; omega⟩, fun z => ⟨h2, by omega⟩⟩
  · exact ⟨⟨fun z => by omega, fun z => absurd z.1 h1⟩, ⟨fun z => by omega, fun z => absurd z.1 h1⟩, ⟨fun z => by omega, fun z => absurd z.1 h1⟩, fun z => by omega⟩
def BC1 (d : sD) : Prop := ∀ a, a < 2 → 0 ≤ d 65 a ∧ d 65 a ≤ 12
theorem BC1_nf (h : BC1 d) (hN : NF d d') : BC1 d' := fun a ha => by rw [hN 65 a (by decide)]; exact h a ha
theorem So_nf (h : So d 64 dr) (hN : NF d d') : So d' 64 dr := So_eq h (fun x j hx => hN _ _ (by omega))
theorem So_add {g : Nat} {h h' : Nat → Int} {v : Int} (hg : g < 2) (hS : So e 64 h) (hB : ∀ a, a < 2 → 0 ≤ h a ∧ h a ≤ 12) (hc : h g < 12) (h1 : h' g = h g + 1) (h2 : h' (2 + 12 * g + (h g).toNat) = v) (h3 : ∀ i, i ≠ g → i ≠ 2 + 12 * g + (h g).toNat → h' i = h i) : So (up (up e 66 (12 * g + (h g).toNat) v) 65 g (h g + 1)) 64 h' := fun a ha => by
  have hBg := hB g hg
  have hBa := hB a ha
  obtain ⟨s1, s2⟩ := hS a ha
  show up (up e 66 (12 * g + (h g).toNat) v) 65 g (h g + 1) 65 a = h' a ∧ ∀ k : Nat, (k : Int) < h' a → up (up e 66 (12 * g + (h g).toNat) v) 65 g (h g + 1) 66 (12 * a + k) = h' (2 + 12 * a + k)
  by_cases z : a = g
  · subst z
    refine ⟨by rw [up_same, h1], fun k hk => ?_⟩
    rw [up_nea (by decide)]
    by_cases y : k = (h a).toNat
    · rw [y, up_same, h2]
    · rw [up_nej (by omega), h3 _ (by omega) (by omega)]
      exact s2 k (by omega)
  · have ea : h' a = h a := h3 a z (by omega)
    refine ⟨by rw [up_nej z, up_nea (by decide), ea]; exact s1, fun k hk => ?_⟩
    rw [ea] at hk
    rw [up_nea (by decide), up_nej (by omega), h3 _ (by omega) (by omega)]
    exact s2 k hk

theorem c_addGiven {g : Nat} (h : CR d0 e T n q x) (hx : NL x q) (hw : isW T n q 10 13) (hB : BC1 e) (hg : g < 2) : tB G mX5_addGiven 0 [vR 53, vI g, vU 0] [] e (fun r d' => r = none ∧ ((e 65 g < 12 ∧ d' = up (up e 66 (12 * g + (e 65 g).toNat) (woT T n q - 10)) 65 g (e 65 g + 1)) ∨ (¬ e 65 g < 12 ∧ CR d0 d' T n q (ntA x 3 q) ∧ NF e d'))) := by
  have hg12 := hB g hg
  have hv := (CK_bv h.ck ⟨hw.1, by have := hw.2; omega, by have := hw.2; omega⟩).2
  refine T_aload_n dX5_addGiven_0 rfl ?_
  refine T_getR dX5_addGiven_1 fX5_21 rfl k53 r53_1 ?_
  refine T_getR dX5_addGiven_4 fX5_196 rfl k64 r64_0 ?_
  refine T_iload_n dX5_addGiven_7 rfl ?_
  refine T_ialdv dX5_addGiven_8 k65 l65 (by omega) (j := g) (by omega) (x := e 65 g) rfl ?_
  refine T_ist_n dX5_addGiven_9 (by decide) rfl ?_
  refine T_iload_n dX5_addGiven_10 rfl ?_
  refine T_bipush dX5_addGiven_11 (by decide) ?_
  refine T_icmp_lt (tgt := 26) dX5_addGiven_13 (by decide) (fun c13 => ?_) (fun c13 => ?_)
  · refine T_aload_n dX5_addGiven_26 rfl ?_
    refine T_getR dX5_addGiven_27 fX5_21 rfl k53 r53_1 ?_
    refine T_getR dX5_addGiven_30 fX5_199 rfl k64 r64_1 ?_
    refine T_iload_n dX5_addGiven_33 rfl ?_
    refine T_bipush dX5_addGiven_34 (by decide) ?_
    refine T_mul dX5_addGiven_36 (by omega) ?_
    refine T_iload_n dX5_addGiven_37 rfl ?_
    refine T_add dX5_addGiven_38 (by omega) ?_
    refine T_aload_n dX5_addGiven_39 rfl ?_
    refine T_getIv dX5_addGiven_40 fX5_68 rfl k53 (x := woT T n q - 10) hv ?_
    refine T_iast dX5_addGiven_43 k66 l66 (by omega) (j := 12 * g + (e 65 g).toNat) (by omega) ?_
    refine T_aload_n dX5_addGiven_44 rfl ?_
    refine T_getR dX5_addGiven_45 fX5_21 rfl k53 r53_1 ?_
    refine T_getR dX5_addGiven_48 fX5_196 rfl k64 r64_0 ?_
    refine T_iload_n dX5_addGiven_51 rfl ?_
    refine T_iload_n dX5_addGiven_52 rfl ?_
    refine T_iconst dX5_addGiven_53 (by decide) ?_
    refine T_add dX5_addGiven_54 (by omega) ?_
    refine T_iast dX5_addGiven_55 k65 l65 (by omega) (j := g) (by omega) ?_
    exact T_return dX5_addGiven_56 rfl ⟨rfl, Or.inl ⟨c13, rfl⟩⟩
  · refine T_aload_n dX5_addGiven_16 rfl ?_
    refine T_iconst dX5_addGiven_17 (by decide) ?_
    refine T_aload_n dX5_addGiven_18 rfl ?_
    refine T_getIv dX5_addGiven_19 fX5_65 rfl k53 (x := (q : Int)) h.pl ?_
    refine T_callV dX5_addGiven_22 lX5_170 (As := [_, _]) (rest := _) rfl rfl k53 (by decide) (Nat.le_of_ble_eq_true rfl) (Nat.le_of_ble_eq_true rfl) (c_noteR h hx) ?_
    rintro _ e2 ⟨rfl, hR2, hN2, h14b⟩
    exact T_return dX5_addGiven_25 rfl ⟨rfl, Or.inr ⟨c13, hR2, hN2⟩⟩

theorem dSj_n {g j i : Nat} (h1 : i ≠ g) (h2 : i ≠ 2 + 12 * g + (dSj T n dr g p j g).toNat) (hc : 0 ≤ dr g) : dSj T n dr g p (j + 1) i = dSj T n dr g p j i := by
  have eg : dSj T n dr g p j g = dr g + j := if_pos rfl
  rw [eg] at h2
  show (if _ then _ else if _ then _ else _) = if _ then _ else if _ then _ else _
  rw [if_neg h1, if_neg h1]
  by_cases u : 2 + 12 * g + (dr g).toNat ≤ i ∧ i < 2 + 12 * g + (dr g).toNat + j
  · rw [if_pos u, if_pos (by omega)]
  · rw [if_neg u, if_neg (by omega)]
theorem dSj_at {g j : Nat} (hc : 0 ≤ dr g) : dSj T n dr g p (j + 1) (2 + 12 * g + (dSj T n dr g p j g).toNat) = woT T n (tkI T n j p) - 10 := by
  have eg : dSj T n dr g p j g = dr g + j := if_pos rfl
  rw [eg]
  show (if _ then _ else if _ then _ else _) = _
  rw [if_neg (by omega), if_pos (by omega), show 2 + 12 * g + (dr g + (j : Int)).toNat - (2 + 12 * g + (dr g).toNat) = j by omega]
theorem So_sj {g j : Nat} (hg : g < 2) (hG : GV dr) (hS : So e 64 (dSj T n dr g p j)) (hc : dr g + j < 12) : So (up (up e 66 (12 * g + (dSj T n dr g p j g).toNat) (woT T n (tkI T n j p) - 10)) 65 g (dSj T n dr g p j g + 1)) 64 (dSj T n dr g p (j + 1)) := by
  have h0 := (hG g hg).1
  have eg : ∀ j, dSj T n dr g p j g = dr g + (j : Int) := fun j => if_pos rfl
  refine So_add hg hS (fun a ha => ?_) (by rw [eg]; exact hc) (by rw [eg, eg]; omega) (dSj_at h0.1) (fun i h1 h2 => dSj_n h1 h2 h0.1)
  by_cases z : a = g
  · rw [z, eg]; omega
  · have ha2 := (hG a ha).1
    rw [show dSj T n dr g p j a = dr a by show (if _ then _ else if _ then _ else _) = _; rw [if_neg z, if_neg (by omega)]]
    exact ha2
theorem c_sco37 {g p2 : Nat} {gv wv : Int} {x1 : Int × Int} (hp2 : p2 ≤ n) (hg : g < 2) (hgv : (gv = -1 ∧ ¬ x1.1 = 0) ∨ gv = (g : Int)) (hG : x1.1 = 0 → GV dr) : ∀ z : Nat × sD, (z.1 ≤ nbT T n 10 13 p2 ∧ CR d0 z.2 T n (tkI T n z.1 p2) (xSj T n x1 (dr g) p2 z.1) ∧ NL (xSj T n x1 (dr g) p2 z.1) (tkI T n z.1 p2 : Nat) ∧ BC1 z.2 ∧ ((xSj T n x1 (dr g) p2 z.1).1 = 0 → So z.2 64 (dSj T n dr g p2 z.1))) → tB G mX5_readScoreLine 37 [vR 53, vI wv, vI gv, vI z.1] [] z.2 (LnC d0 T n (gRun T n 10 13 p2) (xSj T n x1 (dr g) p2 (nbT T n 10 13 p2)) (fun d => BC1 d ∧ ((xSj T n x1 (dr g) p2 (nbT T n 10 13 p2)).1 = 0 → So d 64 (dSj T n dr g p2 (nbT T n 10 13 p2))))) := by
  refine T_loop (α := Nat × sD) 37 (fun z => [vR 53, vI wv, vI gv, vI z.1]) (fun z => z.2) (fun z => z.1 ≤ nbT T n 10 13 p2 ∧ CR d0 z.2 T n (tkI T n z.1 p2) (xSj T n x1 (dr g) p2 z.1) ∧ NL (xSj T n x1 (dr g) p2 z.1) (tkI T n z.1 p2 : Nat) ∧ BC1 z.2 ∧ ((xSj T n x1 (dr g) p2 z.1).1 = 0 → So z.2 64 (dSj T n dr g p2 z.1))) (fun z => nbT T n 10 13 p2 + 1 - z.1) ?_
  rintro ⟨j, e⟩ ⟨h1, h2, h3, h4, h5⟩ ih
  try dsimp only at h1 h2 h3 h4 h5 ih ⊢
  have hT := h2.tv
  have hn6 := hT.1
  have hnb := nbT_le (lo := 10) (hi := 13) hT n p2 (by omega) hp2
  have hp := h2.le
  have hg12 := h4 g hg
  have hend : j = nbT T n 10 13 p2 → LnC d0 T n (gRun T n 10 13 p2) (xSj T n x1 (dr g) p2 (nbT T n 10 13 p2)) (fun d => BC1 d ∧ ((xSj T n x1 (dr g) p2 (nbT T n 10 13 p2)).1 = 0 → So d 64 (dSj T n dr g p2 (nbT T n 10 13 p2)))) (some (vI 1)) e := fun hj => by
    rw [← hj]
    exact LnC_t (by unfold gRun; rw [← hj]) h2 h3 ⟨h4, h5⟩
  have hstop : ¬ isW T n (tkI T n j p2) 10 13 → j = nbT T n 10 13 p2 := fun hn => by
    rcases Nat.lt_or_ge j (nbT T n 10 13 p2) with z | z
    · exact absurd ((isW_tk hT hp2 h1).mpr z) hn
    · omega
  have hs1 : isW T n (tkI T n j p2) 10 13 → j < nbT T n 10 13 p2 ∧ tkI T n j p2 < avT T n (tkI T n j p2) := fun hw => ⟨(isW_tk hT hp2 h1).mp hw, tk_lt hT hp hw⟩
  have h61 : ∀ e1 : sD, isW T n (tkI T n j p2) 10 13 → CR d0 e1 T n (tkI T n j p2) (xSj T n x1 (dr g) p2 (j + 1)) → NL (xSj T n x1 (dr g) p2 (j + 1)) (avT T n (tkI T n j p2) : Nat) → BC1 e1 → ((xSj T n x1 (dr g) p2 (j + 1)).1 = 0 → So e1 64 (dSj T n dr g p2 (j + 1))) → tB G mX5_readScoreLine 61 [vR 53, vI wv, vI gv, vI j] [] e1 (LnC d0 T n (gRun T n 10 13 p2) (xSj T n x1 (dr g) p2 (nbT T n 10 13 p2)) (fun d => BC1 d ∧ ((xSj T n x1 (dr g) p2 (nbT T n 10 13 p2)).1 = 0 → So d 64 (dSj T n dr g p2 (nbT T n 10 13 p2))))) := by
    intro e1 hw k1 k2 k3 k4
    obtain ⟨hj, hlt⟩ := hs1 hw
    refine T_aload_n dX5_readScoreLine_61 rfl ?_
    refine T_callV dX5_readScoreLine_62 lX5_87 (As := []) (rest := _) rfl rfl k53 (by decide) (Nat.le_of_ble_eq_true rfl) (Nat.le_of_ble_eq_true rfl) (c_nextR k1) ?_
    rintro _ e2 ⟨rfl, hR2, hN2, h14b⟩
    refine T_inc dX5_readScoreLine_65 rfl (by decide) rfl (by omega) ?_
    refine T_goto (tgt := 37) dX5_readScoreLine_68 (by decide) ?_
    exact ih (j + 1, e2) ⟨by omega, by (try dsimp only); rw [tkI_s]; exact hR2, by (try dsimp only); rw [tkI_s]; exact k2, BC1_nf k3 hN2, fun z => So_nf (k4 z) hN2⟩ (by omega)
  refine T_iload_n dX5_readScoreLine_37 rfl ?_
  refine T_sipush dX5_readScoreLine_38 (by decide) ?_
  refine T_icmp_ge (tgt := 71) dX5_readScoreLine_41 (by decide) (fun c41 => ?_) (fun c41 => ?_)
  · refine T_iconst dX5_readScoreLine_71 (by decide) ?_
    exact T_zreturn dX5_readScoreLine_72 rfl (by omega) (hend (by omega))
  · refine T_aload_n dX5_readScoreLine_44 rfl ?_
    refine T_callV dX5_readScoreLine_45 lX5_177 (As := []) (rest := _) rfl rfl k53 (by decide) (Nat.le_of_ble_eq_true rfl) (Nat.le_of_ble_eq_true rfl) (c_beatR h2) ?_
    rintro _ _ ⟨rfl, rfl⟩
    refine T_if_eq (tgt := 71) dX5_readScoreLine_48 (by decide) (fun c48 => ?_) (fun c48 => ?_)
    · refine T_iconst dX5_readScoreLine_71 (by decide) ?_
      exact T_zreturn dX5_readScoreLine_72 rfl (by omega) (hend (hstop (bI_0 c48)))
    · refine T_iload_n dX5_readScoreLine_51 rfl ?_
      refine T_iconst dX5_readScoreLine_52 (by decide) ?_
      refine T_icmp_eq (tgt := 61) dX5_readScoreLine_53 (by decide) (fun c53 => ?_) (fun c53 => ?_)
      · have hx1 : ¬ x1.1 = 0 := by
          rcases hgv with z | z
          · exact z.2
          · omega
        have hs := hs1 (bI_1 c48)
        have exj : xSj T n x1 (dr g) p2 (j + 1) = xSj T n x1 (dr g) p2 j := by unfold xSj; rw [ntA_n hx1, ite_self, ite_self]
        refine h61 e (bI_1 c48) (by rw [exj]; exact h2) (by rw [exj]; exact h3.mono (by omega)) h4 (fun z => ?_)
        rw [exj] at z
        exact absurd (xSj_0 z).1 hx1
      · have hgg : gv = (g : Int) := hgv.resolve_left (fun z => c53 z.1)
        subst hgg
        have hs := hs1 (bI_1 c48)
        refine T_aload_n dX5_readScoreLine_56 rfl ?_
        refine T_iload_n dX5_readScoreLine_57 rfl ?_
        refine T_callV dX5_readScoreLine_58 lX5_192 (As := [_]) (rest := _) rfl rfl k53 (by decide) (Nat.le_of_ble_eq_true rfl) (Nat.le_of_ble_eq_true rfl) (c_addGiven h2 h3 (bI_1 c48) h4 hg) ?_
        rintro _ e1 ⟨rfl, (⟨hc, rfl⟩ | ⟨hc, k1, k2⟩)⟩
        ·
          have exj : xSj T n x1 (dr g) p2 (j + 1) = xSj T n x1 (dr g) p2 j := by
            by_cases z : (xSj T n x1 (dr g) p2 j).1 = 0
            · have q1 := (h5 z g hg).1
              rw [show dSj T n dr g p2 j g = dr g + j from if_pos rfl] at q1
              have q2 : e 65 g = dr g + j := q1
              exact xSj_s0 (by omega)
            · exact xSj_n z
          refine h61 _ (bI_1 c48) (by rw [exj]; exact CR_df (CR_df h2 (by decide)) (by decide)) (by rw [exj]; exact h3.mono (by omega)) (fun a ha => ?_) (fun z => ?_)
          · by_cases y : a = g
            · rw [y, up_same]; omega
            · rw [up_nej y, up_nea (by decide)]; exact h4 a ha
          · rw [exj] at z
            have q1 : e 65 g = dSj T n dr g p2 j g := (h5 z g hg).1
            have q2 : dSj T n dr g p2 j g = dr g + j := if_pos rfl
            rw [q1]
            exact So_sj hg (hG (xSj_0 z).1) (h5 z) (by omega)
        ·
          have exj : ntA (xSj T n x1 (dr g) p2 j) 3 (tkI T n j p2 : Nat) = xSj T n x1 (dr g) p2 (j + 1) := by
            by_cases z : (xSj T n x1 (dr g) p2 j).1 = 0
            · have q1 : e 65 g = dSj T n dr g p2 j g := (h5 z g hg).1
              have q2 : dSj T n dr g p2 j g = dr g + j := if_pos rfl
              have q3 := xSj_0 z
              exact (xSj_s1 (by omega)).symm
            · rw [xSj_n z]; exact ntA_n z
          rw [exj] at k1
          refine h61 e1 (bI_1 c48) k1 (by rw [← exj]; exact NL_a (h3.mono (by omega)) (by omega)) (BC1_nf h4 k2) (fun z => ?_)
          rw [← exj] at z
          exact absurd z (fun y => (ntA_0 (by decide)).mp y)

theorem c_readScoreLine {wv : Int} (h : CR d0 d T n p x) (hx : NL x p) (hW : CW T n p wv) (hB : BC1 d) (hd : x.1 = 0 → GV dr ∧ So d 64 dr) : tB G mX5_readScoreLine 0 [vR 53, vI wv, vU 0, vU 0] [] d (LnC d0 T n (gSco T n p) (xSco T n x dr p) (fun d => BC1 d ∧ ((xSco T n x dr p).1 = 0 → So d 64 (dSco T n dr p)))) := by
  have hT := h.tv
  have hp := h.le
  have hp1 := hT.av hp
  have hWi := (CW_hi hW).1
  refine T_iload_n dX5_readScoreLine_0 rfl ?_
  refine T_bipush dX5_readScoreLine_1 (by decide) ?_
  refine T_icmp_eq (tgt := 8) dX5_readScoreLine_3 (by decide) (fun c3 => ?_) (fun c3 => ?_)
  · refine T_aload_n dX5_readScoreLine_8 rfl ?_
    refine T_callV dX5_readScoreLine_9 lX5_87 (As := []) (rest := _) rfl rfl k53 (by decide) (Nat.le_of_ble_eq_true rfl) (Nat.le_of_ble_eq_true rfl) (c_nextR h) ?_
    rintro _ e1 ⟨rfl, hR, hN, h14⟩
    have hw := hWi.mp c3
    have hlt := tk_lt hT hp hw
    refine T_aload_n dX5_readScoreLine_12 rfl ?_
    refine T_iconst dX5_readScoreLine_13 (by decide) ?_
    refine T_iconst dX5_readScoreLine_14 (by decide) ?_
    refine T_callV dX5_readScoreLine_15 lX5_131 (As := [_, _]) (rest := _) rfl rfl k53 (by decide) (Nat.le_of_ble_eq_true rfl) (Nat.le_of_ble_eq_true rfl) (c_takeNumber hR (hx.mono (by omega))) ?_
    rintro _ e2 (⟨hk, rfl, hR2, hN2, h14b⟩ | ⟨hk, rfl, rfl⟩)
    ·
      have hlt2 := hT.lt hp1.2 (show ¬ kdT T n (avT T n p) = 0 by omega)
      have hp2 := hT.av hp1.2
      refine T_if_eq (tgt := 28) dX5_readScoreLine_18 (by decide) (fun c18 => absurd c18 (by decide)) (fun c18 => ?_)
      refine T_aload_n dX5_readScoreLine_21 rfl ?_
      refine T_callV dX5_readScoreLine_22 lX5_177 (As := []) (rest := _) rfl rfl k53 (by decide) (Nat.le_of_ble_eq_true rfl) (Nat.le_of_ble_eq_true rfl) (c_beatR hR2) ?_
      rintro _ _ ⟨rfl, rfl⟩
      refine T_if_ne (tgt := 30) dX5_readScoreLine_25 (by decide) (fun c25 => ?_) (fun c25 => ?_)
      · refine T_aload_n dX5_readScoreLine_30 rfl ?_
        refine T_getIv dX5_readScoreLine_31 fX5_71 rfl k53 (x := if inR (nmT T n (avT T n p)) 0 1 then nmT T n (avT T n p) else -1) h14b ?_
        refine T_ist_n dX5_readScoreLine_34 (by decide) rfl ?_
        refine T_iconst dX5_readScoreLine_35 (by decide) ?_
        refine T_ist_n dX5_readScoreLine_36 (by decide) rfl ?_
        have hN3 := hN.trans hN2
        have hz : (xNum T n x (avT T n p) 0 1).1 = 0 → GV dr ∧ So d 64 dr := fun z => hd (xNum_0 z).1
        have hgv : ((if inR (nmT T n (avT T n p)) 0 1 then nmT T n (avT T n p) else -1) = -1 ∧ ¬ (xNum T n x (avT T n p) 0 1).1 = 0) ∨ (if inR (nmT T n (avT T n p)) 0 1 then nmT T n (avT T n p) else -1) = (gvT T n (avT T n p) : Int) := by
          by_cases y : inR (nmT T n (avT T n p)) 0 1
          · right; unfold gvT; rw [if_pos y, if_pos y]; omega
          · left; exact ⟨if_neg y, fun z => y (xNum_0 z).2⟩
        have hx1 : NL (xNum T n x (avT T n p) 0 1) (avT T n (avT T n p) : Nat) := NL_num (hx.mono (by omega)) (by omega)
        have hle : (xNum T n x (avT T n p) 0 1).1 = 0 → dr (gvT T n (avT T n p)) ≤ 12 := fun z => ((hz z).1 _ gvT_2).1.2
        have hL := c_sco37 (G := G) (d0 := d0) (T := T) (n := n) (dr := dr) (wv := wv) (x1 := xNum T n x (avT T n p) 0 1) hp2.2 (gvT_2 (T := T) (n := n) (p := avT T n p)) hgv (fun z => (hz z).1) (0, e2) ⟨Nat.zero_le _, by (try dsimp only); rw [xSj_z hle]; exact hR2, by (try dsimp only); rw [xSj_z hle]; exact hx1, BC1_nf hB hN3, by
          (try dsimp only)
          rw [xSj_z hle, dSj_z]
          exact fun z => So_nf (hz z).2 hN3⟩
        rw [gSco_y hw hk, if_pos (bI_1 c25)]
        exact hL
      · refine T_iconst dX5_readScoreLine_28 (by decide) ?_
        exact T_zreturn dX5_readScoreLine_29 rfl (by omega) (LnC_f (by rw [gSco_y hw hk, if_neg (bI_0 c25)]) hR2.ce)
    ·
      refine T_if_eq (tgt := 28) dX5_readScoreLine_18 (by decide) (fun c18 => ?_) (fun c18 => absurd rfl c18)
      refine T_iconst dX5_readScoreLine_28 (by decide) ?_
      exact T_zreturn dX5_readScoreLine_29 rfl (by omega) (LnC_f (gSco_n2 hw hk) hR.ce)
  · refine T_iconst dX5_readScoreLine_6 (by decide) ?_
    exact T_zreturn dX5_readScoreLine_7 rfl (by omega) (LnC_f (gSco_n1 (fun z => c3 (hWi.mpr z))) h.ce)

end C52
