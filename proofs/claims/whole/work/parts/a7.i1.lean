/-! the class: a line of a hearing -/
section C53
variable {G : sG} {d d' d0 d1 e : sD} {T : Nat → Int} {n p q : Nat} {x : Int × Int} {dr : Nat → Int}
theorem Ho_nf (h : Ho d 67 dr) (hN : NF d d') : Ho d' 67 dr := Ho_eq h (fun x j hx => hN _ _ (by omega))
theorem Ho_hl {g p2 j : Nat} (hg : g < 2) (hV : HV dr) (hO : Ho d1 67 dr) (hj : j ≤ 6) (h1 : ∀ i, i ≠ g → e 68 i = d1 68 i) (h0 : e 68 g = (j : Int)) (h2 : ∀ i, ¬ (6 * g ≤ i ∧ i < 6 * g + 6) → e 69 i = d1 69 i) (h3 : ∀ i, i < j → e 69 (6 * g + i) = woT T n (tkI T n i p2) - 14) : Ho e 67 (dHl T n dr g p2 j) := fun a ha => by
  have hVa := (hV a ha).1
  obtain ⟨s1, s2⟩ := hO a ha
  show e 68 a = dHl T n dr g p2 j a ∧ ∀ k : Nat, (k : Int) < dHl T n dr g p2 j a → e 69 (6 * a + k) = dHl T n dr g p2 j (2 + 6 * a + k)
  by_cases z : a = g
  · subst z
    rw [show dHl T n dr a p2 j a = (j : Int) from if_pos rfl]
    refine ⟨h0, fun k hk => ?_⟩
    rw [h3 k (by omega)]
    show _ = if _ then _ else if _ then _ else _
    rw [if_neg (by omega), if_pos (by omega), show 2 + 6 * a + k - (2 + 6 * a) = k by omega]
  · have ea : dHl T n dr g p2 j a = dr a := by show (if _ then _ else if _ then _ else _) = _; rw [if_neg z, if_neg (by omega)]
    rw [ea]
    refine ⟨by rw [h1 a z]; exact s1, fun k hk => ?_⟩
    rw [h2 _ (by omega)]
    show _ = if _ then _ else if _ then _ else _
    rw [if_neg (by omega), if_neg (by omega)]
    exact s2 k hk

theorem c_hea33 {g p2 : Nat} {gv wv : Int} {x1 : Int × Int} (hp2 : p2 ≤ n) (hg : g < 2) (hgv : (gv = -1 ∧ ¬ x1.1 = 0) ∨ gv = (g : Int)) (hG : x1.1 = 0 → HV dr ∧ Ho d1 67 dr) : ∀ z : Nat × Nat × sD, (z.1 ≤ nbT T n 14 18 p2 ∧ z.2.1 = min z.1 6 ∧ CR d0 z.2.2 T n (tkI T n z.1 p2) (xMj T n 6 x1 p2 z.1) ∧ NL (xMj T n 6 x1 p2 z.1) (tkI T n z.1 p2 : Nat) ∧ (∀ i, z.2.2 68 i = d1 68 i) ∧ (∀ i, ¬ (6 * g ≤ i ∧ i < 6 * g + 6) → z.2.2 69 i = d1 69 i) ∧ (gv = (g : Int) → ∀ i, i < z.2.1 → z.2.2 69 (6 * g + i) = woT T n (tkI T n i p2) - 14)) → tB G mX5_readHearingLine 33 [vR 53, vI wv, vI gv, vI z.2.1, vI z.1] [] z.2.2 (LnC d0 T n (gRun T n 14 18 p2) (xMj T n 6 x1 p2 (nbT T n 14 18 p2)) (fun d => (xMj T n 6 x1 p2 (nbT T n 14 18 p2)).1 = 0 → Ho d 67 (dHl T n dr g p2 (nbT T n 14 18 p2)))) := by
  refine T_loop (α := Nat × Nat × sD) 33 (fun z => [vR 53, vI wv, vI gv, vI z.2.1, vI z.1]) (fun z => z.2.2) (fun z => z.1 ≤ nbT T n 14 18 p2 ∧ z.2.1 = min z.1 6 ∧ CR d0 z.2.2 T n (tkI T n z.1 p2) (xMj T n 6 x1 p2 z.1) ∧ NL (xMj T n 6 x1 p2 z.1) (tkI T n z.1 p2 : Nat) ∧ (∀ i, z.2.2 68 i = d1 68 i) ∧ (∀ i, ¬ (6 * g ≤ i ∧ i < 6 * g + 6) → z.2.2 69 i = d1 69 i) ∧ (gv = (g : Int) → ∀ i, i < z.2.1 → z.2.2 69 (6 * g + i) = woT T n (tkI T n i p2) - 14)) (fun z => nbT T n 14 18 p2 + 1 - z.1) ?_
  rintro ⟨j, m, e⟩ ⟨h1, hm, h2, h3, h4, h5, h6⟩ ih
  try dsimp only at h1 hm h2 h3 h4 h5 h6 ih ⊢
  have hT := h2.tv
  have hn6 := hT.1
  have hnb := nbT_le (lo := 14) (hi := 18) hT n p2 (by omega) hp2
  have hp := h2.le
  have hstop : ¬ isW T n (tkI T n j p2) 14 18 → j = nbT T n 14 18 p2 := fun hn => by
    rcases Nat.lt_or_ge j (nbT T n 14 18 p2) with z | z
    · exact absurd ((isW_tk hT hp2 h1).mpr z) hn
    · omega
  have hs1 : isW T n (tkI T n j p2) 14 18 → j < nbT T n 14 18 p2 ∧ tkI T n j p2 < avT T n (tkI T n j p2) := fun hw => ⟨(isW_tk hT hp2 h1).mp hw, tk_lt hT hp hw⟩
  have h94 : ∀ (m1 : Nat) (e1 : sD), isW T n (tkI T n j p2) 14 18 → m1 = min (j + 1) 6 → CR d0 e1 T n (tkI T n j p2) (xMj T n 6 x1 p2 (j + 1)) → NL (xMj T n 6 x1 p2 (j + 1)) (avT T n (tkI T n j p2) : Nat) → (∀ i, e1 68 i = d1 68 i) → (∀ i, ¬ (6 * g ≤ i ∧ i < 6 * g + 6) → e1 69 i = d1 69 i) → (gv = (g : Int) → ∀ i, i < m1 → e1 69 (6 * g + i) = woT T n (tkI T n i p2) - 14) → tB G mX5_readHearingLine 94 [vR 53, vI wv, vI gv, vI m1, vI j] [] e1 (LnC d0 T n (gRun T n 14 18 p2) (xMj T n 6 x1 p2 (nbT T n 14 18 p2)) (fun d => (xMj T n 6 x1 p2 (nbT T n 14 18 p2)).1 = 0 → Ho d 67 (dHl T n dr g p2 (nbT T n 14 18 p2)))) := by
    intro m1 e1 hw k0 k1 k2 k3 k4 k5
    obtain ⟨hj, hlt⟩ := hs1 hw
    refine T_aload_n dX5_readHearingLine_94 rfl ?_
    refine T_callV dX5_readHearingLine_95 lX5_87 (As := []) (rest := _) rfl rfl k53 (by decide) (Nat.le_of_ble_eq_true rfl) (Nat.le_of_ble_eq_true rfl) (c_nextR k1) ?_
    rintro _ e2 ⟨rfl, hR2, hN2, h14b⟩
    refine T_inc dX5_readHearingLine_98 rfl (by decide) rfl (by omega) ?_
    refine T_goto (tgt := 33) dX5_readHearingLine_101 (by decide) ?_
    exact ih (j + 1, m1, e2) ⟨by omega, k0, by (try dsimp only); rw [tkI_s]; exact hR2, by (try dsimp only); rw [tkI_s]; exact k2, fun i => by (try dsimp only); rw [hN2 68 i (by decide)]; exact k3 i, fun i hi => by (try dsimp only); rw [hN2 69 i (by decide)]; exact k4 i hi, fun z i hi => by (try dsimp only); rw [hN2 69 _ (by decide)]; exact k5 z i hi⟩ (by omega)
  have h104 : j = nbT T n 14 18 p2 → tB G mX5_readHearingLine 104 [vR 53, vI wv, vI gv, vI m, vI j] [] e (LnC d0 T n (gRun T n 14 18 p2) (xMj T n 6 x1 p2 (nbT T n 14 18 p2)) (fun d => (xMj T n 6 x1 p2 (nbT T n 14 18 p2)).1 = 0 → Ho d 67 (dHl T n dr g p2 (nbT T n 14 18 p2)))) := by
    intro hj
    refine T_iload_n dX5_readHearingLine_104 rfl ?_
    refine T_iconst dX5_readHearingLine_105 (by decide) ?_
    refine T_icmp_eq (tgt := 119) dX5_readHearingLine_106 (by decide) (fun c106 => ?_) (fun c106 => ?_)
    · refine T_iconst dX5_readHearingLine_119 (by decide) ?_
      exact T_zreturn dX5_readHearingLine_120 rfl (by omega) (LnC_t (by unfold gRun; rw [← hj]) (by rw [← hj]; exact h2) (by rw [← hj]; exact h3) (fun z => absurd (xMj_0 z).1 (by rcases hgv with y | y; exact y.2; omega)))
    · have hgg : gv = (g : Int) := hgv.resolve_left (fun z => c106 z.1)
      subst hgg
      refine T_aload_n dX5_readHearingLine_109 rfl ?_
      refine T_getR dX5_readHearingLine_110 fX5_28 rfl k53 r53_2 ?_
      refine T_getR dX5_readHearingLine_113 fX5_204 rfl k67 r67_0 ?_
      refine T_iload_n dX5_readHearingLine_116 rfl ?_
      refine T_iload_n dX5_readHearingLine_117 rfl ?_
      refine T_iast dX5_readHearingLine_118 k68 l68 (by omega) (j := g) (by omega) ?_
      refine T_iconst dX5_readHearingLine_119 (by decide) ?_
      exact T_zreturn dX5_readHearingLine_120 rfl (by omega) (LnC_t (by unfold gRun; rw [← hj]) (by rw [← hj]; exact CR_df h2 (by decide)) (by rw [← hj]; exact h3) (fun z => by
        rw [← hj] at z ⊢
        have q := xMj_0 z
        have hGd := hG q.1
        exact Ho_hl hg hGd.1 hGd.2 q.2 (fun i hi => by rw [up_nej hi]; exact h4 i) (by rw [up_same]; omega) (fun i hi => by rw [up_nea (by decide)]; exact h5 i hi) (fun i hi => by rw [up_nea (by decide)]; exact h6 rfl i (by omega))))
  refine T_iload dX5_readHearingLine_33 rfl ?_
  refine T_sipush dX5_readHearingLine_35 (by decide) ?_
  refine T_icmp_ge (tgt := 104) dX5_readHearingLine_38 (by decide) (fun c38 => ?_) (fun c38 => ?_)
  · exact h104 (by omega)
  · refine T_aload_n dX5_readHearingLine_41 rfl ?_
    refine T_callV dX5_readHearingLine_42 lX5_200 (As := []) (rest := _) rfl rfl k53 (by decide) (Nat.le_of_ble_eq_true rfl) (Nat.le_of_ble_eq_true rfl) (c_moveR h2) ?_
    rintro _ _ ⟨rfl, rfl⟩
    refine T_if_eq (tgt := 104) dX5_readHearingLine_45 (by decide) (fun c45 => ?_) (fun c45 => ?_)
    · exact h104 (hstop (bI_0 c45))
    · refine T_iload_n dX5_readHearingLine_48 rfl ?_
      refine T_bipush dX5_readHearingLine_49 (by decide) ?_
      refine T_icmp_lt (tgt := 66) dX5_readHearingLine_51 (by decide) (fun c51 => ?_) (fun c51 => ?_)
      · refine T_iload_n dX5_readHearingLine_66 rfl ?_
        refine T_iconst dX5_readHearingLine_67 (by decide) ?_
        refine T_icmp_eq (tgt := 91) dX5_readHearingLine_68 (by decide) (fun c68 => ?_) (fun c68 => ?_)
        · refine T_inc dX5_readHearingLine_91 rfl (by decide) rfl (by omega) ?_
          have hw := bI_1 c45
          obtain ⟨hj, hlt⟩ := hs1 hw
          refine h94 (m + 1) e hw (by omega) (by rw [xMj_s0 (by omega)]; exact h2) (by rw [xMj_s0 (by omega)]; exact h3.mono (by omega)) h4 h5 (fun z => by omega)
        · have hgg : gv = (g : Int) := hgv.resolve_left (fun z => c68 z.1)
          subst hgg
          have hw := bI_1 c45
          have hv := (CK_bv h2.ck ⟨hw.1, by have := hw.2; omega, by have := hw.2; omega⟩).2
          refine T_aload_n dX5_readHearingLine_71 rfl ?_
          refine T_getR dX5_readHearingLine_72 fX5_28 rfl k53 r53_2 ?_
          refine T_getR dX5_readHearingLine_75 fX5_203 rfl k67 r67_1 ?_
          refine T_iload_n dX5_readHearingLine_78 rfl ?_
          refine T_bipush dX5_readHearingLine_79 (by decide) ?_
          refine T_mul dX5_readHearingLine_81 (by omega) ?_
          refine T_iload_n dX5_readHearingLine_82 rfl ?_
          refine T_add dX5_readHearingLine_83 (by omega) ?_
          refine T_aload_n dX5_readHearingLine_84 rfl ?_
          refine T_getIv dX5_readHearingLine_85 fX5_68 rfl k53 (x := woT T n (tkI T n j p2) - 10) hv ?_
          refine T_iconst dX5_readHearingLine_88 (by decide) ?_
          refine T_sub dX5_readHearingLine_89 (by omega) ?_
          refine T_iast dX5_readHearingLine_90 k69 l69 (by omega) (j := 6 * g + m) (by omega) ?_
          refine T_inc dX5_readHearingLine_91 rfl (by decide) rfl (by omega) ?_
          obtain ⟨hj, hlt⟩ := hs1 hw
          refine h94 (m + 1) _ hw (by omega) (by rw [xMj_s0 (by omega)]; exact CR_df h2 (by decide)) (by rw [xMj_s0 (by omega)]; exact h3.mono (by omega)) (fun i => by rw [up_nea (by decide)]; exact h4 i) (fun i hi => by rw [up_nej (by omega)]; exact h5 i hi) (fun z i hi => ?_)
          by_cases y : i = m
          · rw [y, up_same, show m = j by omega]; omega
          · rw [up_nej (by omega)]; exact h6 rfl i (by omega)
      · refine T_aload_n dX5_readHearingLine_54 rfl ?_
        refine T_iconst dX5_readHearingLine_55 (by decide) ?_
        refine T_aload_n dX5_readHearingLine_56 rfl ?_
        refine T_getIv dX5_readHearingLine_57 fX5_65 rfl k53 (x := (tkI T n j p2 : Nat)) h2.pl ?_
        refine T_callV dX5_readHearingLine_60 lX5_170 (As := [_, _]) (rest := _) rfl rfl k53 (by decide) (Nat.le_of_ble_eq_true rfl) (Nat.le_of_ble_eq_true rfl) (c_noteR h2 h3) ?_
        rintro _ e1 ⟨rfl, k1, k2, k3⟩
        refine T_goto (tgt := 94) dX5_readHearingLine_63 (by decide) ?_
        have hw := bI_1 c45
        obtain ⟨hj, hlt⟩ := hs1 hw
        have e6 : ¬ m < 6 := by omega
        refine h94 m e1 hw (by omega) (by rw [← xMj_s1 (by omega)]; exact k1) (by rw [← xMj_s1 (by omega)]; exact NL_a (h3.mono (by omega)) (by omega)) (fun i => by rw [k2 68 i (by decide)]; exact h4 i) (fun i hi => by rw [k2 69 i (by decide)]; exact h5 i hi) (fun z i hi => by rw [k2 69 _ (by decide)]; exact h6 z i hi)

theorem c_readHearingLine {wv : Int} (h : CR d0 d T n p x) (hx : NL x p) (hW : CW T n p wv) (hd : x.1 = 0 → HV dr ∧ Ho d 67 dr) : tB G mX5_readHearingLine 0 [vR 53, vI wv, vU 0, vU 0, vU 0] [] d (LnC d0 T n (gHea T n p) (xHea T n x p) (fun d => (xHea T n x p).1 = 0 → Ho d 67 (dHea T n dr p))) := by
  have hT := h.tv
  have hp := h.le
  have hp1 := hT.av hp
  have hWi := (CW_hi hW).2.1
  refine T_iload_n dX5_readHearingLine_0 rfl ?_
  refine T_bipush dX5_readHearingLine_1 (by decide) ?_
  refine T_icmp_eq (tgt := 8) dX5_readHearingLine_3 (by decide) (fun c3 => ?_) (fun c3 => ?_)
  · refine T_aload_n dX5_readHearingLine_8 rfl ?_
    refine T_callV dX5_readHearingLine_9 lX5_87 (As := []) (rest := _) rfl rfl k53 (by decide) (Nat.le_of_ble_eq_true rfl) (Nat.le_of_ble_eq_true rfl) (c_nextR h) ?_
    rintro _ e1 ⟨rfl, hR, hN, h14⟩
    have hw := hWi.mp c3
    have hlt := tk_lt hT hp hw
    refine T_aload_n dX5_readHearingLine_12 rfl ?_
    refine T_iconst dX5_readHearingLine_13 (by decide) ?_
    refine T_iconst dX5_readHearingLine_14 (by decide) ?_
    refine T_callV dX5_readHearingLine_15 lX5_131 (As := [_, _]) (rest := _) rfl rfl k53 (by decide) (Nat.le_of_ble_eq_true rfl) (Nat.le_of_ble_eq_true rfl) (c_takeNumber hR (hx.mono (by omega))) ?_
    rintro _ e2 (⟨hk, rfl, hR2, hN2, h14b⟩ | ⟨hk, rfl, rfl⟩)
    ·
      have hlt2 := hT.lt hp1.2 (show ¬ kdT T n (avT T n p) = 0 by omega)
      have hp2 := hT.av hp1.2
      refine T_if_ne (tgt := 23) dX5_readHearingLine_18 (by decide) (fun c18 => ?_) (fun c18 => absurd c18 (by decide))
      refine T_aload_n dX5_readHearingLine_23 rfl ?_
      refine T_getIv dX5_readHearingLine_24 fX5_71 rfl k53 (x := if inR (nmT T n (avT T n p)) 0 1 then nmT T n (avT T n p) else -1) h14b ?_
      refine T_ist_n dX5_readHearingLine_27 (by decide) rfl ?_
      refine T_iconst dX5_readHearingLine_28 (by decide) ?_
      refine T_ist_n dX5_readHearingLine_29 (by decide) rfl ?_
      refine T_iconst dX5_readHearingLine_30 (by decide) ?_
      refine T_ist dX5_readHearingLine_31 (by decide) rfl ?_
      have hN3 := hN.trans hN2
      have hz : (xNum T n x (avT T n p) 0 1).1 = 0 → HV dr ∧ Ho e2 67 dr := fun z => ⟨(hd (xNum_0 z).1).1, Ho_nf (hd (xNum_0 z).1).2 hN3⟩
      have hgv : ((if inR (nmT T n (avT T n p)) 0 1 then nmT T n (avT T n p) else -1) = -1 ∧ ¬ (xNum T n x (avT T n p) 0 1).1 = 0) ∨ (if inR (nmT T n (avT T n p)) 0 1 then nmT T n (avT T n p) else -1) = (gvT T n (avT T n p) : Int) := by
        by_cases y : inR (nmT T n (avT T n p)) 0 1
        · right; unfold gvT; rw [if_pos y, if_pos y]; omega
        · left; exact ⟨if_neg y, fun z => y (xNum_0 z).2⟩
      have hx1 : NL (xNum T n x (avT T n p) 0 1) (avT T n (avT T n p) : Nat) := NL_num (hx.mono (by omega)) (by omega)
      have hL := c_hea33 (G := G) (d0 := d0) (d1 := e2) (T := T) (n := n) (dr := dr) (wv := wv) (x1 := xNum T n x (avT T n p) 0 1) hp2.2 (gvT_2 (T := T) (n := n) (p := avT T n p)) hgv hz (0, 0, e2) ⟨Nat.zero_le _, rfl, by (try dsimp only); rw [xMj_z]; exact hR2, by (try dsimp only); rw [xMj_z]; exact hx1, fun _ => rfl, fun _ _ => rfl, fun z i hi => absurd hi (by (try dsimp only); omega)⟩
      rw [gHea_y hw hk]
      exact hL
    ·
      refine T_if_ne (tgt := 23) dX5_readHearingLine_18 (by decide) (fun c18 => absurd rfl c18) (fun c18 => ?_)
      refine T_iconst dX5_readHearingLine_21 (by decide) ?_
      exact T_zreturn dX5_readHearingLine_22 rfl (by omega) (LnC_f (gHea_n2 hw hk) hR.ce)
  · refine T_iconst dX5_readHearingLine_6 (by decide) ?_
    exact T_zreturn dX5_readHearingLine_7 rfl (by omega) (LnC_f (gHea_n1 (fun z => c3 (hWi.mpr z))) h.ce)

end C53
