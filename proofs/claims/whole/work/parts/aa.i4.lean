/-! the class: a line of an order -/
section C56
variable {G : sG} {d d' d0 d1 e : sD} {T : Nat → Int} {n p q : Nat} {x : Int × Int} {dr : Nat → Int}
theorem xO1_cc {c : Int} (h : x.1 = 0 → c = dr (15 + gvT T n (avT T n p))) (hin : inR (nmT T n (avT T n p)) 0 1) : xO1 T n x dr p = if c < 6 then x else ntA x 3 p := by
  have e1 : xNum T n x (avT T n p) 0 1 = x := if_pos hin
  unfold xO1
  rw [e1]
  by_cases z : x.1 = 0
  · rw [h z]
    by_cases y : dr (15 + gvT T n (avT T n p)) < 6
    · rw [if_neg (fun u => u.2 y), if_pos y]
    · rw [if_pos ⟨hin, y⟩, if_neg y]
  · rw [ntA_n z, ite_self, ite_self]
theorem xO1_z (h : (xO1 T n x dr p).1 = 0) : x.1 = 0 ∧ inR (nmT T n (avT T n p)) 0 1 ∧ dr (15 + gvT T n (avT T n p)) < 6 := by
  unfold xO1 at h
  by_cases z : inR (nmT T n (avT T n p)) 0 1 ∧ ¬ dr (15 + gvT T n (avT T n p)) < 6
  · rw [if_pos z] at h; exact absurd h (fun u => (ntA_0 (by decide)).mp u)
  · rw [if_neg z] at h
    have q := xNum_0 h
    exact ⟨q.1, q.2, Classical.byContradiction fun u => z ⟨q.2, u⟩⟩

theorem c_readOrder (h : CR d0 d T n (avT T n p) x) (hp : p ≤ n) (hx : NL x p) (hw : isW T n p 9 9) (hB : BC0 d) (hd : x.1 = 0 → WV dr ∧ Wo d 54 dr) : tB G mX5_readOrder 0 [vR 53, vI (p : Int), vU 0, vU 0, vU 0, vU 0] [] d (LnC d0 T n (gEnd T n (gOrd T n p)) (xOrd T n x dr p) (fun d => BC0 d ∧ ((xOrd T n x dr p).1 = 0 → Wo d 54 (dOrd T n dr p)))) := by
  have hT := h.tv
  have hlt := tk_lt hT hp hw
  have hp1 := hT.av hp
  have hp2 := hT.av hp1.2
  have hp3 := hT.av hp2.2
  have h65 : ∀ (e1 : sD) (av sl : Int) (s a c : Nat), kdT T n (avT T n p) = 1 → CR d0 e1 T n (avT T n (avT T n p)) (xO1 T n x dr p) → NL (xO1 T n x dr p) (avT T n (avT T n p) : Nat) → NF d e1 → s < 12 → a < 2 → ((sl = -1 ∧ ¬ (xO1 T n x dr p).1 = 0) ∨ (sl = (s : Int) ∧ s = 6 * a + c ∧ av = (a : Int) ∧ a = gvT T n (avT T n p) ∧ d 60 a = (c : Int) ∧ c < 6)) → tB G mX5_readOrder 65 [vR 53, vI (p : Int), vI av, vI sl, vU 0, vU 0] [] e1 (LnC d0 T n (gEnd T n (gOrd T n p)) (xOrd T n x dr p) (fun d => BC0 d ∧ ((xOrd T n x dr p).1 = 0 → Wo d 54 (dOrd T n dr p)))) := by
    intro e1 av sl s a c hk hR hN1 hNF hs ha hS
    refine T_aload_n dX5_readOrder_65 rfl ?_
    refine T_callV dX5_readOrder_66 lX5_174 (As := []) (rest := _) rfl rfl k53 (by decide) (Nat.le_of_ble_eq_true rfl) (Nat.le_of_ble_eq_true rfl) (c_takeMove hR) ?_
    rintro _ e2 (⟨hw2, rfl, hR2, hN2, h14b⟩ | ⟨hw2, rfl, rfl⟩)
    ·
      have hlt3 := tk_lt hT hp2.2 hw2
      refine T_if_ne (tgt := 74) dX5_readOrder_69 (by decide) (fun c69 => ?_) (fun c69 => absurd c69 (by decide))
      refine T_aload_n dX5_readOrder_74 rfl ?_
      refine T_getIv dX5_readOrder_75 fX5_71 rfl k53 (x := woT T n (avT T n (avT T n p)) - 14) h14b ?_
      refine T_ist dX5_readOrder_78 (by decide) rfl ?_
      refine T_aload_n dX5_readOrder_80 rfl ?_
      refine T_callV dX5_readOrder_81 lX5_177 (As := []) (rest := _) rfl rfl k53 (by decide) (Nat.le_of_ble_eq_true rfl) (Nat.le_of_ble_eq_true rfl) (c_beatR hR2) ?_
      rintro _ _ ⟨rfl, rfl⟩
      refine T_if_ne (tgt := 89) dX5_readOrder_84 (by decide) (fun c84 => ?_) (fun c84 => ?_)
      · refine T_aload_n dX5_readOrder_89 rfl ?_
        refine T_iload_n dX5_readOrder_90 rfl ?_
        refine T_callV dX5_readOrder_91 lX5_180 (As := [_]) (rest := _) rfl rfl k53 (by decide) (Nat.le_of_ble_eq_true rfl) (Nat.le_of_ble_eq_true rfl) (c_readOrderBeats (s := s) hR2 (hN1.mono (by omega)) hs (by omega)) ?_
        rintro _ e3 ⟨rfl, hR3, hN3, f1, f2, f3⟩
        have hw3 := bI_1 c84
        have hg : gEnd T n (gOrd T n p) = gSem T n (tkI T n (nbT T n 10 13 (p3T T n p)) (p3T T n p)) := gEnd_t ((((if_pos hw).trans (if_pos hk)).trans (if_pos hw2)).trans (if_pos hw3))
        have hF : ∀ b j, b ≠ 53 → b ≠ 63 → e3 b j = d b j := fun b j h1 h2 => by rw [f1 b j h1 h2, hN2 b j h1]; exact hNF b j h1
        have hF63 : ∀ i, ¬ (4 * s ≤ i ∧ i < 4 * s + 4) → e3 63 i = d 63 i := fun i hi => by rw [f2 i hi, hN2 63 i (by decide)]; exact hNF 63 i (by decide)
        refine T_ist dX5_readOrder_94 (by decide) rfl ?_
        refine T_iload_n dX5_readOrder_96 rfl ?_
        refine T_iconst dX5_readOrder_97 (by decide) ?_
        refine T_icmp_eq (tgt := 136) dX5_readOrder_98 (by decide) (fun c98 => ?_) (fun c98 => ?_)
        · refine T_iconst dX5_readOrder_136 (by decide) ?_
          exact T_zreturn dX5_readOrder_137 rfl (by omega) (LnC_t hg hR3 hN3 ⟨fun a ha => by rw [hF 60 a (by decide) (by decide)]; exact hB a ha, fun z => absurd (xMj_0 z).1 (by rcases hS with y | y; exact y.2; omega)⟩)
        · obtain ⟨rfl, hs6, rfl, hag, hc, hc6⟩ := hS.resolve_left (fun z => c98 z.1)
          have e60 : e3 60 a = (c : Int) := by rw [hF 60 a (by decide) (by decide)]; exact hc
          refine T_aload_n dX5_readOrder_101 rfl ?_
          refine T_getR dX5_readOrder_102 fX5_12 rfl k53 r53_0 ?_
          refine T_getR dX5_readOrder_105 fX5_183 rfl k54 r54_9 ?_
          refine T_iload_n dX5_readOrder_108 rfl ?_
          refine T_iload dX5_readOrder_109 rfl ?_
          refine T_iast dX5_readOrder_111 k61 l61 (by omega) (j := s) (by omega) ?_
          refine T_aload_n dX5_readOrder_112 rfl ?_
          refine T_getR dX5_readOrder_113 fX5_12 rfl k53 r53_0 ?_
          refine T_getR dX5_readOrder_116 fX5_186 rfl k54 r54_10 ?_
          refine T_iload_n dX5_readOrder_119 rfl ?_
          refine T_iload dX5_readOrder_120 rfl ?_
          refine T_iast dX5_readOrder_122 k62 l62 (by omega) (j := s) (by omega) ?_
          refine T_aload_n dX5_readOrder_123 rfl ?_
          refine T_getR dX5_readOrder_124 fX5_12 rfl k53 r53_0 ?_
          refine T_getR dX5_readOrder_127 fX5_164 rfl k54 r54_8 ?_
          refine T_iload_n dX5_readOrder_130 rfl ?_
          refine T_dup2 dX5_readOrder_131 rfl rfl ?_
          refine T_ialdv dX5_readOrder_132 k60 l60 (by omega) (j := a) (by omega) (x := (c : Int)) (by rw [up_nea (by decide), up_nea (by decide)]; exact e60) ?_
          refine T_iconst dX5_readOrder_133 (by decide) ?_
          refine T_add dX5_readOrder_134 (by omega) ?_
          refine T_iast dX5_readOrder_135 k60 l60 (by omega) (j := a) (by omega) ?_
          refine T_iconst dX5_readOrder_136 (by decide) ?_
          refine T_zreturn dX5_readOrder_137 rfl (by omega) (LnC_t hg (CR_df (CR_df (CR_df hR3 (by decide)) (by decide)) (by decide)) hN3 ⟨fun b hb => ?_, fun z => ?_⟩)
          · by_cases y : b = a
            · rw [y, up_same]; omega
            · rw [up_nej y, up_nea (by decide), up_nea (by decide), hF 60 b (by decide) (by decide)]; exact hB b hb
          · have z2 := xMj_0 z
            have z1 := xO1_z z2.1
            obtain ⟨hV, hO⟩ := hd z1.1
            have hdc : dr (15 + a) = (c : Int) := by rw [← hc]; exact (hO.2.2.1 a ha).2.2.2.2.symm
            have ek : dOrd T n dr p = dOl T n dr a (17 + 36 * a + 6 * c) (woT T n (avT T n (avT T n p)) - 14) (p3T T n p) (nbT T n 10 13 (p3T T n p)) := by
              unfold dOrd; rw [← hag, hdc, Int.toNat_natCast]
            rw [ek]
            have hnb := z2.2
            refine Wo_ol hV hO ha hdc hc6 hnb (fun i => ?_) (fun b i hb => ?_) (fun i => ?_) (fun i => ?_) (fun i => ?_) (fun i hi => ?_) (fun i hi => ?_)
            · rw [up_nea (by decide), up_nea (by decide), up_nea (by decide)]; exact hF 54 i (by decide) (by decide)
            · rw [up_nea (by omega), up_nea (by omega), up_nea (by omega)]; exact hF b i (by omega) (by omega)
            · by_cases y : i = a
              · rw [y, up_same, if_pos rfl]
              · rw [up_nej y, up_nea (by decide), up_nea (by decide), if_neg y]; exact hF 60 i (by decide) (by decide)
            · rw [up_nea (by decide), up_nea (by decide)]
              by_cases y : i = 6 * a + c
              · rw [y, ← hs6, up_same, if_pos rfl]
              · rw [up_nej (by omega), if_neg y]; exact hF 61 i (by decide) (by decide)
            · rw [up_nea (by decide)]
              by_cases y : i = 6 * a + c
              · rw [y, ← hs6, up_same, if_pos rfl, Nat.min_eq_left hnb]
              · rw [up_nej (by omega), if_neg y, up_nea (by decide)]; exact hF 62 i (by decide) (by decide)
            · rw [up_nea (by decide), up_nea (by decide), up_nea (by decide)]; exact hF63 i (by omega)
            · rw [up_nea (by decide), up_nea (by decide), up_nea (by decide), ← hs6]; exact f3 rfl i (Nat.lt_min.mpr ⟨hi, Nat.lt_of_lt_of_le hi hnb⟩)
      · refine T_iconst dX5_readOrder_87 (by decide) ?_
        exact T_zreturn dX5_readOrder_88 rfl (by omega) (LnC_f (gEnd_f ((((if_pos hw).trans (if_pos hk)).trans (if_pos hw2)).trans (if_neg (bI_0 c84)))) hR2.ce)
    ·
      refine T_if_ne (tgt := 74) dX5_readOrder_69 (by decide) (fun c69 => absurd rfl c69) (fun c69 => ?_)
      refine T_iconst dX5_readOrder_72 (by decide) ?_
      exact T_zreturn dX5_readOrder_73 rfl (by omega) (LnC_f (gEnd_f (((if_pos hw).trans (if_pos hk)).trans (if_neg hw2))) hR.ce)
  refine T_aload_n dX5_readOrder_0 rfl ?_
  refine T_iconst dX5_readOrder_1 (by decide) ?_
  refine T_iconst dX5_readOrder_2 (by decide) ?_
  refine T_callV dX5_readOrder_3 lX5_131 (As := [_, _]) (rest := _) rfl rfl k53 (by decide) (Nat.le_of_ble_eq_true rfl) (Nat.le_of_ble_eq_true rfl) (c_takeNumber h (hx.mono (by omega))) ?_
  rintro _ e2 (⟨hk, rfl, hR2, hN2, h14b⟩ | ⟨hk, rfl, rfl⟩)
  ·
    have hlt2 := hT.lt hp1.2 (show ¬ kdT T n (avT T n p) = 0 by omega)
    by_cases hin : inR (nmT T n (avT T n p)) 0 1
    · have hgv : (if inR (nmT T n (avT T n p)) 0 1 then nmT T n (avT T n p) else -1) = (gvT T n (avT T n p) : Int) := by unfold gvT; rw [if_pos hin, if_pos hin]; omega
      rw [hgv] at h14b
      have hg2 := gvT_2 (T := T) (n := n) (p := avT T n p)
      obtain ⟨c, hc⟩ : ∃ c : Nat, d 60 (gvT T n (avT T n p)) = (c : Int) := ⟨(d 60 (gvT T n (avT T n p))).toNat, by have := hB _ hg2; omega⟩
      have hc6 := (hB _ hg2).2
      have hR3 : CR d0 e2 T n (avT T n (avT T n p)) x := by have q := hR2; rw [show xNum T n x (avT T n p) 0 1 = x from if_pos hin] at q; exact q
      have ec : e2 60 (gvT T n (avT T n p)) = (c : Int) := by rw [hN2 60 _ (by decide)]; exact hc
      have hxo := xO1_cc (x := x) (dr := dr) (c := (c : Int)) (fun z => by rw [← hc]; exact ((hd z).2.2.2.1 _ hg2).2.2.2.2) hin
      refine T_if_ne (tgt := 11) dX5_readOrder_6 (by decide) (fun c6 => ?_) (fun c6 => absurd c6 (by decide))
      refine T_aload_n dX5_readOrder_11 rfl ?_
      refine T_getIv dX5_readOrder_12 fX5_71 rfl k53 (x := (gvT T n (avT T n p) : Int)) h14b ?_
      refine T_ist_n dX5_readOrder_15 (by decide) rfl ?_
      refine T_iconst dX5_readOrder_16 (by decide) ?_
      refine T_ist_n dX5_readOrder_17 (by decide) rfl ?_
      refine T_iload_n dX5_readOrder_18 rfl ?_
      refine T_iconst dX5_readOrder_19 (by decide) ?_
      refine T_icmp_eq (tgt := 54) dX5_readOrder_20 (by decide) (fun c20 => absurd c20 (by omega)) (fun c20 => ?_)
      refine T_aload_n dX5_readOrder_23 rfl ?_
      refine T_getR dX5_readOrder_24 fX5_12 rfl k53 r53_0 ?_
      refine T_getR dX5_readOrder_27 fX5_164 rfl k54 r54_8 ?_
      refine T_iload_n dX5_readOrder_30 rfl ?_
      refine T_ialdv dX5_readOrder_31 k60 l60 (by omega) (j := gvT T n (avT T n p)) (by omega) (x := (c : Int)) ec ?_
      refine T_bipush dX5_readOrder_32 (by decide) ?_
      refine T_icmp_ge (tgt := 54) dX5_readOrder_34 (by decide) (fun c34 => ?_) (fun c34 => ?_)
      · refine T_iload_n dX5_readOrder_54 rfl ?_
        refine T_iconst dX5_readOrder_55 (by decide) ?_
        refine T_icmp_eq (tgt := 65) dX5_readOrder_56 (by decide) (fun c56 => absurd c56 (by omega)) (fun c56 => ?_)
        refine T_aload_n dX5_readOrder_59 rfl ?_
        refine T_iconst dX5_readOrder_60 (by decide) ?_
        refine T_iload_n dX5_readOrder_61 rfl ?_
        refine T_callV dX5_readOrder_62 lX5_170 (As := [_, _]) (rest := _) rfl rfl k53 (by decide) (Nat.le_of_ble_eq_true rfl) (Nat.le_of_ble_eq_true rfl) (c_noteR hR3 hx) ?_
        rintro _ e3 ⟨rfl, hR4, hN4, h14c⟩
        exact h65 e3 _ (-1) 0 0 0 hk (by rw [hxo, if_neg (by omega)]; exact hR4) (by rw [hxo, if_neg (by omega)]; exact NL_a (hx.mono (by omega)) (by omega)) (hN2.trans hN4) (by decide) (by decide) (Or.inl ⟨rfl, by rw [hxo, if_neg (by omega)]; exact fun u => (ntA_0 (by decide)).mp u⟩)
      · refine T_iload_n dX5_readOrder_37 rfl ?_
        refine T_aload_n dX5_readOrder_38 rfl ?_
        refine T_getR dX5_readOrder_39 fX5_12 rfl k53 r53_0 ?_
        refine T_getR dX5_readOrder_42 fX5_164 rfl k54 r54_8 ?_
        refine T_iload_n dX5_readOrder_45 rfl ?_
        refine T_ialdv dX5_readOrder_46 k60 l60 (by omega) (j := gvT T n (avT T n p)) (by omega) (x := (c : Int)) ec ?_
        refine T_callS dX5_readOrder_47 lX5_167 (As := [_, _]) (rest := _) rfl rfl (by decide) (Nat.le_of_ble_eq_true rfl) (Nat.le_of_ble_eq_true rfl) (t_slot hg2 (by omega)) ?_
        rintro _ _ ⟨rfl, rfl⟩
        refine T_ist_n dX5_readOrder_50 (by decide) rfl ?_
        refine T_goto (tgt := 65) dX5_readOrder_51 (by decide) ?_
        exact h65 e2 _ _ (6 * gvT T n (avT T n p) + c) (gvT T n (avT T n p)) c hk (by rw [hxo, if_pos (by omega)]; exact hR3) (by rw [hxo, if_pos (by omega)]; exact hx.mono (by omega)) hN2 (by omega) hg2 (Or.inr ⟨rfl, rfl, rfl, rfl, hc, by omega⟩)
    · rw [if_neg hin] at h14b
      have hxo : xO1 T n x dr p = xNum T n x (avT T n p) 0 1 := if_neg (fun u => hin u.1)
      refine T_if_ne (tgt := 11) dX5_readOrder_6 (by decide) (fun c6 => ?_) (fun c6 => absurd c6 (by decide))
      refine T_aload_n dX5_readOrder_11 rfl ?_
      refine T_getIv dX5_readOrder_12 fX5_71 rfl k53 (x := (-1 : Int)) h14b ?_
      refine T_ist_n dX5_readOrder_15 (by decide) rfl ?_
      refine T_iconst dX5_readOrder_16 (by decide) ?_
      refine T_ist_n dX5_readOrder_17 (by decide) rfl ?_
      refine T_iload_n dX5_readOrder_18 rfl ?_
      refine T_iconst dX5_readOrder_19 (by decide) ?_
      refine T_icmp_eq (tgt := 54) dX5_readOrder_20 (by decide) (fun c20 => ?_) (fun c20 => absurd rfl c20)
      refine T_iload_n dX5_readOrder_54 rfl ?_
      refine T_iconst dX5_readOrder_55 (by decide) ?_
      refine T_icmp_eq (tgt := 65) dX5_readOrder_56 (by decide) (fun c56 => ?_) (fun c56 => absurd rfl c56)
      exact h65 e2 _ (-1) 0 0 0 hk (by rw [hxo]; exact hR2) (by rw [hxo]; exact NL_num (hx.mono (by omega)) (by omega)) hN2 (by decide) (by decide) (Or.inl ⟨rfl, by rw [hxo]; exact fun u => hin (xNum_0 u).2⟩)
  ·
    refine T_if_ne (tgt := 11) dX5_readOrder_6 (by decide) (fun c6 => absurd rfl c6) (fun c6 => ?_)
    refine T_iconst dX5_readOrder_9 (by decide) ?_
    exact T_zreturn dX5_readOrder_10 rfl (by omega) (LnC_f (gEnd_f ((if_pos hw).trans (if_neg hk))) h.ce)

end C56
