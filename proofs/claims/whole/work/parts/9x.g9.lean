/-! the reference: an order is read, its head -/
section C43
variable {G : sG} {d d' d0 : sD} {T : Nat → Int} {n p q : Nat} {x : Int × Int} {dr : Nat → Int}
theorem xO1_0 (h : (xO1 T n x dr p).1 = 0) : x.1 = 0 ∧ inR (nmT T n (avT T n p)) 0 1 ∧ dr (15 + gvT T n (avT T n p)) < 6 := by
  unfold xO1 at h
  by_cases z : inR (nmT T n (avT T n p)) 0 1 ∧ ¬ dr (15 + gvT T n (avT T n p)) < 6
  · rw [if_pos z] at h; exact absurd h (fun u => (ntA_0 (by decide)).mp u)
  · rw [if_neg z] at h
    have h2 := xNum_0 h
    exact ⟨h2.1, h2.2, Classical.byContradiction fun y => z ⟨h2.2, y⟩⟩
theorem xO1_c (h : ¬ inR (nmT T n (avT T n p)) 0 1) : xO1 T n x dr p = xNum T n x (avT T n p) 0 1 := by unfold xO1; rw [if_neg (fun z => h z.1)]
theorem xNum_y {lo hi : Int} (h : inR (nmT T n p) lo hi) : xNum T n x p lo hi = x := if_pos h
theorem xO1_a {h : Nat → Int} (hd : ti dr x h) (hi : inR (nmT T n (avT T n p)) 0 1) (hl : h (15 + gvT T n (avT T n p)) < 6) : xO1 T n x dr p = xNum T n x (avT T n p) 0 1 := by
  have hg := gvT_2 (T := T) (n := n) (p := avT T n p)
  unfold xO1
  rw [xNum_y hi]
  by_cases z : x.1 = 0
  · rw [if_neg (fun y => y.2 (by rw [← hd z _ (by omega)]; exact hl))]
  · rw [ntA_n z, ite_self]
theorem xO1_b {h : Nat → Int} (hd : ti dr x h) (hi : inR (nmT T n (avT T n p)) 0 1) (hl : ¬ h (15 + gvT T n (avT T n p)) < 6) : xO1 T n x dr p = ntA x 3 p := by
  have hg := gvT_2 (T := T) (n := n) (p := avT T n p)
  unfold xO1
  rw [xNum_y hi]
  by_cases z : x.1 = 0
  · rw [if_pos ⟨hi, by rw [← hd z _ (by omega)]; exact hl⟩]
  · rw [ntA_n z, ite_self]
theorem NL_O1 (hx : NL x p) (h : p < avT T n p) (h2 : ((avT T n p : Nat) : Int) < q) : NL (xO1 T n x dr p) q := by
  unfold xO1
  by_cases z : inR (nmT T n (avT T n p)) 0 1 ∧ ¬ dr (15 + gvT T n (avT T n p)) < 6
  · rw [if_pos z]; exact NL_a (hx.mono (by omega)) (by omega)
  · rw [if_neg z]; exact NL_num (hx.mono (by omega)) h2
theorem r_orderLine (h : RS d0 d T n p x) (hx : NL x p) (hB : BW (d 274)) (hd : ti dr x (d 274)) : tB G mX12_orderLine 0 [vR 271, vU 0, vU 0, vU 0, vU 0, vU 0, vU 0, vU 0, vU 0] [] d (orQ d0 T n p x dr) := by
  have hT := h.1.tv
  have hp := h.2.1.1
  have hp1 := hT.av hp
  have e4 : d 271 4 = (p : Int) := h.2.1.2.1.1
  have h51w : ∀ (q : Nat) (e : sD), gOrd T n p = (false, q) → RW d0 e q → e 274 = d 274 → tB G mX12_orderLine 52 [vR 271, vI p, vI 0, vI 0, vU 0, vU 0, vU 0, vU 0, vU 0] [] e (orQ d0 T n p x dr) := by
    intro q e hg hW he
    refine T_iload_n dX12_orderLine_52 rfl ?_
    refine T_if_eq (tgt := 74) dX12_orderLine_53 (by decide) (fun c53 => ?_) (fun c53 => absurd rfl c53)
    refine T_iconst dX12_orderLine_74 (by decide) ?_
    refine T_ist dX12_orderLine_75 (by decide) rfl ?_
    refine T_aload_n dX12_orderLine_77 rfl ?_
    refine T_getIv dX12_orderLine_78 fX12_138 rfl k271 (x := (1 : Int)) hW.1 ?_
    refine T_if_ne (tgt := 99) dX12_orderLine_81 (by decide) (fun c81 => ?_) (fun c81 => absurd c81 (by decide))
    refine T_bipush dX12_orderLine_99 (by decide) ?_
    refine T_bipush dX12_orderLine_101 (by decide) ?_
    refine T_iload_n dX12_orderLine_103 rfl ?_
    refine T_mul dX12_orderLine_104 (by omega) ?_
    refine T_add dX12_orderLine_105 (by omega) ?_
    refine T_bipush dX12_orderLine_106 (by decide) ?_
    refine T_iload dX12_orderLine_108 rfl ?_
    refine T_if_eq (tgt := 125) dX12_orderLine_110 (by decide) (fun c110 => ?_) (fun c110 => absurd rfl c110)
    refine T_iconst dX12_orderLine_125 (by decide) ?_
    refine T_mul dX12_orderLine_126 (by omega) ?_
    refine T_add dX12_orderLine_127 (by omega) ?_
    refine T_ist dX12_orderLine_128 (by decide) rfl ?_
    refine T_aload_n dX12_orderLine_130 rfl ?_
    refine T_bipush dX12_orderLine_131 (by decide) ?_
    refine T_bipush dX12_orderLine_133 (by decide) ?_
    refine T_callV dX12_orderLine_135 lX12_156 (As := [_, _]) (rest := _) rfl rfl k271 (by decide) (Nat.le_of_ble_eq_true rfl) (Nat.le_of_ble_eq_true rfl) (w_takes hW) ?_
    rintro _ _ ⟨rfl, rfl⟩
    refine T_bipush dX12_orderLine_138 (by decide) ?_
    refine T_sub dX12_orderLine_140 (by omega) ?_
    refine T_ist dX12_orderLine_141 (by decide) rfl ?_
    refine T_aload_n dX12_orderLine_143 rfl ?_
    refine T_getIv dX12_orderLine_144 fX12_138 rfl k271 (x := (1 : Int)) hW.1 ?_
    refine T_if_ne (tgt := 161) dX12_orderLine_147 (by decide) (fun c147 => ?_) (fun c147 => absurd c147 (by decide))
    exact w_o161 (a := 0) (k := 17) hg hW (by rw [he]; exact hB) (by decide) (by decide) (Or.inl rfl)
  have h130 : ∀ (a k : Nat) (is m : Int) (e : sD), isW T n p 9 9 → kdT T n (avT T n p) = 1 → RS d0 e T n (avT T n (avT T n p)) (xO1 T n x dr p) → e 274 = d 274 → a = gvT T n (avT T n p) → ((m = 0 ∧ ¬ (inR (nmT T n (avT T n p)) 0 1 ∧ d 274 (15 + a) < 6)) ∨ (m = 1 ∧ inR (nmT T n (avT T n p)) 0 1 ∧ d 274 (15 + a) < 6 ∧ k = 17 + 36 * a + 6 * (d 274 (15 + a)).toNat)) → 17 ≤ k → tB G mX12_orderLine 130 [vR 271, vI p, vI is, vI a, vI m, vI k, vU 0, vU 0, vU 0] [] e (orQ d0 T n p x dr) := by
    intro a k is m e hw hk1 hR he ha hm hk17
    have ha2 : a < 2 := by rw [ha]; exact gvT_2
    have hBa := hB a ha2
    have hk83 : m = 0 ∨ k ≤ 83 := by omega
    have hlt := tk_lt hT hp hw
    have hlt1 := hT.lt hp1.2 (show ¬ kdT T n (avT T n p) = 0 by omega)
    have hp2 := hT.av hp1.2
    have hp3 := hT.av hp2.2
    have hN := NL_O1 (T := T) (n := n) (dr := dr) (q := avT T n (avT T n p)) hx hlt (by omega)
    refine T_aload_n dX12_orderLine_130 rfl ?_
    refine T_bipush dX12_orderLine_131 (by decide) ?_
    refine T_bipush dX12_orderLine_133 (by decide) ?_
    refine T_callV dX12_orderLine_135 lX12_156 (As := [_, _]) (rest := _) rfl rfl k271 (by decide) (Nat.le_of_ble_eq_true rfl) (Nat.le_of_ble_eq_true rfl) (r_takes hR) ?_
    rintro _ e1 (⟨hw2, rfl, hR2, h1⟩ | ⟨hw2, rfl, hW, h1⟩)
    · have hlt2 := tk_lt hT hp2.2 hw2
      have e1d : e1 274 = d 274 := h1.trans he
      have hw0 := hR2.2.2.1
      have gy : gOrd T n p = if isW T n (p3T T n p) 10 13 then (true, tkI T n (nbT T n 10 13 (p3T T n p)) (p3T T n p)) else (false, p3T T n p) := ((if_pos hw).trans (if_pos hk1)).trans (if_pos hw2)
      have hwr := hw2.2
      refine T_bipush dX12_orderLine_138 (by decide) ?_
      refine T_sub dX12_orderLine_140 (by omega) ?_
      refine T_ist dX12_orderLine_141 (by decide) rfl ?_
      refine T_aload_n dX12_orderLine_143 rfl ?_
      refine T_getIv dX12_orderLine_144 fX12_138 rfl k271 (x := (0 : Int)) hw0 ?_
      refine T_if_ne (tgt := 161) dX12_orderLine_147 (by decide) (fun c147 => absurd rfl c147) (fun c147 => ?_)
      refine T_aload_n dX12_orderLine_150 rfl ?_
      refine T_callV dX12_orderLine_151 lX12_167 (As := []) (rest := _) rfl rfl k271 (by decide) (Nat.le_of_ble_eq_true rfl) (Nat.le_of_ble_eq_true rfl) (r_isBeat hR2) ?_
      rintro _ _ ⟨rfl, rfl⟩
      refine T_if_ne (tgt := 161) dX12_orderLine_154 (by decide) (fun c154 => ?_) (fun c154 => ?_)
      · have g1 : gOrd T n p = (true, tkI T n (nbT T n 10 13 (p3T T n p)) (p3T T n p)) := by rw [gy, if_pos (bI_1 c154)]
        refine T_iconst dX12_orderLine_161 (by decide) ?_
        refine T_ist dX12_orderLine_162 (by decide) rfl ?_
        refine r_o164 (e0 := e1) (x2 := xO1 T n x dr p) g1 rfl hp3.2 (by rw [e1d]; exact hB) ha2 hk17 ?_ ?_ (0, e1) ⟨Nat.zero_le _, by (try dsimp only); rw [xMj_z]; exact hR2, by (try dsimp only); rw [xMj_z]; exact hN.mono (by show ((avT T n (avT T n p) : Nat) : Int) ≤ ((avT T n (avT T n (avT T n p)) : Nat) : Int); omega), fun i => ?_⟩
        · rw [e1d]; omega
        · intro z
          have z2 := xO1_0 z
          have hda := hd z2.1 (15 + a) (by omega)
          rw [← ha] at z2
          have hm1 : m = 1 ∧ k = 17 + 36 * a + 6 * (d 274 (15 + a)).toNat := by
            rcases hm with y | y
            · exact absurd ⟨z2.2.1, by rw [hda]; exact z2.2.2⟩ y.2
            · exact ⟨y.1, y.2.2.2⟩
          refine Or.inl ⟨hm1.1, fun i hi => by rw [e1d]; exact hd z2.1 i hi, fun i hi => ?_⟩
          unfold dOrd dOl dOj
          rw [← ha, hm1.2, e1d, hda, hd z2.1 i hi]
        · (try dsimp only)
          rcases hm with y | y
          · rw [if_neg (by omega)]
          · rw [if_pos y.1]; exact (if_neg (by omega)).symm
      · refine T_aload_n dX12_orderLine_157 rfl ?_
        refine T_callV dX12_orderLine_158 lX12_142 (As := []) (rest := _) rfl rfl k271 (by decide) (Nat.le_of_ble_eq_true rfl) (Nat.le_of_ble_eq_true rfl) t_ends ?_
        rintro _ _ ⟨rfl, rfl⟩
        exact w_o161 (by rw [gy, if_neg (bI_0 c154)]) (RS_en hR2).1 (by rw [(RS_en hR2).2, e1d]; exact hB) ha2 hk17 hk83
    · have e1d : e1 274 = d 274 := h1.trans he
      refine T_bipush dX12_orderLine_138 (by decide) ?_
      refine T_sub dX12_orderLine_140 (by omega) ?_
      refine T_ist dX12_orderLine_141 (by decide) rfl ?_
      refine T_aload_n dX12_orderLine_143 rfl ?_
      refine T_getIv dX12_orderLine_144 fX12_138 rfl k271 (x := (1 : Int)) hW.1 ?_
      refine T_if_ne (tgt := 161) dX12_orderLine_147 (by decide) (fun c147 => ?_) (fun c147 => absurd c147 (by decide))
      exact w_o161 (((if_pos hw).trans (if_pos hk1)).trans (if_neg hw2)) hW (by rw [e1d]; exact hB) ha2 hk17 hk83
  have h99 : ∀ (a : Nat) (is m : Int) (e : sD), isW T n p 9 9 → kdT T n (avT T n p) = 1 → RS d0 e T n (avT T n (avT T n p)) (xO1 T n x dr p) → e 274 = d 274 → a = gvT T n (avT T n p) → ((m = 0 ∧ ¬ (inR (nmT T n (avT T n p)) 0 1 ∧ d 274 (15 + a) < 6)) ∨ (m = 1 ∧ inR (nmT T n (avT T n p)) 0 1 ∧ d 274 (15 + a) < 6)) → tB G mX12_orderLine 99 [vR 271, vI p, vI is, vI a, vI m, vU 0, vU 0, vU 0, vU 0] [] e (orQ d0 T n p x dr) := by
    intro a is m e hw hk1 hR he ha hm
    have ha2 : a < 2 := by rw [ha]; exact gvT_2
    have hBa := hB a ha2
    have ea : e 274 (15 + a) = d 274 (15 + a) := by rw [he]
    refine T_bipush dX12_orderLine_99 (by decide) ?_
    refine T_bipush dX12_orderLine_101 (by decide) ?_
    refine T_iload_n dX12_orderLine_103 rfl ?_
    refine T_mul dX12_orderLine_104 (by omega) ?_
    refine T_add dX12_orderLine_105 (by omega) ?_
    refine T_bipush dX12_orderLine_106 (by decide) ?_
    refine T_iload dX12_orderLine_108 rfl ?_
    refine T_if_eq (tgt := 125) dX12_orderLine_110 (by decide) (fun c110 => ?_) (fun c110 => ?_)
    · refine T_iconst dX12_orderLine_125 (by decide) ?_
      refine T_mul dX12_orderLine_126 (by omega) ?_
      refine T_add dX12_orderLine_127 (by omega) ?_
      refine T_ist dX12_orderLine_128 (by decide) rfl ?_
      refine T_leq ?_ (h130 a (17 + 36 * a) is m e hw hk1 hR he ha (by omega) (by omega))
      show [_, _, _, _, _, vI _, _, _, _] = [_, _, _, _, _, vI _, _, _, _]
      congr 7 <;> omega
    · refine T_aload_n dX12_orderLine_113 rfl ?_
      refine T_getR dX12_orderLine_114 fX12_17 rfl k271 r271_9 ?_
      refine T_bipush dX12_orderLine_117 (by decide) ?_
      refine T_iload_n dX12_orderLine_119 rfl ?_
      refine T_add dX12_orderLine_120 (by omega) ?_
      refine T_ialdv dX12_orderLine_121 k274 l274 (by omega) (j := 15 + a) (by omega) (x := d 274 (15 + a)) ea ?_
      refine T_goto (tgt := 126) dX12_orderLine_122 (by decide) ?_
      refine T_mul dX12_orderLine_126 (by omega) ?_
      refine T_add dX12_orderLine_127 (by omega) ?_
      refine T_ist dX12_orderLine_128 (by decide) rfl ?_
      refine T_leq ?_ (h130 a (17 + 36 * a + 6 * (d 274 (15 + a)).toNat) is m e hw hk1 hR he ha (by omega) (by omega))
      show [_, _, _, _, _, vI _, _, _, _] = [_, _, _, _, _, vI _, _, _, _]
      congr 7 <;> omega
  have h75 : ∀ (a : Nat) (is m : Int) (e : sD), isW T n p 9 9 → kdT T n (avT T n p) = 1 → RS d0 e T n (avT T n (avT T n p)) (xNum T n x (avT T n p) 0 1) → e 274 = d 274 → a = gvT T n (avT T n p) → is = bI (inR (nmT T n (avT T n p)) 0 1) → ((m = 0 ∧ ¬ (inR (nmT T n (avT T n p)) 0 1 ∧ d 274 (15 + a) < 6)) ∨ (m = 1 ∧ inR (nmT T n (avT T n p)) 0 1 ∧ d 274 (15 + a) < 6)) → tB G mX12_orderLine 75 [vR 271, vI p, vI is, vI a, vU 0, vU 0, vU 0, vU 0, vU 0] [vI m] e (orQ d0 T n p x dr) := by
    intro a is m e hw hk1 hR he ha his hm
    have hw0 := hR.2.2.1
    have hNx : inR (nmT T n (avT T n p)) 0 1 → NL (xNum T n x (avT T n p) 0 1) p := fun z => by rw [xNum_y z]; exact hx
    refine T_ist dX12_orderLine_75 (by decide) rfl ?_
    refine T_aload_n dX12_orderLine_77 rfl ?_
    refine T_getIv dX12_orderLine_78 fX12_138 rfl k271 (x := (0 : Int)) hw0 ?_
    refine T_if_ne (tgt := 99) dX12_orderLine_81 (by decide) (fun c81 => absurd rfl c81) (fun c81 => ?_)
    refine T_iload_n dX12_orderLine_84 rfl ?_
    refine T_if_eq (tgt := 99) dX12_orderLine_85 (by decide) (fun c85 => ?_) (fun c85 => ?_)
    · have hnin : ¬ inR (nmT T n (avT T n p)) 0 1 := bI_0 (by rw [← his]; exact c85)
      exact h99 a is m e hw hk1 (by rw [xO1_c hnin]; exact hR) he ha hm
    · have hin : inR (nmT T n (avT T n p)) 0 1 := bI_1 (by rw [← his]; exact c85)
      refine T_iload dX12_orderLine_88 rfl ?_
      refine T_if_ne (tgt := 99) dX12_orderLine_90 (by decide) (fun c90 => ?_) (fun c90 => ?_)
      · have hl : d 274 (15 + a) < 6 := by
          rcases hm with y | y
          · exact absurd y.1 c90
          · exact y.2.2
        exact h99 a is m e hw hk1 (by rw [xO1_a hd hin (by rw [← ha]; exact hl)]; exact hR) he ha hm
      · refine T_aload_n dX12_orderLine_93 rfl ?_
        refine T_iconst dX12_orderLine_94 (by decide) ?_
        refine T_iload_n dX12_orderLine_95 rfl ?_
        refine T_callV dX12_orderLine_96 lX12_149 (As := [_, _]) (rest := _) rfl rfl k271 (by decide) (Nat.le_of_ble_eq_true rfl) (Nat.le_of_ble_eq_true rfl) t_also ?_
        rintro _ _ ⟨rfl, rfl⟩
        have hl : ¬ d 274 (15 + a) < 6 := by
          rcases hm with y | y
          · exact fun z => y.2 ⟨hin, z⟩
          · omega
        have hal := RS_al (k := 3) hR (hNx hin)
        rw [xNum_y hin] at hal
        exact h99 a is m _ hw hk1 (by rw [xO1_b hd hin (by rw [← ha]; exact hl)]; exact hal.1) (hal.2.trans he) ha hm
  have h46 : ∀ (is : Int) (e : sD), isW T n p 9 9 → RS d0 e T n (avT T n p) x → e 274 = d 274 → (kdT T n (avT T n p) = 1 → is = bI (inR (nmT T n (avT T n p)) 0 1)) → (¬ kdT T n (avT T n p) = 1 → is = 0) → tB G mX12_orderLine 46 [vR 271, vI p, vU 0, vU 0, vU 0, vU 0, vU 0, vU 0, vU 0] [vI is] e (orQ d0 T n p x dr) := by
    intro is e hw hR he his his0
    have hlt := tk_lt hT hp hw
    refine T_ist_n dX12_orderLine_46 (by decide) rfl ?_
    refine T_aload_n dX12_orderLine_47 rfl ?_
    refine T_callV dX12_orderLine_48 lX12_163 (As := []) (rest := _) rfl rfl k271 (by decide) (Nat.le_of_ble_eq_true rfl) (Nat.le_of_ble_eq_true rfl) (r_armyTold hR (hx.mono (by omega))) ?_
    rintro _ e1 (⟨hk, rfl, hR2, h1⟩ | ⟨hk, rfl, hW, h1⟩)
    · have his := his hk
      have e1d : e1 274 = d 274 := h1.trans he
      have hg2 := gvT_2 (T := T) (n := n) (p := avT T n p)
      generalize hga : gvT T n (avT T n p) = a at *
      have ea : e1 274 (15 + a) = d 274 (15 + a) := by rw [e1d]
      refine T_ist_n dX12_orderLine_51 (by decide) rfl ?_
      refine T_iload_n dX12_orderLine_52 rfl ?_
      refine T_if_eq (tgt := 74) dX12_orderLine_53 (by decide) (fun c53 => ?_) (fun c53 => ?_)
      · refine T_iconst dX12_orderLine_74 (by decide) ?_
        have hnin : ¬ inR (nmT T n (avT T n p)) 0 1 := bI_0 (by rw [← his]; exact c53)
        exact h75 a is 0 e1 hw hk hR2 e1d rfl his (Or.inl ⟨rfl, fun z => hnin z.1⟩)
      · refine T_aload_n dX12_orderLine_56 rfl ?_
        refine T_getR dX12_orderLine_57 fX12_17 rfl k271 r271_9 ?_
        refine T_bipush dX12_orderLine_60 (by decide) ?_
        refine T_iload_n dX12_orderLine_62 rfl ?_
        refine T_add dX12_orderLine_63 (by omega) ?_
        refine T_ialdv dX12_orderLine_64 k274 l274 (by omega) (j := 15 + a) (by omega) (x := d 274 (15 + a)) ea ?_
        refine T_bipush dX12_orderLine_65 (by decide) ?_
        refine T_icmp_ge (tgt := 74) dX12_orderLine_67 (by decide) (fun c67 => ?_) (fun c67 => ?_)
        · refine T_iconst dX12_orderLine_74 (by decide) ?_
          exact h75 a is 0 e1 hw hk hR2 e1d rfl his (Or.inl ⟨rfl, fun z => by have := z.2; omega⟩)
        · refine T_iconst dX12_orderLine_70 (by decide) ?_
          refine T_goto (tgt := 75) dX12_orderLine_71 (by decide) ?_
          have hin : inR (nmT T n (avT T n p)) 0 1 := bI_1 (by rw [← his]; exact c53)
          exact h75 a is 1 e1 hw hk hR2 e1d rfl his (Or.inr ⟨rfl, hin, by omega⟩)
    · have his0 := his0 hk
      subst his0
      refine T_ist_n dX12_orderLine_51 (by decide) rfl ?_
      exact h51w _ e1 ((if_pos hw).trans (if_neg hk)) hW (h1.trans he)
  refine T_aload_n dX12_orderLine_0 rfl ?_
  refine T_getIv dX12_orderLine_1 fX12_112 rfl k271 (x := (p : Int)) e4 ?_
  refine T_ist_n dX12_orderLine_4 (by decide) rfl ?_
  refine T_aload_n dX12_orderLine_5 rfl ?_
  refine T_bipush dX12_orderLine_6 (by decide) ?_
  refine T_bipush dX12_orderLine_8 (by decide) ?_
  refine T_callV dX12_orderLine_10 lX12_156 (As := [_, _]) (rest := _) rfl rfl k271 (by decide) (Nat.le_of_ble_eq_true rfl) (Nat.le_of_ble_eq_true rfl) (r_takes h) ?_
  rintro _ e1 (⟨hw, rfl, hR, h1⟩ | ⟨hw, rfl, hW, h1⟩)
  · have hw0 := hR.2.2.1
    have ek := hR.2.1.2.1.2.2
    refine T_pop dX12_orderLine_13 rfl ?_
    refine T_aload_n dX12_orderLine_14 rfl ?_
    refine T_getIv dX12_orderLine_15 fX12_138 rfl k271 (x := (0 : Int)) hw0 ?_
    refine T_if_ne (tgt := 45) dX12_orderLine_18 (by decide) (fun c18 => absurd rfl c18) (fun c18 => ?_)
    refine T_aload_n dX12_orderLine_21 rfl ?_
    refine T_getIv dX12_orderLine_22 fX12_115 rfl k271 (x := kdT T n (avT T n p)) ek ?_
    refine T_iconst dX12_orderLine_25 (by decide) ?_
    refine T_icmp_ne (tgt := 45) dX12_orderLine_26 (by decide) (fun c26 => ?_) (fun c26 => ?_)
    · refine T_iconst dX12_orderLine_45 (by decide) ?_
      exact h46 0 e1 hw hR h1 (fun z => absurd z c26) (fun _ => rfl)
    · refine T_aload_n dX12_orderLine_29 rfl ?_
      refine T_getIv dX12_orderLine_30 fX12_135 rfl k271 (x := nmT T n (avT T n p)) (hR.2.1.2.2.1 c26) ?_
      refine T_iconst dX12_orderLine_33 (by decide) ?_
      refine T_iconst dX12_orderLine_34 (by decide) ?_
      refine T_callS dX12_orderLine_35 lX12_145 (As := [_, _, _]) (rest := _) rfl rfl (by decide) (Nat.le_of_ble_eq_true rfl) (Nat.le_of_ble_eq_true rfl) t_X12_isIn ?_
      rintro _ _ ⟨rfl, rfl⟩
      refine T_if_eq (tgt := 45) dX12_orderLine_38 (by decide) (fun c38 => ?_) (fun c38 => ?_)
      · refine T_iconst dX12_orderLine_45 (by decide) ?_
        exact h46 0 e1 hw hR h1 (fun z => (bI_f (bI_0 c38)).symm) (fun _ => rfl)
      · refine T_iconst dX12_orderLine_41 (by decide) ?_
        refine T_goto (tgt := 46) dX12_orderLine_42 (by decide) ?_
        exact h46 1 e1 hw hR h1 (fun z => (bI_t (bI_1 c38)).symm) (fun z => absurd c26 z)
  ·
    refine T_pop dX12_orderLine_13 rfl ?_
    refine T_aload_n dX12_orderLine_14 rfl ?_
    refine T_getIv dX12_orderLine_15 fX12_138 rfl k271 (x := (1 : Int)) hW.1 ?_
    refine T_if_ne (tgt := 45) dX12_orderLine_18 (by decide) (fun c18 => ?_) (fun c18 => absurd c18 (by decide))
    refine T_iconst dX12_orderLine_45 (by decide) ?_
    refine T_ist_n dX12_orderLine_46 (by decide) rfl ?_
    refine T_aload_n dX12_orderLine_47 rfl ?_
    refine T_callV dX12_orderLine_48 lX12_163 (As := []) (rest := _) rfl rfl k271 (by decide) (Nat.le_of_ble_eq_true rfl) (Nat.le_of_ble_eq_true rfl) (w_armyTold hW) ?_
    rintro _ _ ⟨rfl, rfl⟩
    refine T_ist_n dX12_orderLine_51 (by decide) rfl ?_
    exact h51w _ e1 (if_neg hw) hW h1

end C43
