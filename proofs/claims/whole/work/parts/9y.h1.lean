/-! the reference: a line of a war -/
section C44
variable {G : sG} {d d' d0 e : sD} {T : Nat → Int} {n p q : Nat} {x : Int × Int} {dr : Nat → Int}
def gEnd (T : Nat → Int) (n : Nat) (g : Bool × Nat) : Bool × Nat := if g.1 = true then gSem T n g.2 else g
def gWa2 (T : Nat → Int) (n : Nat) (v : Int) (p : Nat) : Bool × Nat := if v ≤ 3 then gNum T n p (gSem T n) else if v = 4 then gWd T n 10 13 p (fun q => gWd T n 10 13 q (gSem T n)) else gNum T n p (fun q => gNum T n q (gSem T n))
def gWar (T : Nat → Int) (n p : Nat) : Bool × Nat := if isW T n p 9 9 then gEnd T n (gOrd T n p) else gWd T n 1 8 p (fun p1 => gWa2 T n (woT T n p) p1)
def loW (v : Int) : Int := if v = 1 ∨ v = 6 then 1 else 0
def hiW (v : Int) : Int := if v = 1 ∨ v = 6 then 4 else if v = 5 ∨ v = 7 then 3 else if v = 8 then 20 else 9
def xWa2 (T : Nat → Int) (n : Nat) (x : Int × Int) (v : Int) (p : Nat) : Int × Int := if v ≤ 3 then xNum T n x p (loW v) (hiW v) else if v = 4 then x else xNum T n (xNum T n x p 0 1) (avT T n p) (loW v) (hiW v)
def xWar (T : Nat → Int) (n : Nat) (x : Int × Int) (dr : Nat → Int) (p : Nat) : Int × Int := if isW T n p 9 9 then xOrd T n x dr p else xWa2 T n x (woT T n p) (avT T n p)
def upF (dr : Nat → Int) (i : Nat) (v : Int) : Nat → Int := fun j => if j = i then v else dr j
def dWa2 (T : Nat → Int) (n : Nat) (dr : Nat → Int) (v : Int) (p : Nat) : Nat → Int := if v ≤ 3 then upF dr (v - 1).toNat (nmT T n p) else if v = 4 then upF dr (3 + (woT T n p - 10).toNat) (woT T n (avT T n p) - 10) else upF dr (7 + 2 * (v - 5).toNat + gvT T n p) (nmT T n (avT T n p))
def dWar (T : Nat → Int) (n : Nat) (dr : Nat → Int) (p : Nat) : Nat → Int := if isW T n p 9 9 then dOrd T n dr p else dWa2 T n dr (woT T n p) (avT T n p)
abbrev waQ (d0 : sD) (T : Nat → Int) (n p : Nat) (x : Int × Int) (dr : Nat → Int) : Option sV → sD → Prop := fun r d' => r = none ∧ LnP d0 T n (gWar T n p) (xWar T n x dr p) (dWar T n dr p) BW d'
theorem BW_up {j : Nat} {v : Int} (hB : BW (e 274)) (hj : j < 15) : BW (up e 274 j v 274) := fun a ha => by rw [up_nej (by omega)]; exact hB a ha
theorem ti_up {j : Nat} {v u : Int} {x2 : Int × Int} (h : x2.1 = 0 → (∀ i, i < 89 → e 274 i = dr i) ∧ u = v) : ti (upF dr j v) x2 (up e 274 j u 274) := fun z i hi => by
  obtain ⟨h1, h2⟩ := h z
  show _ = if _ then _ else _
  by_cases y : i = j
  · rw [y, up_same, if_pos rfl, h2]
  · rw [up_nej y, if_neg y]; exact h1 i hi

theorem w_w257 {l1 l2 l3 : sV} (hg : gWar T n p = (false, q)) (hW : RW d0 e q) : tB G mX12_warLine 257 [vR 271, l1, l2, l3] [] e (waQ d0 T n p x dr) := by
  refine T_aload_n dX12_warLine_257 rfl ?_
  refine T_callV dX12_warLine_258 lX12_177 (As := []) (rest := _) rfl rfl k271 (by decide) (Nat.le_of_ble_eq_true rfl) (Nat.le_of_ble_eq_true rfl) (w_endsLine hW) ?_
  rintro _ _ ⟨rfl, rfl⟩
  exact T_return dX12_warLine_261 rfl ⟨rfl, Or.inl (by rw [hg]; exact ⟨rfl, hW⟩)⟩

theorem r_w257 {l1 l2 l3 : sV} {pl : Nat} {x2 : Int × Int} (hg : gWar T n p = gSem T n pl) (hxv : xWar T n x dr p = x2) (hR : RS d0 e T n pl x2) (hN : NL x2 pl) (hB : BW (e 274)) (ht : ti (dWar T n dr p) x2 (e 274)) : tB G mX12_warLine 257 [vR 271, l1, l2, l3] [] e (waQ d0 T n p x dr) := by
  refine T_aload_n dX12_warLine_257 rfl ?_
  refine T_callV dX12_warLine_258 lX12_177 (As := []) (rest := _) rfl rfl k271 (by decide) (Nat.le_of_ble_eq_true rfl) (Nat.le_of_ble_eq_true rfl) (LnP_sem (dr := dWar T n dr p) (B := BW) hN hB ht hR) ?_
  rintro _ e2 ⟨rfl, hL⟩
  exact T_return dX12_warLine_261 rfl ⟨rfl, by rw [hg, hxv]; exact hL⟩

theorem r_w88 (hv : woT T n p = 1) (hg : gWar T n p = gWa2 T n 1 (avT T n p)) (hxv : xWar T n x dr p = xWa2 T n x 1 (avT T n p)) (hdw : dWar T n dr p = dWa2 T n dr 1 (avT T n p)) (hR : RS d0 e T n (avT T n p) x) (hN : NL x (avT T n p : Nat)) (hB : BW (e 274)) (hd : ti dr x (e 274)) : tB G mX12_warLine 88 [vR 271, vI 1, vU 0, vU 0] [] e (waQ d0 T n p x dr) := by
  have hT := hR.1.tv
  have hp1 := hR.2.1.1
  have hp2 := hT.av hp1
  have hg2 : gWar T n p = gNum T n (avT T n p) (gSem T n) := hg.trans (if_pos (by decide))
  have hx2 : xWar T n x dr p = xNum T n x (avT T n p) 1 4 := hxv.trans (if_pos (by decide))
  have hd2 : dWar T n dr p = upF dr 0 (nmT T n (avT T n p)) := hdw.trans (if_pos (by decide))
  refine T_aload_n dX12_warLine_88 rfl ?_
  refine T_getR dX12_warLine_89 fX12_17 rfl k271 r271_9 ?_
  refine T_iconst dX12_warLine_92 (by decide) ?_
  refine T_aload_n dX12_warLine_93 rfl ?_
  refine T_iconst dX12_warLine_94 (by decide) ?_
  refine T_iconst dX12_warLine_95 (by decide) ?_
  refine T_callV dX12_warLine_96 lX12_160 (As := [_, _]) (rest := _) rfl rfl k271 (by decide) (Nat.le_of_ble_eq_true rfl) (Nat.le_of_ble_eq_true rfl) (r_numbered hR hN) ?_
  rintro _ e2 (⟨hk, rfl, hR2, h1⟩ | ⟨hk, rfl, hW, h1⟩)
  · have hlt := hT.lt hp1 (show ¬ kdT T n (avT T n p) = 0 by omega)
    refine T_iast dX12_warLine_99 k274 l274 (by omega) (j := 0) rfl ?_
    refine T_goto (tgt := 257) dX12_warLine_100 (by decide) ?_
    refine r_w257 (hg2.trans (if_pos hk)) hx2 (RS_w hR2) (NL_num hN (by omega)) (BW_up (by rw [h1]; exact hB) (by decide)) ?_
    rw [hd2]
    exact ti_up (fun z => ⟨fun i hi => by rw [h1]; exact hd (xNum_0 z).1 i hi, if_pos (xNum_0 z).2⟩)
  ·
    refine T_iast dX12_warLine_99 k274 l274 (by omega) (j := 0) rfl ?_
    refine T_goto (tgt := 257) dX12_warLine_100 (by decide) ?_
    exact w_w257 (hg2.trans (if_neg hk)) (RW_w hW)

theorem r_w103 (hv : woT T n p = 2) (hg : gWar T n p = gWa2 T n 2 (avT T n p)) (hxv : xWar T n x dr p = xWa2 T n x 2 (avT T n p)) (hdw : dWar T n dr p = dWa2 T n dr 2 (avT T n p)) (hR : RS d0 e T n (avT T n p) x) (hN : NL x (avT T n p : Nat)) (hB : BW (e 274)) (hd : ti dr x (e 274)) : tB G mX12_warLine 103 [vR 271, vI 2, vU 0, vU 0] [] e (waQ d0 T n p x dr) := by
  have hT := hR.1.tv
  have hp1 := hR.2.1.1
  have hp2 := hT.av hp1
  have hg2 : gWar T n p = gNum T n (avT T n p) (gSem T n) := hg.trans (if_pos (by decide))
  have hx2 : xWar T n x dr p = xNum T n x (avT T n p) 0 9 := hxv.trans (if_pos (by decide))
  have hd2 : dWar T n dr p = upF dr 1 (nmT T n (avT T n p)) := hdw.trans (if_pos (by decide))
  refine T_aload_n dX12_warLine_103 rfl ?_
  refine T_getR dX12_warLine_104 fX12_17 rfl k271 r271_9 ?_
  refine T_iconst dX12_warLine_107 (by decide) ?_
  refine T_aload_n dX12_warLine_108 rfl ?_
  refine T_iconst dX12_warLine_109 (by decide) ?_
  refine T_bipush dX12_warLine_110 (by decide) ?_
  refine T_callV dX12_warLine_112 lX12_160 (As := [_, _]) (rest := _) rfl rfl k271 (by decide) (Nat.le_of_ble_eq_true rfl) (Nat.le_of_ble_eq_true rfl) (r_numbered hR hN) ?_
  rintro _ e2 (⟨hk, rfl, hR2, h1⟩ | ⟨hk, rfl, hW, h1⟩)
  · have hlt := hT.lt hp1 (show ¬ kdT T n (avT T n p) = 0 by omega)
    refine T_iast dX12_warLine_115 k274 l274 (by omega) (j := 1) rfl ?_
    refine T_goto (tgt := 257) dX12_warLine_116 (by decide) ?_
    refine r_w257 (hg2.trans (if_pos hk)) hx2 (RS_w hR2) (NL_num hN (by omega)) (BW_up (by rw [h1]; exact hB) (by decide)) ?_
    rw [hd2]
    exact ti_up (fun z => ⟨fun i hi => by rw [h1]; exact hd (xNum_0 z).1 i hi, if_pos (xNum_0 z).2⟩)
  ·
    refine T_iast dX12_warLine_115 k274 l274 (by omega) (j := 1) rfl ?_
    refine T_goto (tgt := 257) dX12_warLine_116 (by decide) ?_
    exact w_w257 (hg2.trans (if_neg hk)) (RW_w hW)

theorem r_w119 (hv : woT T n p = 3) (hg : gWar T n p = gWa2 T n 3 (avT T n p)) (hxv : xWar T n x dr p = xWa2 T n x 3 (avT T n p)) (hdw : dWar T n dr p = dWa2 T n dr 3 (avT T n p)) (hR : RS d0 e T n (avT T n p) x) (hN : NL x (avT T n p : Nat)) (hB : BW (e 274)) (hd : ti dr x (e 274)) : tB G mX12_warLine 119 [vR 271, vI 3, vU 0, vU 0] [] e (waQ d0 T n p x dr) := by
  have hT := hR.1.tv
  have hp1 := hR.2.1.1
  have hp2 := hT.av hp1
  have hg2 : gWar T n p = gNum T n (avT T n p) (gSem T n) := hg.trans (if_pos (by decide))
  have hx2 : xWar T n x dr p = xNum T n x (avT T n p) 0 9 := hxv.trans (if_pos (by decide))
  have hd2 : dWar T n dr p = upF dr 2 (nmT T n (avT T n p)) := hdw.trans (if_pos (by decide))
  refine T_aload_n dX12_warLine_119 rfl ?_
  refine T_getR dX12_warLine_120 fX12_17 rfl k271 r271_9 ?_
  refine T_iconst dX12_warLine_123 (by decide) ?_
  refine T_aload_n dX12_warLine_124 rfl ?_
  refine T_iconst dX12_warLine_125 (by decide) ?_
  refine T_bipush dX12_warLine_126 (by decide) ?_
  refine T_callV dX12_warLine_128 lX12_160 (As := [_, _]) (rest := _) rfl rfl k271 (by decide) (Nat.le_of_ble_eq_true rfl) (Nat.le_of_ble_eq_true rfl) (r_numbered hR hN) ?_
  rintro _ e2 (⟨hk, rfl, hR2, h1⟩ | ⟨hk, rfl, hW, h1⟩)
  · have hlt := hT.lt hp1 (show ¬ kdT T n (avT T n p) = 0 by omega)
    refine T_iast dX12_warLine_131 k274 l274 (by omega) (j := 2) rfl ?_
    refine T_goto (tgt := 257) dX12_warLine_132 (by decide) ?_
    refine r_w257 (hg2.trans (if_pos hk)) hx2 (RS_w hR2) (NL_num hN (by omega)) (BW_up (by rw [h1]; exact hB) (by decide)) ?_
    rw [hd2]
    exact ti_up (fun z => ⟨fun i hi => by rw [h1]; exact hd (xNum_0 z).1 i hi, if_pos (xNum_0 z).2⟩)
  ·
    refine T_iast dX12_warLine_131 k274 l274 (by omega) (j := 2) rfl ?_
    refine T_goto (tgt := 257) dX12_warLine_132 (by decide) ?_
    exact w_w257 (hg2.trans (if_neg hk)) (RW_w hW)

theorem r_w135 (hv : woT T n p = 4) (hg : gWar T n p = gWa2 T n 4 (avT T n p)) (hxv : xWar T n x dr p = xWa2 T n x 4 (avT T n p)) (hdw : dWar T n dr p = dWa2 T n dr 4 (avT T n p)) (hR : RS d0 e T n (avT T n p) x) (hN : NL x (avT T n p : Nat)) (hB : BW (e 274)) (hd : ti dr x (e 274)) : tB G mX12_warLine 135 [vR 271, vI 4, vU 0, vU 0] [] e (waQ d0 T n p x dr) := by
  have hT := hR.1.tv
  have hp1 := hR.2.1.1
  have hp2 := hT.av hp1
  have hg2 : gWar T n p = gWd T n 10 13 (avT T n p) (fun q => gWd T n 10 13 q (gSem T n)) := hg.trans ((if_neg (by decide)).trans (if_pos rfl))
  have hx2 : xWar T n x dr p = x := hxv.trans ((if_neg (by decide)).trans (if_pos rfl))
  have hd2 : dWar T n dr p = upF dr (3 + (woT T n (avT T n p) - 10).toNat) (woT T n (avT T n (avT T n p)) - 10) := hdw.trans ((if_neg (by decide)).trans (if_pos rfl))
  refine T_aload_n dX12_warLine_135 rfl ?_
  refine T_callV dX12_warLine_136 lX12_171 (As := []) (rest := _) rfl rfl k271 (by decide) (Nat.le_of_ble_eq_true rfl) (Nat.le_of_ble_eq_true rfl) (r_beatTold hR) ?_
  rintro _ e2 (⟨hk, rfl, hR2, h1⟩ | ⟨hk, rfl, hW, h1⟩)
  · have hlt := tk_lt hT hp1 hk
    have hkr := hk.2
    refine T_ist_n dX12_warLine_139 (by decide) rfl ?_
    refine T_aload_n dX12_warLine_140 rfl ?_
    refine T_callV dX12_warLine_141 lX12_171 (As := []) (rest := _) rfl rfl k271 (by decide) (Nat.le_of_ble_eq_true rfl) (Nat.le_of_ble_eq_true rfl) (r_beatTold hR2) ?_
    rintro _ e3 (⟨hk2, rfl, hR3, h2⟩ | ⟨hk2, rfl, hW, h2⟩)
    · have hlt2 := tk_lt hT hp2.2 hk2
      have hw0 := hR3.2.2.1
      have e3 : e3 274 = e 274 := h2.trans h1
      refine T_ist_n dX12_warLine_144 (by decide) rfl ?_
      refine T_aload_n dX12_warLine_145 rfl ?_
      refine T_getIv dX12_warLine_146 fX12_138 rfl k271 (x := (0 : Int)) hw0 ?_
      refine T_if_ne (tgt := 257) dX12_warLine_149 (by decide) (fun c149 => absurd rfl c149) (fun c149 => ?_)
      refine T_aload_n dX12_warLine_152 rfl ?_
      refine T_getR dX12_warLine_153 fX12_17 rfl k271 r271_9 ?_
      refine T_iconst dX12_warLine_156 (by decide) ?_
      refine T_iload_n dX12_warLine_157 rfl ?_
      refine T_add dX12_warLine_158 (by omega) ?_
      refine T_iload_n dX12_warLine_159 rfl ?_
      refine T_iast dX12_warLine_160 k274 l274 (by omega) (j := 3 + (woT T n (avT T n p) - 10).toNat) (by omega) ?_
      refine T_goto (tgt := 257) dX12_warLine_161 (by decide) ?_
      refine r_w257 ((hg2.trans (if_pos hk)).trans (if_pos hk2)) hx2 (RS_w hR3) (hN.mono (by omega)) (BW_up (by rw [e3]; exact hB) (by omega)) ?_
      rw [hd2]
      exact ti_up (fun z => ⟨fun i hi => by rw [e3]; exact hd z i hi, rfl⟩)
    ·
      refine T_ist_n dX12_warLine_144 (by decide) rfl ?_
      refine T_aload_n dX12_warLine_145 rfl ?_
      refine T_getIv dX12_warLine_146 fX12_138 rfl k271 (x := (1 : Int)) hW.1 ?_
      refine T_if_ne (tgt := 257) dX12_warLine_149 (by decide) (fun c149 => ?_) (fun c149 => absurd c149 (by decide))
      exact w_w257 ((hg2.trans (if_pos hk)).trans (if_neg hk2)) hW
  ·
    refine T_ist_n dX12_warLine_139 (by decide) rfl ?_
    refine T_aload_n dX12_warLine_140 rfl ?_
    refine T_callV dX12_warLine_141 lX12_171 (As := []) (rest := _) rfl rfl k271 (by decide) (Nat.le_of_ble_eq_true rfl) (Nat.le_of_ble_eq_true rfl) (w_beatTold hW) ?_
    rintro _ _ ⟨rfl, rfl⟩
    refine T_ist_n dX12_warLine_144 (by decide) rfl ?_
    refine T_aload_n dX12_warLine_145 rfl ?_
    refine T_getIv dX12_warLine_146 fX12_138 rfl k271 (x := (1 : Int)) hW.1 ?_
    refine T_if_ne (tgt := 257) dX12_warLine_149 (by decide) (fun c149 => ?_) (fun c149 => absurd c149 (by decide))
    exact w_w257 (hg2.trans (if_neg hk)) hW

theorem r_w164 (hv : woT T n p = 5) (hg : gWar T n p = gWa2 T n 5 (avT T n p)) (hxv : xWar T n x dr p = xWa2 T n x 5 (avT T n p)) (hdw : dWar T n dr p = dWa2 T n dr 5 (avT T n p)) (hR : RS d0 e T n (avT T n p) x) (hN : NL x (avT T n p : Nat)) (hB : BW (e 274)) (hd : ti dr x (e 274)) : tB G mX12_warLine 164 [vR 271, vI 5, vU 0, vU 0] [] e (waQ d0 T n p x dr) := by
  have hT := hR.1.tv
  have hp1 := hR.2.1.1
  have hp2 := hT.av hp1
  have hg2 : gWar T n p = gNum T n (avT T n p) (fun q => gNum T n q (gSem T n)) := hg.trans ((if_neg (by decide)).trans (if_neg (by decide)))
  have hx2 : xWar T n x dr p = xNum T n (xNum T n x (avT T n p) 0 1) (avT T n (avT T n p)) 0 3 := hxv.trans ((if_neg (by decide)).trans (if_neg (by decide)))
  have hd2 : dWar T n dr p = upF dr (7 + gvT T n (avT T n p)) (nmT T n (avT T n (avT T n p))) := hdw.trans ((if_neg (by decide)).trans (if_neg (by decide)))
  have ha2 := gvT_2 (T := T) (n := n) (p := avT T n p)
  refine T_aload_n dX12_warLine_164 rfl ?_
  refine T_callV dX12_warLine_165 lX12_163 (As := []) (rest := _) rfl rfl k271 (by decide) (Nat.le_of_ble_eq_true rfl) (Nat.le_of_ble_eq_true rfl) (r_armyTold hR hN) ?_
  rintro _ e2 (⟨hk, rfl, hR2, h1⟩ | ⟨hk, rfl, hW, h1⟩)
  · have hlt := hT.lt hp1 (show ¬ kdT T n (avT T n p) = 0 by omega)
    have hN1 : NL (xNum T n x (avT T n p) 0 1) (avT T n (avT T n p) : Nat) := NL_num hN (by omega)
    refine T_ist_n dX12_warLine_168 (by decide) rfl ?_
    refine T_aload_n dX12_warLine_169 rfl ?_
    refine T_getR dX12_warLine_170 fX12_17 rfl k271 r271_9 ?_
    refine T_bipush dX12_warLine_173 (by decide) ?_
    refine T_iload_n dX12_warLine_175 rfl ?_
    refine T_add dX12_warLine_176 (by omega) ?_
    refine T_aload_n dX12_warLine_177 rfl ?_
    refine T_iconst dX12_warLine_178 (by decide) ?_
    refine T_iconst dX12_warLine_179 (by decide) ?_
    refine T_callV dX12_warLine_180 lX12_160 (As := [_, _]) (rest := _) rfl rfl k271 (by decide) (Nat.le_of_ble_eq_true rfl) (Nat.le_of_ble_eq_true rfl) (r_numbered hR2 hN1) ?_
    rintro _ e3 (⟨hk2, rfl, hR3, h2⟩ | ⟨hk2, rfl, hW, h2⟩)
    · have hlt2 := hT.lt hp2.2 (show ¬ kdT T n (avT T n (avT T n p)) = 0 by omega)
      have e3 : e3 274 = e 274 := h2.trans h1
      refine T_iast dX12_warLine_183 k274 l274 (by omega) (j := 7 + gvT T n (avT T n p)) (by omega) ?_
      refine T_goto (tgt := 257) dX12_warLine_184 (by decide) ?_
      refine r_w257 ((hg2.trans (if_pos hk)).trans (if_pos hk2)) hx2 (RS_w hR3) (NL_num hN1 (by omega)) (BW_up (by rw [e3]; exact hB) (by omega)) ?_
      rw [hd2]
      exact ti_up (fun z => ⟨fun i hi => by rw [e3]; exact hd (xNum_0 (xNum_0 z).1).1 i hi, if_pos (xNum_0 z).2⟩)
    ·
      refine T_iast dX12_warLine_183 k274 l274 (by omega) (j := 7 + gvT T n (avT T n p)) (by omega) ?_
      refine T_goto (tgt := 257) dX12_warLine_184 (by decide) ?_
      exact w_w257 ((hg2.trans (if_pos hk)).trans (if_neg hk2)) (RW_w hW)
  ·
    refine T_ist_n dX12_warLine_168 (by decide) rfl ?_
    refine T_aload_n dX12_warLine_169 rfl ?_
    refine T_getR dX12_warLine_170 fX12_17 rfl k271 r271_9 ?_
    refine T_bipush dX12_warLine_173 (by decide) ?_
    refine T_iload_n dX12_warLine_175 rfl ?_
    refine T_add dX12_warLine_176 (by omega) ?_
    refine T_aload_n dX12_warLine_177 rfl ?_
    refine T_iconst dX12_warLine_178 (by decide) ?_
    refine T_iconst dX12_warLine_179 (by decide) ?_
    refine T_callV dX12_warLine_180 lX12_160 (As := [_, _]) (rest := _) rfl rfl k271 (by decide) (Nat.le_of_ble_eq_true rfl) (Nat.le_of_ble_eq_true rfl) (w_numbered hW) ?_
    rintro _ _ ⟨rfl, rfl⟩
    refine T_iast dX12_warLine_183 k274 l274 (by omega) (j := 7) rfl ?_
    refine T_goto (tgt := 257) dX12_warLine_184 (by decide) ?_
    exact w_w257 (hg2.trans (if_neg hk)) (RW_w hW)

theorem r_w187 (hv : woT T n p = 6) (hg : gWar T n p = gWa2 T n 6 (avT T n p)) (hxv : xWar T n x dr p = xWa2 T n x 6 (avT T n p)) (hdw : dWar T n dr p = dWa2 T n dr 6 (avT T n p)) (hR : RS d0 e T n (avT T n p) x) (hN : NL x (avT T n p : Nat)) (hB : BW (e 274)) (hd : ti dr x (e 274)) : tB G mX12_warLine 187 [vR 271, vI 6, vU 0, vU 0] [] e (waQ d0 T n p x dr) := by
  have hT := hR.1.tv
  have hp1 := hR.2.1.1
  have hp2 := hT.av hp1
  have hg2 : gWar T n p = gNum T n (avT T n p) (fun q => gNum T n q (gSem T n)) := hg.trans ((if_neg (by decide)).trans (if_neg (by decide)))
  have hx2 : xWar T n x dr p = xNum T n (xNum T n x (avT T n p) 0 1) (avT T n (avT T n p)) 1 4 := hxv.trans ((if_neg (by decide)).trans (if_neg (by decide)))
  have hd2 : dWar T n dr p = upF dr (9 + gvT T n (avT T n p)) (nmT T n (avT T n (avT T n p))) := hdw.trans ((if_neg (by decide)).trans (if_neg (by decide)))
  have ha2 := gvT_2 (T := T) (n := n) (p := avT T n p)
  refine T_aload_n dX12_warLine_187 rfl ?_
  refine T_callV dX12_warLine_188 lX12_163 (As := []) (rest := _) rfl rfl k271 (by decide) (Nat.le_of_ble_eq_true rfl) (Nat.le_of_ble_eq_true rfl) (r_armyTold hR hN) ?_
  rintro _ e2 (⟨hk, rfl, hR2, h1⟩ | ⟨hk, rfl, hW, h1⟩)
  · have hlt := hT.lt hp1 (show ¬ kdT T n (avT T n p) = 0 by omega)
    have hN1 : NL (xNum T n x (avT T n p) 0 1) (avT T n (avT T n p) : Nat) := NL_num hN (by omega)
    refine T_ist_n dX12_warLine_191 (by decide) rfl ?_
    refine T_aload_n dX12_warLine_192 rfl ?_
    refine T_getR dX12_warLine_193 fX12_17 rfl k271 r271_9 ?_
    refine T_bipush dX12_warLine_196 (by decide) ?_
    refine T_iload_n dX12_warLine_198 rfl ?_
    refine T_add dX12_warLine_199 (by omega) ?_
    refine T_aload_n dX12_warLine_200 rfl ?_
    refine T_iconst dX12_warLine_201 (by decide) ?_
    refine T_iconst dX12_warLine_202 (by decide) ?_
    refine T_callV dX12_warLine_203 lX12_160 (As := [_, _]) (rest := _) rfl rfl k271 (by decide) (Nat.le_of_ble_eq_true rfl) (Nat.le_of_ble_eq_true rfl) (r_numbered hR2 hN1) ?_
    rintro _ e3 (⟨hk2, rfl, hR3, h2⟩ | ⟨hk2, rfl, hW, h2⟩)
    · have hlt2 := hT.lt hp2.2 (show ¬ kdT T n (avT T n (avT T n p)) = 0 by omega)
      have e3 : e3 274 = e 274 := h2.trans h1
      refine T_iast dX12_warLine_206 k274 l274 (by omega) (j := 9 + gvT T n (avT T n p)) (by omega) ?_
      refine T_goto (tgt := 257) dX12_warLine_207 (by decide) ?_
      refine r_w257 ((hg2.trans (if_pos hk)).trans (if_pos hk2)) hx2 (RS_w hR3) (NL_num hN1 (by omega)) (BW_up (by rw [e3]; exact hB) (by omega)) ?_
      rw [hd2]
      exact ti_up (fun z => ⟨fun i hi => by rw [e3]; exact hd (xNum_0 (xNum_0 z).1).1 i hi, if_pos (xNum_0 z).2⟩)
    ·
      refine T_iast dX12_warLine_206 k274 l274 (by omega) (j := 9 + gvT T n (avT T n p)) (by omega) ?_
      refine T_goto (tgt := 257) dX12_warLine_207 (by decide) ?_
      exact w_w257 ((hg2.trans (if_pos hk)).trans (if_neg hk2)) (RW_w hW)
  ·
    refine T_ist_n dX12_warLine_191 (by decide) rfl ?_
    refine T_aload_n dX12_warLine_192 rfl ?_
    refine T_getR dX12_warLine_193 fX12_17 rfl k271 r271_9 ?_
    refine T_bipush dX12_warLine_196 (by decide) ?_
    refine T_iload_n dX12_warLine_198 rfl ?_
    refine T_add dX12_warLine_199 (by omega) ?_
    refine T_aload_n dX12_warLine_200 rfl ?_
    refine T_iconst dX12_warLine_201 (by decide) ?_
    refine T_iconst dX12_warLine_202 (by decide) ?_
    refine T_callV dX12_warLine_203 lX12_160 (As := [_, _]) (rest := _) rfl rfl k271 (by decide) (Nat.le_of_ble_eq_true rfl) (Nat.le_of_ble_eq_true rfl) (w_numbered hW) ?_
    rintro _ _ ⟨rfl, rfl⟩
    refine T_iast dX12_warLine_206 k274 l274 (by omega) (j := 9) rfl ?_
    refine T_goto (tgt := 257) dX12_warLine_207 (by decide) ?_
    exact w_w257 (hg2.trans (if_neg hk)) (RW_w hW)

theorem r_w210 (hv : woT T n p = 7) (hg : gWar T n p = gWa2 T n 7 (avT T n p)) (hxv : xWar T n x dr p = xWa2 T n x 7 (avT T n p)) (hdw : dWar T n dr p = dWa2 T n dr 7 (avT T n p)) (hR : RS d0 e T n (avT T n p) x) (hN : NL x (avT T n p : Nat)) (hB : BW (e 274)) (hd : ti dr x (e 274)) : tB G mX12_warLine 210 [vR 271, vI 7, vU 0, vU 0] [] e (waQ d0 T n p x dr) := by
  have hT := hR.1.tv
  have hp1 := hR.2.1.1
  have hp2 := hT.av hp1
  have hg2 : gWar T n p = gNum T n (avT T n p) (fun q => gNum T n q (gSem T n)) := hg.trans ((if_neg (by decide)).trans (if_neg (by decide)))
  have hx2 : xWar T n x dr p = xNum T n (xNum T n x (avT T n p) 0 1) (avT T n (avT T n p)) 0 3 := hxv.trans ((if_neg (by decide)).trans (if_neg (by decide)))
  have hd2 : dWar T n dr p = upF dr (11 + gvT T n (avT T n p)) (nmT T n (avT T n (avT T n p))) := hdw.trans ((if_neg (by decide)).trans (if_neg (by decide)))
  have ha2 := gvT_2 (T := T) (n := n) (p := avT T n p)
  refine T_aload_n dX12_warLine_210 rfl ?_
  refine T_callV dX12_warLine_211 lX12_163 (As := []) (rest := _) rfl rfl k271 (by decide) (Nat.le_of_ble_eq_true rfl) (Nat.le_of_ble_eq_true rfl) (r_armyTold hR hN) ?_
  rintro _ e2 (⟨hk, rfl, hR2, h1⟩ | ⟨hk, rfl, hW, h1⟩)
  · have hlt := hT.lt hp1 (show ¬ kdT T n (avT T n p) = 0 by omega)
    have hN1 : NL (xNum T n x (avT T n p) 0 1) (avT T n (avT T n p) : Nat) := NL_num hN (by omega)
    refine T_ist_n dX12_warLine_214 (by decide) rfl ?_
    refine T_aload_n dX12_warLine_215 rfl ?_
    refine T_getR dX12_warLine_216 fX12_17 rfl k271 r271_9 ?_
    refine T_bipush dX12_warLine_219 (by decide) ?_
    refine T_iload_n dX12_warLine_221 rfl ?_
    refine T_add dX12_warLine_222 (by omega) ?_
    refine T_aload_n dX12_warLine_223 rfl ?_
    refine T_iconst dX12_warLine_224 (by decide) ?_
    refine T_iconst dX12_warLine_225 (by decide) ?_
    refine T_callV dX12_warLine_226 lX12_160 (As := [_, _]) (rest := _) rfl rfl k271 (by decide) (Nat.le_of_ble_eq_true rfl) (Nat.le_of_ble_eq_true rfl) (r_numbered hR2 hN1) ?_
    rintro _ e3 (⟨hk2, rfl, hR3, h2⟩ | ⟨hk2, rfl, hW, h2⟩)
    · have hlt2 := hT.lt hp2.2 (show ¬ kdT T n (avT T n (avT T n p)) = 0 by omega)
      have e3 : e3 274 = e 274 := h2.trans h1
      refine T_iast dX12_warLine_229 k274 l274 (by omega) (j := 11 + gvT T n (avT T n p)) (by omega) ?_
      refine T_goto (tgt := 257) dX12_warLine_230 (by decide) ?_
      refine r_w257 ((hg2.trans (if_pos hk)).trans (if_pos hk2)) hx2 (RS_w hR3) (NL_num hN1 (by omega)) (BW_up (by rw [e3]; exact hB) (by omega)) ?_
      rw [hd2]
      exact ti_up (fun z => ⟨fun i hi => by rw [e3]; exact hd (xNum_0 (xNum_0 z).1).1 i hi, if_pos (xNum_0 z).2⟩)
    ·
      refine T_iast dX12_warLine_229 k274 l274 (by omega) (j := 11 + gvT T n (avT T n p)) (by omega) ?_
      refine T_goto (tgt := 257) dX12_warLine_230 (by decide) ?_
      exact w_w257 ((hg2.trans (if_pos hk)).trans (if_neg hk2)) (RW_w hW)
  ·
    refine T_ist_n dX12_warLine_214 (by decide) rfl ?_
    refine T_aload_n dX12_warLine_215 rfl ?_
    refine T_getR dX12_warLine_216 fX12_17 rfl k271 r271_9 ?_
    refine T_bipush dX12_warLine_219 (by decide) ?_
    refine T_iload_n dX12_warLine_221 rfl ?_
    refine T_add dX12_warLine_222 (by omega) ?_
    refine T_aload_n dX12_warLine_223 rfl ?_
    refine T_iconst dX12_warLine_224 (by decide) ?_
    refine T_iconst dX12_warLine_225 (by decide) ?_
    refine T_callV dX12_warLine_226 lX12_160 (As := [_, _]) (rest := _) rfl rfl k271 (by decide) (Nat.le_of_ble_eq_true rfl) (Nat.le_of_ble_eq_true rfl) (w_numbered hW) ?_
    rintro _ _ ⟨rfl, rfl⟩
    refine T_iast dX12_warLine_229 k274 l274 (by omega) (j := 11) rfl ?_
    refine T_goto (tgt := 257) dX12_warLine_230 (by decide) ?_
    exact w_w257 (hg2.trans (if_neg hk)) (RW_w hW)

theorem r_w233 (hv : woT T n p = 8) (hg : gWar T n p = gWa2 T n 8 (avT T n p)) (hxv : xWar T n x dr p = xWa2 T n x 8 (avT T n p)) (hdw : dWar T n dr p = dWa2 T n dr 8 (avT T n p)) (hR : RS d0 e T n (avT T n p) x) (hN : NL x (avT T n p : Nat)) (hB : BW (e 274)) (hd : ti dr x (e 274)) : tB G mX12_warLine 233 [vR 271, vI 8, vU 0, vU 0] [] e (waQ d0 T n p x dr) := by
  have hT := hR.1.tv
  have hp1 := hR.2.1.1
  have hp2 := hT.av hp1
  have hg2 : gWar T n p = gNum T n (avT T n p) (fun q => gNum T n q (gSem T n)) := hg.trans ((if_neg (by decide)).trans (if_neg (by decide)))
  have hx2 : xWar T n x dr p = xNum T n (xNum T n x (avT T n p) 0 1) (avT T n (avT T n p)) 0 20 := hxv.trans ((if_neg (by decide)).trans (if_neg (by decide)))
  have hd2 : dWar T n dr p = upF dr (13 + gvT T n (avT T n p)) (nmT T n (avT T n (avT T n p))) := hdw.trans ((if_neg (by decide)).trans (if_neg (by decide)))
  have ha2 := gvT_2 (T := T) (n := n) (p := avT T n p)
  refine T_aload_n dX12_warLine_233 rfl ?_
  refine T_callV dX12_warLine_234 lX12_163 (As := []) (rest := _) rfl rfl k271 (by decide) (Nat.le_of_ble_eq_true rfl) (Nat.le_of_ble_eq_true rfl) (r_armyTold hR hN) ?_
  rintro _ e2 (⟨hk, rfl, hR2, h1⟩ | ⟨hk, rfl, hW, h1⟩)
  · have hlt := hT.lt hp1 (show ¬ kdT T n (avT T n p) = 0 by omega)
    have hN1 : NL (xNum T n x (avT T n p) 0 1) (avT T n (avT T n p) : Nat) := NL_num hN (by omega)
    refine T_ist_n dX12_warLine_237 (by decide) rfl ?_
    refine T_aload_n dX12_warLine_238 rfl ?_
    refine T_getR dX12_warLine_239 fX12_17 rfl k271 r271_9 ?_
    refine T_bipush dX12_warLine_242 (by decide) ?_
    refine T_iload_n dX12_warLine_244 rfl ?_
    refine T_add dX12_warLine_245 (by omega) ?_
    refine T_aload_n dX12_warLine_246 rfl ?_
    refine T_iconst dX12_warLine_247 (by decide) ?_
    refine T_bipush dX12_warLine_248 (by decide) ?_
    refine T_callV dX12_warLine_250 lX12_160 (As := [_, _]) (rest := _) rfl rfl k271 (by decide) (Nat.le_of_ble_eq_true rfl) (Nat.le_of_ble_eq_true rfl) (r_numbered hR2 hN1) ?_
    rintro _ e3 (⟨hk2, rfl, hR3, h2⟩ | ⟨hk2, rfl, hW, h2⟩)
    · have hlt2 := hT.lt hp2.2 (show ¬ kdT T n (avT T n (avT T n p)) = 0 by omega)
      have e3 : e3 274 = e 274 := h2.trans h1
      refine T_iast dX12_warLine_253 k274 l274 (by omega) (j := 13 + gvT T n (avT T n p)) (by omega) ?_
      refine T_goto (tgt := 257) dX12_warLine_254 (by decide) ?_
      refine r_w257 ((hg2.trans (if_pos hk)).trans (if_pos hk2)) hx2 (RS_w hR3) (NL_num hN1 (by omega)) (BW_up (by rw [e3]; exact hB) (by omega)) ?_
      rw [hd2]
      exact ti_up (fun z => ⟨fun i hi => by rw [e3]; exact hd (xNum_0 (xNum_0 z).1).1 i hi, if_pos (xNum_0 z).2⟩)
    ·
      refine T_iast dX12_warLine_253 k274 l274 (by omega) (j := 13 + gvT T n (avT T n p)) (by omega) ?_
      refine T_goto (tgt := 257) dX12_warLine_254 (by decide) ?_
      exact w_w257 ((hg2.trans (if_pos hk)).trans (if_neg hk2)) (RW_w hW)
  ·
    refine T_ist_n dX12_warLine_237 (by decide) rfl ?_
    refine T_aload_n dX12_warLine_238 rfl ?_
    refine T_getR dX12_warLine_239 fX12_17 rfl k271 r271_9 ?_
    refine T_bipush dX12_warLine_242 (by decide) ?_
    refine T_iload_n dX12_warLine_244 rfl ?_
    refine T_add dX12_warLine_245 (by omega) ?_
    refine T_aload_n dX12_warLine_246 rfl ?_
    refine T_iconst dX12_warLine_247 (by decide) ?_
    refine T_bipush dX12_warLine_248 (by decide) ?_
    refine T_callV dX12_warLine_250 lX12_160 (As := [_, _]) (rest := _) rfl rfl k271 (by decide) (Nat.le_of_ble_eq_true rfl) (Nat.le_of_ble_eq_true rfl) (w_numbered hW) ?_
    rintro _ _ ⟨rfl, rfl⟩
    refine T_iast dX12_warLine_253 k274 l274 (by omega) (j := 13) rfl ?_
    refine T_goto (tgt := 257) dX12_warLine_254 (by decide) ?_
    exact w_w257 (hg2.trans (if_neg hk)) (RW_w hW)

theorem r_warLine (h : RS d0 d T n p x) (hx : NL x p) (hB : BW (d 274)) (hd : ti dr x (d 274)) : tB G mX12_warLine 0 [vR 271, vU 0, vU 0, vU 0] [] d (waQ d0 T n p x dr) := by
  have hT := h.1.tv
  have hp := h.2.1.1
  have hw0 := h.2.2.1
  have ek := h.2.1.2.1.2.2
  have h33 : ¬ isW T n p 9 9 → tB G mX12_warLine 33 [vR 271, vU 0, vU 0, vU 0] [] d (waQ d0 T n p x dr) := by
    intro h9
    have g0 : gWar T n p = gWd T n 1 8 p (fun p1 => gWa2 T n (woT T n p) p1) := if_neg h9
    have x0 : xWar T n x dr p = xWa2 T n x (woT T n p) (avT T n p) := if_neg h9
    have dd0 : dWar T n dr p = dWa2 T n dr (woT T n p) (avT T n p) := if_neg h9
    refine T_aload_n dX12_warLine_33 rfl ?_
    refine T_iconst dX12_warLine_34 (by decide) ?_
    refine T_bipush dX12_warLine_35 (by decide) ?_
    refine T_callV dX12_warLine_37 lX12_156 (As := [_, _]) (rest := _) rfl rfl k271 (by decide) (Nat.le_of_ble_eq_true rfl) (Nat.le_of_ble_eq_true rfl) (r_takes h) ?_
    rintro _ e1 (⟨hw, rfl, hR, h1⟩ | ⟨hw, rfl, hW, h1⟩)
    · have hlt := tk_lt hT hp hw
      have hwr := hw.2
      have g1 := g0.trans (if_pos hw)
      have hN1 : NL x (avT T n p : Nat) := hx.mono (by omega)
      have hB1 : BW (e1 274) := by rw [h1]; exact hB
      have hd1 : ti dr x (e1 274) := by rw [h1]; exact hd
      generalize hv : woT T n p = v at *
      refine T_ist_n dX12_warLine_40 (by decide) rfl ?_
      refine T_iload_n dX12_warLine_41 rfl ?_
      by_cases hs1 : v = 1
      · subst hs1
        refine T_tabIn (tgt := 88) (off := 46) dX12_warLine_42 (by decide) (by decide) (by decide) (by decide) ?_
        exact r_w88 hv g1 x0 dd0 hR hN1 hB1 hd1
      by_cases hs2 : v = 2
      · subst hs2
        refine T_tabIn (tgt := 103) (off := 61) dX12_warLine_42 (by decide) (by decide) (by decide) (by decide) ?_
        exact r_w103 hv g1 x0 dd0 hR hN1 hB1 hd1
      by_cases hs3 : v = 3
      · subst hs3
        refine T_tabIn (tgt := 119) (off := 77) dX12_warLine_42 (by decide) (by decide) (by decide) (by decide) ?_
        exact r_w119 hv g1 x0 dd0 hR hN1 hB1 hd1
      by_cases hs4 : v = 4
      · subst hs4
        refine T_tabIn (tgt := 135) (off := 93) dX12_warLine_42 (by decide) (by decide) (by decide) (by decide) ?_
        exact r_w135 hv g1 x0 dd0 hR hN1 hB1 hd1
      by_cases hs5 : v = 5
      · subst hs5
        refine T_tabIn (tgt := 164) (off := 122) dX12_warLine_42 (by decide) (by decide) (by decide) (by decide) ?_
        exact r_w164 hv g1 x0 dd0 hR hN1 hB1 hd1
      by_cases hs6 : v = 6
      · subst hs6
        refine T_tabIn (tgt := 187) (off := 145) dX12_warLine_42 (by decide) (by decide) (by decide) (by decide) ?_
        exact r_w187 hv g1 x0 dd0 hR hN1 hB1 hd1
      by_cases hs7 : v = 7
      · subst hs7
        refine T_tabIn (tgt := 210) (off := 168) dX12_warLine_42 (by decide) (by decide) (by decide) (by decide) ?_
        exact r_w210 hv g1 x0 dd0 hR hN1 hB1 hd1
      by_cases hs8 : v = 8
      · subst hs8
        refine T_tabIn (tgt := 233) (off := 191) dX12_warLine_42 (by decide) (by decide) (by decide) (by decide) ?_
        exact r_w233 hv g1 x0 dd0 hR hN1 hB1 hd1
      refine T_tabOut (tgt := 257) dX12_warLine_42 (by omega) (by decide) ?_
      omega
    · refine T_ist_n dX12_warLine_40 (by decide) rfl ?_
      refine T_iload_n dX12_warLine_41 rfl ?_
      refine T_tabOut (tgt := 257) dX12_warLine_42 (by decide) (by decide) ?_
      exact w_w257 (g0.trans (if_neg hw)) hW
  have h24 : isW T n p 9 9 → tB G mX12_warLine 24 [vR 271, vU 0, vU 0, vU 0] [] d (waQ d0 T n p x dr) := by
    intro h9
    have g0 : gWar T n p = gEnd T n (gOrd T n p) := if_pos h9
    have x0 : xWar T n x dr p = xOrd T n x dr p := if_pos h9
    have dd0 : dWar T n dr p = dOrd T n dr p := if_pos h9
    refine T_aload_n dX12_warLine_24 rfl ?_
    refine T_callV dX12_warLine_25 lX12_174 (As := []) (rest := _) rfl rfl k271 (by decide) (Nat.le_of_ble_eq_true rfl) (Nat.le_of_ble_eq_true rfl) (r_orderLine h hx hB hd) ?_
    rintro _ e1 ⟨rfl, (⟨k1, k2⟩ | ⟨k1, k2, k3, k4, k5⟩)⟩
    · have g1 : gWar T n p = (false, (gOrd T n p).2) := by rw [g0, gEnd, if_neg (by rw [k1]; decide), ← k1]
      refine T_aload_n dX12_warLine_28 rfl ?_
      refine T_callV dX12_warLine_29 lX12_177 (As := []) (rest := _) rfl rfl k271 (by decide) (Nat.le_of_ble_eq_true rfl) (Nat.le_of_ble_eq_true rfl) (w_endsLine k2) ?_
      rintro _ _ ⟨rfl, rfl⟩
      exact T_return dX12_warLine_32 rfl ⟨rfl, Or.inl (by rw [g1]; exact ⟨rfl, k2⟩)⟩
    · have g1 : gWar T n p = gSem T n (gOrd T n p).2 := by rw [g0, gEnd, if_pos k1]
      refine T_aload_n dX12_warLine_28 rfl ?_
      refine T_callV dX12_warLine_29 lX12_177 (As := []) (rest := _) rfl rfl k271 (by decide) (Nat.le_of_ble_eq_true rfl) (Nat.le_of_ble_eq_true rfl) (LnP_sem (dr := dOrd T n dr p) (B := BW) k3 k4 k5 k2) ?_
      rintro _ e2 ⟨rfl, hL⟩
      exact T_return dX12_warLine_32 rfl ⟨rfl, by rw [g1, x0, dd0]; exact hL⟩
  refine T_aload_n dX12_warLine_0 rfl ?_
  refine T_getIv dX12_warLine_1 fX12_138 rfl k271 (x := (0 : Int)) hw0 ?_
  refine T_if_ne (tgt := 33) dX12_warLine_4 (by decide) (fun c4 => absurd rfl c4) (fun c4 => ?_)
  refine T_aload_n dX12_warLine_7 rfl ?_
  refine T_getIv dX12_warLine_8 fX12_115 rfl k271 (x := kdT T n p) ek ?_
  refine T_iconst dX12_warLine_11 (by decide) ?_
  refine T_icmp_ne (tgt := 33) dX12_warLine_12 (by decide) (fun c12 => ?_) (fun c12 => ?_)
  · exact h33 (fun z => c12 z.1)
  · refine T_aload_n dX12_warLine_15 rfl ?_
    refine T_getIv dX12_warLine_16 fX12_129 rfl k271 (x := woT T n p) (h.2.1.2.2.2 c12) ?_
    refine T_bipush dX12_warLine_19 (by decide) ?_
    refine T_icmp_ne (tgt := 33) dX12_warLine_21 (by decide) (fun c21 => ?_) (fun c21 => ?_)
    · exact h33 (fun z => c21 (by omega))
    · exact h24 ⟨c12, by omega, by omega⟩

end C44
