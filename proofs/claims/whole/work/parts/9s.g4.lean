/-! the reference: a line of a hearing -/
section C38
variable {G : sG} {d d' d0 : sD} {T : Nat → Int} {n p q : Nat} {x : Int × Int} {dr : Nat → Int}
theorem r_takesY {lo hi : Int} (h : RS d0 d T n p x) (hw : isW T n p lo hi) : tB G mX12_takes 0 [vR 271, vI lo, vI hi, vU 0] [] d (fun r d' => r = some (vI (woT T n p)) ∧ RS d0 d' T n (avT T n p) x ∧ d' 274 = d 274) := (r_takes h).mono (by
  rintro r d' (⟨_, h2⟩ | ⟨h1, _⟩)
  · exact h2
  · exact absurd hw h1)
theorem r_armyTold (h : RS d0 d T n p x) (hx : NL x p) : tB G mX12_armyTold 0 [vR 271] [] d (fun r d' => (kdT T n p = 1 ∧ r = some (vI (gvT T n p)) ∧ RS d0 d' T n (avT T n p) (xNum T n x p 0 1) ∧ d' 274 = d 274) ∨ (¬ kdT T n p = 1 ∧ r = some (vI 0) ∧ RW d0 d' p ∧ d' 274 = d 274)) := by
  refine T_aload_n dX12_armyTold_0 rfl ?_
  refine T_iconst dX12_armyTold_1 (by decide) ?_
  refine T_iconst dX12_armyTold_2 (by decide) ?_
  refine T_callV dX12_armyTold_3 lX12_160 (As := [_, _]) (rest := _) rfl rfl k271 (by decide) (Nat.le_of_ble_eq_true rfl) (Nat.le_of_ble_eq_true rfl) (r_numbered h hx) ?_
  rintro _ e1 (⟨hk, rfl, hR, h274⟩ | ⟨hk, rfl, hW, h274⟩)
  · rw [gvT_i]
    exact T_ireturn dX12_armyTold_6 rfl (Or.inl ⟨hk, rfl, hR, h274⟩)
  ·
    exact T_ireturn dX12_armyTold_6 rfl (Or.inr ⟨hk, rfl, hW, h274⟩)

theorem w_armyTold (h : RW d0 d q) : tB G mX12_armyTold 0 [vR 271] [] d (fun r d' => r = some (vI 0) ∧ d = d') := by
  refine T_aload_n dX12_armyTold_0 rfl ?_
  refine T_iconst dX12_armyTold_1 (by decide) ?_
  refine T_iconst dX12_armyTold_2 (by decide) ?_
  refine T_callV dX12_armyTold_3 lX12_160 (As := [_, _]) (rest := _) rfl rfl k271 (by decide) (Nat.le_of_ble_eq_true rfl) (Nat.le_of_ble_eq_true rfl) (w_numbered h) ?_
  rintro _ _ ⟨rfl, rfl⟩
  exact T_ireturn dX12_armyTold_6 rfl ⟨rfl, rfl⟩

def gHea (T : Nat → Int) (n p : Nat) : Bool × Nat := gWd T n 20 20 p fun p1 => gNum T n p1 fun p2 => gRun T n 14 18 p2
def BT (_ : Nat → Int) : Prop := True
/-- more than so many words are told -/
def xMj (T : Nat → Int) (n M : Nat) (x : Int × Int) (p j : Nat) : Int × Int := if M < j then ntA x 3 (tkI T n M p) else x
theorem xMj_s0 {M j : Nat} (h : j < M) : xMj T n M x p (j + 1) = xMj T n M x p j := by unfold xMj; rw [if_neg (by omega), if_neg (by omega)]
theorem xMj_s1 {M j : Nat} (h : M ≤ j) : ntA (xMj T n M x p j) 3 (tkI T n j p) = xMj T n M x p (j + 1) := by
  unfold xMj
  rw [if_pos (show M < j + 1 by omega)]
  by_cases z : M < j
  · rw [if_pos z]
    by_cases y : x.1 = 0
    · rw [show ntA x 3 (tkI T n M p : Nat) = ((3 : Int), ((tkI T n M p : Nat) : Int)) from if_pos y]; exact if_neg (show ¬ (3 : Int) = 0 by decide)
    · rw [ntA_n y, ntA_n y]
  · rw [if_neg z, show j = M by omega]
theorem xMj_0 {M j : Nat} (h : (xMj T n M x p j).1 = 0) : x.1 = 0 ∧ j ≤ M := by
  unfold xMj at h
  by_cases y : M < j
  · rw [if_pos y] at h; exact absurd h (fun z => (ntA_0 (by decide)).mp z)
  · rw [if_neg y] at h; exact ⟨h, by omega⟩
theorem xMj_z {M : Nat} : xMj T n M x p 0 = x := by unfold xMj; rw [if_neg (by omega)]
def dHj (T : Nat → Int) (n : Nat) (dr : Nat → Int) (g p j : Nat) : Nat → Int := fun i => if 2 + 6 * g ≤ i ∧ i < 2 + 6 * g + j then woT T n (tkI T n (i - (2 + 6 * g)) p) - 14 else dr i
def dHl (T : Nat → Int) (n : Nat) (dr : Nat → Int) (g p j : Nat) : Nat → Int := fun i => if i = g then (j : Int) else dHj T n dr g p j i
def xHea (T : Nat → Int) (n : Nat) (x : Int × Int) (p : Nat) : Int × Int := xMj T n 6 (xNum T n x (avT T n p) 0 1) (avT T n (avT T n p)) (nbT T n 14 18 (avT T n (avT T n p)))
def dHea (T : Nat → Int) (n : Nat) (dr : Nat → Int) (p : Nat) : Nat → Int := dHl T n dr (gvT T n (avT T n p)) (avT T n (avT T n p)) (nbT T n 14 18 (avT T n (avT T n p)))
theorem gHea_y (h1 : isW T n p 20 20) (h2 : kdT T n (avT T n p) = 1) : gHea T n p = gRun T n 14 18 (avT T n (avT T n p)) := (if_pos h1).trans (if_pos h2)
theorem gHea_n1 (h1 : ¬ isW T n p 20 20) : gHea T n p = (false, p) := if_neg h1
theorem gHea_n2 (h1 : isW T n p 20 20) (h2 : ¬ kdT T n (avT T n p) = 1) : gHea T n p = (false, avT T n p) := (if_pos h1).trans (if_neg h2)

theorem r_hea16 {g p2 : Nat} {x1 : Int × Int} (hp2 : p2 ≤ n) (hg : g < 2) : ∀ z : Nat × sD, (z.1 ≤ nbT T n 14 18 p2 ∧ RS d0 z.2 T n (tkI T n z.1 p2) (xMj T n 6 x1 p2 z.1) ∧ NL (xMj T n 6 x1 p2 z.1) (tkI T n z.1 p2 : Nat) ∧ ti (dHj T n dr g p2 z.1) (xMj T n 6 x1 p2 z.1) (z.2 274)) → tB G mX12_hearingLine 16 [vR 271, vI g, vI z.1, vU 0] [] z.2 (fun r d' => r = none ∧ LnP d0 T n (gRun T n 14 18 p2) (xMj T n 6 x1 p2 (nbT T n 14 18 p2)) (dHl T n dr g p2 (nbT T n 14 18 p2)) BT d') := by
  refine T_loop (α := Nat × sD) 16 (fun z => [vR 271, vI g, vI z.1, vU 0]) (fun z => z.2) (fun z => z.1 ≤ nbT T n 14 18 p2 ∧ RS d0 z.2 T n (tkI T n z.1 p2) (xMj T n 6 x1 p2 z.1) ∧ NL (xMj T n 6 x1 p2 z.1) (tkI T n z.1 p2 : Nat) ∧ ti (dHj T n dr g p2 z.1) (xMj T n 6 x1 p2 z.1) (z.2 274)) (fun z => nbT T n 14 18 p2 + 1 - z.1) ?_
  rintro ⟨j, e⟩ ⟨h1, h2, h3, h5⟩ ih
  try dsimp only at h1 h2 h3 h5 ih ⊢
  have hT := h2.1.tv
  have hn6 := hT.1
  have hnb := nbT_le (lo := 14) (hi := 18) hT n p2 (by omega) hp2
  have hp := h2.2.1.1
  have e4 : (e 271 4) = ((tkI T n j p2 : Nat) : Int) := h2.2.1.2.1.1
  have hend : ¬ isW T n (tkI T n j p2) 14 18 → tkI T n j p2 = tkI T n (nbT T n 14 18 p2) p2 ∧ j = nbT T n 14 18 p2 := fun hn => by
    have : j = nbT T n 14 18 p2 := by
      rcases Nat.lt_or_ge j (nbT T n 14 18 p2) with z | z
      · exact absurd ((isW_tk hT hp2 h1).mpr z) hn
      · omega
    exact ⟨by rw [← this], this⟩
  have hs1 : isW T n (tkI T n j p2) 14 18 → j < nbT T n 14 18 p2 ∧ tkI T n j p2 < avT T n (tkI T n j p2) := fun hw => ⟨(isW_tk hT hp2 h1).mp hw, tk_lt hT hp hw⟩
  have h94 : ∀ (v : Int) (e2 : sD), ¬ isW T n (tkI T n j p2) 14 18 → (j ≤ 6 → v = (j : Int)) → e2 = up e 274 g v → tB G mX12_hearingLine 94 [vR 271, vI g, vI j, vU 0] [] e2 (fun r d' => r = none ∧ LnP d0 T n (gRun T n 14 18 p2) (xMj T n 6 x1 p2 (nbT T n 14 18 p2)) (dHl T n dr g p2 (nbT T n 14 18 p2)) BT d') := by
    rintro v e2 hn hv rfl
    obtain ⟨k1, k2⟩ := hend hn
    have ht : ti (dHl T n dr g p2 j) (xMj T n 6 x1 p2 j) (up e 274 g v 274) := fun hz i hi => by
      have q := xMj_0 hz
      by_cases z : i = g
      · rw [z, up_same, hv q.2]; exact (if_pos rfl).symm
      · rw [up_nej z, h5 hz i hi]; exact (if_neg z).symm
    refine T_aload_n dX12_hearingLine_94 rfl ?_
    refine T_callV dX12_hearingLine_95 lX12_177 (As := []) (rest := _) rfl rfl k271 (by decide) (Nat.le_of_ble_eq_true rfl) (Nat.le_of_ble_eq_true rfl) (LnP_sem (dr := dHl T n dr g p2 j) (B := BT) h3 trivial ht (RS_w h2)) ?_
    rintro _ e2 ⟨rfl, hL⟩
    exact T_return dX12_hearingLine_98 rfl ⟨rfl, by rw [← k2]; unfold gRun; rw [← k1]; exact hL⟩
  have h38 : ∀ (e1 : sD), isW T n (tkI T n j p2) 14 18 → RS d0 e1 T n (tkI T n j p2) (xMj T n 6 x1 p2 (j + 1)) → NL (xMj T n 6 x1 p2 (j + 1)) (avT T n (tkI T n j p2) : Nat) → e1 274 = e 274 → tB G mX12_hearingLine 38 [vR 271, vI g, vI j, vU 0] [] e1 (fun r d' => r = none ∧ LnP d0 T n (gRun T n 14 18 p2) (xMj T n 6 x1 p2 (nbT T n 14 18 p2)) (dHl T n dr g p2 (nbT T n 14 18 p2)) BT d') := by
    intro e1 hw hR hN h274
    obtain ⟨hj, hlt⟩ := hs1 hw
    refine T_aload_n dX12_hearingLine_38 rfl ?_
    refine T_bipush dX12_hearingLine_39 (by decide) ?_
    refine T_bipush dX12_hearingLine_41 (by decide) ?_
    refine T_callV dX12_hearingLine_43 lX12_156 (As := [_, _]) (rest := _) rfl rfl k271 (by decide) (Nat.le_of_ble_eq_true rfl) (Nat.le_of_ble_eq_true rfl) (r_takesY hR hw) ?_
    rintro _ e2 ⟨rfl, hR2, h274b⟩
    have e274 : e2 274 = e 274 := h274b.trans h274
    have hwr := hw.2
    refine T_bipush dX12_hearingLine_46 (by decide) ?_
    refine T_sub dX12_hearingLine_48 (by omega) ?_
    refine T_ist_n dX12_hearingLine_49 (by decide) rfl ?_
    refine T_iload_n dX12_hearingLine_50 rfl ?_
    refine T_bipush dX12_hearingLine_51 (by decide) ?_
    refine T_icmp_ge (tgt := 70) dX12_hearingLine_53 (by decide) (fun c53 => ?_) (fun c53 => ?_)
    · refine T_inc dX12_hearingLine_70 rfl (by decide) rfl (by omega) ?_
      refine T_goto (tgt := 16) dX12_hearingLine_73 (by decide) ?_
      refine T_drop 3 (ih (j + 1, e2) ⟨by omega, by (try dsimp only); rw [tkI_s]; exact hR2, by (try dsimp only); rw [tkI_s]; exact hN, fun hz => ?_⟩ (by omega))
      have q := xMj_0 hz
      try dsimp only at q
      omega
    · refine T_aload_n dX12_hearingLine_56 rfl ?_
      refine T_getR dX12_hearingLine_57 fX12_17 rfl k271 r271_9 ?_
      refine T_iconst dX12_hearingLine_60 (by decide) ?_
      refine T_bipush dX12_hearingLine_61 (by decide) ?_
      refine T_iload_n dX12_hearingLine_63 rfl ?_
      refine T_mul dX12_hearingLine_64 (by omega) ?_
      refine T_add dX12_hearingLine_65 (by omega) ?_
      refine T_iload_n dX12_hearingLine_66 rfl ?_
      refine T_add dX12_hearingLine_67 (by omega) ?_
      refine T_iload_n dX12_hearingLine_68 rfl ?_
      refine T_iast dX12_hearingLine_69 k274 l274 (by omega) (j := 2 + 6 * g + j) (by omega) ?_
      refine T_inc dX12_hearingLine_70 rfl (by decide) rfl (by omega) ?_
      refine T_goto (tgt := 16) dX12_hearingLine_73 (by decide) ?_
      refine T_drop 3 (ih (j + 1, up e2 274 (2 + 6 * g + j) (woT T n (tkI T n j p2) - 14)) ⟨by omega, by (try dsimp only); rw [tkI_s]; exact RS_w hR2, by (try dsimp only); rw [tkI_s]; exact hN, fun hz i hi => ?_⟩ (by omega))
      try dsimp only at hz ⊢
      rw [xMj_s0 (by omega)] at hz
      show _ = if _ then _ else _
      by_cases y : i = 2 + 6 * g + j
      · rw [y, up_same, if_pos (by omega), show 2 + 6 * g + j - (2 + 6 * g) = j by omega]
      · rw [up_nej y, e274, h5 hz i hi]
        show (if _ then _ else _) = _
        by_cases u : 2 + 6 * g ≤ i ∧ i < 2 + 6 * g + j
        · rw [if_pos u, if_pos (by omega)]
        · rw [if_neg u, if_neg (by omega)]
  have hal := RS_al (k := 3) h2 h3
  refine T_aload_n dX12_hearingLine_16 rfl ?_
  refine T_callV dX12_hearingLine_17 lX12_180 (As := []) (rest := _) rfl rfl k271 (by decide) (Nat.le_of_ble_eq_true rfl) (Nat.le_of_ble_eq_true rfl) (r_isMove h2) ?_
  rintro _ _ ⟨rfl, rfl⟩
  refine T_if_eq (tgt := 76) dX12_hearingLine_20 (by decide) (fun c20 => ?_) (fun c20 => ?_)
  · refine T_aload_n dX12_hearingLine_76 rfl ?_
    refine T_getR dX12_hearingLine_77 fX12_17 rfl k271 r271_9 ?_
    refine T_iload_n dX12_hearingLine_80 rfl ?_
    refine T_iload_n dX12_hearingLine_81 rfl ?_
    refine T_bipush dX12_hearingLine_82 (by decide) ?_
    refine T_icmp_ge (tgt := 91) dX12_hearingLine_84 (by decide) (fun c84 => ?_) (fun c84 => ?_)
    · refine T_bipush dX12_hearingLine_91 (by decide) ?_
      refine T_iast dX12_hearingLine_93 k274 l274 (by omega) (j := g) (by omega) ?_
      exact h94 6 _ (bI_0 c20) (fun z => by omega) rfl
    · refine T_iload_n dX12_hearingLine_87 rfl ?_
      refine T_goto (tgt := 93) dX12_hearingLine_88 (by decide) ?_
      refine T_iast dX12_hearingLine_93 k274 l274 (by omega) (j := g) (by omega) ?_
      exact h94 (j : Int) _ (bI_0 c20) (fun z => rfl) rfl
  · refine T_iload_n dX12_hearingLine_23 rfl ?_
    refine T_bipush dX12_hearingLine_24 (by decide) ?_
    refine T_icmp_lt (tgt := 38) dX12_hearingLine_26 (by decide) (fun c26 => ?_) (fun c26 => ?_)
    · obtain ⟨hj, hlt⟩ := hs1 (bI_1 c20)
      refine h38 e (bI_1 c20) ?_ ?_ rfl
      · rw [xMj_s0 (by omega)]; exact h2
      · rw [xMj_s0 (by omega)]; exact h3.mono (by omega)
    · refine T_aload_n dX12_hearingLine_29 rfl ?_
      refine T_iconst dX12_hearingLine_30 (by decide) ?_
      refine T_aload_n dX12_hearingLine_31 rfl ?_
      refine T_getIv dX12_hearingLine_32 fX12_112 rfl k271 (x := ((tkI T n j p2 : Nat) : Int)) e4 ?_
      refine T_callV dX12_hearingLine_35 lX12_149 (As := [_, _]) (rest := _) rfl rfl k271 (by decide) (Nat.le_of_ble_eq_true rfl) (Nat.le_of_ble_eq_true rfl) t_also ?_
      rintro _ _ ⟨rfl, rfl⟩
      obtain ⟨hj, hlt⟩ := hs1 (bI_1 c20)
      refine h38 _ (bI_1 c20) ?_ ?_ hal.2
      · rw [← xMj_s1 (by omega)]; exact hal.1
      · rw [← xMj_s1 (by omega)]; exact NL_a (h3.mono (by omega)) (by omega)

theorem r_hearingLine (h : RS d0 d T n p x) (hx : NL x p) (hd : ti dr x (d 274)) : tB G mX12_hearingLine 0 [vR 271, vU 0, vU 0, vU 0] [] d (fun r d' => r = none ∧ LnP d0 T n (gHea T n p) (xHea T n x p) (dHea T n dr p) BT d') := by
  have hT := h.1.tv
  have hp := h.2.1.1
  have h16w : ∀ (q0 : Nat) (e : sD), gHea T n p = (false, q0) → RW d0 e q0 → tB G mX12_hearingLine 16 [vR 271, vI 0, vI 0, vU 0] [] e (fun r d' => r = none ∧ LnP d0 T n (gHea T n p) (xHea T n x p) (dHea T n dr p) BT d') := by
    intro q0 e hg hW
    have hW2 : RW d0 (up e 274 0 0) q0 := RW_w hW
    refine T_aload_n dX12_hearingLine_16 rfl ?_
    refine T_callV dX12_hearingLine_17 lX12_180 (As := []) (rest := _) rfl rfl k271 (by decide) (Nat.le_of_ble_eq_true rfl) (Nat.le_of_ble_eq_true rfl) (w_isMove hW) ?_
    rintro _ _ ⟨rfl, rfl⟩
    refine T_if_eq (tgt := 76) dX12_hearingLine_20 (by decide) (fun c20 => ?_) (fun c20 => absurd rfl c20)
    refine T_aload_n dX12_hearingLine_76 rfl ?_
    refine T_getR dX12_hearingLine_77 fX12_17 rfl k271 r271_9 ?_
    refine T_iload_n dX12_hearingLine_80 rfl ?_
    refine T_iload_n dX12_hearingLine_81 rfl ?_
    refine T_bipush dX12_hearingLine_82 (by decide) ?_
    refine T_icmp_ge (tgt := 91) dX12_hearingLine_84 (by decide) (fun c84 => absurd c84 (by decide)) (fun c84 => ?_)
    refine T_iload_n dX12_hearingLine_87 rfl ?_
    refine T_goto (tgt := 93) dX12_hearingLine_88 (by decide) ?_
    refine T_iast dX12_hearingLine_93 k274 l274 (by omega) (j := 0) rfl ?_
    refine T_aload_n dX12_hearingLine_94 rfl ?_
    refine T_callV dX12_hearingLine_95 lX12_177 (As := []) (rest := _) rfl rfl k271 (by decide) (Nat.le_of_ble_eq_true rfl) (Nat.le_of_ble_eq_true rfl) (w_endsLine hW2) ?_
    rintro _ _ ⟨rfl, rfl⟩
    exact T_return dX12_hearingLine_98 rfl ⟨rfl, Or.inl (by rw [hg]; exact ⟨rfl, hW2⟩)⟩
  refine T_aload_n dX12_hearingLine_0 rfl ?_
  refine T_bipush dX12_hearingLine_1 (by decide) ?_
  refine T_bipush dX12_hearingLine_3 (by decide) ?_
  refine T_callV dX12_hearingLine_5 lX12_156 (As := [_, _]) (rest := _) rfl rfl k271 (by decide) (Nat.le_of_ble_eq_true rfl) (Nat.le_of_ble_eq_true rfl) (r_takes h) ?_
  rintro _ e1 (⟨hw, rfl, hR, h274⟩ | ⟨hw, rfl, hW, h274⟩)
  · have hp1 := hT.av hp
    have hlt := tk_lt hT hp hw
    refine T_pop dX12_hearingLine_8 rfl ?_
    refine T_aload_n dX12_hearingLine_9 rfl ?_
    refine T_callV dX12_hearingLine_10 lX12_163 (As := []) (rest := _) rfl rfl k271 (by decide) (Nat.le_of_ble_eq_true rfl) (Nat.le_of_ble_eq_true rfl) (r_armyTold hR (hx.mono (by omega))) ?_
    rintro _ e2 (⟨hk, rfl, hR2, h274b⟩ | ⟨hk, rfl, hW, h274b⟩)
    · have hlt2 := hT.lt hp1.2 (show ¬ kdT T n (avT T n p) = 0 by omega)
      have hp2 := hT.av hp1.2
      have hx1 : NL (xNum T n x (avT T n p) 0 1) (avT T n (avT T n p) : Nat) := NL_num (hx.mono (by omega)) (by omega)
      have e274 : e2 274 = d 274 := h274b.trans h274
      refine T_ist_n dX12_hearingLine_13 (by decide) rfl ?_
      refine T_iconst dX12_hearingLine_14 (by decide) ?_
      refine T_ist_n dX12_hearingLine_15 (by decide) rfl ?_
      have hL := r_hea16 (G := G) (d0 := d0) (T := T) (n := n) (dr := dr) (x1 := xNum T n x (avT T n p) 0 1) hp2.2 (gvT_2 (T := T) (n := n) (p := avT T n p)) (0, e2) ⟨Nat.zero_le _, by (try dsimp only); rw [xMj_z]; exact hR2, by (try dsimp only); rw [xMj_z]; exact hx1, by
        (try dsimp only)
        rw [xMj_z]
        intro z i hi
        rw [e274, hd (xNum_0 z).1 i hi]
        exact (if_neg (by omega)).symm⟩
      rw [gHea_y hw hk]
      exact hL
    ·
      refine T_ist_n dX12_hearingLine_13 (by decide) rfl ?_
      refine T_iconst dX12_hearingLine_14 (by decide) ?_
      refine T_ist_n dX12_hearingLine_15 (by decide) rfl ?_
      exact h16w _ e2 (gHea_n2 hw hk) hW
  ·
    refine T_pop dX12_hearingLine_8 rfl ?_
    refine T_aload_n dX12_hearingLine_9 rfl ?_
    refine T_callV dX12_hearingLine_10 lX12_163 (As := []) (rest := _) rfl rfl k271 (by decide) (Nat.le_of_ble_eq_true rfl) (Nat.le_of_ble_eq_true rfl) (w_armyTold hW) ?_
    rintro _ _ ⟨rfl, rfl⟩
    refine T_ist_n dX12_hearingLine_13 (by decide) rfl ?_
    refine T_iconst dX12_hearingLine_14 (by decide) ?_
    refine T_ist_n dX12_hearingLine_15 (by decide) rfl ?_
    exact h16w _ e1 (gHea_n1 hw) hW

end C38
