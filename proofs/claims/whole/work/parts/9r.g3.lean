/-! the reference: a line of a score -/
section C37
variable {G : sG} {d d' d0 : sD} {T : Nat → Int} {n p q : Nat} {x : Int × Int} {dr : Nat → Int}
abbrev ti (dr : Nat → Int) (x : Int × Int) (h : Nat → Int) : Prop := x.1 = 0 → ∀ i, i < 89 → h i = dr i
theorem gSco_y (h1 : isW T n p 19 19) (h2 : kdT T n (avT T n p) = 1) : gSco T n p = if isW T n (avT T n (avT T n p)) 10 13 then gRun T n 10 13 (avT T n (avT T n p)) else (false, avT T n (avT T n p)) := by
  exact (if_pos h1).trans (if_pos h2)
theorem gSco_n1 (h1 : ¬ isW T n p 19 19) : gSco T n p = (false, p) := if_neg h1
theorem gSco_n2 (h1 : isW T n p 19 19) (h2 : ¬ kdT T n (avT T n p) = 1) : gSco T n p = (false, avT T n p) := by
  exact (if_pos h1).trans (if_neg h2)
theorem BS_up {h h' : Nat → Int} {i : Nat} {v : Int} (hB : BS h) (hi : h' i = v) (hj : ∀ j, j ≠ i → h' j = h j) (hv : i < 2 → 0 ≤ v ∧ v ≤ 12) : BS h' := fun a ha => by
  by_cases z : a = i
  · rw [z, hi]; exact hv (by omega)
  · rw [hj a z]; exact hB a ha
theorem xSj_s0 {c : Int} {p j : Nat} (hc : c + j < 12) : xSj T n x c p (j + 1) = xSj T n x c p j := by
  unfold xSj; rw [if_neg (by omega), if_neg (by omega)]
theorem xSj_s1 {c : Int} {p j : Nat} (hc : c + j = 12) : xSj T n x c p (j + 1) = ntA (xSj T n x c p j) 3 (tkI T n j p) := by
  unfold xSj; rw [if_pos (by omega), if_neg (by omega), show (12 - c).toNat = j by omega]
theorem ntA_n {k a : Int} (h : ¬ x.1 = 0) : ntA x k a = x := if_neg h
theorem xSj_n {c : Int} {p j : Nat} (h : ¬ (xSj T n x c p j).1 = 0) : xSj T n x c p (j + 1) = xSj T n x c p j := by
  by_cases z : x.1 = 0
  · unfold xSj at h ⊢
    by_cases y : 12 < c + j
    · rw [if_pos (by omega), if_pos y]
    · rw [if_neg y] at h; exact absurd z h
  · unfold xSj; rw [ntA_n z, ite_self, ite_self]
theorem xSj_0 {c : Int} {p j : Nat} (h : (xSj T n x c p j).1 = 0) : x.1 = 0 ∧ c + j ≤ 12 := by
  unfold xSj at h
  by_cases y : 12 < c + j
  · rw [if_pos y] at h; exact absurd h (fun z => (ntA_0 (by decide)).mp z)
  · rw [if_neg y] at h; exact ⟨h, by omega⟩
theorem xSj_1 {c : Int} {p j : Nat} (h : x.1 = 0) (hc : c + j ≤ 12) : xSj T n x c p j = x := by unfold xSj; rw [if_neg (by omega)]

theorem r_beatY (h : RS d0 d T n p x) (hw : isW T n p 10 13) : tB G mX12_beatTold 0 [vR 271] [] d (fun r d' => r = some (vI (woT T n p - 10)) ∧ RS d0 d' T n (avT T n p) x ∧ d' 274 = d 274) := (r_beatTold h).mono (by
  rintro r d' (⟨_, h2⟩ | ⟨h1, _⟩)
  · exact h2
  · exact absurd hw h1)
theorem dSj_s {h h' : Nat → Int} {g j : Nat} (hg : g < 2) (hc0 : 0 ≤ dr g) (hcj : dr g + j < 12) (he : ∀ i, i < 89 → h i = dSj T n dr g p j i) (h1 : h' g = h g + 1) (h2 : h' (2 + 12 * g + (h g).toNat) = woT T n (tkI T n j p) - 10) (h3 : ∀ i, i ≠ g → i ≠ 2 + 12 * g + (h g).toNat → h' i = h i) : ∀ i, i < 89 → h' i = dSj T n dr g p (j + 1) i := by
  intro i hi
  have eg : h g = dr g + j := by rw [he g (by omega)]; exact if_pos rfl
  by_cases z : i = g
  · rw [z, h1, eg]; show _ = if _ then _ else _; rw [if_pos rfl]; omega
  · show _ = if _ then _ else if _ then _ else _
    rw [if_neg z]
    by_cases y : i = 2 + 12 * g + (h g).toNat
    · rw [y, h2, if_pos (by omega), show 2 + 12 * g + (h g).toNat - (2 + 12 * g + (dr g).toNat) = j by omega]
    · rw [h3 i z y, he i hi]
      show (if _ then _ else if _ then _ else _) = _
      rw [if_neg z]
      by_cases u : 2 + 12 * g + (dr g).toNat ≤ i ∧ i < 2 + 12 * g + (dr g).toNat + j
      · rw [if_pos u, if_pos (by omega)]
      · rw [if_neg u, if_neg (by omega)]
theorem r_sco34 {g p2 : Nat} {x1 : Int × Int} (hp2 : p2 ≤ n) (hg : g < 2) (hdr : x1.1 = 0 → 0 ≤ dr g ∧ dr g ≤ 12) : ∀ z : Nat × sD, (z.1 ≤ nbT T n 10 13 p2 ∧ RS d0 z.2 T n (tkI T n z.1 p2) (xSj T n x1 (dr g) p2 z.1) ∧ NL (xSj T n x1 (dr g) p2 z.1) (tkI T n z.1 p2 : Nat) ∧ BS (z.2 274) ∧ ti (dSj T n dr g p2 z.1) (xSj T n x1 (dr g) p2 z.1) (z.2 274)) → tB G mX12_scoreLine 34 [vR 271, vI g, vU 0, vU 0] [] z.2 (fun r d' => r = none ∧ LnP d0 T n (gRun T n 10 13 p2) (xSj T n x1 (dr g) p2 (nbT T n 10 13 p2)) (dSj T n dr g p2 (nbT T n 10 13 p2)) BS d') := by
  refine T_loop (α := Nat × sD) 34 (fun z => [vR 271, vI g, vU 0, vU 0]) (fun z => z.2) (fun z => z.1 ≤ nbT T n 10 13 p2 ∧ RS d0 z.2 T n (tkI T n z.1 p2) (xSj T n x1 (dr g) p2 z.1) ∧ NL (xSj T n x1 (dr g) p2 z.1) (tkI T n z.1 p2 : Nat) ∧ BS (z.2 274) ∧ ti (dSj T n dr g p2 z.1) (xSj T n x1 (dr g) p2 z.1) (z.2 274)) (fun z => nbT T n 10 13 p2 + 1 - z.1) ?_
  rintro ⟨j, e⟩ ⟨h1, h2, h3, h4, h5⟩ ih
  try dsimp only at h1 h2 h3 h4 h5 ih ⊢
  have hT := h2.1.tv
  have hp := h2.2.1.1
  have hg12 := h4 g hg
  have e4 : (e 271 4) = ((tkI T n j p2 : Nat) : Int) := h2.2.1.2.1.1
  have hend : ¬ isW T n (tkI T n j p2) 10 13 → tkI T n j p2 = tkI T n (nbT T n 10 13 p2) p2 ∧ j = nbT T n 10 13 p2 := fun hn => by
    have : j = nbT T n 10 13 p2 := by
      rcases Nat.lt_or_ge j (nbT T n 10 13 p2) with z | z
      · exact absurd ((isW_tk hT hp2 h1).mpr z) hn
      · omega
    exact ⟨by rw [← this], this⟩
  have hs1 : isW T n (tkI T n j p2) 10 13 → j < nbT T n 10 13 p2 ∧ tkI T n j p2 < avT T n (tkI T n j p2) := fun hw => ⟨(isW_tk hT hp2 h1).mp hw, tk_lt hT hp hw⟩
  have h58y : isW T n (tkI T n j p2) 10 13 → e 274 g < 12 → tB G mX12_scoreLine 58 [vR 271, vI g, vI 1, vU 0] [] e (fun r d' => r = none ∧ LnP d0 T n (gRun T n 10 13 p2) (xSj T n x1 (dr g) p2 (nbT T n 10 13 p2)) (dSj T n dr g p2 (nbT T n 10 13 p2)) BS d') := by
    intro hw hm
    obtain ⟨hj, hlt⟩ := hs1 hw
    have exj : xSj T n x1 (dr g) p2 (j + 1) = xSj T n x1 (dr g) p2 j := by
      by_cases z : (xSj T n x1 (dr g) p2 j).1 = 0
      · have q := xSj_0 z
        have := h5 z g (by omega)
        rw [this] at hm
        exact xSj_s0 (by rw [show dSj T n dr g p2 j g = dr g + j from if_pos rfl] at hm; exact hm)
      · exact xSj_n z
    refine T_iload_n dX12_scoreLine_58 rfl ?_
    refine T_if_ne (tgt := 71) dX12_scoreLine_59 (by decide) (fun c59 => ?_) (fun c59 => absurd c59 (by decide))
    refine T_aload_n dX12_scoreLine_71 rfl ?_
    refine T_callV dX12_scoreLine_72 lX12_171 (As := []) (rest := _) rfl rfl k271 (by decide) (Nat.le_of_ble_eq_true rfl) (Nat.le_of_ble_eq_true rfl) (r_beatY h2 hw) ?_
    rintro _ e2 ⟨rfl, hR, h274⟩
    have e2g : e2 274 g = e 274 g := by rw [h274]
    refine T_ist_n dX12_scoreLine_75 (by decide) rfl ?_
    refine T_iload_n dX12_scoreLine_76 rfl ?_
    refine T_if_ne (tgt := 83) dX12_scoreLine_77 (by decide) (fun c77 => ?_) (fun c77 => absurd c77 (by decide))
    refine T_aload_n dX12_scoreLine_83 rfl ?_
    refine T_getR dX12_scoreLine_84 fX12_17 rfl k271 r271_9 ?_
    refine T_iconst dX12_scoreLine_87 (by decide) ?_
    refine T_bipush dX12_scoreLine_88 (by decide) ?_
    refine T_iload_n dX12_scoreLine_90 rfl ?_
    refine T_mul dX12_scoreLine_91 (by omega) ?_
    refine T_add dX12_scoreLine_92 (by omega) ?_
    refine T_aload_n dX12_scoreLine_93 rfl ?_
    refine T_getR dX12_scoreLine_94 fX12_17 rfl k271 r271_9 ?_
    refine T_iload_n dX12_scoreLine_97 rfl ?_
    refine T_ialdv dX12_scoreLine_98 k274 l274 (by omega) (j := g) (by omega) (x := e 274 g) e2g ?_
    refine T_add dX12_scoreLine_99 (by omega) ?_
    refine T_iload_n dX12_scoreLine_100 rfl ?_
    refine T_iast dX12_scoreLine_101 k274 l274 (by omega) (j := 2 + 12 * g + (e 274 g).toNat) (by omega) ?_
    refine T_aload_n dX12_scoreLine_102 rfl ?_
    refine T_getR dX12_scoreLine_103 fX12_17 rfl k271 r271_9 ?_
    refine T_iload_n dX12_scoreLine_106 rfl ?_
    refine T_dup2 dX12_scoreLine_107 rfl rfl ?_
    refine T_ialdv dX12_scoreLine_108 k274 l274 (by omega) (j := g) (by omega) (x := e 274 g) (by rw [up_nej (by omega)]; exact e2g) ?_
    refine T_iconst dX12_scoreLine_109 (by decide) ?_
    refine T_add dX12_scoreLine_110 (by omega) ?_
    refine T_iast dX12_scoreLine_111 k274 l274 (by omega) (j := g) (by omega) ?_
    refine T_goto (tgt := 34) dX12_scoreLine_112 (by decide) ?_
    refine T_drop 2 (T_drop 3 (ih (j + 1, up (up e2 274 (2 + 12 * g + (e 274 g).toNat) (woT T n (tkI T n j p2) - 10)) 274 g (e 274 g + 1)) ⟨by omega, ?_, ?_, ?_, ?_⟩ (by omega)))
    · try dsimp only
      rw [exj, tkI_s]; exact RS_w (RS_w hR)
    · try dsimp only
      rw [exj, tkI_s]; exact h3.mono (by omega)
    · try dsimp only
      refine BS_up (h := up e2 274 (2 + 12 * g + (e 274 g).toNat) (woT T n (tkI T n j p2) - 10) 274) (i := g) (BS_up (i := 2 + 12 * g + (e 274 g).toNat) (by rw [h274]; exact h4) up_same (fun k hk => up_nej hk) (fun z => by omega)) up_same (fun k hk => up_nej hk) (fun _ => by omega)
    · intro hz
      dsimp only at hz ⊢
      rw [exj] at hz
      have q := xSj_0 hz
      have eg : e 274 g = dr g + j := by rw [h5 hz g (by omega)]; exact if_pos rfl
      exact dSj_s (h := e 274) hg (hdr q.1).1 (by omega) (h5 hz) up_same (by rw [up_nej (by omega), up_same]) (fun i h6 h7 => by rw [up_nej h6, up_nej h7, h274])
  have h58n : isW T n (tkI T n j p2) 10 13 → ¬ e 274 g < 12 → tB G mX12_scoreLine 58 [vR 271, vI g, vI 0, vU 0] [] e (fun r d' => r = none ∧ LnP d0 T n (gRun T n 10 13 p2) (xSj T n x1 (dr g) p2 (nbT T n 10 13 p2)) (dSj T n dr g p2 (nbT T n 10 13 p2)) BS d') := by
    intro hw hm
    obtain ⟨hj, hlt⟩ := hs1 hw
    have exj : ntA (xSj T n x1 (dr g) p2 j) 3 (tkI T n j p2 : Nat) = xSj T n x1 (dr g) p2 (j + 1) := by
      by_cases z : (xSj T n x1 (dr g) p2 j).1 = 0
      · have q := xSj_0 z
        have h6 : e 274 g = dr g + j := by rw [h5 z g (by omega)]; exact if_pos rfl
        exact (xSj_s1 (by omega)).symm
      · rw [xSj_n z]; exact ntA_n z
    have hal := RS_al (k := 3) h2 h3
    refine T_iload_n dX12_scoreLine_58 rfl ?_
    refine T_if_ne (tgt := 71) dX12_scoreLine_59 (by decide) (fun c59 => absurd rfl c59) (fun c59 => ?_)
    refine T_aload_n dX12_scoreLine_62 rfl ?_
    refine T_iconst dX12_scoreLine_63 (by decide) ?_
    refine T_aload_n dX12_scoreLine_64 rfl ?_
    refine T_getIv dX12_scoreLine_65 fX12_112 rfl k271 (x := ((tkI T n j p2 : Nat) : Int)) e4 ?_
    refine T_callV dX12_scoreLine_68 lX12_149 (As := [_, _]) (rest := _) rfl rfl k271 (by decide) (Nat.le_of_ble_eq_true rfl) (Nat.le_of_ble_eq_true rfl) t_also ?_
    rintro _ _ ⟨rfl, rfl⟩
    refine T_aload_n dX12_scoreLine_71 rfl ?_
    refine T_callV dX12_scoreLine_72 lX12_171 (As := []) (rest := _) rfl rfl k271 (by decide) (Nat.le_of_ble_eq_true rfl) (Nat.le_of_ble_eq_true rfl) (r_beatY hal.1 hw) ?_
    rintro _ e2 ⟨rfl, hR, h274⟩
    refine T_ist_n dX12_scoreLine_75 (by decide) rfl ?_
    refine T_iload_n dX12_scoreLine_76 rfl ?_
    refine T_if_ne (tgt := 83) dX12_scoreLine_77 (by decide) (fun c77 => absurd rfl c77) (fun c77 => ?_)
    refine T_goto (tgt := 34) dX12_scoreLine_80 (by decide) ?_
    refine T_drop 2 (T_drop 3 (ih (j + 1, e2) ⟨by omega, ?_, ?_, ?_, ?_⟩ (by omega)))
    · try dsimp only
      rw [← exj, tkI_s]; exact hR
    · try dsimp only
      rw [← exj, tkI_s]; exact NL_a (h3.mono (by omega)) (by omega)
    · try dsimp only
      rw [h274, hal.2]; exact h4
    · intro hz
      try dsimp only at hz
      rw [← exj] at hz
      exact absurd hz (fun z => (ntA_0 (by decide)).mp z)
  refine T_aload_n dX12_scoreLine_34 rfl ?_
  refine T_callV dX12_scoreLine_35 lX12_167 (As := []) (rest := _) rfl rfl k271 (by decide) (Nat.le_of_ble_eq_true rfl) (Nat.le_of_ble_eq_true rfl) (r_isBeat h2) ?_
  rintro _ _ ⟨rfl, rfl⟩
  refine T_if_eq (tgt := 115) dX12_scoreLine_38 (by decide) (fun c38 => ?_) (fun c38 => ?_)
  · refine T_aload_n dX12_scoreLine_115 rfl ?_
    refine T_callV dX12_scoreLine_116 lX12_177 (As := []) (rest := _) rfl rfl k271 (by decide) (Nat.le_of_ble_eq_true rfl) (Nat.le_of_ble_eq_true rfl) (LnP_sem (dr := dSj T n dr g p2 j) (B := BS) h3 h4 h5 h2) ?_
    rintro _ e2 ⟨rfl, hL⟩
    obtain ⟨k1, k2⟩ := hend (bI_0 c38)
    exact T_return dX12_scoreLine_119 rfl ⟨rfl, by rw [← k2]; unfold gRun; rw [← k1]; exact hL⟩
  · refine T_aload_n dX12_scoreLine_41 rfl ?_
    refine T_getR dX12_scoreLine_42 fX12_17 rfl k271 r271_9 ?_
    refine T_iload_n dX12_scoreLine_45 rfl ?_
    refine T_ialdv dX12_scoreLine_46 k274 l274 (by omega) (j := g) (by omega) (x := e 274 g) rfl ?_
    refine T_bipush dX12_scoreLine_47 (by decide) ?_
    refine T_icmp_ge (tgt := 56) dX12_scoreLine_49 (by decide) (fun c49 => ?_) (fun c49 => ?_)
    · refine T_iconst dX12_scoreLine_56 (by decide) ?_
      refine T_ist_n dX12_scoreLine_57 (by decide) rfl ?_
      exact h58n (bI_1 c38) (by omega)
    · refine T_iconst dX12_scoreLine_52 (by decide) ?_
      refine T_goto (tgt := 57) dX12_scoreLine_53 (by decide) ?_
      refine T_ist_n dX12_scoreLine_57 (by decide) rfl ?_
      exact h58y (bI_1 c38) (by omega)

theorem xSj_z {c : Int} {p : Nat} (h : x.1 = 0 → c ≤ 12) : xSj T n x c p 0 = x := by
  by_cases z : x.1 = 0
  · exact xSj_1 z (by have := h z; omega)
  · unfold xSj; rw [ntA_n z, ite_self]
theorem dSj_z {g p : Nat} : dSj T n dr g p 0 = dr := funext fun i => by
  show (if _ then _ else if _ then _ else _) = _
  by_cases z : i = g
  · rw [if_pos z, z]; omega
  · rw [if_neg z, if_neg (by omega)]
theorem xNum_0 {lo hi : Int} (h : (xNum T n x p lo hi).1 = 0) : x.1 = 0 ∧ inR (nmT T n p) lo hi := by
  unfold xNum at h
  by_cases z : inR (nmT T n p) lo hi
  · rw [if_pos z] at h; exact ⟨h, z⟩
  · rw [if_neg z] at h; exact absurd h (fun y => (ntA_0 (by decide)).mp y)
theorem NL_num {lo hi : Int} (hx : NL x p) (hlt : (p : Int) < q) : NL (xNum T n x p lo hi) q := by
  unfold xNum
  by_cases z : inR (nmT T n p) lo hi
  · rw [if_pos z]; exact hx.mono (by omega)
  · rw [if_neg z]; exact NL_a (hx.mono (by omega)) hlt
theorem gvT_2 : gvT T n p < 2 := by unfold gvT; split <;> omega
theorem gvT_i : (if inR (nmT T n p) 0 1 then nmT T n p else 0) = (gvT T n p : Int) := by
  unfold gvT
  by_cases z : inR (nmT T n p) 0 1
  · rw [if_pos z, if_pos z]; omega
  · rw [if_neg z, if_neg z]; rfl
theorem r_scoreLine (h : RS d0 d T n p x) (hx : NL x p) (hB : BS (d 274)) (hd : ti dr x (d 274)) : tB G mX12_scoreLine 0 [vR 271, vU 0, vU 0, vU 0] [] d (fun r d' => r = none ∧ LnP d0 T n (gSco T n p) (xSco T n x dr p) (dSco T n dr p) BS d') := by
  have hT := h.1.tv
  have hp := h.2.1.1
  have h34w : ∀ (q0 : Nat) (e : sD) (g : sV), gSco T n p = (false, q0) → RW d0 e q0 → tB G mX12_scoreLine 34 [vR 271, g, vU 0, vU 0] [] e (fun r d' => r = none ∧ LnP d0 T n (gSco T n p) (xSco T n x dr p) (dSco T n dr p) BS d') := by
    intro q0 e g hg hW
    refine T_aload_n dX12_scoreLine_34 rfl ?_
    refine T_callV dX12_scoreLine_35 lX12_167 (As := []) (rest := _) rfl rfl k271 (by decide) (Nat.le_of_ble_eq_true rfl) (Nat.le_of_ble_eq_true rfl) (w_isBeat hW) ?_
    rintro _ _ ⟨rfl, rfl⟩
    refine T_if_eq (tgt := 115) dX12_scoreLine_38 (by decide) (fun c38 => ?_) (fun c38 => absurd rfl c38)
    refine T_aload_n dX12_scoreLine_115 rfl ?_
    refine T_callV dX12_scoreLine_116 lX12_177 (As := []) (rest := _) rfl rfl k271 (by decide) (Nat.le_of_ble_eq_true rfl) (Nat.le_of_ble_eq_true rfl) (w_endsLine hW) ?_
    rintro _ _ ⟨rfl, rfl⟩
    exact T_return dX12_scoreLine_119 rfl ⟨rfl, Or.inl (by rw [hg]; exact ⟨rfl, hW⟩)⟩
  refine T_aload_n dX12_scoreLine_0 rfl ?_
  refine T_bipush dX12_scoreLine_1 (by decide) ?_
  refine T_bipush dX12_scoreLine_3 (by decide) ?_
  refine T_callV dX12_scoreLine_5 lX12_156 (As := [_, _]) (rest := _) rfl rfl k271 (by decide) (Nat.le_of_ble_eq_true rfl) (Nat.le_of_ble_eq_true rfl) (r_takes h) ?_
  rintro _ e1 (⟨hw, rfl, hR, h274⟩ | ⟨hw, rfl, hW, h274⟩)
  · have hp1 := hT.av hp
    have hlt := tk_lt hT hp hw
    refine T_pop dX12_scoreLine_8 rfl ?_
    refine T_aload_n dX12_scoreLine_9 rfl ?_
    refine T_iconst dX12_scoreLine_10 (by decide) ?_
    refine T_iconst dX12_scoreLine_11 (by decide) ?_
    refine T_callV dX12_scoreLine_12 lX12_160 (As := [_, _]) (rest := _) rfl rfl k271 (by decide) (Nat.le_of_ble_eq_true rfl) (Nat.le_of_ble_eq_true rfl) (r_numbered hR (hx.mono (by omega))) ?_
    rintro _ e2 (⟨hk, rfl, hR2, h274b⟩ | ⟨hk, rfl, hW, h274b⟩)
    · have hlt2 := hT.lt hp1.2 (show ¬ kdT T n (avT T n p) = 0 by omega)
      have hp2 := hT.av hp1.2
      have gy := gSco_y hw hk
      rw [gvT_i]
      have hR3 : RS d0 e2 T n (avT T n (avT T n p)) (xNum T n x (avT T n p) 0 1) := hR2
      have hx1 : NL (xNum T n x (avT T n p) 0 1) (avT T n (avT T n p) : Nat) := NL_num (hx.mono (by omega)) (by omega)
      have e274 : e2 274 = d 274 := h274b.trans h274
      have hw0 := hR3.2.2.1
      refine T_ist_n dX12_scoreLine_15 (by decide) rfl ?_
      refine T_aload_n dX12_scoreLine_16 rfl ?_
      refine T_getIv dX12_scoreLine_17 fX12_138 rfl k271 (x := (0 : Int)) hw0 ?_
      refine T_if_ne (tgt := 34) dX12_scoreLine_20 (by decide) (fun c20 => absurd rfl c20) (fun c20 => ?_)
      refine T_aload_n dX12_scoreLine_23 rfl ?_
      refine T_callV dX12_scoreLine_24 lX12_167 (As := []) (rest := _) rfl rfl k271 (by decide) (Nat.le_of_ble_eq_true rfl) (Nat.le_of_ble_eq_true rfl) (r_isBeat hR3) ?_
      rintro _ _ ⟨rfl, rfl⟩
      refine T_if_ne (tgt := 34) dX12_scoreLine_27 (by decide) (fun c27 => ?_) (fun c27 => ?_)
      · have hdr : (xNum T n x (avT T n p) 0 1).1 = 0 → 0 ≤ dr (gvT T n (avT T n p)) ∧ dr (gvT T n (avT T n p)) ≤ 12 := fun z => by
          rw [← hd (xNum_0 z).1 _ (Nat.lt_trans gvT_2 (by decide))]
          exact hB _ gvT_2
        have hL := r_sco34 (G := G) (d0 := d0) (T := T) (n := n) (dr := dr) (x1 := xNum T n x (avT T n p) 0 1) hp2.2 (gvT_2 (T := T) (n := n) (p := avT T n p)) hdr (0, e2) ⟨Nat.zero_le _, by (try dsimp only); rw [xSj_z (fun z => (hdr z).2)]; exact hR3, by (try dsimp only); rw [xSj_z (fun z => (hdr z).2)]; exact hx1, by (try dsimp only); rw [e274]; exact hB, by
          (try dsimp only)
          rw [xSj_z (fun z => (hdr z).2), dSj_z, e274]
          exact fun z => hd (xNum_0 z).1⟩
        rw [gy, if_pos (bI_1 c27)]
        exact hL
      · refine T_aload_n dX12_scoreLine_30 rfl ?_
        refine T_callV dX12_scoreLine_31 lX12_142 (As := []) (rest := _) rfl rfl k271 (by decide) (Nat.le_of_ble_eq_true rfl) (Nat.le_of_ble_eq_true rfl) t_ends ?_
        rintro _ _ ⟨rfl, rfl⟩
        exact h34w _ _ _ (by rw [gy, if_neg (bI_0 c27)]) (RS_en hR3).1
    ·
      refine T_ist_n dX12_scoreLine_15 (by decide) rfl ?_
      refine T_aload_n dX12_scoreLine_16 rfl ?_
      refine T_getIv dX12_scoreLine_17 fX12_138 rfl k271 (x := (1 : Int)) hW.1 ?_
      refine T_if_ne (tgt := 34) dX12_scoreLine_20 (by decide) (fun c20 => ?_) (fun c20 => absurd c20 (by decide))
      exact h34w _ e2 _ (gSco_n2 hw hk) hW
  ·
    refine T_pop dX12_scoreLine_8 rfl ?_
    refine T_aload_n dX12_scoreLine_9 rfl ?_
    refine T_iconst dX12_scoreLine_10 (by decide) ?_
    refine T_iconst dX12_scoreLine_11 (by decide) ?_
    refine T_callV dX12_scoreLine_12 lX12_160 (As := [_, _]) (rest := _) rfl rfl k271 (by decide) (Nat.le_of_ble_eq_true rfl) (Nat.le_of_ble_eq_true rfl) (w_numbered hW) ?_
    rintro _ _ ⟨rfl, rfl⟩
    refine T_ist_n dX12_scoreLine_15 (by decide) rfl ?_
    refine T_aload_n dX12_scoreLine_16 rfl ?_
    refine T_getIv dX12_scoreLine_17 fX12_138 rfl k271 (x := (1 : Int)) hW.1 ?_
    refine T_if_ne (tgt := 34) dX12_scoreLine_20 (by decide) (fun c20 => ?_) (fun c20 => absurd c20 (by decide))
    exact h34w _ e1 _ (gSco_n1 hw) hW

end C37
