/-! the reference: a text is read -/
section C46
variable {G : sG} {d d' d0 e : sD} {T : Nat → Int} {n p q s : Nat} {x : Int × Int} {dr : Nat → Int}
/-- no note, no change -/
abbrev KP (y x : Int × Int) : Prop := y.1 = 0 → y = x
theorem KP_nt {k a : Int} (hk : ¬ k = 0) : KP (ntA x k a) x := fun h => absurd h (fun z => (ntA_0 hk).mp z)
theorem KP.trans {x y z : Int × Int} (h1 : KP z y) (h2 : KP y x) : KP z x := fun h => by
  have e1 := h1 h
  rw [e1] at h ⊢
  exact h2 h
theorem KP_num {lo hi : Int} : KP (xNum T n x p lo hi) x := by
  unfold xNum; split
  · exact fun _ => rfl
  · exact KP_nt (by decide)
theorem KP_mj {M j : Nat} : KP (xMj T n M x p j) x := by
  unfold xMj; split
  · exact KP_nt (by decide)
  · exact fun _ => rfl
theorem KP_sj {c : Int} {j : Nat} : KP (xSj T n x c p j) x := by
  unfold xSj; split
  · exact KP_nt (by decide)
  · exact fun _ => rfl
theorem KP_war : KP (xWar T n x dr p) x := by
  unfold xWar; split
  · refine KP.trans KP_mj ?_
    unfold xO1; split
    · exact KP_nt (by decide)
    · exact KP_num
  · unfold xWa2; split
    · exact KP_num
    · split
      · exact fun _ => rfl
      · exact KP_num.trans KP_num
theorem KP_vil : KP (xVil T n x dr p) x := by
  have h0 : KP (xV0 x dr p) x := by
    unfold xV0; split
    · exact fun _ => rfl
    · exact KP_nt (by decide)
  have h1 : KP (xV1 T n (xV0 x dr p) dr (avT T n p)) (xV0 x dr p) := by
    unfold xV1; split
    · exact fun _ => rfl
    · exact KP_nt (by decide)
  refine KP.trans ?_ (h1.trans h0)
  unfold xVil xV2; split
  · exact KP_num
  · split
    · exact KP_nt (by decide)
    · exact fun _ => rfl
theorem KP_ln : KP (xLn T n s x dr p) x := by
  unfold xLn; split
  · exact KP_war
  · split
    · exact KP_sj.trans KP_num
    · split
      · exact KP_mj.trans KP_num
      · exact KP_vil
theorem psT_f (h : TV n T) : ∀ (f p : Nat) (x : Int × Int) (dr : Nat → Int) (f2 : Nat), p ≤ n → n + 1 - p ≤ f → n + 1 - p ≤ f2 → psT T n s f p x dr = psT T n s f2 p x dr
  | 0, p, x, dr, f2, hp, h1, h2 => by omega
  | f + 1, p, x, dr, f2, hp, h1, h2 => by
    obtain ⟨g, rfl⟩ : ∃ g, f2 = g + 1 := ⟨f2 - 1, by omega⟩
    show (if _ then _ else if _ then _ else _) = if _ then _ else if _ then _ else _
    by_cases z : kdT T n p = 0
    · rw [if_pos z, if_pos z]
    · rw [if_neg z, if_neg z]
      by_cases y : (gLn T n s p).1 = true
      · have hg := gOn_ln h hp (s := s) y
        rw [if_pos y, if_pos y]
        exact psT_f h f _ _ _ g hg.2 (by omega) (by omega)
      · rw [if_neg y, if_neg y]
/-- how a reading ends -/
def PE (d0 : sD) (s : Nat) (R : (Int × Int) × (Nat → Int)) (d : sD) : Prop := RF d0 d ∧ d 272 5 = R.1.1 ∧ d 272 6 = R.1.2 ∧ (R.1.1 = 0 → R.1.2 = -1 ∧ ∀ i, i < 89 → d 274 i = R.2 i)
theorem r_t90 {at1 : Int} {R : (Int × Int) × (Nat → Int)} {Q : Option sV → sD → Prop} (hs : s < 4) (kk : ∀ e, PE d0 s R e → tB G mX12_text 160 [vR 271, vI s, vI at1, vU 0, vU 0] [] e Q) : ∀ z : (Nat × (Int × Int)) × (Nat → Int) × sD, (RS d0 z.2.2 T n z.1.1 z.1.2 ∧ NL z.1.2 z.1.1 ∧ BLn s (z.2.2 274) ∧ ti z.2.1 z.1.2 (z.2.2 274) ∧ (z.1.2.1 = 0 → z.1.2.2 = -1) ∧ psT T n s (n + 1 - z.1.1) z.1.1 z.1.2 z.2.1 = R) → tB G mX12_text 90 [vR 271, vI s, vI at1, vU 0, vU 0] [] z.2.2 Q := by
  refine T_loop (α := (Nat × (Int × Int)) × (Nat → Int) × sD) 90 (fun z => [vR 271, vI s, vI at1, vU 0, vU 0]) (fun z => z.2.2) (fun z => RS d0 z.2.2 T n z.1.1 z.1.2 ∧ NL z.1.2 z.1.1 ∧ BLn s (z.2.2 274) ∧ ti z.2.1 z.1.2 (z.2.2 274) ∧ (z.1.2.1 = 0 → z.1.2.2 = -1) ∧ psT T n s (n + 1 - z.1.1) z.1.1 z.1.2 z.2.1 = R) (fun z => n + 1 - z.1.1) ?_
  rintro ⟨⟨p, x⟩, dr, e⟩ ⟨hR, hN, hB, hd, hx1, hps⟩ ih
  try dsimp only at hR hN hB hd hx1 hps ih ⊢
  have hT := hR.1.tv
  have hp := hR.2.1.1
  have hw0 := hR.2.2.1
  have ek := hR.2.1.2.1.2.2
  obtain ⟨f, hf⟩ : ∃ f, n + 1 - p = f + 1 := ⟨n - p, by omega⟩
  have hln : ¬ kdT T n p = 0 → ∀ e2, LnP d0 T n (gLn T n s p) (xLn T n s x dr p) (dLn T n s dr p) (BLn s) e2 → tB G mX12_text 90 [vR 271, vI s, vI at1, vU 0, vU 0] [] e2 Q := by
    rintro hk e2 (⟨k1, k2⟩ | ⟨k1, k2, k3, k4, k5⟩)
    · have hRe : R = ((1, ((gLn T n s p).2 : Int)), dr) := by
        rw [← hps, hf]
        exact (if_neg hk).trans (if_neg (by rw [k1]; decide))
      have hPE : PE d0 s R e2 := by
        rw [hRe]
        exact ⟨k2.2.2.2, k2.2.1, k2.2.2.1, fun z => absurd (show (1 : Int) = 0 from z) (by decide)⟩
      refine T_aload_n dX12_text_90 rfl ?_
      refine T_getIv dX12_text_91 fX12_138 rfl k271 (x := (1 : Int)) k2.1 ?_
      refine T_if_ne (tgt := 160) dX12_text_94 (by decide) (fun c94 => ?_) (fun c94 => absurd c94 (by decide))
      exact kk e2 hPE
    · have hg := gOn_ln hT hp (s := s) k1
      refine ih (((gLn T n s p).2, xLn T n s x dr p), dLn T n s dr p, e2) ⟨k2, k3, k4, k5, fun z => ?_, ?_⟩ (by dsimp only; omega)
      · dsimp only at z ⊢
        have e1 := KP_ln z
        rw [e1] at z ⊢
        exact hx1 z
      · dsimp only
        rw [← hps, hf]
        show _ = if _ then _ else if _ then _ else _
        rw [if_neg hk, if_pos k1]
        exact psT_f hT _ _ _ _ _ (by omega) (by omega) (by omega)
  have hend : kdT T n p = 0 → tB G mX12_text 160 [vR 271, vI s, vI at1, vU 0, vU 0] [] e Q := fun hk => by
    have hRe : R = (x, dr) := by rw [← hps, hf]; exact if_pos hk
    refine kk e ?_
    rw [hRe]
    exact ⟨hR.2.2.2.2.2, hR.2.2.2.1, hR.2.2.2.2.1, fun z => ⟨hx1 z, hd z⟩⟩
  rcases (show s = 0 ∨ s = 1 ∨ s = 2 ∨ s = 3 by omega) with rfl | rfl | rfl | rfl
  ·
    refine T_aload_n dX12_text_90 rfl ?_
    refine T_getIv dX12_text_91 fX12_138 rfl k271 (x := (0 : Int)) hw0 ?_
    refine T_if_ne (tgt := 160) dX12_text_94 (by decide) (fun c94 => absurd rfl c94) (fun c94 => ?_)
    refine T_aload_n dX12_text_97 rfl ?_
    refine T_getIv dX12_text_98 fX12_115 rfl k271 (x := kdT T n p) ek ?_
    refine T_if_eq (tgt := 160) dX12_text_101 (by decide) (fun c101 => ?_) (fun c101 => ?_)
    · exact hend c101
    · refine T_iload_n dX12_text_104 rfl ?_
      refine T_tabIn (tgt := 132) (off := 27) dX12_text_105 (by decide) (by decide) (by decide) (by decide) ?_
      refine T_aload_n dX12_text_132 rfl ?_
      refine T_callV dX12_text_133 lX12_191 (As := []) (rest := _) rfl rfl k271 (by decide) (Nat.le_of_ble_eq_true rfl) (Nat.le_of_ble_eq_true rfl) (r_warLine hR hN hB hd) ?_
      rintro _ e2 ⟨rfl, hL⟩
      refine T_goto (tgt := 90) dX12_text_136 (by decide) ?_
      exact hln c101 e2 hL
  ·
    refine T_aload_n dX12_text_90 rfl ?_
    refine T_getIv dX12_text_91 fX12_138 rfl k271 (x := (0 : Int)) hw0 ?_
    refine T_if_ne (tgt := 160) dX12_text_94 (by decide) (fun c94 => absurd rfl c94) (fun c94 => ?_)
    refine T_aload_n dX12_text_97 rfl ?_
    refine T_getIv dX12_text_98 fX12_115 rfl k271 (x := kdT T n p) ek ?_
    refine T_if_eq (tgt := 160) dX12_text_101 (by decide) (fun c101 => ?_) (fun c101 => ?_)
    · exact hend c101
    · refine T_iload_n dX12_text_104 rfl ?_
      refine T_tabIn (tgt := 139) (off := 34) dX12_text_105 (by decide) (by decide) (by decide) (by decide) ?_
      refine T_aload_n dX12_text_139 rfl ?_
      refine T_callV dX12_text_140 lX12_194 (As := []) (rest := _) rfl rfl k271 (by decide) (Nat.le_of_ble_eq_true rfl) (Nat.le_of_ble_eq_true rfl) (r_scoreLine hR hN hB hd) ?_
      rintro _ e2 ⟨rfl, hL⟩
      refine T_goto (tgt := 90) dX12_text_143 (by decide) ?_
      exact hln c101 e2 hL
  ·
    refine T_aload_n dX12_text_90 rfl ?_
    refine T_getIv dX12_text_91 fX12_138 rfl k271 (x := (0 : Int)) hw0 ?_
    refine T_if_ne (tgt := 160) dX12_text_94 (by decide) (fun c94 => absurd rfl c94) (fun c94 => ?_)
    refine T_aload_n dX12_text_97 rfl ?_
    refine T_getIv dX12_text_98 fX12_115 rfl k271 (x := kdT T n p) ek ?_
    refine T_if_eq (tgt := 160) dX12_text_101 (by decide) (fun c101 => ?_) (fun c101 => ?_)
    · exact hend c101
    · refine T_iload_n dX12_text_104 rfl ?_
      refine T_tabIn (tgt := 146) (off := 41) dX12_text_105 (by decide) (by decide) (by decide) (by decide) ?_
      refine T_aload_n dX12_text_146 rfl ?_
      refine T_callV dX12_text_147 lX12_197 (As := []) (rest := _) rfl rfl k271 (by decide) (Nat.le_of_ble_eq_true rfl) (Nat.le_of_ble_eq_true rfl) (r_hearingLine hR hN hd) ?_
      rintro _ e2 ⟨rfl, hL⟩
      refine T_goto (tgt := 90) dX12_text_150 (by decide) ?_
      exact hln c101 e2 hL
  ·
    refine T_aload_n dX12_text_90 rfl ?_
    refine T_getIv dX12_text_91 fX12_138 rfl k271 (x := (0 : Int)) hw0 ?_
    refine T_if_ne (tgt := 160) dX12_text_94 (by decide) (fun c94 => absurd rfl c94) (fun c94 => ?_)
    refine T_aload_n dX12_text_97 rfl ?_
    refine T_getIv dX12_text_98 fX12_115 rfl k271 (x := kdT T n p) ek ?_
    refine T_if_eq (tgt := 160) dX12_text_101 (by decide) (fun c101 => ?_) (fun c101 => ?_)
    · exact hend c101
    · refine T_iload_n dX12_text_104 rfl ?_
      refine T_tabOut (tgt := 153) dX12_text_105 (by decide) (by decide) ?_
      refine T_aload_n dX12_text_153 rfl ?_
      refine T_callV dX12_text_154 lX12_200 (As := []) (rest := _) rfl rfl k271 (by decide) (Nat.le_of_ble_eq_true rfl) (Nat.le_of_ble_eq_true rfl) (r_villageLine hR hN hB hd) ?_
      rintro _ e2 ⟨rfl, hL⟩
      refine T_goto (tgt := 90) dX12_text_157 (by decide) ?_
      exact hln c101 e2 hL
end C46
