/-! the class: readings, from the front; the reference counts from the end -/
section C22
variable {G : sG} {d d' : sD} {w g s x y : Nat → Int} {wo vo e n a N : Nat}
theorem sumN_upd {f f' : Nat → Int} {t : Nat} : ∀ m : Nat, t < m → (∀ j, j < m → j ≠ t → f' j = f j) → sumN f' m = sumN f m - f t + f' t
  | 0, h, _ => absurd h (Nat.not_lt_zero t)
  | m + 1, h, he => by
    show sumN f' m + f' m = sumN f m + f m - f t + f' t
    by_cases q : t = m
    · subst q; rw [sumN_congr (fun j hj => he j (by omega) (by omega))]; omega
    · rw [sumN_upd m (by omega) (fun j hj hn => he j (by omega) hn), he m (by omega) (fun z => q z.symm)]; omega
def mnJ (f : Nat → Int) : Nat → Int
  | 0 => 999
  | j + 1 => min (mnJ f j) (f j)
theorem mnJ_999 {f : Nat → Int} : ∀ m, mnJ f m ≤ 999
  | 0 => Int.le_refl _
  | m + 1 => by have := mnJ_999 (f := f) m; show min (mnJ f m) (f m) ≤ 999; omega
theorem mnJ_le {f : Nat → Int} {j : Nat} : ∀ m, j < m → mnJ f m ≤ f j
  | 0, h => absurd h (Nat.not_lt_zero j)
  | m + 1, h => by
    show min (mnJ f m) (f m) ≤ f j
    by_cases q : j = m
    · subst q; omega
    · have := mnJ_le (f := f) m (show j < m by omega); omega
theorem mnJ_congr {f f' : Nat → Int} : ∀ m : Nat, (∀ j, j < m → f' j = f j) → mnJ f' m = mnJ f m
  | 0, _ => rfl
  | m + 1, h => by show min _ _ = min _ _; rw [mnJ_congr m (fun j hj => h j (by omega)), h m (by omega)]
theorem mnJ_upd {f f' : Nat → Int} {t : Nat} {v : Int} (ht : f' t = min (f t) v) : ∀ m : Nat, t < m → (∀ j, j < m → j ≠ t → f' j = f j) → mnJ f' m = min (mnJ f m) v
  | 0, h, _ => absurd h (Nat.not_lt_zero t)
  | m + 1, h, he => by
    show min (mnJ f' m) (f' m) = min (min (mnJ f m) (f m)) v
    by_cases q : t = m
    · subst q; rw [mnJ_congr t (fun j hj => he j (by omega) (by omega)), ht]; omega
    · rw [mnJ_upd ht m (by omega) (fun j hj hn => he j (by omega) hn), he m (by omega) (fun z => q z.symm)]; omega
abbrev sbF (W B : Nat → Int) (i : Nat) : Nat → Int := fun j => if i < j then W j * B j else 0
abbrev SB (W B : Nat → Int) (N i : Nat) : Int := sumN (sbF W B i) (N + 1)
abbrev mbF (h b : Nat → Int) (i : Nat) : Nat → Int := fun j => if i < j then min 999 (h j + b j) else 999
abbrev MB (h b : Nat → Int) (N i : Nat) : Int := mnJ (mbF h b i) (N + 1)
abbrev gg (fe : Nat → Int) (j : Nat) : Int := if fe j = -1 then 999 else fe j
theorem SB_s {W B : Nat → Int} {i : Nat} (hi : i + 1 ≤ N) : SB W B N i = SB W B N (i + 1) + W (i + 1) * B (i + 1) := by
  have h := sumN_upd (f := sbF W B (i + 1)) (f' := sbF W B i) (t := i + 1) (N + 1) (by omega) (fun j hj hn => by
    show (if i < j then _ else _) = if i + 1 < j then _ else _
    by_cases q : i < j
    · rw [if_pos q, if_pos (by omega)]
    · rw [if_neg q, if_neg (by omega)])
  show sumN (sbF W B i) (N + 1) = sumN (sbF W B (i + 1)) (N + 1) + W (i + 1) * B (i + 1)
  rw [h, show sbF W B (i + 1) (i + 1) = 0 from if_neg (by omega), show sbF W B i (i + 1) = W (i + 1) * B (i + 1) from if_pos (by omega)]
  omega
theorem MB_s {h b : Nat → Int} {i : Nat} (hi : i + 1 ≤ N) : MB h b N i = min (MB h b N (i + 1)) (min 999 (h (i + 1) + b (i + 1))) := by
  refine mnJ_upd (f := mbF h b (i + 1)) (f' := mbF h b i) (t := i + 1) ?_ (N + 1) (by omega) (fun j hj hn => ?_)
  · rw [show mbF h b (i + 1) (i + 1) = 999 from if_neg (by omega), show mbF h b i (i + 1) = min 999 (h (i + 1) + b (i + 1)) from if_pos (by omega)]; omega
  · show (if i < j then _ else _) = if i + 1 < j then _ else _
    by_cases q : i < j
    · rw [if_pos q, if_pos (by omega)]
    · rw [if_neg q, if_neg (by omega)]
theorem SB_N {W B : Nat → Int} : SB W B N N = 0 := by
  have : ∀ m, m ≤ N + 1 → sumN (sbF W B N) m = 0 := by
    intro m
    induction m with
    | zero => intro _; rfl
    | succ m ih => intro hm; show sumN _ m + (if N < m then _ else 0) = 0; rw [ih (by omega), if_neg (by omega)]; rfl
  exact this (N + 1) (Nat.le_refl _)
theorem MB_N {h b : Nat → Int} : MB h b N N = 999 := by
  have : ∀ m, m ≤ N + 1 → mnJ (mbF h b N) m = 999 := by
    intro m
    induction m with
    | zero => intro _; rfl
    | succ m ih => intro hm; show min (mnJ _ m) (if N < m then _ else 999) = 999; rw [ih (by omega), if_neg (by omega)]; rfl
  exact this (N + 1) (Nat.le_refl _)
theorem w64_c (x : Int) : ∃ c : Int, w64 x = x + c * 18446744073709551616 := by
  refine ⟨(w64 x - x) / 18446744073709551616, ?_⟩
  have h : (w64 x - x) % 18446744073709551616 = 0 := by
    unfold w64 Int.bmod
    simp only
    split <;> omega
  omega
theorem t_readOn {i t : Nat} (hi : i < t) (ht : t ≤ 24) (hb : -1 ≤ d 104 i ∧ d 104 i ≤ 100) : tB G mX0_readOn 0 [vR 102, vI i, vI t, vU 0] [] d (fun r d' => r = none ∧ d' = up (up d 103 t (w64 (d 103 t + d 103 i))) 104 t (if d 104 t = -1 then d 104 i + 1 else min (d 104 t) (d 104 i + 1))) := by
  have h59 : ∀ y : Int, y = (if d 104 t = -1 then d 104 i + 1 else min (d 104 t) (d 104 i + 1)) → tB G mX0_readOn 59 [vR 102, vI i, vI t, vI (d 104 i + 1)] [vI y, vI t, vR 104] (up d 103 t (w64 (d 103 t + d 103 i))) (fun r d' => r = none ∧ d' = up (up d 103 t (w64 (d 103 t + d 103 i))) 104 t (if d 104 t = -1 then d 104 i + 1 else min (d 104 t) (d 104 i + 1))) := by
    rintro _ rfl
    refine T_iast dX0_readOn_59 k104 l104 (by omega) (j := t) (by omega) ?_
    exact T_return dX0_readOn_60 rfl ⟨rfl, rfl⟩
  refine T_iload_n dX0_readOn_0 rfl ?_
  refine T_bipush dX0_readOn_1 (by decide) ?_
  refine T_icmp_gt (tgt := 60) dX0_readOn_3 (by decide) (fun c3 => absurd c3 (by omega)) (fun c3 => ?_)
  refine T_aload_n dX0_readOn_6 rfl ?_
  refine T_getR dX0_readOn_7 fX0_9 rfl k102 r102_0 ?_
  refine T_iload_n dX0_readOn_10 rfl ?_
  refine T_dup2 dX0_readOn_11 rfl rfl ?_
  refine T_laldv dX0_readOn_12 k103 l103 (by omega) (j := t) (by omega) (x := d 103 t) rfl ?_
  refine T_aload_n dX0_readOn_13 rfl ?_
  refine T_getR dX0_readOn_14 fX0_9 rfl k102 r102_0 ?_
  refine T_iload_n dX0_readOn_17 rfl ?_
  refine T_laldv dX0_readOn_18 k103 l103 (by omega) (j := i) (by omega) (x := d 103 i) rfl ?_
  refine T_ladd dX0_readOn_19 ?_
  refine T_last dX0_readOn_20 k103 l103 (by omega) (j := t) (by omega) ?_
  refine T_aload_n dX0_readOn_21 rfl ?_
  refine T_getR dX0_readOn_22 fX0_15 rfl k102 r102_1 ?_
  refine T_iload_n dX0_readOn_25 rfl ?_
  refine T_ialdv dX0_readOn_26 k104 l104 (by omega) (j := i) (by omega) (x := d 104 i) (by rw [up_nea (by decide)]) ?_
  refine T_iconst dX0_readOn_27 (by decide) ?_
  refine T_add dX0_readOn_28 (by omega) ?_
  refine T_ist_n dX0_readOn_29 (by decide) rfl ?_
  refine T_aload_n dX0_readOn_30 rfl ?_
  refine T_getR dX0_readOn_31 fX0_15 rfl k102 r102_1 ?_
  refine T_iload_n dX0_readOn_34 rfl ?_
  refine T_aload_n dX0_readOn_35 rfl ?_
  refine T_getR dX0_readOn_36 fX0_15 rfl k102 r102_1 ?_
  refine T_iload_n dX0_readOn_39 rfl ?_
  refine T_ialdv dX0_readOn_40 k104 l104 (by omega) (j := t) (by omega) (x := d 104 t) (by rw [up_nea (by decide)]) ?_
  refine T_iconst dX0_readOn_41 (by decide) ?_
  refine T_icmp_ne (tgt := 49) dX0_readOn_42 (by decide) (fun c42 => ?_) (fun c42 => ?_)
  · refine T_aload_n dX0_readOn_49 rfl ?_
    refine T_getR dX0_readOn_50 fX0_15 rfl k102 r102_1 ?_
    refine T_iload_n dX0_readOn_53 rfl ?_
    refine T_ialdv dX0_readOn_54 k104 l104 (by omega) (j := t) (by omega) (x := d 104 t) (by rw [up_nea (by decide)]) ?_
    refine T_iload_n dX0_readOn_55 rfl ?_
    refine T_min dX0_readOn_56 lX0_38 (by decide) (Nat.le_of_ble_eq_true rfl) ?_
    exact h59 _ (by rw [if_neg c42])
  · refine T_iload_n dX0_readOn_45 rfl ?_
    refine T_goto (tgt := 59) dX0_readOn_46 (by decide) ?_
    exact h59 _ (by rw [if_pos c42])

theorem mnO_le {p : Nat → Prop} [DecidablePred p] {f : Nat → Int} {o : Nat} : ∀ m, o < m → p o → mnO p f m ≤ 1 + f o
  | 0, h, _ => absurd h (Nat.not_lt_zero o)
  | m + 1, h, hp => by
    show (if p m then min (mnO p f m) (1 + f m) else mnO p f m) ≤ 1 + f o
    by_cases q : o = m
    · subst q; rw [if_pos hp]; omega
    · have := mnO_le (f := f) m (show o < m by omega) hp
      split <;> omega
/-- what holds ahead of a place of what is heard -/
abbrev RB (W fe : Nat → Int) : Prop := ∀ j : Nat, j ≤ 24 → (fe j = -1 ∧ W j = 0) ∨ (0 ≤ fe j ∧ fe j ≤ j)
def RI (W fe : Nat → Int) (w s : Nat → Int) (n a N i : Nat) : Prop := (∃ c : Int, W i * rdS w s n a N i + SB W (rdS w s n a N) N i = rdS w s n a N 0 + c * 18446744073709551616) ∧ min (MB (gg fe) (fwS w s n a N) N i) (gg fe i + fwS w s n a N i) = fwS w s n a N 0 ∧ RB W fe
def RK (W fe : Nat → Int) (w s : Nat → Int) (n a N i k : Nat) : Prop := (∃ c : Int, W i * (rdS w s n a N i - rdO w s n a N i k) + SB W (rdS w s n a N) N i = rdS w s n a N 0 + c * 18446744073709551616) ∧ min (MB (gg fe) (fwS w s n a N) N i) (gg fe i + fwS w s n a N i) = fwS w s n a N 0 ∧ MB (gg fe) (fwS w s n a N) N i ≤ gg fe i + fwO w s n a N i k ∧ RB W fe
theorem gg_rg {W fe : Nat → Int} (h : RB W fe) {j : Nat} (hj : j ≤ 24) : 0 ≤ gg fe j ∧ gg fe j ≤ 999 := by
  unfold gg
  rcases h j hj with z | z
  · rw [if_pos z.1]; omega
  · rw [if_neg (by omega)]; omega
theorem RK_0 {W fe : Nat → Int} {i : Nat} (h : RI W fe w s n a N i) (hi : i < N) (hN : N ≤ 24) : RK W fe w s n a N i 0 := by
  obtain ⟨⟨c, h1⟩, h2, h3⟩ := h
  have hg := gg_rg h3 (j := i) (by omega)
  have hm := mnJ_999 (f := mbF (gg fe) (fwS w s n a N) i) (N + 1)
  refine ⟨⟨c, ?_⟩, h2, ?_, h3⟩
  · show W i * (rdS w s n a N i - 0) + _ = _
    rw [Int.sub_zero]; exact h1
  · show MB _ _ _ _ ≤ _ + 999
    show mnJ (mbF (gg fe) (fwS w s n a N) i) (N + 1) ≤ _
    omega
theorem RI_s {W fe : Nat → Int} {i : Nat} (h3 : RB W fe) (hi : i + 1 ≤ N) (h1 : ∃ c : Int, SB W (rdS w s n a N) N i = rdS w s n a N 0 + c * 18446744073709551616) (h2 : MB (gg fe) (fwS w s n a N) N i = fwS w s n a N 0) : RI W fe w s n a N (i + 1) := by
  obtain ⟨c, h1⟩ := h1
  refine ⟨⟨c, ?_⟩, ?_, h3⟩
  · rw [SB_s hi] at h1; omega
  · rw [MB_s hi] at h2
    have hm : MB (gg fe) (fwS w s n a N) N (i + 1) ≤ 999 := mnJ_999 _
    omega
theorem RK_end {W fe : Nat → Int} {i : Nat} (hV : WV w) (ha : a < 2) (hN : hnS w n a = (N : Int)) (h : RK W fe w s n a N i (w (15 + a)).toNat) (hi : i < N) : RI W fe w s n a N (i + 1) := by
  obtain ⟨⟨c, h1⟩, h2, h2b, h3⟩ := h
  obtain ⟨e1, e2⟩ := rdS_i (s := s) hV ha hN hi
  rw [← e1, Int.sub_self, Int.mul_zero, Int.zero_add] at h1
  rw [← e2] at h2b
  exact RI_s h3 hi ⟨c, h1⟩ (by omega)
theorem RI_skip {W fe : Nat → Int} {i : Nat} (hV : WV w) (ha : a < 2) (hN : hnS w n a = (N : Int)) (hN24 : N ≤ 24) (h : RI W fe w s n a N i) (hi : i < N) (hf : fe i = -1) : RI W fe w s n a N (i + 1) := by
  obtain ⟨⟨c, h1⟩, h2, h3⟩ := h
  have hW : W i = 0 := by
    rcases h3 i (by omega) with z | z
    · exact z.2
    · omega
  rw [hW, Int.zero_mul, Int.zero_add] at h1
  have hb := (rdS_rg (s := s) hV ha hN N i (by omega) (by omega)).2
  have hm : MB (gg fe) (fwS w s n a N) N i ≤ 999 := mnJ_999 _
  rw [show gg fe i = 999 from if_pos hf] at h2
  exact RI_s h3 hi ⟨c, h1⟩ (by omega)
theorem RK_no {W fe : Nat → Int} {i k : Nat} (h : RK W fe w s n a N i k) (hk : ¬ isF w s n a k i) : RK W fe w s n a N i (k + 1) := by
  obtain ⟨⟨c, h1⟩, h2, h2b, h3⟩ := h
  refine ⟨⟨c, ?_⟩, h2, ?_, h3⟩
  · rw [show rdO w s n a N i (k + 1) = rdO w s n a N i k + (if isF w s n a k i then rdS w s n a N (i + lnW w a k) else 0) from rfl, if_neg hk, Int.add_zero]; exact h1
  · rw [show fwO w s n a N i (k + 1) = (if isF w s n a k i then min (fwO w s n a N i k) (1 + fwS w s n a N (i + lnW w a k)) else fwO w s n a N i k) from rfl, if_neg hk]; exact h2b
theorem RK_yes {W fe W' fe' : Nat → Int} {i k t : Nat} (hV : WV w) (ha : a < 2) (hN : hnS w n a = (N : Int)) (hN24 : N ≤ 24) (h : RK W fe w s n a N i k) (hk : isF w s n a k i) (hkc : (k : Int) < w (15 + a)) (hi : i < N) (ht : t = i + lnW w a k) (hfi : ¬ fe i = -1) (hW : W' t = w64 (W t + W i)) (hWn : ∀ j, j ≠ t → W' j = W j) (hF : fe' t = (if fe t = -1 then fe i + 1 else min (fe t) (fe i + 1))) (hFn : ∀ j, j ≠ t → fe' j = fe j) : RK W' fe' w s n a N i (k + 1) := by
  obtain ⟨⟨c, h1⟩, h2, h2b, h3⟩ := h
  obtain ⟨l1, l2, l3⟩ := isF_end hV ha hN hkc hk
  have hti : t ≠ i := by omega
  have htN : t ≤ N := by omega
  have hfr := (h3 i (by omega)).resolve_left (fun z => hfi z.1)
  have hft := h3 t (by omega)
  have hbi := (rdS_i (s := s) hV ha hN hi).2
  have hbl : fwS w s n a N i ≤ 1 + fwS w s n a N t := by
    rw [hbi, ht]; exact mnO_le (f := fun o => fwS w s n a N (i + lnW w a o)) _ (show k < (w (15 + a)).toNat by omega) hk
  have hbt := (rdS_rg (s := s) hV ha hN N t (by omega) htN).2
  have hgi : gg fe i = fe i := if_neg hfi
  have hgi' : gg fe' i = fe i := by unfold gg; rw [hFn i (fun z => hti z.symm), if_neg hfi]
  have hgt : gg fe' t = min (gg fe t) (fe i + 1) := by
    unfold gg
    rw [hF]
    by_cases q : fe t = -1
    · rw [if_pos q, if_pos q, if_neg (by omega)]; omega
    · rw [if_neg q, if_neg q, if_neg (by omega)]
  have hgn : ∀ j, j ≠ t → gg fe' j = gg fe j := fun j hj => by unfold gg; rw [hFn j hj]
  have hMB : MB (gg fe') (fwS w s n a N) N i = min (MB (gg fe) (fwS w s n a N) N i) (min 999 (fe i + 1 + fwS w s n a N t)) := by
    refine mnJ_upd (f := mbF (gg fe) (fwS w s n a N) i) (f' := mbF (gg fe') (fwS w s n a N) i) (t := t) ?_ (N + 1) (by omega) (fun j hj hn => ?_)
    · rw [show mbF (gg fe') (fwS w s n a N) i t = min 999 (gg fe' t + fwS w s n a N t) from if_pos (by omega), show mbF (gg fe) (fwS w s n a N) i t = min 999 (gg fe t + fwS w s n a N t) from if_pos (by omega), hgt]
      omega
    · show (if i < j then _ else _) = if i < j then _ else _
      rw [hgn j hn]
  have hm : MB (gg fe) (fwS w s n a N) N i ≤ 999 := mnJ_999 _
  obtain ⟨c', hc'⟩ := w64_c (W t + W i)
  have hSB : SB W' (rdS w s n a N) N i = SB W (rdS w s n a N) N i - W t * rdS w s n a N t + W' t * rdS w s n a N t := by
    have h := sumN_upd (f := sbF W (rdS w s n a N) i) (f' := sbF W' (rdS w s n a N) i) (t := t) (N + 1) (by omega) (fun j hj hn => by
      show (if i < j then _ else _) = if i < j then _ else _
      rw [hWn j hn])
    rw [show sbF W (rdS w s n a N) i t = W t * rdS w s n a N t from if_pos (by omega), show sbF W' (rdS w s n a N) i t = W' t * rdS w s n a N t from if_pos (by omega)] at h
    exact h
  refine ⟨⟨c + c' * rdS w s n a N t, ?_⟩, ?_, ?_, fun j hj => ?_⟩
  · rw [show rdO w s n a N i (k + 1) = rdO w s n a N i k + (if isF w s n a k i then rdS w s n a N (i + lnW w a k) else 0) from rfl, if_pos hk, ← ht, hWn i (fun z => hti z.symm), hSB, hW, hc', ← Int.sub_sub, Int.mul_sub, Int.add_mul (W t + W i), Int.add_mul (W t), Int.add_mul c, Int.mul_right_comm c']
    omega
  · rw [hMB, hgi']; rw [hgi] at h2; omega
  · rw [hMB, hgi', show fwO w s n a N i (k + 1) = (if isF w s n a k i then min (fwO w s n a N i k) (1 + fwS w s n a N (i + lnW w a k)) else fwO w s n a N i k) from rfl, if_pos hk, ← ht]
    rw [hgi] at h2b; omega
  · by_cases q : j = t
    · subst q
      rw [hF]
      refine Or.inr ?_
      by_cases q2 : fe j = -1
      · rw [if_pos q2]; omega
      · rw [if_neg q2]
        have := hft.resolve_left (fun z => q2 z.1)
        omega
    · rw [hFn j q, hWn j q]; exact h3 j hj
theorem sumN_zero {f : Nat → Int} : ∀ m, (∀ o, o < m → 0 ≤ f o) → (sumN f m = 0 ↔ ∀ o, o < m → f o = 0) ∧ 0 ≤ sumN f m
  | 0, _ => ⟨⟨fun _ o ho => absurd ho (Nat.not_lt_zero o), fun _ => rfl⟩, Int.le_refl _⟩
  | m + 1, h => by
    obtain ⟨ih, ih0⟩ := sumN_zero (f := f) m (fun o ho => h o (by omega))
    have hm := h m (by omega)
    show (sumN f m + f m = 0 ↔ _) ∧ 0 ≤ sumN f m + f m
    refine ⟨⟨fun q o ho => ?_, fun q => ?_⟩, by omega⟩
    · rcases (show o < m ∨ o = m by omega) with z | rfl
      · exact ih.mp (by omega) o z
      · omega
    · have := ih.mpr (fun o ho => q o (by omega)); have := q m (by omega); omega
theorem mnO_999 {p : Nat → Prop} [DecidablePred p] {f : Nat → Int} {K : Int} (hK : 0 ≤ K ∧ K < 900) : ∀ m, (∀ o, o < m → p o → f o = 999 ∨ (0 ≤ f o ∧ f o ≤ K)) → (mnO p f m = 999 ↔ ∀ o, o < m → p o → f o = 999) ∧ (mnO p f m = 999 ∨ mnO p f m ≤ K + 1)
  | 0, _ => ⟨⟨fun _ o ho => absurd ho (Nat.not_lt_zero o), fun _ => rfl⟩, Or.inl rfl⟩
  | m + 1, h => by
    obtain ⟨ih, ih0⟩ := mnO_999 (f := f) hK m (fun o ho => h o (by omega))
    show ((if p m then min (mnO p f m) (1 + f m) else mnO p f m) = 999 ↔ _) ∧ ((if p m then min (mnO p f m) (1 + f m) else mnO p f m) = 999 ∨ (if p m then min (mnO p f m) (1 + f m) else mnO p f m) ≤ K + 1)
    by_cases q : p m
    · rw [if_pos q]
      have hm := h m (by omega) q
      refine ⟨⟨fun z o ho hp => ?_, fun z => ?_⟩, by omega⟩
      · rcases (show o < m ∨ o = m by omega) with y | rfl
        · exact ih.mp (by omega) o y hp
        · omega
      · have := ih.mpr (fun o ho => z o (by omega)); have := z m (by omega) q; omega
    · rw [if_neg q]
      refine ⟨⟨fun z o ho hp => ?_, fun z => ih.mpr (fun o ho => z o (by omega))⟩, ih0⟩
      rcases (show o < m ∨ o = m by omega) with y | rfl
      · exact ih.mp z o y hp
      · exact absurd hp q
theorem rd_fw (hV : WV w) (ha : a < 2) (hN : hnS w n a = (N : Int)) (hN24 : N ≤ 24) : ∀ m i : Nat, N - i ≤ m → i ≤ N → (rdS w s n a N i = 0 ↔ fwS w s n a N i = 999) ∧ (fwS w s n a N i = 999 ∨ fwS w s n a N i ≤ ((N - i : Nat) : Int))
  | m, i, hm, hi => by
    by_cases q : i = N
    · subst q; rw [rdS_N, fwS_N]; omega
    · match m, hm with
      | 0, hm => omega
      | m + 1, hm =>
        obtain ⟨e1, e2⟩ := rdS_i (s := s) hV ha hN (show i < N by omega)
        have hc := (hV.a ha).2.2.2.2
        have hto : ∀ o, o < (w (15 + a)).toNat → isF w s n a o i → (1 ≤ lnW w a o ∧ lnW w a o ≤ 4 ∧ i + lnW w a o ≤ N) := fun o ho hF => isF_end hV ha hN (by omega) hF
        have hz := sumN_zero (f := fun o => if isF w s n a o i then rdS w s n a N (i + lnW w a o) else 0) (w (15 + a)).toNat (fun o ho => by
          show 0 ≤ if isF w s n a o i then rdS w s n a N (i + lnW w a o) else 0
          by_cases hF : isF w s n a o i
          · rw [if_pos hF]; exact (rdS_rg (s := s) hV ha hN N _ (by omega) (hto o ho hF).2.2).1.1
          · rw [if_neg hF]; exact Int.le_refl _)
        have hm9 := mnO_999 (p := fun o => isF w s n a o i) (f := fun o => fwS w s n a N (i + lnW w a o)) (K := ((N - i - 1 : Nat) : Int)) (by omega) (w (15 + a)).toNat (fun o ho hF => by
          have h1 := hto o ho hF
          have h2 := (rd_fw hV ha hN hN24 m (i + lnW w a o) (by omega) h1.2.2).2
          have h3 := (rdS_rg (s := s) hV ha hN N (i + lnW w a o) (by omega) h1.2.2).2
          show fwS w s n a N (i + lnW w a o) = 999 ∨ _
          rcases h2 with z | z
          · exact Or.inl z
          · exact Or.inr ⟨h3.1, by omega⟩)
        rw [e1, e2]
        refine ⟨Iff.trans hz.1 (Iff.trans ?_ hm9.1.symm), ?_⟩
        · constructor
          · intro h o ho hF
            have h1 := h o ho
            rw [if_pos hF] at h1
            exact (rd_fw hV ha hN hN24 m (i + lnW w a o) (by have := hto o ho hF; omega) (hto o ho hF).2.2).1.mp h1
          · intro h o ho
            show (if isF w s n a o i then rdS w s n a N (i + lnW w a o) else 0) = 0
            by_cases hF : isF w s n a o i
            · rw [if_pos hF]; exact (rd_fw hV ha hN hN24 m (i + lnW w a o) (by have := hto o ho hF; omega) (hto o ho hF).2.2).1.mpr (h o ho hF)
            · rw [if_neg hF]
        · have h9 : fwO w s n a N i (w (15 + a)).toNat = 999 ∨ fwO w s n a N i (w (15 + a)).toNat ≤ ((N - i - 1 : Nat) : Int) + 1 := hm9.2
          omega
theorem RI_init {W fe : Nat → Int} (hV : WV w) (ha : a < 2) (hN : hnS w n a = (N : Int)) (hN24 : N ≤ 24) (hW0 : W 0 = 1) (hW : ∀ j, 1 ≤ j → j ≤ 24 → W j = 0) (hF0 : fe 0 = 0) (hF : ∀ j, 1 ≤ j → j ≤ 24 → fe j = -1) : RI W fe w s n a N 0 := by
  have hb := (rdS_rg (s := s) hV ha hN N 0 (by omega) (by omega)).2
  have z1 : SB W (rdS w s n a N) N 0 = 0 := by
    have : ∀ m, m ≤ N + 1 → sumN (sbF W (rdS w s n a N) 0) m = 0 := by
      intro m
      induction m with
      | zero => intro _; rfl
      | succ m ih =>
        intro hm
        show sumN _ m + (if 0 < m then W m * rdS w s n a N m else 0) = 0
        rw [ih (by omega)]
        by_cases q : 0 < m
        · rw [if_pos q, hW m (by omega) (by omega), Int.zero_mul]; rfl
        · rw [if_neg q]; rfl
    exact this (N + 1) (Nat.le_refl _)
  have z2 : MB (gg fe) (fwS w s n a N) N 0 = 999 := by
    have : ∀ m, m ≤ N + 1 → mnJ (mbF (gg fe) (fwS w s n a N) 0) m = 999 := by
      intro m
      induction m with
      | zero => intro _; rfl
      | succ m ih =>
        intro hm
        show min (mnJ _ m) (if 0 < m then min 999 (gg fe m + fwS w s n a N m) else 999) = 999
        rw [ih (by omega)]
        by_cases q : 0 < m
        · have hbm := (rdS_rg (s := s) hV ha hN N m (by omega) (by omega)).2
          rw [if_pos q, show gg fe m = 999 from if_pos (hF m (by omega) (by omega))]; omega
        · rw [if_neg q]; rfl
    exact this (N + 1) (Nat.le_refl _)
  refine ⟨⟨0, ?_⟩, ?_, fun j hj => ?_⟩
  · rw [z1, hW0, Int.one_mul, Int.zero_mul]
  · rw [z2, show gg fe 0 = 0 by unfold gg; rw [hF0, if_neg (by omega)]]; omega
  · rcases (show j = 0 ∨ 1 ≤ j by omega) with rfl | q
    · exact Or.inr (by rw [hF0]; omega)
    · exact Or.inl ⟨hF j q hj, hW j q hj⟩
abbrev raQ (d : sD) (w s : Nat → Int) (n a N : Nat) : Option sV → sD → Prop := fun r d' => r = none ∧ RI (d' 103) (d' 104) w s n a N N ∧ Fr 103 104 d d'
theorem t_readAll (he : kn S0 e = 2) (hw : kn S0 wo = 10) (hO : Wo d wo w) (hV : WV w) (hE : Eh d e w s n a) (ha : a < 2) (hn24 : n ≤ 24) (hN : hnS w n a = (N : Int)) : tB G mX0_readAll 0 [vR 102, vR wo, vI a, vR e, vU 0, vU 0, vU 0] [] d (raQ d w s n a N) := by
  have hat := at_W hw
  have hae := at_E he
  have hrg := hnS_rg (n := n) hV ha
  have hc := (hV.a ha).2.2.2.2
  have hN24 : N ≤ 24 := by omega
  have h49 : ∀ z : Nat × sD, (z.1 ≤ N ∧ RI (z.2 103) (z.2 104) w s n a N z.1 ∧ Fr 103 104 d z.2) → tB G mX0_readAll 49 [vR 102, vR wo, vI a, vR e, vI z.1, vU 0, vU 0] [] (z.2) (raQ d w s n a N) := by
    refine T_loop (α := Nat × sD) 49 (fun z => [vR 102, vR wo, vI a, vR e, vI z.1, vU 0, vU 0]) (fun z => z.2) (fun z => z.1 ≤ N ∧ RI (z.2 103) (z.2 104) w s n a N z.1 ∧ Fr 103 104 d z.2) (fun z => N - z.1) ?_
    rintro ⟨i, b⟩ ⟨h1, h2, h3⟩ ih
    try dsimp only at h1 h2 h3 ih ⊢
    have h125 : ∀ (b2 : sD) (v5 : Int), i < N → RI (b2 103) (b2 104) w s n a N (i + 1) → Fr 103 104 d b2 → tB G mX0_readAll 125 [vR 102, vR wo, vI a, vR e, vI i, vI v5, vU 0] [] b2 (raQ d w s n a N) := by
      intro b2 v5 hi g2 g3
      refine T_inc dX0_readAll_125 rfl (by decide) rfl (by omega) ?_
      refine T_drop 5 ?_
      refine T_goto (tgt := 49) dX0_readAll_128 (by decide) ?_
      exact ih (i + 1, b2) ⟨by dsimp only; omega, g2, g3⟩ (by dsimp only; omega)
    have h61 : i < N → ¬ b 104 i = -1 → ∀ z : Nat × sD, ((z.1 : Int) ≤ w (15 + a) ∧ RK (z.2 103) (z.2 104) w s n a N i z.1 ∧ ¬ z.2 104 i = -1 ∧ Fr 103 104 d z.2) → tB G mX0_readAll 61 [vR 102, vR wo, vI a, vR e, vI i, vI z.1, vU 0] [] z.2 (raQ d w s n a N) := by
      intro hi hne
      refine T_loop (α := Nat × sD) 61 (fun z => [vR 102, vR wo, vI a, vR e, vI i, vI z.1, vU 0]) (fun z => z.2) (fun z => (z.1 : Int) ≤ w (15 + a) ∧ RK (z.2 103) (z.2 104) w s n a N i z.1 ∧ ¬ z.2 104 i = -1 ∧ Fr 103 104 d z.2) (fun z => 7 - z.1) ?_
      rintro ⟨k, b2⟩ ⟨g1, g2, g2n, g3⟩ ih2
      try dsimp only at g1 g2 g2n g3 ih2 ⊢
      have hOb := Wo_fr hO g3 (by omega)
      have hEb := Eh_fr hE g3 (by omega)
      have hfr := g2.2.2.2 i (by omega)
      have h119 : ∀ b3 : sD, (k : Int) < w (15 + a) → RK (b3 103) (b3 104) w s n a N i (k + 1) → ¬ b3 104 i = -1 → Fr 103 104 d b3 → tB G mX0_readAll 119 [vR 102, vR wo, vI a, vR e, vI i, vI k, vI ((6 * a + k : Nat) : Int)] [] b3 (raQ d w s n a N) := by
        intro b3 hk q2 q2n q3
        refine T_inc dX0_readAll_119 rfl (by decide) rfl (by omega) ?_
        refine T_drop 6 ?_
        refine T_goto (tgt := 61) dX0_readAll_122 (by decide) ?_
        exact ih2 (k + 1, b3) ⟨by dsimp only; omega, q2, q2n, q3⟩ (by dsimp only; omega)
      refine T_iload dX0_readAll_61 rfl ?_
      refine T_aload_n dX0_readAll_63 rfl ?_
      refine T_getR dX0_readAll_64 fX0_60 rfl hw (rW8 hw) ?_
      refine T_iload_n dX0_readAll_67 rfl ?_
      refine T_ialdv dX0_readAll_68 (kW8 hw) (lW8 hw) (by omega) (j := a) (by omega) (x := w (15 + a)) (hOb.ct ha) ?_
      refine T_icmp_ge (tgt := 125) dX0_readAll_69 (by decide) (fun c69 => ?_) (fun c69 => ?_)
      · exact h125 b2 _ hi (RK_end hV ha hN (by rw [show (w (15 + a)).toNat = k by omega]; exact g2) hi) g3
      · refine T_aload_n dX0_readAll_72 rfl ?_
        refine T_getR dX0_readAll_73 fX0_15 rfl k102 r102_1 ?_
        refine T_iload dX0_readAll_76 rfl ?_
        refine T_iald dX0_readAll_78 k104 l104 (by omega) (j := i) (by omega) ?_
        refine T_iconst dX0_readAll_79 (by decide) ?_
        refine T_icmp_eq (tgt := 125) dX0_readAll_80 (by decide) (fun c80 => absurd c80 g2n) (fun c80 => ?_)
        refine T_iload_n dX0_readAll_83 rfl ?_
        refine T_iload dX0_readAll_84 rfl ?_
        refine T_callS dX0_readAll_86 lX0_63 (As := [_, _]) (rest := _) rfl rfl (by decide) (Nat.le_of_ble_eq_true rfl) (Nat.le_of_ble_eq_true rfl) (t_slot (k := k) ha (by omega)) ?_
        rintro _ _ ⟨rfl, rfl⟩
        refine T_ist dX0_readAll_89 (by decide) rfl ?_
        refine T_aload_n dX0_readAll_91 rfl ?_
        refine T_aload_n dX0_readAll_92 rfl ?_
        refine T_iload dX0_readAll_93 rfl ?_
        refine T_iload dX0_readAll_95 rfl ?_
        refine T_callV dX0_readAll_97 lX0_82 (As := [_, _, _]) (rest := _) rfl rfl he (by decide) (Nat.le_of_ble_eq_true rfl) (Nat.le_of_ble_eq_true rfl) (t_chears (k := i) he hw hOb hV hEb ha hn24 (by omega) (by omega)) ?_
        rintro _ _ ⟨rfl, rfl⟩
        refine T_if_eq (tgt := 119) dX0_readAll_100 (by decide) (fun c100 => ?_) (fun c100 => ?_)
        · have h100 := bI_0 c100
          exact h119 b2 (by omega) (RK_no g2 h100) g2n g3
        · have h100 := bI_1 c100
          obtain ⟨l1, l2, l3⟩ := isF_end hV ha hN (by omega) h100
          refine T_aload_n dX0_readAll_103 rfl ?_
          refine T_iload dX0_readAll_104 rfl ?_
          refine T_iload dX0_readAll_106 rfl ?_
          refine T_aload_n dX0_readAll_108 rfl ?_
          refine T_getR dX0_readAll_109 fX0_49 rfl hw (rW10 hw) ?_
          refine T_iload dX0_readAll_112 rfl ?_
          refine T_ialdv dX0_readAll_114 (kW10 hw) (lW10 hw) (by omega) (j := 6 * a + k) (by omega) (x := (lnW w a k : Int)) (hOb.ln hV ha (by omega)) ?_
          refine T_add dX0_readAll_115 (by omega) ?_
          refine T_top (y := ((i + lnW w a k : Nat) : Int)) (by omega) ?_
          refine T_callV dX0_readAll_116 lX0_86 (As := [_, _]) (rest := _) rfl rfl k102 (by decide) (Nat.le_of_ble_eq_true rfl) (Nat.le_of_ble_eq_true rfl) (t_readOn (i := i) (t := i + lnW w a k) (by omega) (by omega) (by omega)) ?_
          rintro _ _ ⟨rfl, rfl⟩
          refine T_nm (fun m2 hm2 => h119 m2 (by omega) ?_ ?_ ?_)
          · subst hm2
            exact RK_yes hV ha hN hN24 g2 h100 (by omega) hi rfl g2n (by rw [up_nea (by decide), up_same]) (fun j hj => by rw [up_nea (by decide), up_nej hj]) (by rw [up_same]) (fun j hj => by rw [up_nej hj, up_nea (by decide)])
          · subst hm2
            rw [up_nej (by omega), up_nea (by decide)]; exact g2n
          · subst hm2
            exact (g3.up (by omega)).up (by omega)
    have hEb := Eh_fr hE h3 (by omega)
    have hOb := Wo_fr hO h3 (by omega)
    by_cases hne : i < N ∧ ¬ b 104 i = -1
    ·
      refine T_iload dX0_readAll_49 rfl ?_
      refine T_aload_n dX0_readAll_51 rfl ?_
      refine T_getIv dX0_readAll_52 fX0_77 rfl he (x := (N : Int)) (hEb.1.1.trans hN) ?_
      refine T_icmp_ge (tgt := 131) dX0_readAll_55 (by decide) (fun c55 => absurd c55 (by omega)) (fun c55 => ?_)
      refine T_iconst dX0_readAll_58 (by decide) ?_
      refine T_ist dX0_readAll_59 (by decide) rfl ?_
      exact h61 hne.1 hne.2 (0, b) ⟨by dsimp only; omega, RK_0 h2 hne.1 hN24, hne.2, h3⟩
    ·
      refine T_iload dX0_readAll_49 rfl ?_
      refine T_aload_n dX0_readAll_51 rfl ?_
      refine T_getIv dX0_readAll_52 fX0_77 rfl he (x := (N : Int)) (hEb.1.1.trans hN) ?_
      refine T_icmp_ge (tgt := 131) dX0_readAll_55 (by decide) (fun c55 => ?_) (fun c55 => ?_)
      · exact T_return dX0_readAll_131 rfl ⟨rfl, by rw [show i = N by omega] at h2; exact h2, h3⟩
      · refine T_iconst dX0_readAll_58 (by decide) ?_
        refine T_ist dX0_readAll_59 (by decide) rfl ?_
        have hi : i < N := by omega
        have hm1 : b 104 i = -1 := by
          rcases (show b 104 i = -1 ∨ ¬ b 104 i = -1 by omega) with z | z
          · exact z
          · exact absurd ⟨hi, z⟩ hne
        refine T_iload dX0_readAll_61 rfl ?_
        refine T_aload_n dX0_readAll_63 rfl ?_
        refine T_getR dX0_readAll_64 fX0_60 rfl hw (rW8 hw) ?_
        refine T_iload_n dX0_readAll_67 rfl ?_
        refine T_ialdv dX0_readAll_68 (kW8 hw) (lW8 hw) (by omega) (j := a) (by omega) (x := w (15 + a)) (hOb.ct ha) ?_
        refine T_icmp_ge (tgt := 125) dX0_readAll_69 (by decide) (fun c69 => ?_) (fun c69 => ?_)
        · exact h125 b 0 hi (RI_skip hV ha hN hN24 h2 hi hm1) h3
        · refine T_aload_n dX0_readAll_72 rfl ?_
          refine T_getR dX0_readAll_73 fX0_15 rfl k102 r102_1 ?_
          refine T_iload dX0_readAll_76 rfl ?_
          refine T_ialdv dX0_readAll_78 k104 l104 (by omega) (j := i) (by omega) (x := (-1 : Int)) hm1 ?_
          refine T_iconst dX0_readAll_79 (by decide) ?_
          refine T_icmp_eq (tgt := 125) dX0_readAll_80 (by decide) (fun c80 => ?_) (fun c80 => absurd rfl c80)
          exact h125 b 0 hi (RI_skip hV ha hN hN24 h2 hi hm1) h3
  have h3 : ∀ z : Nat × sD, (z.1 ≤ 25 ∧ (∀ j, j < z.1 → z.2 103 j = 0 ∧ z.2 104 j = -1) ∧ Fr 103 104 d z.2) → tB G mX0_readAll 3 [vR 102, vR wo, vI a, vR e, vI z.1, vU 0, vU 0] [] (z.2) (raQ d w s n a N) := by
    refine T_loop (α := Nat × sD) 3 (fun z => [vR 102, vR wo, vI a, vR e, vI z.1, vU 0, vU 0]) (fun z => z.2) (fun z => z.1 ≤ 25 ∧ (∀ j, j < z.1 → z.2 103 j = 0 ∧ z.2 104 j = -1) ∧ Fr 103 104 d z.2) (fun z => 25 - z.1) ?_
    rintro ⟨i, b⟩ ⟨h1, h2, h3⟩ ih
    try dsimp only at h1 h2 h3 ih ⊢
    refine T_iload dX0_readAll_3 rfl ?_
    refine T_bipush dX0_readAll_5 (by decide) ?_
    refine T_icmp_gt (tgt := 32) dX0_readAll_7 (by decide) (fun c7 => ?_) (fun c7 => ?_)
    · refine T_aload_n dX0_readAll_32 rfl ?_
      refine T_getR dX0_readAll_33 fX0_9 rfl k102 r102_0 ?_
      refine T_iconst dX0_readAll_36 (by decide) ?_
      refine T_lconst1 dX0_readAll_37 ?_
      refine T_last dX0_readAll_38 k103 l103 (by omega) (j := 0) rfl ?_
      refine T_aload_n dX0_readAll_39 rfl ?_
      refine T_getR dX0_readAll_40 fX0_15 rfl k102 r102_1 ?_
      refine T_iconst dX0_readAll_43 (by decide) ?_
      refine T_iconst dX0_readAll_44 (by decide) ?_
      refine T_iast dX0_readAll_45 k104 l104 (by omega) (j := 0) rfl ?_
      refine T_iconst dX0_readAll_46 (by decide) ?_
      refine T_ist dX0_readAll_47 (by decide) rfl ?_
      refine T_nm (fun m2 hm2 => h49 (0, m2) ?_ )
      subst hm2
      try dsimp only
      refine ⟨Nat.zero_le _, RI_init hV ha hN hN24 (by rw [up_nea (by decide), up_same]) (fun j q1 q2 => by rw [up_nea (by decide), up_nej (by omega)]; exact (h2 j (by omega)).1) (by rw [up_same]) (fun j q1 q2 => by rw [up_nej (by omega), up_nea (by decide)]; exact (h2 j (by omega)).2), (h3.up (by omega)).up (by omega)⟩
    · refine T_aload_n dX0_readAll_10 rfl ?_
      refine T_getR dX0_readAll_11 fX0_9 rfl k102 r102_0 ?_
      refine T_iload dX0_readAll_14 rfl ?_
      refine T_lconst0 dX0_readAll_16 ?_
      refine T_last dX0_readAll_17 k103 l103 (by omega) (j := i) (by omega) ?_
      refine T_aload_n dX0_readAll_18 rfl ?_
      refine T_getR dX0_readAll_19 fX0_15 rfl k102 r102_1 ?_
      refine T_iload dX0_readAll_22 rfl ?_
      refine T_iconst dX0_readAll_24 (by decide) ?_
      refine T_iast dX0_readAll_25 k104 l104 (by omega) (j := i) (by omega) ?_
      refine T_inc dX0_readAll_26 rfl (by decide) rfl (by omega) ?_
      refine T_goto (tgt := 3) dX0_readAll_29 (by decide) ?_
      refine T_nm (fun m2 hm2 => ih (i + 1, m2) ?_ (by (try dsimp only); omega))
      subst hm2
      try dsimp only
      refine ⟨by (try dsimp only); omega, fun j hj => ?_, (h3.up (by omega)).up (by omega)⟩
      try dsimp only at hj
      rcases (show j < i ∨ j = i by omega) with z | rfl
      · rw [up_nea (by decide), up_nej (by omega), up_nej (by omega), up_nea (by decide)]; exact h2 j z
      · rw [up_nea (by decide), up_same, up_same]; exact ⟨rfl, rfl⟩
  refine T_iconst dX0_readAll_0 (by decide) ?_
  refine T_ist dX0_readAll_1 (by decide) rfl ?_
  exact h3 (0, d) ⟨Nat.zero_le _, fun j hj => absurd hj (Nat.not_lt_zero j), Fr.rf⟩

abbrev cQL (d : sD) (v : Int) : Option sV → sD → Prop := fun r d' => r = some (vL v) ∧ Cf d d'
theorem t_C_readings {k l a x : Int} (hM : MS d) (hC : CS d) : tB G mX11_readings 0 [vR 1, vI k, vI l, vI a, vI x, vU 0] [] d (cQL d (if Vp d k l then qReadings (wvD d k.toNat) (gvD d l.toNat) a x else -2)) := by
  refine T_iload_n dX11_readings_0 rfl ?_
  refine T_callS dX11_readings_1 lX11_181 (As := [_]) (rest := _) rfl rfl (by decide) (Nat.le_of_ble_eq_true rfl) (Nat.le_of_ble_eq_true rfl) t_isArmy ?_
  rintro _ _ ⟨rfl, rfl⟩
  refine T_if_eq (tgt := 16) dX11_readings_4 (by decide) (fun c4 => ?_) (fun c4 => ?_)
  · have h4 := bI_0 c4
    refine T_ldc2 dX11_readings_16 (by decide) kX11_429 ?_
    exact T_lreturn dX11_readings_19 rfl ⟨by unfold qReadings; rw [if_pos h4, ite_self], Cf.rf⟩
  · have h4 := bI_1 c4
    refine T_aload_n dX11_readings_7 rfl ?_
    refine T_iload_n dX11_readings_8 rfl ?_
    refine T_iload_n dX11_readings_9 rfl ?_
    refine T_callV dX11_readings_10 lX11_243 (As := [_, _]) (rest := _) rfl rfl k1 (by decide) (Nat.le_of_ble_eq_true rfl) (Nat.le_of_ble_eq_true rfl) (t_performToBoth hM hC) ?_
    rintro _ d1 (⟨hv, rfl, rfl⟩ | ⟨hv, rfl, e1, e2, e3, f1⟩)
    ·
      refine T_if_ne (tgt := 20) dX11_readings_13 (by decide) (fun c13 => absurd rfl c13) (fun c13 => ?_)
      refine T_ldc2 dX11_readings_16 (by decide) kX11_429 ?_
      exact T_lreturn dX11_readings_19 rfl ⟨by rw [if_neg hv], Cf.rf⟩
    ·
      have hc0 := hM.1 0 (by decide)
      have hw := (kn_w k.toNat (by omega)).1
      have hO := Wo_cf hw (hC.2.1 k.toNat (by omega)) f1
      have hV := hM.2.1 k.toNat (by omega)
      have hG := hM.2.2.1 l.toNat (by omega)
      have hlen := rowS_24 hV hG
      rw [if_pos hv]
      have hat := at_W hw
      generalize wvD d k.toNat = w at *
      generalize gvD d l.toNat = g at *
      obtain ⟨a, rfl⟩ : ∃ q : Nat, a = (q : Int) := ⟨a.toNat, by omega⟩
      have ha : a < 2 := by omega
      have he := (kn_e a ha).1
      obtain ⟨E1, E2⟩ := Bo_a e3 ha
      have hrg := hnS_rg (n := (rowS w g).length) hV ha
      obtain ⟨N, hN⟩ : ∃ N : Nat, hnS w (rowS w g).length a = (N : Int) := ⟨(hnS w (rowS w g).length a).toNat, by omega⟩
      have hN24 : N ≤ 24 := by omega
      have hq : qReadings w g a x = qRd w (snS w g) (rowS w g).length a N x := by
        unfold qReadings
        rw [if_neg (by omega), Int.toNat_natCast, hN, Int.toNat_natCast]
      rw [hq]
      clear hq
      generalize snS w g = s at *
      generalize (rowS w g).length = n at *
      refine T_if_ne (tgt := 20) dX11_readings_13 (by decide) (fun c13 => ?_) (fun c13 => absurd c13 (by decide))
      refine T_aload_n dX11_readings_20 rfl ?_
      refine T_getR dX11_readings_21 fX11_68 rfl k1 r1_9 ?_
      refine T_aload_n dX11_readings_24 rfl ?_
      refine T_getR dX11_readings_25 fX11_10 rfl k1 r1_0 ?_
      refine T_getR dX11_readings_28 fX11_116 rfl k2 r2_5 ?_
      refine T_iload_n dX11_readings_31 rfl ?_
      refine T_aald dX11_readings_32 k5 (by decide) l5 (by omega) (kn_w k.toNat (by omega)).2 ?_
      refine T_iload_n dX11_readings_33 rfl ?_
      refine T_aload_n dX11_readings_34 rfl ?_
      refine T_getR dX11_readings_35 fX11_47 rfl k1 r1_6 ?_
      refine T_iload_n dX11_readings_38 rfl ?_
      refine T_aald dX11_readings_39 k87 (by decide) l87 (by omega) (kn_e a ha).2 ?_
      refine T_callV dX11_readings_40 lX11_431 (As := [_, _, _]) (rest := _) rfl rfl k102 (by decide) (Nat.le_of_ble_eq_true rfl) (Nat.le_of_ble_eq_true rfl) (t_readAll (s := s) (n := n) he hw hO hV E1 ha (by omega) hN) ?_
      rintro _ d2 ⟨rfl, hR, f2⟩
      refine tB.mem (fun hmem => ?_)
      have hWr : -9223372036854775808 ≤ d2 103 N ∧ d2 103 N < 9223372036854775808 := hmem 103 N (by decide)
      have hB0 := rdS_rg (s := s) hV ha hN N 0 (by omega) (by omega)
      have h624 : (6 : Int) ^ (N - 0) ≤ 6 ^ 24 := pow6_le (by omega)
      have h6v : (6 : Int) ^ 24 = 4738381338321616896 := by decide
      obtain ⟨⟨c, r1⟩, r2, r3⟩ := hR
      rw [SB_N, rdS_N, Int.mul_one, Int.add_zero] at r1
      rw [MB_N, fwS_N, Int.add_zero] at r2
      have hgN := gg_rg r3 hN24
      have hWN : d2 103 N = rdS w s n a N 0 := by omega
      have hiff := rd_fw (s := s) hV ha hN hN24 N 0 (by omega) (by omega)
      have hFN : d2 104 N = if rdS w s n a N 0 = 0 then -1 else fwS w s n a N 0 := by
        rcases r3 N hN24 with z | z
        · rw [show gg (d2 104) N = 999 from if_pos z.1] at r2
          rw [if_pos (hiff.1.mpr (by omega))]; exact z.1
        · rw [show gg (d2 104) N = d2 104 N from if_neg (by omega)] at r2
          rw [if_neg (fun q => by have := hiff.1.mp q; omega)]; omega
      have hEN : d2 (259 + 6 * a) 1 = (N : Int) := by rw [f2 _ _ (by omega)]; exact E1.1.1.trans hN
      refine T_aload_n dX11_readings_43 rfl ?_
      refine T_getR dX11_readings_44 fX11_47 rfl k1 r1_6 ?_
      refine T_iload_n dX11_readings_47 rfl ?_
      refine T_aald dX11_readings_48 k87 (by decide) l87 (by omega) (kn_e a ha).2 ?_
      refine T_getIv dX11_readings_49 fX11_246 rfl he (x := (N : Int)) hEN ?_
      refine T_ist dX11_readings_52 (by decide) rfl ?_
      refine T_iload dX11_readings_54 rfl ?_
      refine T_if_eq (tgt := 73) dX11_readings_56 (by decide) (fun c56 => ?_) (fun c56 => ?_)
      · refine T_aload_n dX11_readings_73 rfl ?_
        refine T_getR dX11_readings_74 fX11_68 rfl k1 r1_9 ?_
        refine T_getR dX11_readings_77 fX11_438 rfl k102 r102_0 ?_
        refine T_iload dX11_readings_80 rfl ?_
        refine T_laldv dX11_readings_82 k103 l103 (by omega) (j := N) (by omega) (x := rdS w s n a N 0) hWN ?_
        exact T_lreturn dX11_readings_83 rfl ⟨by unfold qRd; rw [if_pos c56], f1.trans (f2.cf (by omega))⟩
      · refine T_aload_n dX11_readings_59 rfl ?_
        refine T_getR dX11_readings_60 fX11_68 rfl k1 r1_9 ?_
        refine T_getR dX11_readings_63 fX11_435 rfl k102 r102_1 ?_
        refine T_iload dX11_readings_66 rfl ?_
        refine T_ialdv dX11_readings_68 k104 l104 (by omega) (j := N) (by omega) (x := (if rdS w s n a N 0 = 0 then -1 else fwS w s n a N 0)) hFN ?_
        refine T_i2l dX11_readings_69 ?_
        refine T_goto (tgt := 83) dX11_readings_70 (by decide) ?_
        exact T_lreturn dX11_readings_83 rfl ⟨by unfold qRd; rw [if_neg c56], f1.trans (f2.cf (by omega))⟩

end C22
