/-! the reference: text -/
section C47
variable {G : sG} {d d' d0 e : sD} {T : Nat → Int} {n p q s : Nat} {x : Int × Int} {dr : Nat → Int}
/-- the place of a row and its size -/
def plN (s k : Nat) : Nat := if s = 0 then 610 + 89 * k else if s = 1 then 788 + 26 * k else if s = 2 then 840 + 14 * k else 868 + 33 * k
def szN (s : Nat) : Nat := if s = 0 then 89 else if s = 1 then 26 else if s = 2 then 14 else 33
theorem plN_O {k : Nat} (hs : s < 4) : plO (s : Int) (k : Int) = (plN s k : Int) := by
  rcases (show s = 0 ∨ s = 1 ∨ s = 2 ∨ s = 3 by omega) with rfl | rfl | rfl | rfl <;> (unfold plO plN; simp)
theorem szN_O (hs : s < 4) : szO (s : Int) = (szN s : Int) := by
  rcases (show s = 0 ∨ s = 1 ∨ s = 2 ∨ s = 3 by omega) with rfl | rfl | rfl | rfl <;> rfl
theorem plN_rg {k : Nat} (hk : k < 2) : 610 ≤ plN s k ∧ plN s k + szN s ≤ 934 ∧ szN s ≤ 89 := by
  unfold plN szN
  split
  · omega
  · split
    · omega
    · split <;> omega
/-- a text that is kept: the row, its count -/
def KeQ (d0 : sD) (s k : Nat) (new : Prop) [Decidable new] (dr : Nat → Int) (d : sD) : Prop := (∀ b j, b ≠ 271 → b ≠ 272 → b ≠ 274 → d b j = d0 b j) ∧ (∀ j, j ∉ [3, 4, 5, 6, 7, 8] → d 271 j = d0 271 j) ∧ d 272 5 = 0 ∧ d 272 6 = -1 ∧ d 272 s = (if new then d0 272 s + 1 else d0 272 s) ∧ (∀ i, i < szN s → d 272 (plN s k + i) = dr i) ∧ ∀ j, j ≠ 5 → j ≠ 6 → j ≠ s → ¬ (plN s k ≤ j ∧ j < plN s k + szN s) → d 272 j = d0 272 j

theorem r_t160 {k : Nat} {at1 : Int} {R : (Int × Int) × (Nat → Int)} (hs : s < 4) (hc : 0 ≤ d0 272 s ∧ d0 272 s ≤ 2) (hk : (at1 = -1 ∧ d0 272 s = (k : Int)) ∨ (¬ at1 = -1 ∧ at1 = (k : Int))) (hk2 : k < 2) (hP : PE d0 s R e) : tB G mX12_text 160 [vR 271, vI s, vI at1, vU 0, vU 0] [] e (fun r d' => (r = some (vI (-1)) ∧ ¬ R.1.1 = 0 ∧ RF d0 d' ∧ d' 272 5 = R.1.1 ∧ d' 272 6 = R.1.2) ∨ (R.1.1 = 0 ∧ r = some (vI k) ∧ KeQ d0 s k (at1 = -1) R.2 d')) := by
  obtain ⟨hF, h5, h6, hR⟩ := hP
  have hrg := plN_rg (s := s) hk2
  have es : e 272 s = d0 272 s := hF.2.2 s (by omega) (by omega)
  have h205 : ∀ z : Nat × sD, (z.1 ≤ szN s ∧ R.1.1 = 0 ∧ z.2 274 = e 274 ∧ (∀ b j, b ≠ 271 → b ≠ 272 → b ≠ 274 → z.2 b j = d0 b j) ∧ (∀ j, j ∉ [3, 4, 5, 6, 7, 8] → z.2 271 j = d0 271 j) ∧ z.2 272 5 = 0 ∧ z.2 272 6 = -1 ∧ z.2 272 s = (if at1 = -1 then d0 272 s + 1 else d0 272 s) ∧ (∀ i, i < z.1 → z.2 272 (plN s k + i) = R.2 i) ∧ ∀ j, j ≠ 5 → j ≠ 6 → j ≠ s → ¬ (plN s k ≤ j ∧ j < plN s k + szN s) → z.2 272 j = d0 272 j) → tB G mX12_text 205 [vR 271, vI s, vI at1, vI k, vI z.1] [] z.2 (fun r d' => (r = some (vI (-1)) ∧ ¬ R.1.1 = 0 ∧ RF d0 d' ∧ d' 272 5 = R.1.1 ∧ d' 272 6 = R.1.2) ∨ (R.1.1 = 0 ∧ r = some (vI k) ∧ KeQ d0 s k (at1 = -1) R.2 d')) := by
    refine T_loop (α := Nat × sD) 205 (fun z => [vR 271, vI s, vI at1, vI k, vI z.1]) (fun z => z.2) (fun z => z.1 ≤ szN s ∧ R.1.1 = 0 ∧ z.2 274 = e 274 ∧ (∀ b j, b ≠ 271 → b ≠ 272 → b ≠ 274 → z.2 b j = d0 b j) ∧ (∀ j, j ∉ [3, 4, 5, 6, 7, 8] → z.2 271 j = d0 271 j) ∧ z.2 272 5 = 0 ∧ z.2 272 6 = -1 ∧ z.2 272 s = (if at1 = -1 then d0 272 s + 1 else d0 272 s) ∧ (∀ i, i < z.1 → z.2 272 (plN s k + i) = R.2 i) ∧ ∀ j, j ≠ 5 → j ≠ 6 → j ≠ s → ¬ (plN s k ≤ j ∧ j < plN s k + szN s) → z.2 272 j = d0 272 j) (fun z => szN s + 1 - z.1) ?_
    rintro ⟨i, b⟩ ⟨h1, h2, h3, g1, g2, g3, g4, g5, g6, g7⟩ ih
    try dsimp only at h1 h2 h3 g1 g2 g3 g4 g5 g6 g7 ih ⊢
    refine T_iload dX12_text_205 rfl ?_
    refine T_iload_n dX12_text_207 rfl ?_
    refine T_callS dX12_text_208 lX12_203 (As := [_]) (rest := _) rfl rfl (by decide) (Nat.le_of_ble_eq_true rfl) (Nat.le_of_ble_eq_true rfl) t_X12_sizeOf ?_
    rintro _ _ ⟨rfl, rfl⟩
    rw [szN_O hs]
    refine T_icmp_ge (tgt := 240) dX12_text_211 (by decide) (fun c211 => ?_) (fun c211 => ?_)
    · refine T_iload_n dX12_text_240 rfl ?_
      exact T_ireturn dX12_text_241 rfl (Or.inr ⟨h2, rfl, g1, g2, g3, g4, g5, fun j hj => g6 j (by omega), g7⟩)
    · refine T_aload_n dX12_text_214 rfl ?_
      refine T_getR dX12_text_215 fX12_7 rfl k271 r271_0 ?_
      refine T_iload_n dX12_text_218 rfl ?_
      refine T_iload_n dX12_text_219 rfl ?_
      refine T_callS dX12_text_220 lX12_206 (As := [_, _]) (rest := _) rfl rfl (by decide) (Nat.le_of_ble_eq_true rfl) (Nat.le_of_ble_eq_true rfl) (t_X12_placeOf (by omega)) ?_
      rintro _ _ ⟨rfl, rfl⟩
      rw [plN_O hs]
      refine T_iload dX12_text_223 rfl ?_
      refine T_add dX12_text_225 (by omega) ?_
      refine T_aload_n dX12_text_226 rfl ?_
      refine T_getR dX12_text_227 fX12_17 rfl k271 r271_9 ?_
      refine T_iload dX12_text_230 rfl ?_
      refine T_ialdv dX12_text_232 k274 l274 (by omega) (j := i) (by omega) (x := R.2 i) (by rw [h3]; exact (hR h2).2 i (by omega)) ?_
      refine T_iast dX12_text_233 k272 l272 (by omega) (j := plN s k + i) (by omega) ?_
      refine T_inc dX12_text_234 rfl (by decide) rfl (by omega) ?_
      refine T_goto (tgt := 205) dX12_text_237 (by decide) ?_
      refine ih (i + 1, up b 272 (plN s k + i) (R.2 i)) ⟨by omega, h2, ?_, fun c j q1 q2 q3 => by (try dsimp only); rw [up_nea q2]; exact g1 c j q1 q2 q3, fun j hj => by (try dsimp only); rw [up_nea (by decide)]; exact g2 j hj, by (try dsimp only); rw [up_nej (by omega)]; exact g3, by (try dsimp only); rw [up_nej (by omega)]; exact g4, by (try dsimp only); rw [up_nej (by omega)]; exact g5, fun j hj => ?_, fun j q1 q2 q3 q4 => by (try dsimp only); rw [up_nej (by omega)]; exact g7 j q1 q2 q3 q4⟩ (by omega)
      · try dsimp only
        rw [← h3]; funext j; exact up_nea (by decide)
      · try dsimp only at hj ⊢
        rcases (show j < i ∨ j = i by omega) with z | rfl
        · rw [up_nej (by omega)]; exact g6 j z
        · rw [up_same]
  have h202 : ∀ e2 : sD, R.1.1 = 0 → (e2 = if at1 = -1 then up e 272 s (d0 272 s + 1) else e) → tB G mX12_text 202 [vR 271, vI s, vI at1, vI k, vU 0] [] e2 (fun r d' => (r = some (vI (-1)) ∧ ¬ R.1.1 = 0 ∧ RF d0 d' ∧ d' 272 5 = R.1.1 ∧ d' 272 6 = R.1.2) ∨ (R.1.1 = 0 ∧ r = some (vI k) ∧ KeQ d0 s k (at1 = -1) R.2 d')) := by
    intro e2 h0 he2
    have hz := hR h0
    have c1 : e2 274 = e 274 := by
      rw [he2]; split
      · funext j; exact up_nea (by decide)
      · rfl
    have c2 : ∀ b j, b ≠ 272 → e2 b j = e b j := fun b j hb => by
      rw [he2]; split
      · exact up_nea hb
      · rfl
    have c3 : ∀ j, j ≠ s → e2 272 j = e 272 j := fun j hj => by
      rw [he2]; split
      · exact up_nej hj
      · rfl
    have c4 : e2 272 s = (if at1 = -1 then d0 272 s + 1 else d0 272 s) := by
      rw [he2]
      by_cases y : at1 = -1
      · rw [if_pos y, if_pos y, up_same]
      · rw [if_neg y, if_neg y, es]
    refine T_iconst dX12_text_202 (by decide) ?_
    refine T_ist dX12_text_203 (by decide) rfl ?_
    refine h205 (0, e2) ⟨Nat.zero_le _, h0, c1, fun b j q1 q2 q3 => (c2 b j q2).trans (hF.1 b j q1 q2 q3), fun j hj => (c2 271 j (by decide)).trans (hF.2.1 j hj), (c3 5 (by omega)).trans (h5.trans h0), (c3 6 (by omega)).trans (h6.trans hz.1), c4, fun i hi => absurd hi (Nat.not_lt_zero i), fun j q1 q2 q3 _ => (c3 j q3).trans (hF.2.2 j q1 q2)⟩
  have h186 : R.1.1 = 0 → tB G mX12_text 186 [vR 271, vI s, vI at1, vU 0, vU 0] [vI k] e (fun r d' => (r = some (vI (-1)) ∧ ¬ R.1.1 = 0 ∧ RF d0 d' ∧ d' 272 5 = R.1.1 ∧ d' 272 6 = R.1.2) ∨ (R.1.1 = 0 ∧ r = some (vI k) ∧ KeQ d0 s k (at1 = -1) R.2 d')) := by
    intro h0
    refine T_ist_n dX12_text_186 (by decide) rfl ?_
    refine T_iload_n dX12_text_187 rfl ?_
    refine T_iconst dX12_text_188 (by decide) ?_
    refine T_icmp_ne (tgt := 202) dX12_text_189 (by decide) (fun c189 => ?_) (fun c189 => ?_)
    · exact h202 _ h0 (by rw [if_neg c189])
    · refine T_aload_n dX12_text_192 rfl ?_
      refine T_getR dX12_text_193 fX12_7 rfl k271 r271_0 ?_
      refine T_iload_n dX12_text_196 rfl ?_
      refine T_dup2 dX12_text_197 rfl rfl ?_
      refine T_ialdv dX12_text_198 k272 l272 (by omega) (j := s) (by omega) (x := d0 272 s) es ?_
      refine T_iconst dX12_text_199 (by decide) ?_
      refine T_add dX12_text_200 (by omega) ?_
      refine T_iast dX12_text_201 k272 l272 (by omega) (j := s) (by omega) ?_
      exact h202 _ h0 (by rw [if_pos c189])
  refine T_aload_n dX12_text_160 rfl ?_
  refine T_getR dX12_text_161 fX12_7 rfl k271 r271_0 ?_
  refine T_iconst dX12_text_164 (by decide) ?_
  refine T_ialdv dX12_text_165 k272 l272 (by omega) (j := 5) rfl (x := R.1.1) h5 ?_
  refine T_if_eq (tgt := 171) dX12_text_166 (by decide) (fun c166 => ?_) (fun c166 => ?_)
  · refine T_iload_n dX12_text_171 rfl ?_
    refine T_iconst dX12_text_172 (by decide) ?_
    refine T_icmp_ne (tgt := 185) dX12_text_173 (by decide) (fun c173 => ?_) (fun c173 => ?_)
    · refine T_iload_n dX12_text_185 rfl ?_
      obtain rfl : at1 = (k : Int) := by omega
      exact h186 c166
    · refine T_aload_n dX12_text_176 rfl ?_
      refine T_getR dX12_text_177 fX12_7 rfl k271 r271_0 ?_
      refine T_iload_n dX12_text_180 rfl ?_
      refine T_ialdv dX12_text_181 k272 l272 (by omega) (j := s) (by omega) (x := (k : Int)) (es.trans (by omega)) ?_
      refine T_goto (tgt := 186) dX12_text_182 (by decide) ?_
      exact h186 c166
  · refine T_iconst dX12_text_169 (by decide) ?_
    exact T_ireturn dX12_text_170 rfl (Or.inl ⟨rfl, c166, hF, h5, h6⟩)

end C47
