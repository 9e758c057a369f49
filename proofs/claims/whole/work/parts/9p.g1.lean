/-! texts: tokens, notes, and what the reference's reader keeps -/
section C35
variable {G : sG} {d d' d0 : sD} {T : Nat → Int} {n p q : Nat} {x : Int × Int}
/-- a tape -/
def TV (n : Nat) (T : Nat → Int) : Prop := n ≤ 600 ∧ (∀ i, i < n → 0 ≤ T i ∧ T i ≤ 255) ∧ ∀ i, n ≤ i → T i = -1
theorem Tp.tv (h : Tp d n T) : TV n T := ⟨h.2.1, h.2.2.2.1, h.2.2.2.2⟩
/-- a memory that holds a tape -/
def fkD (n : Nat) (T : Nat → Int) : sD := fun b j => if b = 271 then (n : Int) else T (j - 10)
theorem TV.tp (h : TV n T) : Tp (fkD n T) n T := by
  refine ⟨if_pos rfl, h.1, ?_, h.2.1, h.2.2⟩
  funext i
  unfold byS
  rw [show fkD n T 271 2 = (n : Int) from if_pos rfl]
  by_cases z : (i : Int) < n
  · rw [if_pos z]
    show (if (272 : Nat) = 271 then (n : Int) else T (10 + i - 10)) = T i
    rw [if_neg (by decide), Nat.add_sub_cancel_left]
  · rw [if_neg z, h.2.2 i (by omega)]
theorem TV.av (h : TV n T) (hp : p ≤ n) : p ≤ avT T n p ∧ avT T n p ≤ n := avT_rg h.tp hp
theorem TV.lt (h : TV n T) (hp : p ≤ n) (hk : ¬ kdT T n p = 0) : p < avT T n p := by
  have h1 := nxT_lt hk h.tp hp
  have h2 := nxT_rg h.tp hp
  have h3 := bgT_rg (T := T) h2.2
  unfold avT; omega
theorem TV.k0 (h : TV n T) (hp : p ≤ n) : kdT T n p = 0 ↔ p = n := by
  unfold kdT
  constructor
  · intro hk
    by_cases z : T p < 0
    · rcases Nat.lt_or_ge p n with y | y
      · have := h.2.1 p y; omega
      · omega
    · rw [if_neg z] at hk
      split at hk
      · split at hk <;> exact absurd hk (by decide)
      · split at hk
        · split at hk <;> exact absurd hk (by decide)
        · split at hk <;> exact absurd hk (by decide)
  · rintro rfl
    have := h.2.2 p (Nat.le_refl _)
    rw [if_pos (by omega)]
/-- the token k behind one -/
def tkI (T : Nat → Int) (n : Nat) : Nat → Nat → Nat
  | 0, p => p
  | k + 1, p => tkI T n k (avT T n p)
theorem tkI_s : ∀ (k p : Nat), tkI T n (k + 1) p = avT T n (tkI T n k p)
  | 0, p => rfl
  | k + 1, p => by show tkI T n (k + 1) (avT T n p) = _; rw [tkI_s k (avT T n p)]; rfl
abbrev isW (T : Nat → Int) (n p : Nat) (lo hi : Int) : Prop := kdT T n p = 3 ∧ lo ≤ woT T n p ∧ woT T n p ≤ hi
/-- how many tokens of a sort follow -/
def rnT (T : Nat → Int) (n : Nat) (lo hi : Int) : Nat → Nat → Nat
  | 0, _ => 0
  | f + 1, p => if isW T n p lo hi then rnT T n lo hi f (avT T n p) + 1 else 0
abbrev nbT (T : Nat → Int) (n : Nat) (lo hi : Int) (p : Nat) : Nat := rnT T n lo hi (n - p) p
theorem rnT_f {lo hi : Int} (h : TV n T) : ∀ (f p : Nat), p ≤ n → n - p ≤ f → rnT T n lo hi f p = nbT T n lo hi p
  | 0, p, hp, hf => by
    show 0 = rnT T n lo hi (n - p) p
    rw [show n - p = 0 by omega]; rfl
  | f + 1, p, hp, hf => by
    show (if _ then _ else _) = rnT T n lo hi (n - p) p
    by_cases z : isW T n p lo hi
    · have h1 := h.lt hp (by omega)
      have h2 := h.av hp
      obtain ⟨m, hm⟩ : ∃ m, n - p = m + 1 := ⟨n - p - 1, by omega⟩
      rw [hm]
      show (if _ then _ else _) = if _ then _ else _
      rw [if_pos z, if_pos z, rnT_f h f _ h2.2 (by omega), rnT_f h m _ h2.2 (by omega)]
    · rw [if_neg z]
      rcases (show n - p = 0 ∨ ∃ m, n - p = m + 1 by
        rcases Nat.eq_zero_or_pos (n - p) with y | y
        · exact Or.inl y
        · exact Or.inr ⟨n - p - 1, by omega⟩) with y | ⟨m, y⟩
      · rw [y]; rfl
      · rw [y]; show 0 = if _ then _ else _; rw [if_neg z]
theorem nbT_y {lo hi : Int} (h : TV n T) (hp : p ≤ n) (z : isW T n p lo hi) : nbT T n lo hi p = nbT T n lo hi (avT T n p) + 1 := by
  have h1 := h.lt hp (by omega)
  have h2 := h.av hp
  have h3 := rnT_f (lo := lo) (hi := hi) h (n - p - 1) (avT T n p) h2.2 (by omega)
  show rnT T n lo hi (n - p) p = _
  rw [← h3]
  obtain ⟨m, hm⟩ : ∃ m, n - p = m + 1 := ⟨n - p - 1, by omega⟩
  rw [hm]
  show (if _ then _ else _) = _
  rw [if_pos z, Nat.add_sub_cancel]
theorem nbT_n {lo hi : Int} (z : ¬ isW T n p lo hi) : nbT T n lo hi p = 0 := by
  show rnT T n lo hi (n - p) p = 0
  rcases (show n - p = 0 ∨ ∃ m, n - p = m + 1 by
    rcases Nat.eq_zero_or_pos (n - p) with y | y
    · exact Or.inl y
    · exact Or.inr ⟨n - p - 1, by omega⟩) with y | ⟨m, y⟩
  · rw [y]; rfl
  · rw [y]; exact if_neg z
theorem nbT_le {lo hi : Int} (h : TV n T) : ∀ (f p : Nat), n - p ≤ f → p ≤ n → p + nbT T n lo hi p ≤ n
  | 0, p, hf, hp => by
    show p + rnT T n lo hi (n - p) p ≤ n
    rw [show n - p = 0 by omega]; show p + 0 ≤ n; omega
  | f + 1, p, hf, hp => by
    by_cases z : isW T n p lo hi
    · have h1 := h.lt hp (by omega)
      have h2 := h.av hp
      have h3 := nbT_le (lo := lo) (hi := hi) h f (avT T n p) (by omega) h2.2
      rw [nbT_y h hp z]; omega
    · rw [nbT_n z]; omega
/-- a note: the first stays -/
def ntA (x : Int × Int) (k q : Int) : Int × Int := if x.1 = 0 then (k, q) else x
abbrev NL (x : Int × Int) (q : Int) : Prop := x.1 = 0 ∨ x.2 < q
theorem NL_a {k a b : Int} (h : NL x b) (hab : a < b) : NL (ntA x k a) b := by
  unfold ntA
  by_cases z : x.1 = 0
  · rw [if_pos z]; exact Or.inr hab
  · rw [if_neg z]; exact h
theorem NL.mono {a b : Int} (h : NL x a) (hab : a ≤ b) : NL x b := h.imp id (fun z => by omega)
theorem ntA_0 {k a : Int} (hk : ¬ k = 0) : (ntA x k a).1 = 0 ↔ False := by
  unfold ntA
  by_cases z : x.1 = 0
  · rw [if_pos z]; exact ⟨hk, False.elim⟩
  · rw [if_neg z]; exact ⟨z, False.elim⟩
/-- what a reading leaves alone -/
def RF (d0 d : sD) : Prop := (∀ b j, b ≠ 271 → b ≠ 272 → b ≠ 274 → d b j = d0 b j) ∧ (∀ j, j ∉ [3, 4, 5, 6, 7, 8] → d 271 j = d0 271 j) ∧ ∀ j, j ≠ 5 → j ≠ 6 → d 272 j = d0 272 j
theorem RF.rf : RF d d := ⟨fun _ _ _ _ _ => rfl, fun _ _ => rfl, fun _ _ _ => rfl⟩
theorem RF_ag (h : RF d0 d) (hA : Ag [] tkF d d') : RF d0 d' := ⟨fun b j h1 h2 h3 => (hA.1 b j (by simp) h1).trans (h.1 b j h1 h2 h3), fun j hj => (hA.2 j (fun z => hj (by simp at z ⊢; omega))).trans (h.2.1 j hj), fun j h1 h2 => (hA.1 272 j (by simp) (by decide)).trans (h.2.2 j h1 h2)⟩
theorem RF_w {j : Nat} {v : Int} (h : RF d0 d) : RF d0 (up d 274 j v) := ⟨fun b j h1 h2 h3 => by rw [up_nea h3]; exact h.1 b j h1 h2 h3, fun j hj => by rw [up_nea (by decide)]; exact h.2.1 j hj, fun j h1 h2 => by rw [up_nea (by decide)]; exact h.2.2 j h1 h2⟩
theorem RF_al {k a : Int} (h : RF d0 d) : RF d0 (alD d k a) := by
  unfold alD
  split
  · exact h
  · split
    · exact ⟨fun b j h1 h2 h3 => by rw [up_nea h2, up_nea h2]; exact h.1 b j h1 h2 h3, fun j hj => by rw [up_nea (by decide), up_nea (by decide)]; exact h.2.1 j hj, fun j h1 h2 => by rw [up_nej h2, up_nej h1]; exact h.2.2 j h1 h2⟩
    · exact h
theorem RF_en (h : RF d0 d) : RF d0 (enD d) := by
  unfold enD
  split
  · exact ⟨fun b j h1 h2 h3 => by rw [up_nea h2, up_nea h2, up_nea h1]; exact h.1 b j h1 h2 h3, fun j hj => by rw [up_nea (by decide), up_nea (by decide), up_nej (fun z => hj (by rw [z]; decide))]; exact h.2.1 j hj, fun j h1 h2 => by rw [up_nej h2, up_nej h1, up_nea (by decide)]; exact h.2.2 j h1 h2⟩
  · exact h
/-- the reference reads at a token with a note -/
def RS (d0 d : sD) (T : Nat → Int) (n p : Nat) (x : Int × Int) : Prop := Tp d n T ∧ At d T n p ∧ d 271 8 = 0 ∧ d 272 5 = x.1 ∧ d 272 6 = x.2 ∧ RF d0 d
/-- it has ended -/
def RW (d0 d : sD) (q : Nat) : Prop := d 271 8 = 1 ∧ d 272 5 = 1 ∧ d 272 6 = (q : Int) ∧ RF d0 d
theorem RS_en (h : RS d0 d T n p x) : RW d0 (enD d) p ∧ enD d 274 = d 274 := by
  obtain ⟨h1, h2, h3, h4, h5, h6⟩ := h
  refine ⟨⟨?_, ?_, ?_, RF_en h6⟩, ?_⟩
  · unfold enD; rw [if_pos h3, up_nea (by decide), up_nea (by decide), up_same]
  · unfold enD; rw [if_pos h3, up_nej (by decide), up_same]
  · unfold enD; rw [if_pos h3, up_same]; exact h2.2.1.1
  · funext j; unfold enD; rw [if_pos h3, up_nea (by decide), up_nea (by decide), up_nea (by decide)]
theorem RS_ag (h : RS d0 d T n p x) (hA : Ag [] tkF d d') (hAt : At d' T n q) : RS d0 d' T n q x ∧ d' 274 = d 274 := by
  obtain ⟨h1, h2, h3, h4, h5, h6⟩ := h
  exact ⟨⟨Tp_ag h1 hA (by decide) (by decide), hAt, (hA.2 8 (by decide)).trans h3, (hA.1 272 5 (by simp) (by decide)).trans h4, (hA.1 272 6 (by simp) (by decide)).trans h5, RF_ag h6 hA⟩, funext fun j => hA.1 274 j (by simp) (by decide)⟩
theorem RS_al {k a : Int} (h : RS d0 d T n p x) (hx : NL x a) : RS d0 (alD d k a) T n p (ntA x k a) ∧ alD d k a 274 = d 274 := by
  obtain ⟨h1, h2, h3, h4, h5, h6⟩ := h
  have e : alD d k a = if x.1 = 0 then up (up d 272 5 k) 272 6 a else d := by
    unfold alD
    rw [if_neg (fun z => z h3), h4, h5]
    by_cases z : x.1 = 0
    · rw [if_pos (Or.inl z), if_pos z]
    · rw [if_neg z, if_neg (fun y => by have := hx.resolve_left z; omega)]
  refine ⟨⟨alD_tp h1, At_ag h2 alD_Ag (by decide), (alD_Ag.2 8 (by decide)).trans h3, ?_, ?_, RF_al h6⟩, funext fun j => alD_Ag.1 274 j (by decide) (by decide)⟩
  · rw [e]; unfold ntA
    by_cases z : x.1 = 0
    · rw [if_pos z, if_pos z, up_nej (by decide), up_same]
    · rw [if_neg z, if_neg z]; exact h4
  · rw [e]; unfold ntA
    by_cases z : x.1 = 0
    · rw [if_pos z, if_pos z, up_same]
    · rw [if_neg z, if_neg z]; exact h5
theorem RS_w {j : Nat} {v : Int} (h : RS d0 d T n p x) : RS d0 (up d 274 j v) T n p x := by
  obtain ⟨h1, h2, h3, h4, h5, h6⟩ := h
  have hA : Ag [274] [] d (up d 274 j v) := Ag_up Ag.rf (by decide)
  exact ⟨Tp_ag h1 hA (by decide) (by decide), At_ag h2 hA (by decide), by rw [up_nea (by decide)]; exact h3, by rw [up_nea (by decide)]; exact h4, by rw [up_nea (by decide)]; exact h5, RF_w h6⟩
theorem RW_w {j : Nat} {v : Int} (h : RW d0 d q) : RW d0 (up d 274 j v) q := ⟨by rw [up_nea (by decide)]; exact h.1, by rw [up_nea (by decide)]; exact h.2.1, by rw [up_nea (by decide)]; exact h.2.2.1, RF_w h.2.2.2⟩
theorem en_W (h : RW d0 d q) : enD d = d := by unfold enD; rw [if_neg (by rw [h.1]; decide)]
theorem al_W {k a : Int} (h : RW d0 d q) : alD d k a = d := by unfold alD; rw [if_pos (by rw [h.1]; decide)]
theorem r_takes {lo hi : Int} (h : RS d0 d T n p x) : tB G mX12_takes 0 [vR 271, vI lo, vI hi, vU 0] [] d (fun r d' => (isW T n p lo hi ∧ r = some (vI (woT T n p)) ∧ RS d0 d' T n (avT T n p) x ∧ d' 274 = d 274) ∨ (¬ isW T n p lo hi ∧ r = some (vI 0) ∧ RW d0 d' p ∧ d' 274 = d 274)) := (t_takes h.1 h.2.1).mono (by
  rintro r d' (⟨h1, rfl, h2, h3⟩ | ⟨h1, rfl, rfl⟩)
  · exact Or.inl ⟨h1.2, rfl, RS_ag h h3 h2⟩
  · exact Or.inr ⟨fun z => h1 ⟨h.2.2.1, z⟩, rfl, RS_en h⟩)
theorem r_beatTold (h : RS d0 d T n p x) : tB G mX12_beatTold 0 [vR 271] [] d (fun r d' => (isW T n p 10 13 ∧ r = some (vI (woT T n p - 10)) ∧ RS d0 d' T n (avT T n p) x ∧ d' 274 = d 274) ∨ (¬ isW T n p 10 13 ∧ r = some (vI (-10)) ∧ RW d0 d' p ∧ d' 274 = d 274)) := (t_beatTold h.1 h.2.1).mono (by
  rintro r d' (⟨h1, rfl, h2, h3⟩ | ⟨h1, rfl, rfl⟩)
  · exact Or.inl ⟨h1.2, rfl, RS_ag h h3 h2⟩
  · exact Or.inr ⟨fun z => h1 ⟨h.2.2.1, z⟩, rfl, RS_en h⟩)
abbrev inR (v lo hi : Int) : Prop := lo ≤ v ∧ v ≤ hi
theorem r_numbered {lo hi : Int} (h : RS d0 d T n p x) (hx : NL x p) : tB G mX12_numbered 0 [vR 271, vI lo, vI hi, vU 0] [] d (fun r d' => (kdT T n p = 1 ∧ r = some (vI (if inR (nmT T n p) lo hi then nmT T n p else lo)) ∧ RS d0 d' T n (avT T n p) (if inR (nmT T n p) lo hi then x else ntA x 2 p) ∧ d' 274 = d 274) ∨ (¬ kdT T n p = 1 ∧ r = some (vI lo) ∧ RW d0 d' p ∧ d' 274 = d 274)) := (t_numbered h.1 h.2.1).mono (by
  rintro r d' (⟨h1, h2, rfl, h3, h4⟩ | ⟨h1, h2, rfl, h3, h4⟩ | ⟨h1, rfl, rfl⟩)
  · exact Or.inl ⟨h1.2, by rw [if_pos h2], by rw [if_pos h2]; exact RS_ag h h4 h3⟩
  · have g := RS_al (k := 2) h hx
    have g2 := RS_ag g.1 h4 h3
    exact Or.inl ⟨h1.2, by rw [if_neg h2], by rw [if_neg h2]; exact ⟨g2.1, g2.2.trans g.2⟩⟩
  · exact Or.inr ⟨fun z => h1 ⟨h.2.2.1, z⟩, rfl, RS_en h⟩)
theorem r_endsLine (h : RS d0 d T n p x) : tB G mX12_endsLine 0 [vR 271] [] d (fun r d' => r = none ∧ ((kdT T n p = 2 ∧ RS d0 d' T n (avT T n p) x ∧ d' 274 = d 274) ∨ (¬ kdT T n p = 2 ∧ RW d0 d' p ∧ d' 274 = d 274))) := (t_endsLine h.1 h.2.1).mono (by
  rintro r d' ⟨rfl, (⟨h1, h1b, h2, h3⟩ | ⟨h1, rfl⟩)⟩
  · exact ⟨rfl, Or.inl ⟨h1b, RS_ag h h3 h2⟩⟩
  · exact ⟨rfl, Or.inr ⟨fun z => h1 ⟨h.2.2.1, z⟩, RS_en h⟩⟩)
theorem r_isBeat (h : RS d0 d T n p x) : tB G mX12_isBeat 0 [vR 271] [] d (fun r d' => r = some (vI (bI (isW T n p 10 13))) ∧ d = d') := t_isBeat.mono (by
  rintro r d' ⟨rfl, rfl⟩
  refine ⟨congrArg (fun z => some (vI z)) (bI_congr ?_), rfl⟩
  rw [h.2.2.1, h.2.1.2.1.2.2]
  constructor
  · rintro ⟨_, h1, h2⟩; rw [h.2.1.2.2.2 h1] at h2; exact ⟨h1, h2⟩
  · rintro ⟨h1, h2⟩; rw [h.2.1.2.2.2 h1]; exact ⟨rfl, h1, h2⟩)
theorem r_isMove (h : RS d0 d T n p x) : tB G mX12_isMove 0 [vR 271] [] d (fun r d' => r = some (vI (bI (isW T n p 14 18))) ∧ d = d') := t_isMove.mono (by
  rintro r d' ⟨rfl, rfl⟩
  refine ⟨congrArg (fun z => some (vI z)) (bI_congr ?_), rfl⟩
  rw [h.2.2.1, h.2.1.2.1.2.2]
  constructor
  · rintro ⟨_, h1, h2⟩; rw [h.2.1.2.2.2 h1] at h2; exact ⟨h1, h2⟩
  · rintro ⟨h1, h2⟩; rw [h.2.1.2.2.2 h1]; exact ⟨rfl, h1, h2⟩)
end C35
