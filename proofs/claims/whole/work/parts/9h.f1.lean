/-! rows that are orders in two ways: walks over rests of orders -/
section C28
variable {w : Nat → Int} {a : Nat}
abbrev isO (w : Nat → Int) (a o : Nat) : Prop := (o : Int) < w (15 + a)
/-- as many beats as both have agree -/
abbrev Eg (w : Nat → Int) (a o f p : Nat) : Prop := ∀ u, u < min (lnW w a o - f) (lnW w a p) → btW w a o (f + u) = btW w a p u
abbrev Nd (w : Nat → Int) (a o f : Nat) : Prop := isO w a o ∧ 1 ≤ f ∧ f < lnW w a o
abbrev Bg (w : Nat → Int) (a o p : Nat) : Prop := isO w a p ∧ p ≠ o ∧ ∀ u, u < lnW w a p → btW w a p u = btW w a o u
/-- a step from a rest by an order to a rest -/
def Sp (w : Nat → Int) (a o f p o' f' : Nat) (c : Int) : Prop := (isO w a p ∧ Eg w a o f p) ∧ ((lnW w a o - f < lnW w a p ∧ o' = p ∧ f' = lnW w a o - f ∧ c = (lnW w a p : Int) - (lnW w a o - f : Nat)) ∨ (lnW w a p < lnW w a o - f ∧ o' = o ∧ f' = f + lnW w a p ∧ c = 0))
/-- a step to the end -/
def Se (w : Nat → Int) (a o f p : Nat) : Prop := (isO w a p ∧ Eg w a o f p) ∧ lnW w a p = lnW w a o - f
def Wk (w : Nat → Int) (a : Nat) : Nat → Nat → Nat → Int → Prop
  | 0, o, f, x => isO w a o ∧ (∃ p, Bg w a o p ∧ f = lnW w a p ∧ f < lnW w a o) ∧ x = (lnW w a o : Int)
  | n + 1, o, f, x => ∃ o0 f0 x0 p c, Wk w a n o0 f0 x0 ∧ Sp w a o0 f0 p o f c ∧ x = x0 + c
def Fwk (w : Nat → Int) (a : Nat) (x : Int) : Prop := (∃ o p, isO w a o ∧ Bg w a o p ∧ lnW w a p = lnW w a o ∧ x = (lnW w a o : Int)) ∨ ∃ n o f p, Wk w a n o f x ∧ Se w a o f p
theorem Sp_nd (hV : WV w) (ha : a < 2) {o f p o' f' : Nat} {c : Int} (hn : Nd w a o f) (h : Sp w a o f p o' f' c) : Nd w a o' f' ∧ 0 ≤ c ∧ c ≤ 3 := by
  obtain ⟨⟨hp, _⟩, h⟩ := h
  have l1 := hV.ln ha hn.1
  have l2 := hV.ln ha hp
  rcases h with ⟨h1, rfl, rfl, rfl⟩ | ⟨h1, rfl, rfl, rfl⟩
  · exact ⟨⟨hp, by omega, by omega⟩, by omega⟩
  · exact ⟨⟨hn.1, by omega, by omega⟩, by omega⟩
theorem Wk_nd (hV : WV w) (ha : a < 2) : ∀ {n o f : Nat} {x : Int}, Wk w a n o f x → Nd w a o f ∧ 1 ≤ x
  | 0, o, f, x, h => by
    obtain ⟨h1, ⟨p, hb, rfl, h2⟩, rfl⟩ := h
    have l1 := hV.ln ha h1
    have l2 := hV.ln ha hb.1
    exact ⟨⟨h1, by omega, by omega⟩, by omega⟩
  | n + 1, o, f, x, h => by
    obtain ⟨o0, f0, x0, p, c, hw, hs, rfl⟩ := h
    obtain ⟨q1, q2⟩ := Wk_nd hV ha hw
    obtain ⟨q3, q4⟩ := Sp_nd hV ha q1 hs
    exact ⟨q3, by omega⟩
/-- an array over rests: it is below all walks, and a walk where it isn't without end -/
def DLw (w : Nat → Int) (a : Nat) (D : Nat → Nat → Int) : Prop := ∀ n o f x, Wk w a n o f x → D o f ≤ x
def DAt (w : Nat → Int) (a : Nat) (D : Nat → Nat → Int) (I : Int) : Prop := ∀ o f, Nd w a o f → D o f = I ∨ ∃ n, Wk w a n o f (D o f)
def Bgn (w : Nat → Int) (a : Nat) (D : Nat → Nat → Int) : Prop := ∀ o p, isO w a o → Bg w a o p → lnW w a p < lnW w a o → D o (lnW w a p) ≤ (lnW w a o : Int)
theorem DLw_of (hV : WV w) (ha : a < 2) {D : Nat → Nat → Int} {I : Int} (hI : ∀ o f, Nd w a o f → D o f ≤ I) (hB : Bgn w a D) (hS : ∀ o f p o' f' c, Nd w a o f → D o f < I → Sp w a o f p o' f' c → D o' f' ≤ D o f + c) : DLw w a D := by
  intro n
  induction n with
  | zero =>
    rintro o f x ⟨h1, ⟨p, hb, rfl, h2⟩, rfl⟩
    exact hB o p h1 hb h2
  | succ n ih =>
    rintro o f x ⟨o0, f0, x0, p, c, hw, hs, rfl⟩
    have q := Wk_nd hV ha hw
    have q2 := Sp_nd hV ha q.1 hs
    have q3 := ih o0 f0 x0 hw
    by_cases z : D o0 f0 < I
    · have := hS o0 f0 p o f c q.1 z hs; omega
    · have := hI o f q2.1; omega
/-- growth: a set of N things that grows at each step until it holds what it shall -/
theorem grow_count {N : Nat} {P P' : Nat → Prop} [DecidablePred P] [DecidablePred P'] (hm : ∀ i, i < N → P i → P' i) : cnN P N ≤ cnN P' N ∧ ((∃ i, i < N ∧ ¬ P i ∧ P' i) → cnN P N + 1 ≤ cnN P' N) := by
  induction N with
  | zero => exact ⟨Int.le_refl _, fun ⟨i, hi, _⟩ => absurd hi (Nat.not_lt_zero i)⟩
  | succ N ih =>
    obtain ⟨i1, i2⟩ := ih (fun i hi => hm i (by omega))
    have e1 : cnN P (N + 1) = cnN P N + bI (P N) := rfl
    have e2 : cnN P' (N + 1) = cnN P' N + bI (P' N) := rfl
    have hb : bI (P N) ≤ bI (P' N) := by
      by_cases q : P N
      · rw [bI_t q, bI_t (hm N (by omega) q)]; exact Int.le_refl _
      · rw [bI_f q]; rcases bI_01 (P' N) with z | z <;> omega
    refine ⟨by omega, ?_⟩
    rintro ⟨i, hi, h1, h2⟩
    rcases (show i < N ∨ i = N by omega) with z | rfl
    · have := i2 ⟨i, z, h1, h2⟩; omega
    · rw [bI_f h1, bI_t h2] at *; omega
theorem cnN_full {N : Nat} {P : Nat → Prop} [DecidablePred P] (h : (N : Int) ≤ cnN P N) : ∀ i, i < N → P i := by
  induction N with
  | zero => intro i hi; exact absurd hi (Nat.not_lt_zero i)
  | succ N ih =>
    have e1 : cnN P (N + 1) = cnN P N + bI (P N) := rfl
    have hr := cnN_rg P N
    rcases bI_01 (P N) with z | z
    · omega
    · intro i hi
      rcases (show i < N ∨ i = N by omega) with y | rfl
      · exact ih (by omega) i y
      · exact bI_1 (by omega)
/-- the lengths of shortest walks are small -/
theorem D_small (hV : WV w) (ha : a < 2) {D : Nat → Nat → Int} {I : Int} (hL : DLw w a D) (hA : DAt w a D I) (hU : ∀ o f, Nd w a o f → D o f ≤ I) (hI : 100 < I) : ∀ o f, Nd w a o f → D o f = I ∨ D o f ≤ 76 := by
  have hc := (hV.a ha).2.2.2.2
  have key : ∀ k : Nat, (∀ o f, Nd w a o f → D o f = I ∨ D o f ≤ 4 + 3 * (k : Int)) ∨ (k : Int) ≤ cnN (fun i => Nd w a (i / 4) (i % 4) ∧ D (i / 4) (i % 4) ≤ 4 + 3 * (k : Int)) 24 := by
    intro k
    induction k with
    | zero => exact Or.inr (cnN_rg _ _).1
    | succ k ih =>
      rcases ih with ih | ih
      · refine Or.inl (fun o f hn => (ih o f hn).imp id (fun z => by omega))
      · by_cases hall : ∀ o f, Nd w a o f → D o f = I ∨ D o f ≤ 4 + 3 * (k : Int)
        · exact Or.inl (fun o f hn => (hall o f hn).imp id (fun z => by omega))
        · refine Or.inr ?_
          have hgr : ∃ i, i < 24 ∧ ¬ (Nd w a (i / 4) (i % 4) ∧ D (i / 4) (i % 4) ≤ 4 + 3 * (k : Int)) ∧ (Nd w a (i / 4) (i % 4) ∧ D (i / 4) (i % 4) ≤ 4 + 3 * ((k + 1 : Nat) : Int)) := by
            have walk : ∀ n o f, Wk w a n o f (D o f) → ¬ D o f ≤ 4 + 3 * (k : Int) → ∃ o' f', Nd w a o' f' ∧ ¬ D o' f' ≤ 4 + 3 * (k : Int) ∧ D o' f' ≤ 4 + 3 * ((k + 1 : Nat) : Int) := by
              intro n
              induction n with
              | zero =>
                rintro o f h hn
                have q := Wk_nd hV ha h
                obtain ⟨h1, _, h3⟩ := h
                have l1 := hV.ln ha h1
                omega
              | succ n ihn =>
                rintro o f ⟨o0, f0, x0, p, c, hw, hs, hx⟩ hn
                have q := Wk_nd hV ha hw
                have q2 := Sp_nd hV ha q.1 hs
                have q3 := hL n o0 f0 x0 hw
                have q4 : D o f ≤ D o0 f0 + c := by
                  rcases hA o0 f0 q.1 with z | ⟨m, z⟩
                  · have := hU o f q2.1
                    have := q2.2
                    omega
                  · exact hL (m + 1) o f _ ⟨o0, f0, _, p, c, z, hs, rfl⟩
                have q5 : D o0 f0 = x0 := by omega
                by_cases z : D o0 f0 ≤ 4 + 3 * (k : Int)
                · exact ⟨o, f, q2.1, hn, by omega⟩
                · exact ihn o0 f0 (by rw [q5]; exact hw) z
            have hex : ∃ o f, Nd w a o f ∧ ¬ D o f = I ∧ ¬ D o f ≤ 4 + 3 * (k : Int) := by
              refine Classical.byContradiction (fun hno => hall (fun o f hn => ?_))
              rcases (show D o f = I ∨ ¬ D o f = I by omega) with z | z
              · exact Or.inl z
              · refine Or.inr ?_
                rcases (show D o f ≤ 4 + 3 * (k : Int) ∨ ¬ D o f ≤ 4 + 3 * (k : Int) by omega) with y | y
                · exact y
                · exact absurd ⟨o, f, hn, z, y⟩ hno
            obtain ⟨o, f, hn, h1, h2⟩ := hex
            obtain ⟨m, hm⟩ := (hA o f hn).resolve_left h1
            obtain ⟨o', f', g1, g2, g3⟩ := walk m o f hm h2
            have l1 := hV.ln ha g1.1
            refine ⟨4 * o' + f', by omega, ?_, ?_⟩
            · rw [show (4 * o' + f') / 4 = o' by omega, show (4 * o' + f') % 4 = f' by omega]; exact fun z => g2 z.2
            · rw [show (4 * o' + f') / 4 = o' by omega, show (4 * o' + f') % 4 = f' by omega]; exact ⟨g1, g3⟩
          have := (grow_count (N := 24) (P := fun i => Nd w a (i / 4) (i % 4) ∧ D (i / 4) (i % 4) ≤ 4 + 3 * (k : Int)) (P' := fun i => Nd w a (i / 4) (i % 4) ∧ D (i / 4) (i % 4) ≤ 4 + 3 * ((k + 1 : Nat) : Int)) (fun i _ z => ⟨z.1, by omega⟩)).2 hgr
          omega
  intro o f hn
  rcases key 24 with h | h
  · have := h o f hn; omega
  · have l1 := hV.ln ha hn.1
    have := cnN_full (N := 24) h (4 * o + f) (by omega)
    rw [show (4 * o + f) / 4 = o by omega, show (4 * o + f) % 4 = f by omega] at this
    exact Or.inr (by omega)
end C28
