/-! rows that are orders in two ways: what both programs end with -/
section C29
variable {w : Nat → Int} {a : Nat}
/-- the least length of a row that is orders in two ways -/
def TF (w : Nat → Int) (a : Nat) (r : Int) : Prop := (r = -1 ∧ ∀ x, Fwk w a x → 9999 ≤ x) ∨ (Fwk w a r ∧ 0 ≤ r ∧ r < 9999 ∧ ∀ x, Fwk w a x → r ≤ x)
theorem TF_u {r s : Int} (h : TF w a r) (h2 : TF w a s) : r = s := by
  rcases h with ⟨h, h1⟩ | ⟨h, h0, h1, hm⟩
  · rcases h2 with ⟨g, _⟩ | ⟨g, _, g1, _⟩
    · omega
    · have := h1 s g; omega
  · rcases h2 with ⟨g, g1⟩ | ⟨g, _, g1, gm⟩
    · have := g1 r h; omega
    · have := hm s g; have := gm r h; omega
noncomputable def tfW (w : Nat → Int) (a : Nat) : Int := @dite _ (∃ r, TF w a r) (Classical.propDecidable _) (fun h => Classical.choose h) (fun _ => 0)
theorem tfW_eq {r : Int} (h : TF w a r) : tfW w a = r := by
  have hx : ∃ r, TF w a r := ⟨r, h⟩
  unfold tfW
  rw [dif_pos hx]
  exact TF_u (Classical.choose_spec hx) h
/-- the ends that an array over rests leads to -/
def EdL (w : Nat → Int) (a : Nat) (D : Nat → Nat → Int) (I t : Int) : Prop := ∀ o f p, Nd w a o f → D o f < I → Se w a o f p → t ≤ D o f
def EdB (w : Nat → Int) (a : Nat) (t : Int) : Prop := ∀ o p, isO w a o → Bg w a o p → lnW w a p = lnW w a o → t ≤ (lnW w a o : Int)
theorem TF_of (hV : WV w) (ha : a < 2) {D : Nat → Nat → Int} {I t : Int} (hI : 9999 ≤ I) (hL : DLw w a D) (hA : DAt w a D I) (hU : ∀ o f, Nd w a o f → D o f ≤ I) (ht : t = I ∨ Fwk w a t) (htI : t ≤ I) (hB : EdB w a t) (hE : EdL w a D I t) : TF w a (if t < I then t else -1) := by
  have hmin : ∀ x, Fwk w a x → t ≤ x := by
    rintro x (⟨o, p, h1, h2, h3, rfl⟩ | ⟨n, o, f, p, h1, h2⟩)
    · exact hB o p h1 h2 h3
    · have q := Wk_nd hV ha h1
      have q1 := hL n o f x h1
      by_cases z : D o f < I
      · have := hE o f p q.1 z h2; omega
      · omega
  by_cases z : t < I
  · rw [if_pos z]
    have hF := ht.resolve_left (by omega)
    have hs : 0 ≤ t ∧ t < 9999 := by
      rcases hF with ⟨o, p, h1, h2, h3, rfl⟩ | ⟨n, o, f, p, h1, h2⟩
      · have := hV.ln ha h1; omega
      · have q := Wk_nd hV ha h1
        have q1 := hL n o f t h1
        have q2 := D_small hV ha hL hA hU (by omega) o f q.1
        have q3 := hE o f p q.1 (by omega) h2
        omega
    exact Or.inr ⟨hF, hs.1, hs.2, hmin⟩
  · rw [if_neg z]
    refine Or.inl ⟨rfl, fun x hx => ?_⟩
    have := hmin x hx
    omega
/-- a rest is exact: no walk is shorter -/
def Ex (w : Nat → Int) (a : Nat) (D : Nat → Nat → Int) (o f : Nat) : Prop := ∀ n x, Wk w a n o f x → D o f ≤ x
theorem least_wk (hV : WV w) (ha : a < 2) {o f : Nat} : ∀ (N : Nat) {n : Nat} {x : Int}, x ≤ N → Wk w a n o f x → ∃ m y, Wk w a m o f y ∧ y ≤ x ∧ ∀ k z, Wk w a k o f z → y ≤ z
  | 0, n, x, h, hw => by have := (Wk_nd hV ha hw).2; omega
  | N + 1, n, x, h, hw => by
    by_cases q : ∃ k z, Wk w a k o f z ∧ z < x
    · obtain ⟨k, z, h1, h2⟩ := q
      obtain ⟨m, y, g1, g2, g3⟩ := least_wk hV ha N (show z ≤ N by omega) h1
      exact ⟨m, y, g1, by omega, g3⟩
    · refine ⟨n, x, hw, Int.le_refl _, fun k z hz => ?_⟩
      rcases Int.lt_or_le z x with y | y
      · exact absurd ⟨k, z, hz, y⟩ q
      · exact y
theorem Ex_grow (hV : WV w) (ha : a < 2) {C C' : Nat → Nat → Int} {I : Int} (hU : ∀ o f, Nd w a o f → C o f ≤ I) (hB : Bgn w a C) (hS : ∀ o f p o' f' c, Nd w a o f → C o f < I → Sp w a o f p o' f' c → C' o' f' ≤ C o f + c) {o f : Nat} (hn : ¬ Ex w a C o f) : ∃ o' f', Nd w a o' f' ∧ ¬ Ex w a C o' f' ∧ Ex w a C' o' f' := by
  have hx : ∃ n x, Wk w a n o f x ∧ x < C o f := by
    refine Classical.byContradiction (fun q => hn (fun n x hw => ?_))
    rcases Int.lt_or_le x (C o f) with y | y
    · exact absurd ⟨n, x, hw, y⟩ q
    · exact y
  obtain ⟨n, x, hw, hlt⟩ := hx
  obtain ⟨m, y, g1, g2, g3⟩ := least_wk hV ha x.toNat (by omega) hw
  have key : ∀ (m o f : Nat) (y : Int), Wk w a m o f y → (∀ k z, Wk w a k o f z → y ≤ z) → y < C o f → ∃ o' f', Nd w a o' f' ∧ ¬ Ex w a C o' f' ∧ Ex w a C' o' f' := by
    intro m
    induction m with
    | zero =>
      rintro o f y ⟨h1, ⟨p, hb, rfl, h2⟩, rfl⟩ _ h4
      have := hB o p h1 hb h2
      omega
    | succ m ih =>
      rintro o f y ⟨o0, f0, x0, p, c, hw, hs, rfl⟩ hm h4
      have q := Wk_nd hV ha hw
      have q2 := Sp_nd hV ha q.1 hs
      have hm0 : ∀ k z, Wk w a k o0 f0 z → x0 ≤ z := by
        intro k z hz
        have := hm (k + 1) (z + c) ⟨o0, f0, z, p, c, hz, hs, rfl⟩
        omega
      have hUo := hU o f q2.1
      by_cases z : C o0 f0 ≤ x0
      · have h5 := hS o0 f0 p o f c q.1 (by omega) hs
        refine ⟨o, f, q2.1, fun h => ?_, fun k v hv => ?_⟩
        · have := h (m + 1) _ ⟨o0, f0, x0, p, c, hw, hs, rfl⟩; omega
        · have := hm k v hv; omega
      · exact ih o0 f0 x0 hw hm0 (by omega)
  exact key m o f y g1 g3 (by omega)
/-- how many places are exact -/
noncomputable def cEx (w : Nat → Int) (a : Nat) (D : Nat → Nat → Int) : Int := @cnN (fun i => Ex w a D (i / 4) (i % 4)) (fun _ => Classical.propDecidable _) 24
theorem cEx_grow (hV : WV w) (ha : a < 2) {C C' : Nat → Nat → Int} {I : Int} (hU : ∀ o f, Nd w a o f → C o f ≤ I) (hB : Bgn w a C) (hS : ∀ o f p o' f' c, Nd w a o f → C o f < I → Sp w a o f p o' f' c → C' o' f' ≤ C o f + c) (hle : ∀ o f, o < 6 → f < 4 → C' o f ≤ C o f) {k : Nat} (hk : DLw w a C ∨ (k : Int) + 1 ≤ cEx w a C) : DLw w a C' ∨ ((k + 1 : Nat) : Int) + 1 ≤ cEx w a C' := by
  classical
  have h6 : ∀ {o f : Nat}, Nd w a o f → o < 6 ∧ f < 4 := fun {o f} hn => by
    have := hV.ln ha hn.1
    have := hn.2
    exact ⟨by omega, by omega⟩
  have hmono : ∀ o f, Ex w a C o f → Ex w a C' o f := fun o f h n x hw => by
    have q := h6 (Wk_nd hV ha hw).1
    have := hle o f q.1 q.2
    have := h n x hw
    omega
  by_cases hall : DLw w a C
  · exact Or.inl (fun n o f x hw => hmono o f (fun m y hy => hall m o f y hy) n x hw)
  · have hk2 := hk.resolve_left hall
    have hne : ∃ o f, ¬ Ex w a C o f := by
      refine Classical.byContradiction (fun q => hall (fun n o f x hw => ?_))
      refine Classical.byContradiction (fun q2 => q ⟨o, f, fun h => q2 (h n x hw)⟩)
    obtain ⟨o, f, hn⟩ := hne
    obtain ⟨o', f', g1, g2, g3⟩ := Ex_grow hV ha hU hB hS hn
    have q := h6 g1
    refine Or.inr ?_
    have := (grow_count (N := 24) (P := fun i => Ex w a C (i / 4) (i % 4)) (P' := fun i => Ex w a C' (i / 4) (i % 4)) (fun i _ z => hmono _ _ z)).2 ⟨4 * o' + f', by omega, by rw [show (4 * o' + f') / 4 = o' by omega, show (4 * o' + f') % 4 = f' by omega]; exact g2, by rw [show (4 * o' + f') / 4 = o' by omega, show (4 * o' + f') % 4 = f' by omega]; exact g3⟩
    unfold cEx at hk2 ⊢
    omega
theorem cEx_full (hV : WV w) (ha : a < 2) {C : Nat → Nat → Int} (h : DLw w a C ∨ ((23 : Nat) : Int) + 1 ≤ cEx w a C) : DLw w a C := by
  classical
  refine h.elim id (fun h => ?_)
  intro n o f x hw
  have q := (Wk_nd hV ha hw).1
  have := hV.ln ha q.1
  have h2 := cnN_full (N := 24) (P := fun i => Ex w a C (i / 4) (i % 4)) (by unfold cEx at h; exact h) (4 * o + f) (by omega)
  rw [show (4 * o + f) / 4 = o by omega, show (4 * o + f) % 4 = f by omega] at h2
  exact h2 n x hw
theorem cEx_0 (hV : WV w) (ha : a < 2) {C : Nat → Nat → Int} : ((0 : Nat) : Int) + 1 ≤ cEx w a C := by
  classical
  unfold cEx
  have h : ∀ (P : Nat → Prop) [DecidablePred P] (N : Nat), P 0 → 1 ≤ cnN P (N + 1) := by
    intro P _ N h0
    induction N with
    | zero => show 1 ≤ cnN P 0 + bI (P 0); rw [bI_t h0]; exact Int.le_refl _
    | succ N ih => show 1 ≤ cnN P (N + 1) + bI (P (N + 1)); rcases bI_01 (P (N + 1)) with z | z <;> omega
  exact h _ 23 (fun n x hw => by have := (Wk_nd hV ha hw).1.2.1; omega)
end C29
