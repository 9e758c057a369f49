/-! the reference: a word, a number, the end of a line -/
section M45
variable {G : sG} {d : sD} {T : Nat → Int} {n p : Nat}
theorem runE_rg {q : Nat → Prop} [DecidablePred q] : ∀ f i : Nat, i ≤ runE q f i ∧ runE q f i ≤ i + f
  | 0, i => by show i ≤ i ∧ i ≤ i + 0; omega
  | f + 1, i => by
    have ih := runE_rg (q := q) f (i + 1)
    show i ≤ (if q i then runE q f (i + 1) else i) ∧ (if q i then runE q f (i + 1) else i) ≤ _
    split <;> omega
/-- the number of a token -/
abbrev nmT (T : Nat → Int) (n p : Nat) : Int := nuN T p (min (enG T n p - p) 2)
/-- the place of the token behind one -/
abbrev avT (T : Nat → Int) (n p : Nat) : Nat := bgT T n (nxT T n p)
theorem nxT_rg (h : Tp d n T) (hp : p ≤ n) : p ≤ nxT T n p ∧ nxT T n p ≤ n := by
  unfold nxT
  have r1 := runE_rg (q := ltP T) (n - p) p
  have r2 := runE_rg (q := dtP T) (n - p) p
  by_cases c : T p < 0
  · rw [if_pos c]; omega
  · have hlt : p < n := by
      rcases Nat.lt_or_ge p n with z | z
      · exact z
      · have := h.2.2.2.2 p z; omega
    rw [if_neg c]
    by_cases c2 : ltP T p
    · rw [if_pos c2]; unfold enL; omega
    · rw [if_neg c2]
      by_cases c3 : dtP T p
      · rw [if_pos c3]; unfold enG; omega
      · rw [if_neg c3]; omega
theorem bgT_rg {i : Nat} (hi : i ≤ n) : i ≤ bgT T n i ∧ bgT T n i ≤ n := by
  have r := runE_rg (q := blP T) (n - i) i
  unfold bgT; omega
theorem avT_rg (h : Tp d n T) (hp : p ≤ n) : p ≤ avT T n p ∧ avT T n p ≤ n := by
  have h1 := nxT_rg h hp
  have h2 := bgT_rg (T := T) h1.2
  unfold avT; omega
/-- a token goes on, but at the end -/
theorem nxT_lt (h : ¬ kdT T n p = 0) (hT : Tp d n T) (hp : p ≤ n) : p < nxT T n p := by
  have hc : ¬ T p < 0 := fun c => h (by unfold kdT; rw [if_pos c])
  have hlt : p < n := by
    rcases Nat.lt_or_ge p n with z | z
    · exact z
    · have := hT.2.2.2.2 p z; omega
  unfold nxT
  rw [if_neg hc]
  by_cases c2 : ltP T p
  · rw [if_pos c2]
    have r := runE_rg (q := ltP T) (n - p - 1) (p + 1)
    unfold enL; rw [runE_y c2 (by omega)]; omega
  · rw [if_neg c2]
    by_cases c3 : dtP T p
    · rw [if_pos c3]
      have r := runE_rg (q := dtP T) (n - p - 1) (p + 1)
      unfold enG; rw [runE_y c3 (by omega)]; omega
    · rw [if_neg c3]; omega
/-- the token at hand -/
def At (d : sD) (T : Nat → Int) (n p : Nat) : Prop := p ≤ n ∧ (d 271 4 = (p : Int) ∧ d 271 3 = (nxT T n p : Int) ∧ d 271 5 = kdT T n p) ∧ (kdT T n p = 1 → d 271 6 = nmT T n p) ∧ (kdT T n p = 3 → d 271 7 = woT T n p)
theorem At_ag {cs fs : List Nat} {d d' : sD} (h : At d T n p) (hA : Ag cs fs d d') (h3 : 3 ∉ fs ∧ 4 ∉ fs ∧ 5 ∉ fs ∧ 6 ∉ fs ∧ 7 ∉ fs) : At d' T n p := ⟨h.1, ⟨(hA.2 4 h3.2.1).trans h.2.1.1, (hA.2 3 h3.1).trans h.2.1.2.1, (hA.2 5 h3.2.2.1).trans h.2.1.2.2⟩, fun z => (hA.2 6 h3.2.2.2.1).trans (h.2.2.1 z), fun z => (hA.2 7 h3.2.2.2.2).trans (h.2.2.2 z)⟩
theorem At_tk {d d' : sD} {B : Nat} (hB : B ≤ n) (h : TkA d d' T n B) : At d' T n B := by
  obtain ⟨h1, ⟨h6, h7⟩, _⟩ := h
  refine ⟨hB, h1, fun z => ?_, fun z => ?_⟩
  · rw [h6]; unfold kdT at z; unfold nuT
    by_cases c : T B < 0
    · rw [if_pos c] at z; omega
    · rw [if_neg c] at z
      by_cases c2 : ltP T B
      · rw [if_pos c2] at z; split at z <;> omega
      · rw [if_neg c2] at z
        by_cases c3 : dtP T B
        · rw [if_pos ⟨c, c2, c3⟩]
        · rw [if_neg c3] at z; split at z <;> omega
  · rw [h7]; unfold kdT at z; unfold wrT
    by_cases c : T B < 0
    · rw [if_pos c] at z; omega
    · rw [if_neg c] at z
      by_cases c2 : ltP T B
      · rw [if_pos ⟨c, c2⟩]
      · rw [if_neg c2] at z
        by_cases c3 : dtP T B
        · rw [if_pos c3] at z; split at z <;> omega
        · rw [if_neg c3] at z; split at z <;> omega
theorem t_advAt (hT : Tp d n T) (h : At d T n p) : tB G mX12_advance 0 [vR 271, vU 0, vU 0, vU 0] [] d (fun r d' => r = none ∧ At d' T n (avT T n p) ∧ Ag [] tkF d d') := (t_advance hT h.2.1.2.1 (nxT_rg hT h.1).2).mono (by
  rintro r d' ⟨rfl, h1⟩
  exact ⟨rfl, At_tk (avT_rg hT h.1).2 h1, h1.2.2⟩)
end M45

