/-! the reference: made -/
section M15
variable {G : sG} {d : sD} {w g s : Nat → Int}
abbrev snS (w g : Nat → Int) : Nat → Int := fun j => if j < (rowS w g).length then sndB w (rB w g) j else 0
/-- what sounds beyond the row isn't heard -/
theorem isF_congr (hV : WV w) {s s' : Nat → Int} {n a o k : Nat} (ha : a < 2) (ho : (o : Int) < w (15 + a)) (h : ∀ j, j < n → s j = s' j) : isF w s n a o k ↔ isF w s' n a o k := by
  have hL := (hV.2.2.2.2.2 a o ha ho).2.1
  constructor
  · rintro ⟨h1, h2⟩
    refine ⟨h1, fun i hi => ?_⟩
    have hph := ph_lt (n := n) hV ha (j := (k : Int) + i) (by omega) (by omega)
    rw [← h _ (by omega)]; exact h2 i hi
  · rintro ⟨h1, h2⟩
    refine ⟨h1, fun i hi => ?_⟩
    have hph := ph_lt (n := n) hV ha (j := (k : Int) + i) (by omega) (by omega)
    rw [h _ (by omega)]; exact h2 i hi
theorem bstM_congr (hV : WV w) {s s' : Nat → Int} {n a k : Nat} (ha : a < 2) (h : ∀ j, j < n → s j = s' j) : ∀ m, m ≤ (w (15 + a)).toNat → bstM w s n a k (w (15 + a)).toNat m = bstM w s' n a k (w (15 + a)).toNat m
  | 0, _ => rfl
  | m + 1, hm => by
    have ih := bstM_congr hV (k := k) ha h m (by omega)
    unfold bstM
    rw [ih]
    have hc := (hV.a ha).2.2.2.2
    have e := isF_congr hV (k := k) ha (o := (w (15 + a)).toNat - 1 - m) (by omega) h
    by_cases q : isF w s n a ((w (15 + a)).toNat - 1 - m) k ∧ (bstM w s' n a k (w (15 + a)).toNat m = -1 ∨ w (18 + 36 * a + 6 * (bstM w s' n a k (w (15 + a)).toNat m).toNat) ≤ w (18 + 36 * a + 6 * ((w (15 + a)).toNat - 1 - m)))
    · rw [if_pos q, if_pos ⟨e.mp q.1, q.2⟩]
    · rw [if_neg q, if_neg (fun z => q ⟨e.mpr z.1, z.2⟩)]
theorem mkS_congr (hV : WV w) {s s' : Nat → Int} {n a : Nat} (ha : a < 2) (h : ∀ j, j < n → s j = s' j) : ∀ f k, mkS w s n a f k = mkS w s' n a f k
  | 0, _ => rfl
  | f + 1, k => by
    have e : bst w s n a k = bst w s' n a k := bstM_congr hV ha h _ (Nat.le_refl _)
    rw [mkS_succ, mkS_succ, e, mkS_congr hV ha h f, mkS_congr hV ha h f]
/-- the moves that an army makes of a war and a score; the beats that it dances -/
abbrev mlS (w g : Nat → Int) (a : Nat) : List (Nat × Nat) := (mkS w (snS w g) (rowS w g).length a 24 0).1
abbrev dnS (w g : Nat → Int) (a : Nat) : Nat := (mkS w (snS w g) (rowS w g).length a 24 0).2
theorem mk_py {d : sD} (hV : WV w) {a : Nat} (ha : a < 2) (hS : Snd d w (rB w g) (rowS w g).length) : mkS w (d 279) (rowS w g).length a 24 0 = mkS w (snS w g) (rowS w g).length a 24 0 := mkS_congr hV ha (fun j hj => by rw [(hS j hj).1]; unfold snS; rw [if_pos hj]) 24 0
end M15

