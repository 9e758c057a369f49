/-! the class: a reader stands at a token -/
section C49
variable {G : sG} {d d' d0 e : sD} {T : Nat → Int} {n p q : Nat} {x : Int × Int} {dr : Nat → Int}
/-- the class's number of a word -/
def cwT (v : Int) : Int := if v ≤ 9 then v + 8 else if v ≤ 18 then v - 10 else v - 1
def CK (T : Nat → Int) (n p : Nat) (k v : Int) : Prop := (kdT T n p = 0 ∧ k = 0) ∨ (kdT T n p = 1 ∧ k = 2 ∧ v = nmT T n p) ∨ (kdT T n p = 2 ∧ k = 3) ∨ (kdT T n p = 3 ∧ k = 1 ∧ v = cwT (woT T n p) ∧ 1 ≤ woT T n p ∧ woT T n p ≤ 24) ∨ (kdT T n p = 4 ∧ (k = 4 ∨ (k = 1 ∧ v = -1)))
/-- all tokens are kept -/
def SCk (d : sD) (T : Nat → Int) (n p0 N : Nat) : Prop := (1 ≤ N ∧ N ≤ 601 ∧ p0 ≤ n) ∧ d 53 9 = (N : Int) ∧ (∀ j, j < N → d 76 j = (tkI T n j p0 : Int) ∧ CK T n (tkI T n j p0) (d 75 j) (d 77 j)) ∧ kdT T n (tkI T n (N - 1) p0) = 0
def CTk (d : sD) (T : Nat → Int) (n p : Nat) : Prop := TV n T ∧ ∃ p0 N j, SCk d T n p0 N ∧ j < N ∧ p = tkI T n j p0 ∧ d 53 10 = ((j + 1 : Nat) : Int) ∧ d 53 12 = (p : Int) ∧ CK T n p (d 53 11) (d 53 13)
theorem CTk.le (h : CTk d T n p) : p ≤ n := by
  obtain ⟨hT, p0, N, j, hS, hj, rfl, _⟩ := h
  exact (tkI_le hT j p0 hS.1.2.2).2
theorem av_end (h : TV n T) (hp : p ≤ n) (hk : kdT T n p = 0) : avT T n p = p := by
  have e1 := (h.k0 hp).mp hk
  have h1 := h.av hp
  omega
theorem CTk_eq (h : CTk d T n p) (h1 : ∀ j, j ∉ [4, 5, 14] → d' 53 j = d 53 j) (h2 : ∀ b j, 75 ≤ b ∧ b ≤ 77 → d' b j = d b j) : CTk d' T n p := by
  obtain ⟨hT, p0, N, j, ⟨a1, a2, a3, a4⟩, b1, b2, b3, b4, b5⟩ := h
  refine ⟨hT, p0, N, j, ⟨a1, by rw [h1 9 (by decide)]; exact a2, fun i hi => ?_, a4⟩, b1, b2, by rw [h1 10 (by decide)]; exact b3, by rw [h1 12 (by decide)]; exact b4, by rw [h1 11 (by decide), h1 13 (by decide)]; exact b5⟩
  rw [h2 76 i (by decide), h2 75 i (by decide), h2 77 i (by decide)]
  exact a3 i hi
end C49
