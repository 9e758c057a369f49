/-! the reference: tokens -/
section M42
variable {G : sG} {d : sD} {T : Nat → Int}
theorem byS_ag {cs fs : List Nat} {d d' : sD} (hA : Ag cs fs d d') (h1 : 272 ∉ cs) (h2 : 2 ∉ fs) : byS d' = byS d := by
  funext i; unfold byS; rw [hA.2 2 h2, hA.1 272 _ h1 (by decide)]
/-- the tape of a memory -/
def Tp (d : sD) (n : Nat) (T : Nat → Int) : Prop := d 271 2 = (n : Int) ∧ n ≤ 600 ∧ byS d = T ∧ (∀ i, i < n → 0 ≤ T i ∧ T i ≤ 255) ∧ ∀ i, n ≤ i → T i = -1
theorem Tp_ag {cs fs : List Nat} {d d' : sD} {n : Nat} (h : Tp d n T) (hA : Ag cs fs d d') (h1 : 272 ∉ cs) (h2 : 2 ∉ fs) : Tp d' n T := ⟨(hA.2 2 h2).trans h.1, h.2.1, (byS_ag hA h1 h2).trans h.2.2.1, h.2.2.2⟩
theorem t_byteT {n i : Nat} (h : Tp d n T) : tB G mX12_byteAt 0 [vR 271, vI i] [] d (fun r d' => r = some (vI (T i)) ∧ d = d') := by
  rw [← h.2.2.1]; exact t_byteAt (by have := h.1; have := h.2.1; omega)
/-- the first place from i on at which a thing doesn't hold -/
def runE (p : Nat → Prop) [DecidablePred p] : Nat → Nat → Nat
  | 0, i => i
  | f + 1, i => if p i then runE p f (i + 1) else i
theorem runE_y {p : Nat → Prop} [DecidablePred p] {f i : Nat} (h : p i) (hf : 0 < f) : runE p f i = runE p (f - 1) (i + 1) := by
  obtain ⟨m, rfl⟩ : ∃ m, f = m + 1 := ⟨f - 1, by omega⟩
  show (if _ then _ else _) = _
  rw [if_pos h]; rfl
theorem runE_n {p : Nat → Prop} [DecidablePred p] {f i : Nat} (h : ¬ p i) : runE p f i = i := by
  cases f with
  | zero => rfl
  | succ m => show (if _ then _ else _) = _; rw [if_neg h]
abbrev blP (T : Nat → Int) (i : Nat) : Prop := T i = 10 ∨ T i = 32
abbrev ltP (T : Nat → Int) (i : Nat) : Prop := 97 ≤ T i ∧ T i ≤ 122
abbrev dtP (T : Nat → Int) (i : Nat) : Prop := 48 ≤ T i ∧ T i ≤ 57
/-- where the token at or behind a place begins -/
abbrev bgT (T : Nat → Int) (n i : Nat) : Nat := runE (blP T) (n - i) i
def coN (T : Nat → Int) (i : Nat) : Nat → Int
  | 0 => 0
  | k + 1 => 32 * coN T i k + T (i + k) - 96
def nuN (T : Nat → Int) (i : Nat) : Nat → Int
  | 0 => 0
  | k + 1 => 10 * nuN T i k + T (i + k) - 48
theorem coN_rg {i : Nat} : ∀ k : Nat, (∀ j, j < k → ltP T (i + j)) → 0 ≤ coN T i k ∧ coN T i k < 32 ^ k
  | 0, _ => by show (0 : Int) ≤ 0 ∧ (0 : Int) < 32 ^ 0; decide
  | k + 1, h => by
    have ih := coN_rg k (fun j hj => h j (by omega))
    have h1 := h k (by omega)
    show 0 ≤ 32 * coN T i k + T (i + k) - 96 ∧ 32 * coN T i k + T (i + k) - 96 < 32 ^ (k + 1)
    rw [Int.pow_succ, Int.mul_comm]
    omega
theorem nuN_rg {i : Nat} : ∀ k : Nat, (∀ j, j < k → dtP T (i + j)) → k ≤ 2 → 0 ≤ nuN T i k ∧ nuN T i k ≤ 99
  | 0, _, _ => by show (0 : Int) ≤ 0 ∧ (0 : Int) ≤ 99; omega
  | 1, h, _ => by have := h 0 (by omega); show 0 ≤ 10 * 0 + T (i + 0) - 48 ∧ 10 * 0 + T (i + 0) - 48 ≤ 99; omega
  | 2, h, _ => by
    have h0 := h 0 (by omega)
    have h1 := h 1 (by omega)
    show 0 ≤ 10 * (10 * 0 + T (i + 0) - 48) + T (i + 1) - 48 ∧ 10 * (10 * 0 + T (i + 0) - 48) + T (i + 1) - 48 ≤ 99; omega
  | k + 3, _, h => by omega
/-- the end of a run of letters, of digits -/
abbrev enL (T : Nat → Int) (n i : Nat) : Nat := runE (ltP T) (n - i) i
abbrev enG (T : Nat → Int) (n i : Nat) : Nat := runE (dtP T) (n - i) i
def woT (T : Nat → Int) (n i : Nat) : Int := if 8 < enL T n i - i then 99 else wdS (coN T i (enL T n i - i))
/-- a token that begins at i: its kind, its number, its word, the place behind it (number and word as before, if it's another) -/
def kdT (T : Nat → Int) (n i : Nat) : Int := if T i < 0 then 0 else if ltP T i then (if woT T n i = 99 then 4 else 3) else if dtP T i then (if 2 < enG T n i - i then 4 else 1) else if T i = 59 then 2 else 4
def nxT (T : Nat → Int) (n i : Nat) : Nat := if T i < 0 then i else if ltP T i then enL T n i else if dtP T i then enG T n i else i + 1
def nuT (T : Nat → Int) (n i : Nat) (v : Int) : Int := if ¬ T i < 0 ∧ ¬ ltP T i ∧ dtP T i then nuN T i (min (enG T n i - i) 2) else v
def wrT (T : Nat → Int) (n i : Nat) (v : Int) : Int := if ¬ T i < 0 ∧ ltP T i then woT T n i else v
abbrev tkF : List Nat := [3, 4, 5, 6, 7]
def TkA (d d' : sD) (T : Nat → Int) (n i : Nat) : Prop := (d' 271 4 = (i : Int) ∧ d' 271 3 = (nxT T n i : Int) ∧ d' 271 5 = kdT T n i) ∧ (d' 271 6 = nuT T n i (d 271 6) ∧ d' 271 7 = wrT T n i (d 271 7)) ∧ Ag [] tkF d d'
end M42

