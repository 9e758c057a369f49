/-! the reference: drawn -/
section M32
variable {G : sG} {d : sD} {w g s : Nat → Int} {n a : Nat}
/-- the places that the wind takes of a row, and the seed behind it -/
def drM (x : Int) : Nat → Int × Int
  | 0 => (x, 0)
  | i + 1 => (rnX (drM x i).1, i_or (drM x i).2 (if rnB (drM x i).1 = 0 then i_shl 1 i else 0))
abbrev drL (w g : Nat → Int) (n : Nat) (m : Int) (a : Nat) : List (Nat × Nat) := (mkS w (bsS w g n m) n a 24 0).1
def ofJ (w : Nat → Int) (a : Nat) (ml : List (Nat × Nat)) (T : Nat → Int) : Nat → Nat → Int
  | 0 => T
  | j + 1 => fun i => if i = 5 * a + (w (17 + 36 * a + 6 * (ml.getD j (0, 0)).1)).toNat then ofJ w a ml T j i + 1 else ofJ w a ml T j i
def ofA (w : Nat → Int) (ML : Nat → List (Nat × Nat)) (T : Nat → Int) : Nat → Nat → Int
  | 0 => T
  | a + 1 => ofJ w a (ML a) (ofA w ML T a) (ML a).length
theorem ofJ_rg {ml : List (Nat × Nat)} {T : Nat → Int} {i : Nat} : ∀ j : Nat, T i ≤ ofJ w a ml T j i ∧ ofJ w a ml T j i ≤ T i + j
  | 0 => by show T i ≤ T i ∧ T i ≤ T i + 0; omega
  | j + 1 => by
    have ih := ofJ_rg (ml := ml) (T := T) (i := i) j
    show T i ≤ (if _ then _ else _) ∧ _
    by_cases q : i = 5 * a + (w (17 + 36 * a + 6 * (ml.getD j (0, 0)).1)).toNat
    · rw [show ofJ w a ml T (j + 1) i = ofJ w a ml T j i + 1 from if_pos q, if_pos q]; omega
    · rw [show ofJ w a ml T (j + 1) i = ofJ w a ml T j i from if_neg q, if_neg q]; omega
/-- evenings: the seed, how often alike, how often they met, how often each move -/
def drS (w g : Nat → Int) (n : Nat) (p : (Int × Int) × Int × (Nat → Int)) : (Int × Int) × Int × (Nat → Int) := (((drM p.1.1 n).1, p.1.2 + bI (maP w (drL w g n (drM p.1.1 n).2 0) (drL w g n (drM p.1.1 n).2 1))), p.2.1 + bI (¬ mtS w (drL w g n (drM p.1.1 n).2 0) (drL w g n (drM p.1.1 n).2 1) = -1), ofA w (drL w g n (drM p.1.1 n).2) p.2.2 2)
def drE (w g : Nat → Int) (n : Nat) (x : Int) : Nat → (Int × Int) × Int × (Nat → Int)
  | 0 => ((x, 0), 0, fun _ => 0)
  | e + 1 => drS w g n (drE w g n x e)
theorem drS_rg (hV : WV w) (hn : n ≤ 24) {p : (Int × Int) × Int × (Nat → Int)} {e : Nat} (ih : (0 ≤ p.1.2 ∧ p.1.2 ≤ e) ∧ (0 ≤ p.2.1 ∧ p.2.1 ≤ e) ∧ ∀ i, 0 ≤ p.2.2 i ∧ p.2.2 i ≤ 48 * e) : (0 ≤ (drS w g n p).1.2 ∧ (drS w g n p).1.2 ≤ e + 1) ∧ (0 ≤ (drS w g n p).2.1 ∧ (drS w g n p).2.1 ≤ e + 1) ∧ ∀ i, 0 ≤ (drS w g n p).2.2 i ∧ (drS w g n p).2.2 i ≤ 48 * e + 48 := by
  obtain ⟨⟨px, pa⟩, pm, T⟩ := p
  dsimp only at ih
  have b1 := bI_01 (maP w (drL w g n (drM px n).2 0) (drL w g n (drM px n).2 1))
  have b2 := bI_01 (¬ mtS w (drL w g n (drM px n).2 0) (drL w g n (drM px n).2 1) = -1)
  have o0 : (drL w g n (drM px n).2 0).length ≤ 24 := (mkS_MlOk (s := bsS w g n (drM px n).2) hV (n := n) (a := 0) (by decide) hn).1
  have o1 : (drL w g n (drM px n).2 1).length ≤ 24 := (mkS_MlOk (s := bsS w g n (drM px n).2) hV (n := n) (a := 1) (by decide) hn).1
  unfold drS
  dsimp only
  refine ⟨by omega, by omega, fun i => ?_⟩
  have q0 := ofJ_rg (w := w) (a := 0) (ml := drL w g n (drM px n).2 0) (T := T) (i := i) (drL w g n (drM px n).2 0).length
  have q1 := ofJ_rg (w := w) (a := 1) (ml := drL w g n (drM px n).2 1) (T := ofJ w 0 (drL w g n (drM px n).2 0) T (drL w g n (drM px n).2 0).length) (i := i) (drL w g n (drM px n).2 1).length
  have q2 := ih.2.2 i
  rw [show ofA w (drL w g n (drM px n).2) T 2 = ofJ w 1 (drL w g n (drM px n).2 1) (ofJ w 0 (drL w g n (drM px n).2 0) T (drL w g n (drM px n).2 0).length) (drL w g n (drM px n).2 1).length from rfl]
  omega
theorem drE_rg (hV : WV w) (hn : n ≤ 24) {x : Int} : ∀ e : Nat, (0 ≤ (drE w g n x e).1.2 ∧ (drE w g n x e).1.2 ≤ e) ∧ (0 ≤ (drE w g n x e).2.1 ∧ (drE w g n x e).2.1 ≤ e) ∧ ∀ i, 0 ≤ (drE w g n x e).2.2 i ∧ (drE w g n x e).2.2 i ≤ 48 * e
  | 0 => by
    show ((0 : Int) ≤ 0 ∧ (0 : Int) ≤ 0) ∧ ((0 : Int) ≤ 0 ∧ (0 : Int) ≤ 0) ∧ ∀ i : Nat, (0 : Int) ≤ 0 ∧ (0 : Int) ≤ 48 * 0
    exact ⟨by omega, by omega, fun i => by omega⟩
  | e + 1 => by
    have ih := drS_rg (g := g) hV hn (drE_rg hV hn (x := x) e)
    have e1 : drE w g n x (e + 1) = drS w g n (drE w g n x e) := rfl
    rw [e1]
    refine ⟨by omega, by omega, fun i => ?_⟩
    have := ih.2.2 i
    omega
def qDr (w g : Nat → Int) (n : Nat) (x : Int) (m : Nat) (y : Int) : Int := if y = 0 then (drE w g n x m).1.2 else if y = 1 then (drE w g n x m).2.1 else (drE w g n x m).2.2 (5 * (y / 10 - 1) + y % 10).toNat
def qDrawn (w g : Nat → Int) (x m y : Int) : Int := if ¬ (0 ≤ m ∧ m ≤ 40) then -1 else if ¬ ((0 ≤ y ∧ y ≤ 1) ∨ (10 ≤ y ∧ y ≤ 14) ∨ 20 ≤ y ∧ y ≤ 24) then -1 else qDr w g (rowS w g).length x m.toNat y

end M32
