/-! texts: lines go on; a text is read line by line -/
section C45
variable {G : sG} {d d' d0 e : sD} {T : Nat → Int} {n p q : Nat} {x : Int × Int} {dr : Nat → Int}
/-- a line that is one ends behind a place -/
def gOn (n p : Nat) (g : Bool × Nat) : Prop := g.1 = true → p < g.2 ∧ g.2 ≤ n
theorem gOn_f : gOn n p (false, q) := fun h => absurd (show false = true from h) (by decide)
theorem gOn_m {g : Bool × Nat} (h : gOn n q g) (hq : p ≤ q) : gOn n p g := fun z => ⟨by have := h z; omega, (h z).2⟩
theorem gOn_sem (h : TV n T) (hp : p ≤ n) : gOn n p (gSem T n p) := by
  unfold gSem
  by_cases z : kdT T n p = 2
  · rw [if_pos z]; exact fun _ => ⟨h.lt hp (by omega), (h.av hp).2⟩
  · rw [if_neg z]; exact gOn_f
theorem gOn_num {k : Nat → Bool × Nat} (h : TV n T) (hp : p ≤ n) (hk : ∀ q, q ≤ n → gOn n q (k q)) : gOn n p (gNum T n p k) := by
  unfold gNum
  by_cases z : kdT T n p = 1
  · rw [if_pos z]; exact gOn_m (hk _ (h.av hp).2) (h.av hp).1
  · rw [if_neg z]; exact gOn_f
theorem gOn_wd {lo hi : Int} {k : Nat → Bool × Nat} (h : TV n T) (hp : p ≤ n) (hk : ∀ q, q ≤ n → gOn n q (k q)) : gOn n p (gWd T n lo hi p k) := by
  unfold gWd
  by_cases z : isW T n p lo hi
  · rw [if_pos z]; exact gOn_m (hk _ (h.av hp).2) (h.av hp).1
  · rw [if_neg z]; exact gOn_f
theorem gOn_run {lo hi : Int} (h : TV n T) (hp : p ≤ n) : gOn n p (gRun T n lo hi p) := by
  have h1 := tkI_le h (nbT T n lo hi p) p hp
  exact gOn_m (gOn_sem h h1.2) h1.1
theorem gOn_sco (h : TV n T) (hp : p ≤ n) : gOn n p (gSco T n p) := gOn_wd h hp fun q hq => gOn_num h hq fun r hr => by
  by_cases z : isW T n r 10 13
  · rw [if_pos z]; exact gOn_run h hr
  · rw [if_neg z]; exact gOn_f
theorem gOn_hea (h : TV n T) (hp : p ≤ n) : gOn n p (gHea T n p) := gOn_wd h hp fun q hq => gOn_num h hq fun r hr => gOn_run h hr
theorem gOn_vi2 {v : Int} (h : TV n T) (hp : p ≤ n) : gOn n p (gVi2 T n v p) := by
  unfold gVi2
  split
  · exact gOn_num h hp fun q hq => gOn_sem h hq
  · split
    · exact gOn_wd h hp fun q hq => gOn_wd h hq fun r hr => gOn_sem h hr
    · split
      · exact gOn_wd h hp fun q hq => gOn_sem h hq
      · exact gOn_sem h hp
theorem gOn_vil (h : TV n T) (hp : p ≤ n) : gOn n p (gVil T n p) := gOn_wd h hp fun q hq => gOn_num h hq fun r hr => gOn_vi2 h hr
theorem gOrd_le (h : TV n T) (hp : p ≤ n) : p ≤ (gOrd T n p).2 ∧ (gOrd T n p).2 ≤ n := by
  have a1 := h.av hp
  have a2 := h.av a1.2
  have a3 := h.av a2.2
  have a4 := tkI_le h (nbT T n 10 13 (avT T n (avT T n (avT T n p)))) _ a3.2
  by_cases c1 : isW T n p 9 9
  · by_cases c2 : kdT T n (avT T n p) = 1
    · by_cases c3 : isW T n (avT T n (avT T n p)) 14 18
      · by_cases c4 : isW T n (avT T n (avT T n (avT T n p))) 10 13
        · rw [show gOrd T n p = (true, tkI T n (nbT T n 10 13 (avT T n (avT T n (avT T n p)))) (avT T n (avT T n (avT T n p)))) from (((if_pos c1).trans (if_pos c2)).trans (if_pos c3)).trans (if_pos c4)]
          exact ⟨Nat.le_trans (by omega) a4.1, a4.2⟩
        · rw [show gOrd T n p = (false, avT T n (avT T n (avT T n p))) from (((if_pos c1).trans (if_pos c2)).trans (if_pos c3)).trans (if_neg c4)]
          exact ⟨Nat.le_trans (by omega) a3.1, a3.2⟩
      · rw [show gOrd T n p = (false, avT T n (avT T n p)) from ((if_pos c1).trans (if_pos c2)).trans (if_neg c3)]
        exact ⟨Nat.le_trans a1.1 a2.1, a2.2⟩
    · rw [show gOrd T n p = (false, avT T n p) from (if_pos c1).trans (if_neg c2)]
      exact a1
  · rw [show gOrd T n p = (false, p) from if_neg c1]
    exact ⟨Nat.le_refl _, hp⟩
theorem gOn_wa2 {v : Int} (h : TV n T) (hp : p ≤ n) : gOn n p (gWa2 T n v p) := by
  unfold gWa2
  split
  · exact gOn_num h hp fun q hq => gOn_sem h hq
  · split
    · exact gOn_wd h hp fun q hq => gOn_wd h hq fun r hr => gOn_sem h hr
    · exact gOn_num h hp fun q hq => gOn_num h hq fun r hr => gOn_sem h hr
theorem gOn_war (h : TV n T) (hp : p ≤ n) : gOn n p (gWar T n p) := by
  unfold gWar
  by_cases z : isW T n p 9 9
  · rw [if_pos z]
    have h1 := gOrd_le h hp
    unfold gEnd
    by_cases y : (gOrd T n p).1 = true
    · rw [if_pos y]; exact gOn_m (gOn_sem h h1.2) h1.1
    · rw [if_neg y]; exact fun u => absurd u y
  · rw [if_neg z]; exact gOn_wd h hp fun q hq => gOn_wa2 h hq
/-- a line of a sort -/
def gLn (T : Nat → Int) (n s p : Nat) : Bool × Nat := if s = 0 then gWar T n p else if s = 1 then gSco T n p else if s = 2 then gHea T n p else gVil T n p
def xLn (T : Nat → Int) (n s : Nat) (x : Int × Int) (dr : Nat → Int) (p : Nat) : Int × Int := if s = 0 then xWar T n x dr p else if s = 1 then xSco T n x dr p else if s = 2 then xHea T n x p else xVil T n x dr p
def dLn (T : Nat → Int) (n s : Nat) (dr : Nat → Int) (p : Nat) : Nat → Int := if s = 0 then dWar T n dr p else if s = 1 then dSco T n dr p else if s = 2 then dHea T n dr p else dVil T n dr p
def BLn (s : Nat) (h : Nat → Int) : Prop := if s = 0 then BW h else if s = 1 then BS h else if s = 2 then BT h else BVl h
theorem gOn_ln (h : TV n T) (hp : p ≤ n) {s : Nat} : gOn n p (gLn T n s p) := by
  unfold gLn
  split
  · exact gOn_war h hp
  · split
    · exact gOn_sco h hp
    · split
      · exact gOn_hea h hp
      · exact gOn_vil h hp
/-- what a text comes to: a fault or a row of numbers -/
def psT (T : Nat → Int) (n s : Nat) : Nat → Nat → Int × Int → (Nat → Int) → (Int × Int) × (Nat → Int)
  | 0, _, x, dr => (x, dr)
  | f + 1, p, x, dr => if kdT T n p = 0 then (x, dr) else if (gLn T n s p).1 = true then psT T n s f (gLn T n s p).2 (xLn T n s x dr p) (dLn T n s dr p) else ((1, ((gLn T n s p).2 : Int)), dr)
end C45
