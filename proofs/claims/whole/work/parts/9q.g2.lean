/-! texts: once wrong; lines of tokens; the reference's line of a score -/
section C36
variable {G : sG} {d d' d0 : sD} {T : Nat → Int} {n p q : Nat} {x : Int × Int}
theorem w_ends (h : RW d0 d q) : tB G mX12_ends 0 [vR 271] [] d (fun r d' => r = none ∧ d = d') := t_ends.mono (by rintro r d' ⟨rfl, rfl⟩; exact ⟨rfl, (en_W h).symm⟩)
theorem w_also {k a : Int} (h : RW d0 d q) : tB G mX12_also 0 [vR 271, vI k, vI a] [] d (fun r d' => r = none ∧ d = d') := t_also.mono (by rintro r d' ⟨rfl, rfl⟩; exact ⟨rfl, (al_W h).symm⟩)
theorem w_isBeat (h : RW d0 d q) : tB G mX12_isBeat 0 [vR 271] [] d (fun r d' => r = some (vI 0) ∧ d = d') := t_isBeat.mono (by
  rintro r d' ⟨rfl, rfl⟩
  exact ⟨by rw [bI_f (fun z => by have := z.1; rw [h.1] at this; exact absurd this (by decide))], rfl⟩)
theorem w_isMove (h : RW d0 d q) : tB G mX12_isMove 0 [vR 271] [] d (fun r d' => r = some (vI 0) ∧ d = d') := t_isMove.mono (by
  rintro r d' ⟨rfl, rfl⟩
  exact ⟨by rw [bI_f (fun z => by have := z.1; rw [h.1] at this; exact absurd this (by decide))], rfl⟩)
theorem w_takes {lo hi : Int} (h : RW d0 d q) : tB G mX12_takes 0 [vR 271, vI lo, vI hi, vU 0] [] d (fun r d' => r = some (vI 0) ∧ d = d') := by
  refine T_aload_n dX12_takes_0 rfl ?_
  refine T_getIv dX12_takes_1 fX12_138 rfl k271 (x := (1 : Int)) h.1 ?_
  refine T_if_ne (tgt := 27) dX12_takes_4 (by decide) (fun c4 => ?_) (fun c4 => absurd c4 (by decide))
  refine T_aload_n dX12_takes_27 rfl ?_
  refine T_callV dX12_takes_28 lX12_142 (As := []) (rest := _) rfl rfl k271 (by decide) (Nat.le_of_ble_eq_true rfl) (Nat.le_of_ble_eq_true rfl) (w_ends h) ?_
  rintro _ _ ⟨rfl, rfl⟩
  refine T_iconst dX12_takes_31 (by decide) ?_
  exact T_ireturn dX12_takes_32 rfl ⟨rfl, rfl⟩

theorem w_numbered {lo hi : Int} (h : RW d0 d q) : tB G mX12_numbered 0 [vR 271, vI lo, vI hi, vU 0] [] d (fun r d' => r = some (vI lo) ∧ d = d') := by
  refine T_aload_n dX12_numbered_0 rfl ?_
  refine T_getIv dX12_numbered_1 fX12_138 rfl k271 (x := (1 : Int)) h.1 ?_
  refine T_if_ne (tgt := 15) dX12_numbered_4 (by decide) (fun c4 => ?_) (fun c4 => absurd c4 (by decide))
  refine T_aload_n dX12_numbered_15 rfl ?_
  refine T_callV dX12_numbered_16 lX12_142 (As := []) (rest := _) rfl rfl k271 (by decide) (Nat.le_of_ble_eq_true rfl) (Nat.le_of_ble_eq_true rfl) (w_ends h) ?_
  rintro _ _ ⟨rfl, rfl⟩
  refine T_iload_n dX12_numbered_19 rfl ?_
  exact T_ireturn dX12_numbered_20 rfl ⟨rfl, rfl⟩

theorem w_endsLine (h : RW d0 d q) : tB G mX12_endsLine 0 [vR 271] [] d (fun r d' => r = none ∧ d = d') := by
  refine T_aload_n dX12_endsLine_0 rfl ?_
  refine T_getIv dX12_endsLine_1 fX12_138 rfl k271 (x := (1 : Int)) h.1 ?_
  refine T_if_ne (tgt := 22) dX12_endsLine_4 (by decide) (fun c4 => ?_) (fun c4 => absurd c4 (by decide))
  refine T_aload_n dX12_endsLine_22 rfl ?_
  refine T_callV dX12_endsLine_23 lX12_142 (As := []) (rest := _) rfl rfl k271 (by decide) (Nat.le_of_ble_eq_true rfl) (Nat.le_of_ble_eq_true rfl) (w_ends h) ?_
  rintro _ _ ⟨rfl, rfl⟩
  exact T_return dX12_endsLine_26 rfl ⟨rfl, rfl⟩

theorem w_beatTold (h : RW d0 d q) : tB G mX12_beatTold 0 [vR 271] [] d (fun r d' => r = some (vI (-10)) ∧ d = d') := by
  refine T_aload_n dX12_beatTold_0 rfl ?_
  refine T_bipush dX12_beatTold_1 (by decide) ?_
  refine T_bipush dX12_beatTold_3 (by decide) ?_
  refine T_callV dX12_beatTold_5 lX12_156 (As := [_, _]) (rest := _) rfl rfl k271 (by decide) (Nat.le_of_ble_eq_true rfl) (Nat.le_of_ble_eq_true rfl) (w_takes h) ?_
  rintro _ _ ⟨rfl, rfl⟩
  refine T_bipush dX12_beatTold_8 (by decide) ?_
  refine T_sub dX12_beatTold_10 (by omega) ?_
  exact T_ireturn dX12_beatTold_11 rfl ⟨rfl, rfl⟩

theorem tkI_le (h : TV n T) : ∀ (k p : Nat), p ≤ n → p ≤ tkI T n k p ∧ tkI T n k p ≤ n
  | 0, p, hp => ⟨Nat.le_refl _, hp⟩
  | k + 1, p, hp => by
    have h1 := h.av hp
    have h2 := tkI_le h k _ h1.2
    show p ≤ tkI T n k (avT T n p) ∧ _
    exact ⟨by omega, h2.2⟩
theorem nbT_tk {lo hi : Int} (h : TV n T) : ∀ (j p : Nat), p ≤ n → j ≤ nbT T n lo hi p → nbT T n lo hi (tkI T n j p) = nbT T n lo hi p - j
  | 0, p, hp, hj => rfl
  | j + 1, p, hp, hj => by
    have hw : isW T n p lo hi := Classical.byContradiction fun z => by rw [nbT_n z] at hj; omega
    have e := nbT_y h hp hw
    show nbT T n lo hi (tkI T n j (avT T n p)) = _
    rw [nbT_tk h j _ (h.av hp).2 (by omega), e]; omega
theorem isW_tk {lo hi : Int} (h : TV n T) {j : Nat} (hp : p ≤ n) (hj : j ≤ nbT T n lo hi p) : isW T n (tkI T n j p) lo hi ↔ j < nbT T n lo hi p := by
  have e := nbT_tk h j p hp hj
  constructor
  · intro hw
    have := nbT_y h (tkI_le h j p hp).2 hw
    omega
  · intro hlt
    exact Classical.byContradiction fun z => by rw [nbT_n z] at e; omega
theorem tk_lt {lo hi : Int} (h : TV n T) (hp : p ≤ n) (hw : isW T n p lo hi) : p < avT T n p := h.lt hp (by omega)
/-- lines as rows of tokens: whether they are so, and where they end -/
def gNum (T : Nat → Int) (n p : Nat) (k : Nat → Bool × Nat) : Bool × Nat := if kdT T n p = 1 then k (avT T n p) else (false, p)
def gWd (T : Nat → Int) (n : Nat) (lo hi : Int) (p : Nat) (k : Nat → Bool × Nat) : Bool × Nat := if isW T n p lo hi then k (avT T n p) else (false, p)
def gSem (T : Nat → Int) (n p : Nat) : Bool × Nat := if kdT T n p = 2 then (true, avT T n p) else (false, p)
def gRun (T : Nat → Int) (n : Nat) (lo hi : Int) (p : Nat) : Bool × Nat := gSem T n (tkI T n (nbT T n lo hi p) p)
def gSco (T : Nat → Int) (n p : Nat) : Bool × Nat := gWd T n 19 19 p fun p1 => gNum T n p1 fun p2 => if isW T n p2 10 13 then gRun T n 10 13 p2 else (false, p2)
/-- a line's end: ended, or read with a note or the draft -/
def LnP (d0 : sD) (T : Nat → Int) (n : Nat) (g : Bool × Nat) (x : Int × Int) (dr : Nat → Int) (B : (Nat → Int) → Prop) (d : sD) : Prop := (g.1 = false ∧ RW d0 d g.2) ∨ (g.1 = true ∧ RS d0 d T n g.2 x ∧ NL x g.2 ∧ B (d 274) ∧ (x.1 = 0 → ∀ i, i < 89 → d 274 i = dr i))
theorem LnP_sem {dr : Nat → Int} {B : (Nat → Int) → Prop} (hx : NL x p) (hB : B (d 274)) (hd : x.1 = 0 → ∀ i, i < 89 → d 274 i = dr i) (h : RS d0 d T n p x) : tB G mX12_endsLine 0 [vR 271] [] d (fun r d' => r = none ∧ LnP d0 T n (gSem T n p) x dr B d') := (r_endsLine h).mono (by
  have hT := h.1.tv
  have hp := h.2.1.1
  rintro r d' ⟨rfl, (⟨h1, h2, h3⟩ | ⟨h1, h2, h3⟩)⟩
  · refine ⟨rfl, Or.inr ?_⟩
    rw [show gSem T n p = (true, avT T n p) from if_pos h1]
    have := h.1.tv.av hp
    exact ⟨rfl, h2, hx.mono (by omega), by rw [h3]; exact hB, fun z i hi => by rw [h3]; exact hd z i hi⟩
  · refine ⟨rfl, Or.inl ?_⟩
    rw [show gSem T n p = (false, p) from if_neg h1]
    exact ⟨rfl, h2⟩)
def BS (h : Nat → Int) : Prop := ∀ a, a < 2 → 0 ≤ h a ∧ h a ≤ 12
/-- notes and draft of a line of a score: the giver, the place of the first beat -/
def xNum (T : Nat → Int) (n : Nat) (x : Int × Int) (p : Nat) (lo hi : Int) : Int × Int := if inR (nmT T n p) lo hi then x else ntA x 2 p
def xSj (T : Nat → Int) (n : Nat) (x : Int × Int) (c : Int) (p j : Nat) : Int × Int := if 12 < c + j then ntA x 3 (tkI T n (12 - c).toNat p) else x
def dSj (T : Nat → Int) (n : Nat) (dr : Nat → Int) (g p j : Nat) : Nat → Int := fun i => if i = g then dr g + j else if 2 + 12 * g + (dr g).toNat ≤ i ∧ i < 2 + 12 * g + (dr g).toNat + j then woT T n (tkI T n (i - (2 + 12 * g + (dr g).toNat)) p) - 10 else dr i
def gvT (T : Nat → Int) (n p : Nat) : Nat := if inR (nmT T n p) 0 1 then (nmT T n p).toNat else 0
def xSco (T : Nat → Int) (n : Nat) (x : Int × Int) (dr : Nat → Int) (p : Nat) : Int × Int := xSj T n (xNum T n x (avT T n p) 0 1) (dr (gvT T n (avT T n p))) (avT T n (avT T n p)) (nbT T n 10 13 (avT T n (avT T n p)))
def dSco (T : Nat → Int) (n : Nat) (dr : Nat → Int) (p : Nat) : Nat → Int := dSj T n dr (gvT T n (avT T n p)) (avT T n (avT T n p)) (nbT T n 10 13 (avT T n (avT T n p)))
end C36
