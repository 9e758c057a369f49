/-! both constructors are run -/
section CON4
/-- no write at a place -/
theorem mm_no {b j : Nat} : ∀ (W : Wr), (∀ e ∈ W, ¬ (e.1 = b ∧ e.2.1 = j)) → mm W b j = 0
  | [], _ => rfl
  | e :: W, h => by
    have h1 := h e List.mem_cons_self
    show up (mm W) e.1 e.2.1 e.2.2 b j = 0
    rw [up_ne (fun z => h1 ⟨z.1.symm, z.2.symm⟩)]
    exact mm_no W (fun x hx => h x (List.mem_cons_of_mem _ hx))
def zkW (W : Wr) : Bool := W.all (fun e => decide (e.1 ≠ 3 ∧ e.1 ≠ 4 ∧ e.1 ≠ 52 ∧ e.1 ≠ 273 ∧ (e.1 ≠ 272 ∨ e.2.1 = 6) ∧ (kT.getD e.1 99 < 17 ∨ e.2.1 < 10)))
def zkR (W : Wr) : Bool := (List.range 297).all (fun a => (List.range (if kT.getD a 99 < 13 then 40 else if kT.getD a 99 < 17 then 0 else 10)).all (fun j => decide (slT (kT.getD a 99) j = 2 → mm W a j = (rf0 a j : Int))))
def zkI (W : Wr) : Bool := decide (mm W 2 1 = 0 ∧ mm W 2 2 = 0 ∧ mm W 2 3 = -1 ∧ mm W 272 6 = -1)
def zkK (K : Ce) : Bool := (List.range 297).all (fun a => decide ((kd 296 K a).1 = kT.getD a 99 ∧ (kd 296 K a).2 = lT.getD a 0))
noncomputable def fin1 : Option Rs := run tabK 700 (11, 0, [vR 1, vU 0], [], 1, [(11, 0)], [], 1, 11)
noncomputable def fin2 (R : Rs) : Option Rs := run tabK 300 (12, 0, [vR 271], [], 271, (12, 0) :: R.2.1, R.2.2.1, R.2.2.2.1 + 1, R.2.2.2.2 + 38)
noncomputable def zkA : Bool := match fin1 with
  | none => false
  | some R => decide (R.1 = 270) && match fin2 R with
    | none => false
    | some R2 => decide (R2.1 = 296 ∧ R2.2.2.2.1 ≤ 1000 ∧ R2.2.2.2.2 ≤ 100000) && zkK R2.2.1 && zkW R2.2.2.1 && zkR R2.2.2.1 && zkI R2.2.2.1
theorem zkA_ok : zkA = true := by decide +kernel
end CON4
