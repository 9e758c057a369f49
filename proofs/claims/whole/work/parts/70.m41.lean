/-! the reference: one step over the rests of orders -/
section M41
variable {G : sG} {d : sD} {w : Nat → Int} {a : Nat}
/-- a place is made less -/
def lsD (d : sD) (i : Nat) (v : Int) : sD := if v < d 296 i then up d 296 i v else d
theorem t_hangsL {i : Nat} {v : Int} (hi : i < 30) : tB G mX12_hangsLess 0 [vR 271, vI i, vI v] [] d (fun r d' => r = some (vI (bI (v < d 296 i))) ∧ d' = lsD d i v) := (t_hangsLess (v := v) hi).mono (by
  rintro r d' (⟨h, rfl, rfl⟩ | ⟨h, rfl, rfl⟩)
  · exact ⟨by rw [bI_t h], by unfold lsD; rw [if_pos h]⟩
  · exact ⟨by rw [bI_f h], by unfold lsD; rw [if_neg h]⟩)
/-- the rest of order o from beat f, order p laid at it -/
def hoT (w : Nat → Int) (a o f p : Nat) : Nat := if giP w a o f p 0 then 5 * p + (lnW w a o - f) else 5 * o + (f + lnW w a p)
def hoV (w : Nat → Int) (a o f p : Nat) (v : Int) : Int := if giP w a o f p 0 then v + lnW w a p - (lnW w a o - f : Nat) else v
def hoP (w : Nat → Int) (a o f p : Nat) (v : Int) : Prop := (v < 9999 ∧ ¬ f = lnW w a o) ∧ (giP w a o f p 0 ∨ giP w a p 0 o f)
end M41

