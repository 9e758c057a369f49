abbrev sM : Type := MethodName × ByteArray × Nat × Option FieldType × Nat × Nat
abbrev mY (M : sM) : MethodName := M.1
abbrev mC (M : sM) : ByteArray := M.2.1
abbrev mL (M : sM) : Nat := M.2.2.1
abbrev mR (M : sM) : Option FieldType := M.2.2.2.1
abbrev mF (M : sM) : Nat := M.2.2.2.2.1
abbrev mO (M : sM) : Nat := M.2.2.2.2.2
def gw : List Cond := lw_tbl.filter goodWord
theorem gw_in {w : Cond} (h : w ∈ lw_tbl) (hg : goodWord w = true) : w ∈ gw := List.mem_filter.mpr ⟨h, hg⟩
theorem gw_good (y : MethodName) (b : ByteArray) (n : Nat) (r : Option FieldType) (h : Cond.code y b n r ∈ gw) : GoodIn gw (Cond.code y b n r :: gw) := by
  intro w hw
  rcases List.mem_cons.mp hw with rfl | hw
  · exact ⟨h, good_of_word (List.mem_filter.mp h).2⟩
  · exact ⟨hw, good_of_word (List.mem_filter.mp hw).2⟩
/-- the words that go by the state: links across the nest, arrays over classes -/
def nestL : List Cond := lw_tbl.filter (fun w => match w with | .methodLinkNest _ _ _ _ => true | _ => false)
/-- an entry of the pool that names a field: its class and place -/
def Fld (own : String) (idx k j : Nat) (fin : Bool) : Prop := ∃ q : vw_C, vwCl[k]? = some q ∧ j < q.2.2 ∧ (q.2.1 j).2.2.2 = fin ∧ (fin = true → (q.2.1 j).1 = q.1) ∧ Cond.fieldLink own idx (q.2.1 j).1 (q.2.1 j).2.1 (q.2.1 j).2.2.1 ∈ gw
/-- a class that is made -/
def NewC (own : String) (idx k : Nat) : Prop := ∃ q : vw_C, vwCl[k]? = some q ∧ Cond.classLink own idx q.1 ∈ gw ∧ Cond.instantiable q.1 q.2.2 ∈ gw ∧ Cond.initialized q.1 ∈ gw
def MOk (M : sM) : Prop := plainName (mY M).cls = true ∧ Cond.code (mY M) (mC M) (mL M) (mR M) ∈ gw ∧ Cond.initialized (mY M).cls ∈ gw ∧ (mY M).cls ≠ "java/lang/invoke/MethodHandle" ∧ (mY M).cls ≠ "java/lang/invoke/VarHandle"
def LkV (own : String) (idx : Nat) (M' : sM) (n k : Nat) : Prop := MOk M' ∧ Cond.methodLink own idx (mY M') ∈ gw ∧ Cond.instanceMethod (mY M') ∈ gw ∧ Cond.selects (mY M').cls (mY M') (mY M') ∈ gw ∧ (parseMethodDescriptor (mY M').desc).map (fun d => d.parameters.length) = some n ∧ ∃ q, vwCl[k]? = some q ∧ q.1 = (mY M').cls
def LkS (own : String) (idx : Nat) (M' : sM) (n : Nat) : Prop := MOk M' ∧ Cond.methodLink own idx (mY M') ∈ gw ∧ Cond.static (mY M') ∈ gw ∧ (parseMethodDescriptor (mY M').desc).map (fun d => d.parameters.length) = some n
def LkI (own : String) (idx : Nat) (M' : sM) (n : Nat) : Prop := MOk M' ∧ Cond.methodLink own idx (mY M') ∈ gw ∧ Cond.instanceMethod (mY M') ∈ gw ∧ (mY M').name = "<init>" ∧ mR M' = none ∧ (parseMethodDescriptor (mY M').desc).map (fun d => d.parameters.length) = some n
def LkN (own : String) (idx : Nat) (M' : sM) (n : Nat) (host : String) : Prop := MOk M' ∧ Cond.methodLinkNest own idx (mY M') host ∈ nestL ∧ Cond.instanceMethod (mY M') ∈ gw ∧ (mY M').name = "<init>" ∧ mR M' = none ∧ (parseMethodDescriptor (mY M').desc).map (fun d => d.parameters.length) = some n
