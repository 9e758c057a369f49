/-! loops; memory by explicit functions -/
section LIB
variable {G : sG} {M : sM} {pc : Nat} {ls st : List sV} {d : sD} {Q : Option sV → sD → Prop}
theorem T_loop {α : Type} (pc : Nat) (ls : α → List sV) (dd : α → sD) (I : α → Prop) (μ : α → Nat) (body : ∀ x, I x → (∀ y, I y → μ y < μ x → tB G M pc (ls y) [] (dd y) Q) → tB G M pc (ls x) [] (dd x) Q) : ∀ x, I x → tB G M pc (ls x) [] (dd x) Q := by
  have h : ∀ n x, μ x < n → I x → tB G M pc (ls x) [] (dd x) Q := by
    intro n
    induction n with
    | zero => intro x hx; omega
    | succ n ih => intro x hx hI; exact body x hI (fun y hy hlt => ih y (by omega) hy)
  exact fun x hx => h (μ x + 1) x (Nat.lt_succ_self _) hx
/-- a local that isn't used any more is forgotten -/
theorem T_drop (i : Nat) (k : tB G M pc (ls.set i (vU 0)) st d Q) : tB G M pc ls st d Q := by
  intro hR p l e R s m args below meth c H locs cells slots Z lsr C hH hl hL hs hc hk
  refine k hR p l e R s m args below meth c H locs cells slots Z lsr C hH hl ?_ hs hc hk
  obtain ⟨h1, h2, h3, h4, h5⟩ := hL
  refine ⟨h1, by rw [List.length_set]; exact h2, h3, fun v hv => ?_, fun j v hj hv => ?_⟩
  · rcases List.mem_or_eq_of_mem_set hv with h | h
    · exact h4 v h
    · rw [h]; trivial
  · by_cases e : i = j
    · subst e
      rw [List.getElem?_set] at hj
      simp only [if_true] at hj
      split at hj
      · exact absurd (Option.some.inj hj).symm hv
      · cases hj
    · rw [List.getElem?_set_ne e] at hj
      exact h5 j v hj hv
theorem T_getIv {k j idx a : Nat} {fin : Bool} {x : Int} (hd : decode (mC M) pc = .ok (.getfield idx, 3)) (hf : Fld (mY M).cls idx k j fin) (ht : (sft k j == 0 || sft k j == 4) = true) (hk : kn S0 a = k) (hv : d a j = x) (kk : tB G M (pc + 3) ls (vI x :: st) d Q) : tB G M pc ls (vR a :: st) d Q := T_getI hd hf ht hk (by rw [hv]; exact kk)
theorem T_ialdv {a n j : Nat} {i x : Int} (hd : decode (mC M) pc = .ok (.iaload, 1)) (hk : kn S0 a = 13) (hn : ln S0 a = n) (h : 0 ≤ i ∧ i < n) (hj : i.toNat = j) (hv : d a j = x) (kk : tB G M (pc + 1) ls (vI x :: st) d Q) : tB G M pc ls (vI i :: vR a :: st) d Q := T_iald hd hk hn h hj (by rw [hv]; exact kk)
theorem T_zaldv {a n j : Nat} {i x : Int} (hd : decode (mC M) pc = .ok (.baload, 1)) (hk : kn S0 a = 15) (hn : ln S0 a = n) (h : 0 ≤ i ∧ i < n) (hj : i.toNat = j) (hv : d a j = x) (kk : tB G M (pc + 1) ls (vI x :: st) d Q) : tB G M pc ls (vI i :: vR a :: st) d Q := T_zald hd hk hn h hj (by rw [hv]; exact kk)
theorem T_baldv {a n j : Nat} {i x : Int} (hd : decode (mC M) pc = .ok (.baload, 1)) (hk : kn S0 a = 14) (hn : ln S0 a = n) (h : 0 ≤ i ∧ i < n) (hj : i.toNat = j) (hv : d a j = x) (kk : tB G M (pc + 1) ls (vI x :: st) d Q) : tB G M pc ls (vI i :: vR a :: st) d Q := T_bald hd hk hn h hj (by rw [hv]; exact kk)
theorem T_laldv {a n j : Nat} {i x : Int} (hd : decode (mC M) pc = .ok (.laload, 1)) (hk : kn S0 a = 16) (hn : ln S0 a = n) (h : 0 ≤ i ∧ i < n) (hj : i.toNat = j) (hv : d a j = x) (kk : tB G M (pc + 1) ls (vL x :: st) d Q) : tB G M pc ls (vI i :: vR a :: st) d Q := T_lald hd hk hn h hj (by rw [hv]; exact kk)
theorem T_eq {d' : sD} (h : d = d') (k : tB G M pc ls st d' Q) : tB G M pc ls st d Q := h ▸ k
theorem T_leq {ls' : List sV} (h : ls = ls') (k : tB G M pc ls' st d Q) : tB G M pc ls st d Q := h ▸ k
theorem T_top {x y : Int} (h : x = y) (k : tB G M pc ls (vI y :: st) d Q) : tB G M pc ls (vI x :: st) d Q := h ▸ k
end LIB
theorem up_same {d : sD} {a j : Nat} {x : Int} : up d a j x a j = x := if_pos ⟨rfl, rfl⟩
theorem up_ne {d : sD} {a j b i : Nat} {x : Int} (h : ¬ (b = a ∧ i = j)) : up d a j x b i = d b i := if_neg h
theorem up_nea {d : sD} {a j b i : Nat} {x : Int} (h : b ≠ a) : up d a j x b i = d b i := if_neg (fun q => h q.1)
theorem up_nej {d : sD} {a j b i : Nat} {x : Int} (h : i ≠ j) : up d a j x b i = d b i := if_neg (fun q => h q.2)
/-- memory with a stretch of one cell given by a function -/
def ups (d : sD) (a lo hi : Nat) (f : Nat → Int) : sD := fun b j => if b = a ∧ lo ≤ j ∧ j < hi then f j else d b j
theorem ups_in {d : sD} {a lo hi j : Nat} {f : Nat → Int} (h : lo ≤ j ∧ j < hi) : ups d a lo hi f a j = f j := if_pos ⟨rfl, h⟩
theorem ups_nea {d : sD} {a lo hi b j : Nat} {f : Nat → Int} (h : b ≠ a) : ups d a lo hi f b j = d b j := if_neg (fun q => h q.1)
theorem ups_out {d : sD} {a lo hi b j : Nat} {f : Nat → Int} (h : j < lo ∨ hi ≤ j) : ups d a lo hi f b j = d b j := if_neg (fun q => by omega)
theorem ups_nil {d : sD} {a lo : Nat} {f : Nat → Int} : ups d a lo lo f = d := by
  funext b j
  unfold ups
  rw [if_neg (fun q => by omega)]
theorem ups_push {d : sD} {a lo hi : Nat} {f : Nat → Int} {x : Int} (h : lo ≤ hi) (hx : x = f hi) : up (ups d a lo hi f) a hi x = ups d a lo (hi + 1) f := by
  funext b j
  unfold up ups
  by_cases h1 : b = a
  · subst h1
    by_cases h2 : j = hi
    · subst h2
      rw [if_pos ⟨rfl, rfl⟩, if_pos ⟨rfl, by omega⟩, hx]
    · rw [if_neg (fun q => h2 q.2)]
      by_cases h3 : lo ≤ j ∧ j < hi
      · rw [if_pos ⟨rfl, h3⟩, if_pos ⟨rfl, by omega⟩]
      · rw [if_neg (fun q => h3 q.2), if_neg (fun q => by omega)]
  · rw [if_neg (fun q => h1 q.1), if_neg (fun q => h1 q.1), if_neg (fun q => h1 q.1)]
theorem up_comm {d : sD} {a i b j : Nat} {x y : Int} (h : a ≠ b ∨ i ≠ j) : up (up d a i x) b j y = up (up d b j y) a i x := by
  funext c k
  unfold up
  by_cases h1 : c = a ∧ k = i
  · obtain ⟨rfl, rfl⟩ := h1
    rw [if_neg (fun q => by omega), if_pos ⟨rfl, rfl⟩, if_pos ⟨rfl, rfl⟩]
  · rw [if_neg h1, if_neg h1]
theorem up_up {d : sD} {a i : Nat} {x y : Int} : up (up d a i x) a i y = up d a i y := by
  funext c k
  unfold up
  by_cases h1 : c = a ∧ k = i
  · rw [if_pos h1, if_pos h1]
  · rw [if_neg h1, if_neg h1, if_neg h1]
theorem up_ups {d : sD} {a i b lo hi : Nat} {x : Int} {f : Nat → Int} (h : a ≠ b ∨ i < lo ∨ hi ≤ i) : up (ups d b lo hi f) a i x = ups (up d a i x) b lo hi f := by
  funext c k
  show (if c = a ∧ k = i then x else ups d b lo hi f c k) = (if c = b ∧ lo ≤ k ∧ k < hi then f k else up d a i x c k)
  by_cases h1 : c = a ∧ k = i
  · obtain ⟨rfl, rfl⟩ := h1
    rw [if_pos ⟨rfl, rfl⟩, if_neg (fun q => by omega), up_same]
  · rw [if_neg h1, up_ne h1]; rfl
