/-! what leaves the reference's tales alone keeps them sound -/
section M40
theorem hvD_ag {cs fs : List Nat} {d d' : sD} (h : Ag cs fs d d') (h1 : 272 ∉ cs) (k : Nat) : hvD d' k = hvD d k := funext fun x => h.1 272 _ h1 (by decide)
theorem vvD_ag {cs fs : List Nat} {d d' : sD} (h : Ag cs fs d d') (h1 : 272 ∉ cs) (k : Nat) : vvD d' k = vvD d k := funext fun x => h.1 272 _ h1 (by decide)
theorem MS_ag {cs fs : List Nat} {d d' : sD} (h : MS d) (hA : Ag cs fs d d') (h1 : 272 ∉ cs) : MS d' := by
  have e : ∀ x, d' 272 x = d 272 x := fun x => hA.1 272 x h1 (by decide)
  refine ⟨fun s hs => by rw [e]; exact h.1 s hs, fun k hk => ?_, fun k hk => ?_, fun k hk => ?_, fun k hk => ?_⟩
  · rw [wvD_ag hA h1]; rw [e] at hk; exact h.2.1 k hk
  · rw [gvD_ag hA h1]; rw [e] at hk; exact h.2.2.1 k hk
  · rw [hvD_ag hA h1]; rw [e] at hk; exact h.2.2.2.1 k hk
  · rw [vvD_ag hA h1]; rw [e] at hk; exact h.2.2.2.2 k hk
end M40
