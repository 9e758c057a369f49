/-! the reference: the least row that is orders in two ways -/
section C30
variable {G : sG} {d : sD} {w : Nat → Int} {a : Nat}
def HI (w : Nat → Int) (a : Nat) (h : Nat → Int) : Prop := (∀ i, i < 30 → 0 ≤ h i ∧ h i ≤ 9999) ∧ (∀ o f, Nd w a o f → h (5 * o + f) = 9999 ∨ ∃ n, Wk w a n o f (h (5 * o + f))) ∧ (∀ o, isO w a o → h (5 * o + lnW w a o) = 9999 ∨ Fwk w a (h (5 * o + lnW w a o))) ∧ ∀ o f, isO w a o → f < 5 → (f = 0 ∨ lnW w a o < f) → h (5 * o + f) = 9999
def BH (w : Nat → Int) (a : Nat) (h : Nat → Int) (q : Nat → Nat → Prop) : Prop := ∀ o p, isO w a o → isO w a p → o ≠ p → q o p → giP w a o 0 p 0 → h (5 * p + lnW w a o) ≤ (lnW w a p : Int)
theorem HI_set (hV : WV w) (ha : a < 2) {h h' : Nat → Int} {i : Nat} {v : Int} (hI : HI w a h) (hi : h' i = v) (hj : ∀ j, j ≠ i → h' j = h j) (hv : 0 ≤ v ∧ v ≤ 9999) (hc : (∃ o f, Nd w a o f ∧ i = 5 * o + f ∧ ∃ n, Wk w a n o f v) ∨ ∃ p, isO w a p ∧ i = 5 * p + lnW w a p ∧ Fwk w a v) : HI w a h' := by
  obtain ⟨h1, h2, h3, h4⟩ := hI
  refine ⟨fun j hj2 => ?_, fun o f hn => ?_, fun o ho => ?_, fun o f ho hf hx => ?_⟩
  · by_cases z : j = i
    · rw [z, hi]; exact hv
    · rw [hj j z]; exact h1 j hj2
  · have l1 := hV.ln ha hn.1
    by_cases z : 5 * o + f = i
    · rw [z, hi]
      rcases hc with ⟨o', f', hn', he, hw⟩ | ⟨p, hp, he, _⟩
      · have l2 := hV.ln ha hn'.1
        obtain ⟨rfl, rfl⟩ : o' = o ∧ f' = f := ⟨by omega, by omega⟩
        exact Or.inr hw
      · have l2 := hV.ln ha hp
        obtain ⟨rfl, h5⟩ : p = o ∧ f = lnW w a p := ⟨by omega, by omega⟩
        exact absurd hn.2.2 (by omega)
    · rw [hj _ z]; exact h2 o f hn
  · have l1 := hV.ln ha ho
    by_cases z : 5 * o + lnW w a o = i
    · rw [z, hi]
      rcases hc with ⟨o', f', hn', he, hw⟩ | ⟨p, hp, he, hF⟩
      · have l2 := hV.ln ha hn'.1
        obtain ⟨rfl, h5⟩ : o' = o ∧ f' = lnW w a o := ⟨by omega, by omega⟩
        exact absurd hn'.2.2 (by omega)
      · exact Or.inr hF
    · rw [hj _ z]; exact h3 o ho
  · by_cases z : 5 * o + f = i
    · rcases hc with ⟨o', f', hn', he, hw⟩ | ⟨p, hp, he, hF⟩
      · have l2 := hV.ln ha hn'.1
        obtain ⟨rfl, rfl⟩ : o' = o ∧ f' = f := ⟨by omega, by omega⟩
        exact absurd hn'.2 (by omega)
      · have l2 := hV.ln ha hp
        obtain ⟨rfl, h5⟩ : p = o ∧ f = lnW w a p := ⟨by omega, by omega⟩
        exact absurd hx (by omega)
    · rw [hj _ z]; exact h4 o f ho hf hx
theorem gi_Eg {o f p : Nat} (hf : f ≤ lnW w a o) (h : giP w a o f p 0) : Eg w a o f p ∧ lnW w a o - f ≤ lnW w a p := by
  have h1 := h.1
  refine ⟨fun u hu => ?_, by omega⟩
  have := h.2 u (by omega)
  rw [Nat.zero_add] at this
  exact this
theorem gi_Eg2 {o f p : Nat} (hf : f ≤ lnW w a o) (h : giP w a p 0 o f) : Eg w a o f p ∧ lnW w a p ≤ lnW w a o - f := by
  have h1 := h.1
  refine ⟨fun u hu => ?_, by omega⟩
  have := h.2 u (by omega)
  rw [Nat.zero_add] at this
  exact this.symm
theorem Eg_gi {o f p : Nat} (hf : f ≤ lnW w a o) (h : Eg w a o f p) (hl : lnW w a o - f ≤ lnW w a p) : giP w a o f p 0 := by
  refine ⟨by omega, fun u hu => ?_⟩
  rw [Nat.zero_add]
  exact h u (by omega)
theorem Eg_gi2 {o f p : Nat} (hf : f ≤ lnW w a o) (h : Eg w a o f p) (hl : lnW w a p ≤ lnW w a o - f) : giP w a p 0 o f := by
  refine ⟨by omega, fun u hu => ?_⟩
  rw [Nat.zero_add]
  exact (h u (by omega)).symm
theorem Sp_ho {o f p o' f' : Nat} {c : Int} (hn : Nd w a o f) (h : Sp w a o f p o' f' c) : (giP w a o f p 0 ∨ giP w a p 0 o f) ∧ hoT w a o f p = 5 * o' + f' ∧ ∀ v, hoV w a o f p v = v + c := by
  obtain ⟨⟨hp, he⟩, h⟩ := h
  have hf : f ≤ lnW w a o := by have := hn.2.2; omega
  rcases h with ⟨h1, rfl, rfl, rfl⟩ | ⟨h1, rfl, rfl, rfl⟩
  · have hg := Eg_gi hf he (by omega)
    exact ⟨Or.inl hg, if_pos hg, fun v => (if_pos hg).trans (by omega)⟩
  · have hg := Eg_gi2 hf he (by omega)
    have hng : ¬ giP w a o' f p 0 := fun z => by have := (gi_Eg hf z).2; omega
    exact ⟨Or.inr hg, if_neg hng, fun v => (if_neg hng).trans (by omega)⟩
theorem Se_ho {o f p : Nat} (hn : Nd w a o f) (h : Se w a o f p) : (giP w a o f p 0 ∨ giP w a p 0 o f) ∧ hoT w a o f p = 5 * p + lnW w a p ∧ ∀ v, hoV w a o f p v = v := by
  obtain ⟨⟨hp, he⟩, h⟩ := h
  have hf : f ≤ lnW w a o := by have := hn.2.2; omega
  have hg := Eg_gi hf he (by omega)
  exact ⟨Or.inl hg, (if_pos hg).trans (by omega), fun v => (if_pos hg).trans (by omega)⟩
theorem ho_cases {o f p : Nat} (hn : Nd w a o f) (hp : isO w a p) (h : giP w a o f p 0 ∨ giP w a p 0 o f) : (∃ o' f' c, Sp w a o f p o' f' c) ∨ Se w a o f p := by
  have hf : f ≤ lnW w a o := by have := hn.2.2; omega
  have he : Eg w a o f p := h.elim (fun z => (gi_Eg hf z).1) (fun z => (gi_Eg2 hf z).1)
  rcases Nat.lt_trichotomy (lnW w a p) (lnW w a o - f) with z | z | z
  · exact Or.inl ⟨o, f + lnW w a p, 0, ⟨hp, he⟩, Or.inr ⟨z, rfl, rfl, rfl⟩⟩
  · exact Or.inr ⟨⟨hp, he⟩, z⟩
  · exact Or.inl ⟨p, lnW w a o - f, _, ⟨hp, he⟩, Or.inl ⟨z, rfl, rfl, rfl⟩⟩
theorem lsD_i {e : sD} {i : Nat} {v : Int} (h : v < e 296 i) : lsD e i v 296 i = v := by unfold lsD; rw [if_pos h, up_same]
theorem lsD_j {e : sD} {i j : Nat} {v : Int} (h : j ≠ i) : lsD e i v 296 j = e 296 j := by
  unfold lsD
  by_cases q : v < e 296 i
  · rw [if_pos q, up_nej h]
  · rw [if_neg q]
theorem lsD_le {e : sD} {i j : Nat} {v : Int} : lsD e i v 296 j ≤ e 296 j := by
  by_cases z : j = i
  · subst z
    unfold lsD
    by_cases q : v < e 296 j
    · rw [if_pos q, up_same]; omega
    · rw [if_neg q]; omega
  · rw [lsD_j z]; omega
theorem lsD_v {e : sD} {i : Nat} {v : Int} : lsD e i v 296 i ≤ v := by
  unfold lsD
  by_cases q : v < e 296 i
  · rw [if_pos q, up_same]; omega
  · rw [if_neg q]; omega
theorem lsD_no {e : sD} {i : Nat} {v : Int} (h : ¬ v < e 296 i) : lsD e i v = e := if_neg h
theorem lsD_Ag {d e : sD} {i : Nat} {v : Int} (h : Ag [296] [] d e) : Ag [296] [] d (lsD e i v) := by
  unfold lsD
  by_cases q : v < e 296 i
  · rw [if_pos q]; exact Ag_up h (by decide)
  · rw [if_neg q]; exact h
theorem lsD_sum {e : sD} {i : Nat} {v : Int} (hi : i < 30) (h : v < e 296 i) : sumN (lsD e i v 296) 30 < sumN (e 296) 30 := by
  rw [sumN_upd (f := e 296) (f' := lsD e i v 296) (t := i) 30 hi (fun j _ hj => lsD_j hj), lsD_i h]
  omega
theorem HI_ls (hV : WV w) (ha : a < 2) {e : sD} {i : Nat} {v : Int} (hI : HI w a (e 296)) (hi : i < 30) (hv : 0 ≤ v) (hc : (∃ o f, Nd w a o f ∧ i = 5 * o + f ∧ ∃ n, Wk w a n o f v) ∨ ∃ p, isO w a p ∧ i = 5 * p + lnW w a p ∧ Fwk w a v) : HI w a (lsD e i v 296) := by
  by_cases q : v < e 296 i
  · have := (hI.1 i hi).2
    exact HI_set hV ha hI (lsD_i q) (fun j hj => lsD_j hj) ⟨hv, by omega⟩ hc
  · rw [lsD_no q]; exact hI
/-- a rest that a step may go on from -/
theorem hoP_nd (hV : WV w) (ha : a < 2) {e : sD} {o f p : Nat} (hI : HI w a (e 296)) (ho : isO w a o) (hf : f < 5) (h : hoP w a o f p (e 296 (5 * o + f))) : Nd w a o f := by
  obtain ⟨⟨h1, h2⟩, _⟩ := h
  refine ⟨ho, ?_, ?_⟩
  · rcases Nat.eq_zero_or_pos f with z | z
    · have := hI.2.2.2 o f ho hf (Or.inl z); omega
    · exact z
  · rcases Nat.lt_or_ge f (lnW w a o) with z | z
    · exact z
    · have := hI.2.2.2 o f ho hf (Or.inr (by omega)); omega
theorem HI_ho (hV : WV w) (ha : a < 2) {e : sD} {o f p : Nat} (hI : HI w a (e 296)) (ho : isO w a o) (hp : isO w a p) (hf : f < 5) (h : hoP w a o f p (e 296 (5 * o + f))) : hoT w a o f p < 30 ∧ HI w a (lsD e (hoT w a o f p) (hoV w a o f p (e 296 (5 * o + f))) 296) := by
  have hn := hoP_nd hV ha hI ho hf h
  have l1 := hV.ln ha ho
  have hW := hI.2.1 o f hn
  obtain ⟨⟨h1, h2⟩, hg⟩ := h
  obtain ⟨n, hw⟩ := hW.resolve_left (by omega)
  have hx := (Wk_nd hV ha hw).2
  rcases ho_cases hn hp hg with ⟨o', f', c, hs⟩ | hs
  · obtain ⟨_, e1, e2⟩ := Sp_ho hn hs
    obtain ⟨q1, q2⟩ := Sp_nd hV ha hn hs
    have l2 := hV.ln ha q1.1
    have hq := q1.2
    rw [e1, e2]
    exact ⟨by omega, HI_ls hV ha hI (by omega) (by omega) (Or.inl ⟨o', f', q1, rfl, n + 1, o, f, _, p, c, hw, hs, rfl⟩)⟩
  · obtain ⟨_, e1, e2⟩ := Se_ho hn hs
    have l2 := hV.ln ha hp
    rw [e1, e2]
    exact ⟨by omega, HI_ls hV ha hI (by omega) (by omega) (Or.inr ⟨p, hp, rfl, Or.inr ⟨n, o, f, p, hw, hs⟩⟩)⟩
theorem HI_bg (hV : WV w) (ha : a < 2) {e : sD} {o p : Nat} (hI : HI w a (e 296)) (ho : isO w a o) (hp : isO w a p) (hne : o ≠ p) (hg : giP w a o 0 p 0) : 5 * p + lnW w a o < 30 ∧ HI w a (lsD e (5 * p + lnW w a o) (lnW w a p : Int) 296) := by
  have l1 := hV.ln ha ho
  have l2 := hV.ln ha hp
  obtain ⟨g1, g2⟩ := gi_Eg (Nat.zero_le _) hg
  have hB : Bg w a p o := ⟨ho, hne, fun u hu => by have := g1 u (by omega); rw [Nat.zero_add] at this; exact this⟩
  refine ⟨by omega, HI_ls hV ha hI (by omega) (by omega) ?_⟩
  rcases (show lnW w a o < lnW w a p ∨ lnW w a o = lnW w a p by omega) with z | z
  · exact Or.inl ⟨p, lnW w a o, ⟨hp, by omega, z⟩, rfl, 0, hp, ⟨o, hB, rfl, z⟩, rfl⟩
  · exact Or.inr ⟨p, hp, by rw [z], Or.inl ⟨p, o, hp, hB, z, rfl⟩⟩
/-- no step is shorter -/
def StOK (w : Nat → Int) (a : Nat) (h : Nat → Int) (o f p : Nat) : Prop := hoP w a o f p (h (5 * o + f)) → h (hoT w a o f p) ≤ hoV w a o f p (h (5 * o + f))
theorem TF_ref (hV : WV w) (ha : a < 2) {h : Nat → Int} {t : Int} (hI : HI w a h) (hB : BH w a h (fun _ _ => True)) (hS : ∀ o f p, isO w a o → isO w a p → f < 5 → StOK w a h o f p) (ht : t = 9999 ∨ ∃ o, isO w a o ∧ t = h (5 * o + lnW w a o)) (hm : ∀ o, isO w a o → t ≤ h (5 * o + lnW w a o)) (ht9 : t ≤ 9999) : TF w a (if t < 9999 then t else -1) := by
  have bg : ∀ o p, isO w a o → Bg w a o p → lnW w a p ≤ lnW w a o → h (5 * o + lnW w a p) ≤ (lnW w a o : Int) := fun o p ho hb hl => hB p o hb.1 ho hb.2.1 trivial ⟨by omega, fun u hu => by rw [Nat.zero_add]; exact hb.2.2 u (by omega)⟩
  have h5 : ∀ {o f : Nat}, Nd w a o f → o < 6 ∧ f < 5 := fun {o f} hn => by
    have := hV.ln ha hn.1
    have := hn.2
    exact ⟨by omega, by omega⟩
  refine TF_of hV ha (D := fun o f => h (5 * o + f)) (I := 9999) (by decide) ?_ hI.2.1 (fun o f hn => (hI.1 _ (by have := h5 hn; omega)).2) ?_ ht9 ?_ ?_
  · refine DLw_of hV ha (I := 9999) (fun o f hn => (hI.1 _ (by have := h5 hn; omega)).2) (fun o p ho hb hl => bg o p ho hb (by omega)) ?_
    intro o f p o' f' c hn hlt hs
    obtain ⟨e0, e1, e2⟩ := Sp_ho hn hs
    have := hS o f p hn.1 hs.1.1 (h5 hn).2 ⟨⟨hlt, by have := hn.2.2; omega⟩, e0⟩
    rw [e1, e2] at this
    exact this
  · rcases ht with z | ⟨o, ho, z⟩
    · exact Or.inl z
    · rw [z]; exact hI.2.2.1 o ho
  · intro o p ho hb hl
    have h1 := bg o p ho hb (by omega)
    have h2 := hm o ho
    rw [hl] at h1
    omega
  · intro o f p hn hlt hs
    obtain ⟨e0, e1, e2⟩ := Se_ho hn hs
    have h1 := hS o f p hn.1 hs.1.1 (h5 hn).2 ⟨⟨hlt, by have := hn.2.2; omega⟩, e0⟩
    rw [e1, e2] at h1
    have h2 := hm p hs.1.1
    show t ≤ h (5 * o + f)
    omega
end C30
