/-! the class: the least row that is orders in two ways -/
section C32
variable {G : sG} {d : sD} {w : Nat → Int} {wo a : Nat}
abbrev Cc (e : sD) : Nat → Nat → Int := fun o f => e 110 (4 * o + f)
def CI (w : Nat → Int) (a : Nat) (e : sD) : Prop := (∀ i, i < 24 → 0 ≤ e 110 i ∧ e 110 i ≤ 1000000) ∧ (∀ o f, o < 6 → f < 4 → e 110 (4 * o + f) = 1000000 ∨ (Nd w a o f ∧ ∃ n, Wk w a n o f (e 110 (4 * o + f)))) ∧ (e 102 6 = 1000000 ∨ Fwk w a (e 102 6)) ∧ 0 ≤ e 102 6 ∧ e 102 6 ≤ 1000000
def rcD (d : sD) (i : Nat) (v : Int) : sD := if v < d 110 i then up d 110 i v else d
def reD (d : sD) (v : Int) : sD := up d 102 6 (min (d 102 6) v)
theorem rc_j {e : sD} {i j : Nat} {v : Int} (h : j ≠ i) : rcD e i v 110 j = e 110 j := by
  unfold rcD
  by_cases q : v < e 110 i
  · rw [if_pos q, up_nej h]
  · rw [if_neg q]
theorem rc_i {e : sD} {i : Nat} {v : Int} : rcD e i v 110 i = min (e 110 i) v := by
  unfold rcD
  by_cases q : v < e 110 i
  · rw [if_pos q, up_same]; omega
  · rw [if_neg q]; omega
theorem rc_le {e : sD} {i j : Nat} {v : Int} : rcD e i v 110 j ≤ e 110 j := by
  by_cases z : j = i
  · subst z; rw [rc_i]; omega
  · rw [rc_j z]; omega
theorem rc_6 {e : sD} {i : Nat} {v : Int} : rcD e i v 102 6 = e 102 6 := by
  unfold rcD
  by_cases q : v < e 110 i
  · rw [if_pos q, up_nea (by decide)]
  · rw [if_neg q]
theorem rc_no {e : sD} {i : Nat} {v : Int} (h : ¬ v < e 110 i) : rcD e i v = e := if_neg h
theorem rc_Fr {e : sD} {i : Nat} {v : Int} (h : Fr 102 110 d e) : Fr 102 110 d (rcD e i v) := by
  unfold rcD
  by_cases q : v < e 110 i
  · rw [if_pos q]; exact h.up (by decide)
  · rw [if_neg q]; exact h
theorem re_j {e : sD} {j : Nat} {v : Int} : reD e v 110 j = e 110 j := up_nea (by decide)
theorem re_6 {e : sD} {v : Int} : reD e v 102 6 = min (e 102 6) v := up_same
theorem re_Fr {e : sD} {v : Int} (h : Fr 102 110 d e) : Fr 102 110 d (reD e v) := h.up (by decide)
theorem CI_rc {e : sD} {o f : Nat} {v : Int} (h : CI w a e) (hn : Nd w a o f) (ho : o < 6) (hf : f < 4) (hv : 0 ≤ v) (hw : ∃ n, Wk w a n o f v) : CI w a (rcD e (4 * o + f) v) := by
  obtain ⟨h1, h2, h3, h4⟩ := h
  refine ⟨fun i hi => ?_, fun o' f' ho' hf' => ?_, by rw [rc_6]; exact h3, by rw [rc_6]; exact h4⟩
  · have := h1 i hi
    by_cases z : i = 4 * o + f
    · rw [z, rc_i, ← z]; omega
    · rw [rc_j z]; exact this
  · by_cases z : 4 * o' + f' = 4 * o + f
    · obtain ⟨rfl, rfl⟩ : o' = o ∧ f' = f := ⟨by omega, by omega⟩
      rw [rc_i]
      rcases (show min (e 110 (4 * o' + f')) v = v ∨ min (e 110 (4 * o' + f')) v = e 110 (4 * o' + f') by omega) with y | y
      · rw [y]; exact Or.inr ⟨hn, hw⟩
      · rw [y]; exact h2 o' f' ho' hf'
    · rw [rc_j z]; exact h2 o' f' ho' hf'
theorem CI_re {e : sD} {v : Int} (h : CI w a e) (hv : 0 ≤ v) (hw : Fwk w a v) : CI w a (reD e v) := by
  obtain ⟨h1, h2, h3, h4⟩ := h
  refine ⟨fun i hi => by rw [re_j]; exact h1 i hi, fun o' f' ho' hf' => by rw [re_j]; exact h2 o' f' ho' hf', ?_, by rw [re_6]; omega⟩
  rw [re_6]
  rcases (show min (e 102 6) v = v ∨ min (e 102 6) v = e 102 6 by omega) with y | y
  · rw [y]; exact Or.inr hw
  · rw [y]; exact h3
theorem nd46 (hV : WV w) (ha : a < 2) {o f : Nat} (hn : Nd w a o f) : o < 6 ∧ f < 4 := by
  have := hV.ln ha hn.1
  have := hn.2
  exact ⟨by omega, by omega⟩
/-- a round over the rests -/
def RV (w : Nat → Int) (a : Nat) (d e0 : sD) (q : Nat → Nat → Prop) (m : Int) (e : sD) : Prop := (m = 0 ∨ m = 1) ∧ Fr 102 110 d e ∧ CI w a e ∧ (∀ j, j < 24 → e 110 j ≤ e0 110 j) ∧ e 102 6 ≤ e0 102 6 ∧ (m = 0 → ∀ j, j < 24 → e 110 j = e0 110 j) ∧ ∀ o f p, Nd w a o f → isO w a p → q (4 * o + f) p → e0 110 (4 * o + f) < 1000000 → (∀ o' f' c, Sp w a o f p o' f' c → e 110 (4 * o' + f') ≤ e0 110 (4 * o + f) + c) ∧ (Se w a o f p → e 102 6 ≤ e0 110 (4 * o + f))
abbrev qp (q : Nat → Nat → Prop) (i p : Nat) : Nat → Nat → Prop := fun i' p' => q i' p' ∨ (i' = i ∧ p' = p)
theorem RV_mono {e0 e : sD} {q q' : Nat → Nat → Prop} {m : Int} (h : RV w a d e0 q m e) (hq : ∀ o f p, Nd w a o f → isO w a p → q' (4 * o + f) p → e0 110 (4 * o + f) < 1000000 → q (4 * o + f) p) : RV w a d e0 q' m e := ⟨h.1, h.2.1, h.2.2.1, h.2.2.2.1, h.2.2.2.2.1, h.2.2.2.2.2.1, fun o f p hn hp hq' hlt => h.2.2.2.2.2.2 o f p hn hp (hq o f p hn hp hq' hlt) hlt⟩
theorem RV_none (hV : WV w) (ha : a < 2) {e0 e : sD} {q : Nat → Nat → Prop} {m : Int} {o f p : Nat} (h : RV w a d e0 q m e) (hn : Nd w a o f) (hne : ¬ Eg w a o f p) : RV w a d e0 (qp q (4 * o + f) p) m e := by
  obtain ⟨h1, h2, h3, h4, h5, h6, h7⟩ := h
  refine ⟨h1, h2, h3, h4, h5, h6, fun o' f' p' hn' hp' hq hlt => ?_⟩
  rcases hq with hq | ⟨z, rfl⟩
  · exact h7 o' f' p' hn' hp' hq hlt
  · have q1 := nd46 hV ha hn
    have q2 := nd46 hV ha hn'
    obtain ⟨rfl, rfl⟩ : o' = o ∧ f' = f := ⟨by omega, by omega⟩
    exact ⟨fun _ _ _ hs => absurd hs.1.2 hne, fun hs => absurd hs.1.2 hne⟩
theorem RV_re (hV : WV w) (ha : a < 2) {e0 e : sD} {q : Nat → Nat → Prop} {m v : Int} {o f p : Nat} (h : RV w a d e0 q m e) (hn : Nd w a o f) (hs : Se w a o f p) (hw : ∃ n, Wk w a n o f v) (hv : v ≤ e0 110 (4 * o + f)) : RV w a d e0 (qp q (4 * o + f) p) m (reD e v) := by
  obtain ⟨h1, h2, h3, h4, h5, h6, h7⟩ := h
  obtain ⟨n, hw⟩ := hw
  have hx := (Wk_nd hV ha hw).2
  refine ⟨h1, re_Fr h2, CI_re h3 (by omega) (Or.inr ⟨n, o, f, p, hw, hs⟩), fun j hj => by rw [re_j]; exact h4 j hj, by rw [re_6]; omega, fun hm j hj => by rw [re_j]; exact h6 hm j hj, fun o' f' p' hn' hp' hq hlt => ?_⟩
  rcases hq with hq | ⟨z, rfl⟩
  · obtain ⟨g1, g2⟩ := h7 o' f' p' hn' hp' hq hlt
    exact ⟨fun x y c hs' => by rw [re_j]; exact g1 x y c hs', fun hs' => by have := g2 hs'; rw [re_6]; omega⟩
  · have q1 := nd46 hV ha hn
    have q2 := nd46 hV ha hn'
    obtain ⟨rfl, rfl⟩ : o' = o ∧ f' = f := ⟨by omega, by omega⟩
    have hl := hs.2
    refine ⟨fun x y c hs' => ?_, fun _ => by rw [re_6]; omega⟩
    rcases hs'.2 with y2 | y2 <;> omega
theorem RV_rc (hV : WV w) (ha : a < 2) {e0 e : sD} {q : Nat → Nat → Prop} {m v c : Int} {o f p o2 f2 : Nat} (h : RV w a d e0 q m e) (hn : Nd w a o f) (hs : Sp w a o f p o2 f2 c) (hw : ∃ n, Wk w a n o f v) (hv : v ≤ e0 110 (4 * o + f)) : RV w a d e0 (qp q (4 * o + f) p) (if v + c < e 110 (4 * o2 + f2) then 1 else m) (rcD e (4 * o2 + f2) (v + c)) := by
  obtain ⟨h1, h2, h3, h4, h5, h6, h7⟩ := h
  obtain ⟨n, hw⟩ := hw
  have hx := (Wk_nd hV ha hw).2
  obtain ⟨s1, s2⟩ := Sp_nd hV ha hn hs
  have s3 := nd46 hV ha s1
  refine ⟨?_, rc_Fr h2, CI_rc h3 s1 s3.1 s3.2 (by omega) ⟨n + 1, o, f, v, p, c, hw, hs, rfl⟩, fun j hj => Int.le_trans rc_le (h4 j hj), by rw [rc_6]; exact h5, fun hm j hj => ?_, fun o' f' p' hn' hp' hq hlt => ?_⟩
  · by_cases z : v + c < e 110 (4 * o2 + f2)
    · rw [if_pos z]; exact Or.inr rfl
    · rw [if_neg z]; exact h1
  · by_cases z : v + c < e 110 (4 * o2 + f2)
    · rw [if_pos z] at hm; exact absurd hm (by decide)
    · rw [if_neg z] at hm; rw [rc_no z]; exact h6 hm j hj
  · rcases hq with hq | ⟨z, rfl⟩
    · obtain ⟨g1, g2⟩ := h7 o' f' p' hn' hp' hq hlt
      exact ⟨fun x y c2 hs' => Int.le_trans rc_le (g1 x y c2 hs'), fun hs' => by rw [rc_6]; exact g2 hs'⟩
    · have q1 := nd46 hV ha hn
      have q2 := nd46 hV ha hn'
      obtain ⟨rfl, rfl⟩ : o' = o ∧ f' = f := ⟨by omega, by omega⟩
      refine ⟨fun x y c2 hs' => ?_, fun hs' => ?_⟩
      · have hh : x = o2 ∧ y = f2 ∧ c2 = c := by
          rcases hs.2 with ⟨k1, k2, k3, k4⟩ | ⟨k1, k2, k3, k4⟩ <;> rcases hs'.2 with ⟨j1, j2, j3, j4⟩ | ⟨j1, j2, j3, j4⟩
          · exact ⟨by omega, by omega, by omega⟩
          · omega
          · omega
          · exact ⟨by omega, by omega, by omega⟩
        obtain ⟨rfl, rfl, rfl⟩ := hh
        rw [rc_i]; omega
      · have hl := hs'.2
        rcases hs.2 with y2 | y2 <;> omega
theorem ag_Eg {o f p : Nat} (hf : f ≤ lnW w a o) : agP w a o f a p (min (lnW w a o - f) (lnW w a p)) ↔ Eg w a o f p := ⟨fun h => h.2.2, fun h => ⟨by omega, by omega, h⟩⟩
/-- the begins -/
def BV (w : Nat → Int) (a : Nat) (d e : sD) (q : Nat → Nat → Prop) : Prop := Fr 102 110 d e ∧ CI w a e ∧ ∀ o p, isO w a o → isO w a p → q o p → Bg w a o p → (lnW w a p < lnW w a o → e 110 (4 * o + lnW w a p) ≤ (lnW w a o : Int)) ∧ (lnW w a p = lnW w a o → e 102 6 ≤ (lnW w a o : Int))
theorem BV_mono {e : sD} {q q' : Nat → Nat → Prop} (h : BV w a d e q) (hq : ∀ o p, isO w a o → isO w a p → p ≠ o → q' o p → q o p) : BV w a d e q' := ⟨h.1, h.2.1, fun o p ho hp h' hb => h.2.2 o p ho hp (hq o p ho hp hb.2.1 h') hb⟩
theorem BV_none {e : sD} {q : Nat → Nat → Prop} {o p : Nat} (h : BV w a d e q) (hne : ¬ (lnW w a p ≤ lnW w a o ∧ ∀ u, u < lnW w a p → btW w a o u = btW w a p u)) : BV w a d e (qp q o p) := by
  refine ⟨h.1, h.2.1, fun o' p' ho hp hq hb => ?_⟩
  rcases hq with hq | ⟨rfl, rfl⟩
  · exact h.2.2 o' p' ho hp hq hb
  · refine ⟨fun hl => absurd ⟨by omega, fun u hu => (hb.2.2 u hu).symm⟩ hne, fun hl => absurd ⟨by omega, fun u hu => (hb.2.2 u hu).symm⟩ hne⟩
theorem BV_rc (hV : WV w) (ha : a < 2) {e : sD} {q : Nat → Nat → Prop} {o p : Nat} (h : BV w a d e q) (ho : isO w a o) (hb : Bg w a o p) (hl : lnW w a p < lnW w a o) : BV w a d (rcD e (4 * o + lnW w a p) (lnW w a o : Int)) (qp q o p) := by
  have l1 := hV.ln ha ho
  have l2 := hV.ln ha hb.1
  refine ⟨rc_Fr h.1, CI_rc h.2.1 ⟨ho, by omega, hl⟩ (by omega) (by omega) (by omega) ⟨0, ho, ⟨p, hb, rfl, hl⟩, rfl⟩, fun o' p' ho' hp hq hb' => ?_⟩
  rcases hq with hq | ⟨rfl, rfl⟩
  · obtain ⟨g1, g2⟩ := h.2.2 o' p' ho' hp hq hb'
    exact ⟨fun z => Int.le_trans rc_le (g1 z), fun z => by rw [rc_6]; exact g2 z⟩
  · exact ⟨fun _ => by rw [rc_i]; omega, fun z => by omega⟩
theorem BV_re (hV : WV w) (ha : a < 2) {e : sD} {q : Nat → Nat → Prop} {o p : Nat} (h : BV w a d e q) (ho : isO w a o) (hb : Bg w a o p) (hl : lnW w a p = lnW w a o) : BV w a d (reD e (lnW w a o : Int)) (qp q o p) := by
  refine ⟨re_Fr h.1, CI_re h.2.1 (by omega) (Or.inl ⟨o, p, ho, hb, hl, rfl⟩), fun o' p' ho' hp hq hb' => ?_⟩
  rcases hq with hq | ⟨rfl, rfl⟩
  · obtain ⟨g1, g2⟩ := h.2.2 o' p' ho' hp hq hb'
    exact ⟨fun z => by rw [re_j]; exact g1 z, fun z => by have := g2 z; rw [re_6]; omega⟩
  · exact ⟨fun z => by omega, fun _ => by rw [re_6]; omega⟩
def FIN (w : Nat → Int) (a : Nat) (t : Int) : Prop := ∃ D, DLw w a D ∧ DAt w a D 1000000 ∧ (∀ o f, Nd w a o f → D o f ≤ 1000000) ∧ EdL w a D 1000000 t
theorem CI_At (hV : WV w) (ha : a < 2) {e : sD} (h : CI w a e) : DAt w a (Cc e) 1000000 ∧ ∀ o f, Nd w a o f → Cc e o f ≤ 1000000 := by
  refine ⟨fun o f hn => ?_, fun o f hn => ?_⟩
  · have := nd46 hV ha hn
    exact (h.2.1 o f this.1 this.2).imp id (fun z => z.2)
  · have := nd46 hV ha hn
    exact (h.1 (4 * o + f) (by omega)).2
theorem BV_gn {e : sD} (h : BV w a d e (fun _ _ => True)) : Bgn w a (Cc e) ∧ EdB w a (e 102 6) := ⟨fun o p ho hb hl => (h.2.2 o p ho hb.1 trivial hb).1 hl, fun o p ho hb hl => (h.2.2 o p ho hb.1 trivial hb).2 hl⟩
theorem RV_BV {e0 e : sD} {q : Nat → Nat → Prop} {m : Int} (hV : WV w) (ha : a < 2) (h : RV w a d e0 q m e) (hB : BV w a d e0 (fun _ _ => True)) : BV w a d e (fun _ _ => True) := by
  obtain ⟨h1, h2, h3, h4, h5, h6, h7⟩ := h
  refine ⟨h2, h3, fun o p ho hp _ hb => ?_⟩
  obtain ⟨g1, g2⟩ := hB.2.2 o p ho hp trivial hb
  have l1 := hV.ln ha ho
  exact ⟨fun z => Int.le_trans (h4 _ (by omega)) (g1 z), fun z => Int.le_trans h5 (g2 z)⟩
/-- the end of a round -/
theorem RV_end (hV : WV w) (ha : a < 2) {e0 e : sD} {m : Int} {k : Nat} (h : RV w a d e0 (fun _ _ => True) m e) (hB : BV w a d e0 (fun _ _ => True)) (hk : DLw w a (Cc e0) ∨ (k : Int) + 1 ≤ cEx w a (Cc e0)) : (DLw w a (Cc e) ∨ ((k + 1 : Nat) : Int) + 1 ≤ cEx w a (Cc e)) ∧ (m = 0 ∨ k = 23 → FIN w a (e 102 6)) := by
  obtain ⟨h1, h2, h3, h4, h5, h6, h7⟩ := h
  obtain ⟨a1, a2⟩ := CI_At hV ha hB.2.1
  obtain ⟨b1, b2⟩ := BV_gn hB
  have hS : ∀ o f p o' f' c, Nd w a o f → Cc e0 o f < 1000000 → Sp w a o f p o' f' c → Cc e o' f' ≤ Cc e0 o f + c := fun o f p o' f' c hn hlt hs => (h7 o f p hn hs.1.1 trivial hlt).1 o' f' c hs
  have hE : EdL w a (Cc e0) 1000000 (e 102 6) := fun o f p hn hlt hs => (h7 o f p hn hs.1.1 trivial hlt).2 hs
  refine ⟨cEx_grow hV ha a2 b1 hS (fun o f ho hf => h4 _ (by omega)) hk, fun hx => ?_⟩
  rcases hx with hm | rfl
  · refine ⟨Cc e0, DLw_of hV ha a2 b1 (fun o f p o' f' c hn hlt hs => ?_), a1, a2, hE⟩
    have g := hS o f p o' f' c hn hlt hs
    have s3 := nd46 hV ha (Sp_nd hV ha hn hs).1
    have := h6 hm (4 * o' + f') (by omega)
    show e0 110 (4 * o' + f') ≤ _
    rw [← this]
    exact g
  · exact ⟨Cc e0, cEx_full hV ha hk, a1, a2, hE⟩
theorem TF_cls (hV : WV w) (ha : a < 2) {e : sD} (hB : BV w a d e (fun _ _ => True)) (hF : FIN w a (e 102 6)) : tfW w a = if e 102 6 < 1000000 then e 102 6 else -1 := by
  obtain ⟨D, f1, f2, f3, f4⟩ := hF
  exact tfW_eq (TF_of hV ha (by decide) f1 f2 f3 hB.2.1.2.2.1 hB.2.1.2.2.2.2 (BV_gn hB).2 f4)
end C32
