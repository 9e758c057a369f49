/-! the class's state beside the reference's, block by block -/
section C24
variable {G : sG} {d d' : sD} {w w' g g' h h' v v' f f' : Nat → Int} {o p : Nat}
theorem WV_cg (e : ∀ x, x < 89 → w x = w' x) (h : WV w) : WV w' := by
  obtain ⟨h1, h2, h3, h4, h5, h6⟩ := h
  refine ⟨by rw [← e 0 (by omega)]; exact h1, by rw [← e 1 (by omega)]; exact h2, by rw [← e 2 (by omega)]; exact h3, fun b hb => by rw [← e (3 + b) (by omega)]; exact h4 b hb, fun a ha => ?_, fun a k ha hk => ?_⟩
  · rw [← e (7 + a) (by omega), ← e (9 + a) (by omega), ← e (11 + a) (by omega), ← e (13 + a) (by omega), ← e (15 + a) (by omega)]; exact h5 a ha
  · rw [← e (15 + a) (by omega)] at hk
    have hc := (h5 a ha).2.2.2.2
    obtain ⟨q1, q2, q3⟩ := h6 a k ha hk
    rw [← e (17 + 36 * a + 6 * k) (by omega), ← e (18 + 36 * a + 6 * k) (by omega)]
    exact ⟨q1, q2, fun i hi => by rw [← e (19 + 36 * a + 6 * k + i) (by omega)]; exact q3 i hi⟩
theorem Wo_cg (e : ∀ x, x < 89 → w x = w' x) (hV : WV w) (h : Wo d o w) : Wo d o w' := by
  obtain ⟨h1, h2, h3, h4⟩ := h
  refine ⟨by rw [← e 0 (by omega), ← e 1 (by omega), ← e 2 (by omega)]; exact h1, fun b hb => by rw [← e (3 + b) (by omega)]; exact h2 b hb, fun a ha => ?_, fun a k ha hk => ?_⟩
  · rw [← e (7 + a) (by omega), ← e (9 + a) (by omega), ← e (11 + a) (by omega), ← e (13 + a) (by omega), ← e (15 + a) (by omega)]; exact h3 a ha
  · rw [← e (15 + a) (by omega)] at hk
    have hc := (hV.a ha).2.2.2.2
    have hl := (hV.2.2.2.2.2 a k ha hk).2.1
    obtain ⟨q1, q2, q3⟩ := h4 a k ha hk
    rw [← e (17 + 36 * a + 6 * k) (by omega), ← e (18 + 36 * a + 6 * k) (by omega)]
    exact ⟨q1, q2, fun i hi => by rw [← e (19 + 36 * a + 6 * k + i) (by omega)]; exact q3 i hi⟩
theorem GV_cg (e : ∀ x, x < 26 → g x = g' x) (h : GV g) : GV g' := fun a ha => by
  have q := h a ha
  rw [← e a (by omega)]
  exact ⟨q.1, fun k hk => by rw [← e (2 + 12 * a + k) (by omega)]; exact q.2 k hk⟩
theorem So_cg (e : ∀ x, x < 26 → g x = g' x) (hG : GV g) (h : So d o g) : So d o g' := fun a ha => by
  have q := h a ha
  have q2 := (hG a ha).1
  rw [← e a (by omega)]
  exact ⟨q.1, fun k hk => by rw [← e (2 + 12 * a + k) (by omega)]; exact q.2 k hk⟩
theorem HV_cg (e : ∀ x, x < 14 → h x = h' x) (hh : HV h) : HV h' := fun a ha => by
  have q := hh a ha
  rw [← e a (by omega)]
  exact ⟨q.1, fun k hk => by rw [← e (2 + 6 * a + k) (by omega)]; exact q.2 k hk⟩
theorem Ho_cg (e : ∀ x, x < 14 → h x = h' x) (hV : HV h) (hh : Ho d o h) : Ho d o h' := fun a ha => by
  have q := hh a ha
  have q2 := (hV a ha).1
  rw [← e a (by omega)]
  exact ⟨q.1, fun k hk => by rw [← e (2 + 6 * a + k) (by omega)]; exact q.2 k hk⟩
theorem VV_cg (e : ∀ x, x < 33 → v x = v' x) (h : VV v) : VV v' := by
  refine ⟨by rw [← e 0 (by omega)]; exact h.1, fun k hk => ?_⟩
  rw [← e 0 (by omega)] at hk
  have h8 := h.1
  rw [← e (1 + 4 * k) (by omega), ← e (2 + 4 * k) (by omega), ← e (3 + 4 * k) (by omega), ← e (4 + 4 * k) (by omega)]
  exact h.2 k hk
theorem Vo_cg (e : ∀ x, x < 33 → v x = v' x) (hV : VV v) (h : Vo d o v) : Vo d o v' := by
  refine ⟨by rw [← e 0 (by omega)]; exact h.1, fun k hk => ?_⟩
  rw [← e 0 (by omega)] at hk
  have h8 := hV.1
  rw [← e (1 + 4 * k) (by omega), ← e (2 + 4 * k) (by omega), ← e (3 + 4 * k) (by omega), ← e (4 + 4 * k) (by omega)]
  exact h.2 k hk
/-- all that is told, of the class, is a block of the reference's numbers -/
def TRf (d : sD) (o : Nat) (f : Nat → Int) : Prop := ((d o 1 = f 4 ∧ 0 ≤ f 4 ∧ f 4 ≤ 600) ∧ d o 2 = f 5 ∧ d o 3 = f 6) ∧ (∀ i, i < 600 → d (o + 1) i = w8 (f (10 + i)) ∧ 0 ≤ f (10 + i) ∧ f (10 + i) ≤ 255) ∧ (∀ s, s < 4 → d (o + 2) s = f s ∧ 0 ≤ f s ∧ f s ≤ 2) ∧
  (∀ k : Nat, (k : Int) < f 0 → Wo d (o + 7 + 21 * k) (fun x => f (610 + 89 * k + x)) ∧ WV (fun x => f (610 + 89 * k + x))) ∧ (∀ k : Nat, (k : Int) < f 1 → So d (o + 17 + 21 * k) (fun x => f (788 + 26 * k + x)) ∧ GV (fun x => f (788 + 26 * k + x))) ∧ (∀ k : Nat, (k : Int) < f 2 → Ho d (o + 20 + 21 * k) (fun x => f (840 + 14 * k + x)) ∧ HV (fun x => f (840 + 14 * k + x))) ∧ ∀ k : Nat, (k : Int) < f 3 → Vo d (o + 23 + 21 * k) (fun x => f (868 + 33 * k + x)) ∧ VV (fun x => f (868 + 33 * k + x))
theorem TRf_cg (e : ∀ x, x < 934 → f x = f' x) (h : TRf d o f) : TRf d o f' := by
  obtain ⟨h1, h2, h3, h4, h5, h6, h7⟩ := h
  have b : ∀ s, s < 4 → 0 ≤ f s ∧ f s ≤ 2 := fun s hs => (h3 s hs).2
  have b0 := b 0 (by decide)
  have b1 := b 1 (by decide)
  have b2 := b 2 (by decide)
  have b3 := b 3 (by decide)
  refine ⟨by rw [← e 4 (by omega), ← e 5 (by omega), ← e 6 (by omega)]; exact h1, fun i hi => by rw [← e (10 + i) (by omega)]; exact h2 i hi, fun s hs => by rw [← e s (by omega)]; exact h3 s hs, fun k hk => ?_, fun k hk => ?_, fun k hk => ?_, fun k hk => ?_⟩
  · rw [← e 0 (by omega)] at hk
    have q := h4 k hk
    have z : ∀ x, x < 89 → (fun x => f (610 + 89 * k + x)) x = (fun x => f' (610 + 89 * k + x)) x := fun x hx => e _ (by omega)
    exact ⟨Wo_cg z q.2 q.1, WV_cg z q.2⟩
  · rw [← e 1 (by omega)] at hk
    have q := h5 k hk
    have z : ∀ x, x < 26 → (fun x => f (788 + 26 * k + x)) x = (fun x => f' (788 + 26 * k + x)) x := fun x hx => e _ (by omega)
    exact ⟨So_cg z q.2 q.1, GV_cg z q.2⟩
  · rw [← e 2 (by omega)] at hk
    have q := h6 k hk
    have z : ∀ x, x < 14 → (fun x => f (840 + 14 * k + x)) x = (fun x => f' (840 + 14 * k + x)) x := fun x hx => e _ (by omega)
    exact ⟨Ho_cg z q.2 q.1, HV_cg z q.2⟩
  · rw [← e 3 (by omega)] at hk
    have q := h7 k hk
    have z : ∀ x, x < 33 → (fun x => f (868 + 33 * k + x)) x = (fun x => f' (868 + 33 * k + x)) x := fun x hx => e _ (by omega)
    exact ⟨Vo_cg z q.2 q.1, VV_cg z q.2⟩
/-- the class's cells of it stay -/
theorem TRf_eq (h : TRf d o f) (e : ∀ x j, x ≤ 48 → d' (o + x) j = d (o + x) j) : TRf d' o f := by
  obtain ⟨h1, h2, h3, h4, h5, h6, h7⟩ := h
  have b0 := (h3 0 (by decide)).2
  have b1 := (h3 1 (by decide)).2
  have b2 := (h3 2 (by decide)).2
  have b3 := (h3 3 (by decide)).2
  have e0 : ∀ j, d' o j = d o j := fun j => e 0 j (by omega)
  refine ⟨by rw [e0, e0, e0]; exact h1, fun i hi => by rw [e 1 i (by omega)]; exact h2 i hi, fun s hs => by rw [e 2 s (by omega)]; exact h3 s hs, fun k hk => ?_, fun k hk => ?_, fun k hk => ?_, fun k hk => ?_⟩
  · exact ⟨Wo_eq (h4 k hk).1 (fun x j hx => by rw [show o + 7 + 21 * k + x = o + (7 + 21 * k + x) by omega]; exact e _ j (by omega)), (h4 k hk).2⟩
  · exact ⟨So_eq (h5 k hk).1 (fun x j hx => by rw [show o + 17 + 21 * k + x = o + (17 + 21 * k + x) by omega]; exact e _ j (by omega)), (h5 k hk).2⟩
  · exact ⟨Ho_eq (h6 k hk).1 (fun x j hx => by rw [show o + 20 + 21 * k + x = o + (20 + 21 * k + x) by omega]; exact e _ j (by omega)), (h6 k hk).2⟩
  · exact ⟨Vo_eq (h7 k hk).1 (fun x j hx => by rw [show o + 23 + 21 * k + x = o + (23 + 21 * k + x) by omega]; exact e _ j (by omega)), (h7 k hk).2⟩
theorem Wo_WE (hV : WV w) (h : Wo d p w) (e : WE d p d' o) : Wo d' o w := by
  obtain ⟨h1, h2, h3, h4⟩ := h
  refine ⟨by rw [e.1.1, e.1.2.1, e.1.2.2]; exact h1, fun b hb => by rw [e.2 1 b (by omega) (by omega) hb]; exact h2 b hb, fun a ha => ?_, fun a k ha hk => ?_⟩
  · rw [e.2 2 a (by omega) (by omega) ha, e.2 3 a (by omega) (by omega) ha, e.2 4 a (by omega) (by omega) ha, e.2 5 a (by omega) (by omega) ha, e.2 6 a (by omega) (by omega) ha]; exact h3 a ha
  · have hc := (hV.a ha).2.2.2.2
    have hl := (hV.2.2.2.2.2 a k ha hk).2.1
    obtain ⟨q1, q2, q3⟩ := h4 a k ha hk
    refine ⟨by rw [e.2 7 _ (by omega) (by omega) (show 6 * a + k < 12 by omega)]; exact q1, by rw [e.2 8 _ (by omega) (by omega) (show 6 * a + k < 12 by omega)]; exact q2, fun i hi => by rw [e.2 9 _ (by omega) (by omega) (show 24 * a + 4 * k + i < 48 by omega)]; exact q3 i hi⟩
theorem TRf_TE (h : TRf d p f) (e : TE d p d' o) : TRf d' o f := by
  obtain ⟨h1, h2, h3, h4, h5, h6, h7⟩ := h
  have b0 := (h3 0 (by decide)).2
  have b1 := (h3 1 (by decide)).2
  have b2 := (h3 2 (by decide)).2
  have b3 := (h3 3 (by decide)).2
  obtain ⟨e1, e2, e3, e4, e5⟩ := e
  have eK : ∀ k, k < 2 → KE d p d' o k := fun k hk => by
    match k, hk with
    | 0, _ => exact e4
    | 1, _ => exact e5
  refine ⟨by rw [e1.1, e1.2.1, e1.2.2]; exact h1, fun i hi => by rw [e2 i hi]; exact h2 i hi, fun s hs => by rw [e3 s hs]; exact h3 s hs, fun k hk => ?_, fun k hk => ?_, fun k hk => ?_, fun k hk => ?_⟩
  · exact ⟨Wo_WE (h4 k hk).2 (h4 k hk).1 (eK k (by omega)).1, (h4 k hk).2⟩
  · have q := (eK k (by omega)).2.1
    have z := (h5 k hk).1
    have y := (h5 k hk).2
    refine ⟨fun a ha => ⟨by rw [q 1 a (by omega) (by omega) ha]; exact (z a ha).1, fun i hi => ?_⟩, y⟩
    have := (y a ha).1
    rw [q 2 (12 * a + i) (by omega) (by omega) (show 12 * a + i < 24 by omega)]; exact (z a ha).2 i hi
  · have q := (eK k (by omega)).2.2.1
    have z := (h6 k hk).1
    have y := (h6 k hk).2
    refine ⟨fun a ha => ⟨by rw [q 1 a (by omega) (by omega) ha]; exact (z a ha).1, fun i hi => ?_⟩, y⟩
    have := (y a ha).1
    rw [q 2 (6 * a + i) (by omega) (by omega) (show 6 * a + i < 12 by omega)]; exact (z a ha).2 i hi
  · have q := (eK k (by omega)).2.2.2
    have z := (h7 k hk).1
    have y := (h7 k hk).2
    refine ⟨⟨by rw [q.1]; exact z.1, fun i hi => ?_⟩, y⟩
    have := y.1
    rw [q.2 1 i (by omega) (by omega) (show i < 8 by omega), q.2 2 i (by omega) (by omega) (show i < 8 by omega), q.2 3 i (by omega) (by omega) (show i < 8 by omega), q.2 4 i (by omega) (by omega) (show i < 8 by omega)]
    exact z.2 i hi
abbrev blk (d : sD) (b : Nat) : Nat → Int := fun x => d 272 (b + x)
/-- the invariant between the class and the reference -/
def IV (d : sD) : Prop := TRf d 2 (d 272) ∧ ∀ k, k < 3 → (d 52 k = d 273 k ∧ (d 273 k = 0 ∨ d 273 k = 1)) ∧ (¬ d 273 k = 0 → TRf d (112 + 49 * k) (blk d (934 * (k + 1))))
theorem IV.ms (h : IV d) : MS d := by
  obtain ⟨⟨h1, h2, h3, h4, h5, h6, h7⟩, _⟩ := h
  exact ⟨fun s hs => (h3 s hs).2, fun k hk => (h4 k hk).2, fun k hk => (h5 k hk).2, fun k hk => (h6 k hk).2, fun k hk => (h7 k hk).2⟩
theorem IV.cs (h : IV d) : CS d := by
  obtain ⟨⟨h1, h2, h3, h4, h5, h6, h7⟩, _⟩ := h
  exact ⟨fun s hs => (h3 s hs).1, fun k hk => (h4 k hk).1, fun k hk => (h5 k hk).1, fun k hk => (h6 k hk).1, fun k hk => (h7 k hk).1⟩
theorem IV_eq (h : IV d) (e1 : ∀ b j, (2 ≤ b ∧ b ≤ 52) ∨ (112 ≤ b ∧ b ≤ 258) → d' b j = d b j) (e2 : d' 272 = d 272) (e3 : d' 273 = d 273) : IV d' := by
  refine ⟨by rw [e2]; exact TRf_eq h.1 (fun x j hx => e1 _ _ (by omega)), fun k hk => ⟨?_, fun hn => ?_⟩⟩
  · rw [e3, e1 52 k (by omega)]; exact (h.2 k hk).1
  · rw [e3] at hn
    have q := (h.2 k hk).2 hn
    have z : blk d' (934 * (k + 1)) = blk d (934 * (k + 1)) := by unfold blk; rw [e2]
    rw [z]
    exact TRf_eq q (fun x j hx => e1 _ _ (by omega))
theorem IV_cf (h : IV d) (hF : Cf d d') : IV d' := IV_eq h (fun b j hb => hF b j (by omega)) (funext fun j => hF _ _ (by omega)) (funext fun j => hF _ _ (by omega))
theorem IV_ag {cs fs : List Nat} (h : IV d) (hA : Ag cs fs d d') (hc : ∀ x ∈ cs, 274 ≤ x) : IV d' := IV_eq h (fun b j hb => hA.1 b j (fun q => by have := hc b q; omega) (by omega)) (funext fun j => hA.1 _ _ (fun q => by have := hc _ q; omega) (by decide)) (funext fun j => hA.1 _ _ (fun q => by have := hc _ q; omega) (by decide))
end C24
