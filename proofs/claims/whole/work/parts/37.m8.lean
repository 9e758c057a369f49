/-! what a method may change, by cells and by the fields of the reference's object -/
def Ag (cs fs : List Nat) (d d' : sD) : Prop := (∀ b j, b ∉ cs → b ≠ 271 → d' b j = d b j) ∧ ∀ j, j ∉ fs → d' 271 j = d 271 j
theorem Ag.rf {cs fs : List Nat} {d : sD} : Ag cs fs d d := ⟨fun _ _ _ _ => rfl, fun _ _ => rfl⟩
theorem Ag.trans {c1 f1 c2 f2 cs fs : List Nat} {d d1 d2 : sD} (h1 : Ag c1 f1 d d1) (h2 : Ag c2 f2 d1 d2) (hc1 : ∀ x ∈ c1, x ∈ cs) (hc2 : ∀ x ∈ c2, x ∈ cs) (hf1 : ∀ x ∈ f1, x ∈ fs) (hf2 : ∀ x ∈ f2, x ∈ fs) : Ag cs fs d d2 :=
  ⟨fun b j hb h => (h2.1 b j (fun q => hb (hc2 b q)) h).trans (h1.1 b j (fun q => hb (hc1 b q)) h), fun j hj => (h2.2 j (fun q => hj (hf2 j q))).trans (h1.2 j (fun q => hj (hf1 j q)))⟩
theorem Ag.mono {c1 f1 cs fs : List Nat} {d d1 : sD} (h1 : Ag c1 f1 d d1) (hc1 : ∀ x ∈ c1, x ∈ cs) (hf1 : ∀ x ∈ f1, x ∈ fs) : Ag cs fs d d1 := ⟨fun b j hb h => h1.1 b j (fun q => hb (hc1 b q)) h, fun j hj => h1.2 j (fun q => hj (hf1 j q))⟩
theorem Ag_up {cs fs : List Nat} {d d' : sD} {a j : Nat} {x : Int} (h : Ag cs fs d d') (ha : a ∈ cs ∧ a ≠ 271) : Ag cs fs d (up d' a j x) :=
  ⟨fun b i hb h2 => (up_nea (fun q : b = a => hb (by rw [q]; exact ha.1))).trans (h.1 b i hb h2), fun i hi => (up_nea (fun q : 271 = a => ha.2 q.symm)).trans (h.2 i hi)⟩
theorem Ag_upf {cs fs : List Nat} {d d' : sD} {j : Nat} {x : Int} (h : Ag cs fs d d') (hj : j ∈ fs) : Ag cs fs d (up d' 271 j x) :=
  ⟨fun b i hb h2 => (up_nea h2).trans (h.1 b i hb h2), fun i hi => (up_nej (fun q : i = j => hi (by rw [q]; exact hj))).trans (h.2 i hi)⟩
theorem Ag_ups {cs fs : List Nat} {d d' : sD} {a lo hi : Nat} {f : Nat → Int} (h : Ag cs fs d d') (ha : a ∈ cs ∧ a ≠ 271) : Ag cs fs d (ups d' a lo hi f) :=
  ⟨fun b i hb h2 => (ups_nea (fun q : b = a => hb (by rw [q]; exact ha.1))).trans (h.1 b i hb h2), fun i hi => (ups_nea (fun q : 271 = a => ha.2 q.symm)).trans (h.2 i hi)⟩
theorem Wd_ag {cs fs : List Nat} {d d' : sD} {w : Nat → Int} (h : Wd d w) (hA : Ag cs fs d d') (h1 : 272 ∉ cs) (h2 : 10 ∉ fs) : Wd d' w := by
  obtain ⟨p, q1, q2, q3⟩ := h
  exact ⟨p, by rw [hA.2 10 h2]; exact q1, q2, fun y hy => by rw [hA.1 272 _ h1 (by decide)]; exact q3 y hy⟩
section M8
variable {G : sG} {d : sD} {w g : Nat → Int}
def Laid (d : sD) (R : List (Int × Int)) : Prop := d 271 18 = (R.length : Int) ∧ ∀ j, j < R.length → d 277 j = (R.getD j (0, 0)).1 ∧ d 278 j = (R.getD j (0, 0)).2
theorem layD_Laid {R : List (Int × Int)} : Laid (layD d R) R := by
  refine ⟨layD_18, fun j hj => ⟨?_, ?_⟩⟩
  · unfold layD
    rw [up_nea (by decide), ups_nea (by decide), ups_in ⟨by omega, hj⟩]
  · unfold layD
    rw [up_nea (by decide), ups_in ⟨by omega, hj⟩]
theorem layD_Ag {R : List (Int × Int)} : Ag [277, 278] [18] d (layD d R) := Ag_upf (Ag_ups (Ag_ups Ag.rf (by decide)) (by decide)) (by decide)
theorem layP_congr {t m0 m1 : Nat} {x y x' y' : Nat → Int} (hx : ∀ k, k < m0 → x k = x' k) (hy : ∀ k, k < m1 → y k = y' k) : ∀ q, layP t m0 m1 x y q = layP t m0 m1 x' y' q
  | 0 => rfl
  | q + 1 => by
    have ih := layP_congr (t := t) hx hy q
    show layP t m0 m1 x y q ++ (seg1 t m0 x q ++ seg2 t m1 y q) = layP t m0 m1 x' y' q ++ (seg1 t m0 x' q ++ seg2 t m1 y' q)
    rw [ih]
    congr 2
    · unfold seg1
      apply List.map_congr_left
      intro k hk
      rw [hx _ (by have := List.mem_range.mp hk; omega)]
    · unfold seg2
      apply List.map_congr_left
      intro k hk
      rw [hy _ (by have := List.mem_range.mp hk; omega)]
/-- the score that is at hand, its bounds -/
def Gd (d : sD) (g : Nat → Int) : Prop := ∃ p : Nat, d 271 11 = (p : Int) ∧ p + 26 ≤ 3736 ∧ ∀ x, x < 26 → d 272 (p + x) = g x
def GV (g : Nat → Int) : Prop := ∀ a : Nat, a < 2 → (0 ≤ g a ∧ g a ≤ 12) ∧ ∀ k : Nat, (k : Int) < g a → 0 ≤ g (2 + 12 * a + k) ∧ g (2 + 12 * a + k) ≤ 3
theorem Gd_ag {cs fs : List Nat} {d d' : sD} (h : Gd d g) (hA : Ag cs fs d d') (h1 : 272 ∉ cs) (h2 : 11 ∉ fs) : Gd d' g := by
  obtain ⟨p, q1, q2, q3⟩ := h
  exact ⟨p, by rw [hA.2 11 h2]; exact q1, q2, fun y hy => by rw [hA.1 272 _ h1 (by decide)]; exact q3 y hy⟩
/-- the row of a score -/
def rowS (w g : Nat → Int) : List (Int × Int) := layP (w 0).toNat (g 0).toNat (g 1).toNat (fun k => g (2 + k)) (fun k => g (14 + k)) 12
theorem rowS_len (hV : WV w) (hG : GV g) : (rowS w g).length = (g 0).toNat + (g 1).toNat := by
  unfold rowS
  rw [layP_len]
  have h0 := (hG 0 (by decide)).1
  have h1 := (hG 1 (by decide)).1
  have ht := hV.1
  have : 12 ≤ (w 0).toNat * 12 := by omega
  omega

/-- what takesScore has taken of the givers below a, and of the giver a the first k beats -/
def TkI (d : sD) (g : Nat → Int) (a k : Nat) (e : sD) : Prop := Ag [275, 276] [] d e ∧ (∀ b : Nat, b < a → e 276 b = g b ∧ ∀ i : Nat, (i : Int) < g b → e 275 (12 * b + i) = g (2 + 12 * b + i)) ∧ ∀ i : Nat, i < k → e 275 (12 * a + i) = g (2 + 12 * a + i)
/-- the lists that are given hold a score -/
def GH (d : sD) (g : Nat → Int) : Prop := ∀ a : Nat, a < 2 → d 276 a = g a ∧ ∀ i : Nat, (i : Int) < g a → d 275 (12 * a + i) = g (2 + 12 * a + i)
theorem GH_ag {cs fs : List Nat} {d d' : sD} (h : GH d g) (hA : Ag cs fs d d') (h1 : 275 ∉ cs ∧ 276 ∉ cs) : GH d' g := fun a ha => ⟨by rw [hA.1 _ _ h1.2 (by decide)]; exact (h a ha).1, fun i hi => by rw [hA.1 _ _ h1.1 (by decide)]; exact (h a ha).2 i hi⟩
/-- what is given is laid -/
theorem GH_HL {e : sD} (hW : Wd e w) (hV : WV w) (h1 : GH e g) (hG : GV g) : LyH e w (w 0).toNat (g 0).toNat (g 1).toNat := by
  have hg0 := (hG 0 (by decide)).1
  have hg1 := (hG 1 (by decide)).1
  have ht := hV.1
  exact ⟨hW, by omega, by omega, by omega, by rw [(h1 0 (by decide)).1]; omega, by rw [(h1 1 (by decide)).1]; omega, by omega, by omega⟩
theorem GH_row {e : sD} (h1 : GH e g) : layP (w 0).toNat (g 0).toNat (g 1).toNat (lyX e) (lyY e) 12 = rowS w g := layP_congr (fun k hk => by have := (h1 0 (by decide)).2 k (by omega); rw [show 12 * 0 + k = k by omega, show 2 + 12 * 0 + k = 2 + k by omega] at this; exact this) (fun k hk => by have := (h1 1 (by decide)).2 k (by omega); exact this) 12
theorem t_laysG (hW : Wd d w) (hV : WV w) (h1 : GH d g) (hG : GV g) : tB G mX12_laysRow 0 [vR 271, vU 0, vU 0, vU 0] [] d (fun r d' => r = none ∧ Laid d' (rowS w g) ∧ Ag [277, 278] [18] d d') := (t_laysRow (GH_HL hW hV h1 hG)).mono (by
  rintro r d' ⟨rfl, rfl⟩
  rw [GH_row h1]
  exact ⟨rfl, layD_Laid, layD_Ag⟩)
abbrev tkQ (d : sD) (w g : Nat → Int) : Option sV → sD → Prop := fun r d' => r = none ∧ Laid d' (rowS w g) ∧ Ag [275, 276, 277, 278] [18] d d' ∧ GH d' g
theorem tk26 {p : Nat} (hp : d 271 11 = (p : Int)) (hp2 : p + 26 ≤ 3736) (hg : ∀ x, x < 26 → d 272 (p + x) = g x) (hG : GV g) {a : Nat} (ha : a < 2) (hnext : ∀ e, TkI d g (a + 1) 0 e → tB G mX12_takesScore 2 [vR 271, vI (a + 1 : Nat), vU 0] [] e (tkQ d w g)) :
    ∀ x : Nat × sD, (TkI d g a x.1 x.2 ∧ x.2 276 a = g a ∧ (x.1 : Int) ≤ g a) → tB G mX12_takesScore 26 [vR 271, vI a, vI x.1] [] x.2 (tkQ d w g) := by
  refine T_loop (α := Nat × sD) 26 (fun x => [vR 271, vI a, vI x.1]) (fun x => x.2) (fun x => TkI d g a x.1 x.2 ∧ x.2 276 a = g a ∧ (x.1 : Int) ≤ g a) (fun x => 12 - x.1) ?_
  rintro ⟨k, e⟩ ⟨⟨hA, h1, h2⟩, h3, h4⟩ ih
  try dsimp only at hA h1 h2 h3 h4 ih ⊢
  obtain ⟨gb, gk⟩ := hG a ha
  have e11 : e 271 11 = (p : Int) := (hA.2 11 (by decide)).trans hp

  refine T_iload_n dX12_takesScore_26 rfl ?_
  refine T_aload_n dX12_takesScore_27 rfl ?_
  refine T_getR dX12_takesScore_28 fX12_23 rfl k271 r271_13 ?_
  refine T_iload_n dX12_takesScore_31 rfl ?_
  refine T_ialdv dX12_takesScore_32 k276 l276 (by omega) (j := a) rfl (x := g a) h3 ?_
  refine T_icmp_ge (tgt := 71) dX12_takesScore_33 (by decide) (fun c33 => ?_) (fun c33 => ?_)
  · refine T_inc dX12_takesScore_71 rfl (by decide) rfl (by omega) ?_
    refine T_goto (tgt := 2) dX12_takesScore_74 (by decide) ?_
    refine T_drop 2 ?_
    refine hnext e ⟨hA, fun b hb => ?_, fun i hi => absurd hi (Nat.not_lt_zero i)⟩
    rcases Nat.lt_or_ge b a with q | q
    · exact h1 b q
    · have : b = a := by omega
      subst this
      exact ⟨h3, fun i hi => h2 i (by omega)⟩
  · refine T_aload_n dX12_takesScore_36 rfl ?_
    refine T_getR dX12_takesScore_37 fX12_20 rfl k271 r271_12 ?_
    refine T_bipush dX12_takesScore_40 (by decide) ?_
    refine T_iload_n dX12_takesScore_42 rfl ?_
    refine T_mul dX12_takesScore_43 (by omega) ?_
    refine T_iload_n dX12_takesScore_44 rfl ?_
    refine T_add dX12_takesScore_45 (by omega) ?_
    refine T_aload_n dX12_takesScore_46 rfl ?_
    refine T_getR dX12_takesScore_47 fX12_7 rfl k271 r271_0 ?_
    refine T_aload_n dX12_takesScore_50 rfl ?_
    refine T_getIv dX12_takesScore_51 fX12_237 rfl k271 (x := (p : Int)) e11 ?_
    refine T_iconst dX12_takesScore_54 (by decide) ?_
    refine T_add dX12_takesScore_55 (by omega) ?_
    refine T_bipush dX12_takesScore_56 (by decide) ?_
    refine T_iload_n dX12_takesScore_58 rfl ?_
    refine T_mul dX12_takesScore_59 (by omega) ?_
    refine T_add dX12_takesScore_60 (by omega) ?_
    refine T_iload_n dX12_takesScore_61 rfl ?_
    refine T_add dX12_takesScore_62 (by omega) ?_
    refine T_ialdv dX12_takesScore_63 k272 l272 (by omega) (j := p + 2 + 12 * a + k) (by omega) (x := g (2 + 12 * a + k)) ((hA.1 272 _ (by decide) (by decide)).trans (by rw [show p + 2 + 12 * a + k = p + (2 + 12 * a + k) by omega]; exact hg _ (by omega))) ?_
    refine T_iast dX12_takesScore_64 k275 l275 (by omega) (j := 12 * a + k) (by omega) ?_
    refine T_inc dX12_takesScore_65 rfl (by decide) rfl (by omega) ?_
    refine T_goto (tgt := 26) dX12_takesScore_68 (by decide) ?_
    refine ih (k + 1, up e 275 (12 * a + k) (g (2 + 12 * a + k))) ?_ (by show 12 - (k + 1) < 12 - k; omega)
    dsimp only
    refine ⟨⟨Ag_up hA (by decide), fun b hb => ⟨?_, fun i hi => ?_⟩, fun i hi => ?_⟩, ?_, ?_⟩
    · rw [up_nea (by decide)]; exact (h1 b hb).1
    · have hbb := (hG b (by omega)).1
      rw [up_nej (by omega)]; exact (h1 b hb).2 i hi
    · by_cases q : i = k
      · subst q; exact up_same
      · rw [up_nej (by omega)]; exact h2 i (by omega)
    · rw [up_nea (by decide)]; exact h3
    · omega

theorem tk2 (hW : Wd d w) (hV : WV w) (hGd : Gd d g) (hG : GV g) : ∀ x : Nat × sD, (x.1 ≤ 2 ∧ TkI d g x.1 0 x.2) → tB G mX12_takesScore 2 [vR 271, vI x.1, vU 0] [] x.2 (tkQ d w g) := by
  refine T_loop (α := Nat × sD) 2 (fun x => [vR 271, vI x.1, vU 0]) (fun x => x.2) (fun x => x.1 ≤ 2 ∧ TkI d g x.1 0 x.2) (fun x => 2 - x.1) ?_
  rintro ⟨a, e⟩ ⟨ha2, hA, h1, h2⟩ ih
  try dsimp only at hA h1 h2 ih ha2 ⊢
  obtain ⟨p, hp, hp2, hg⟩ := hGd
  have e11 : e 271 11 = (p : Int) := (hA.2 11 (by decide)).trans hp
  have hgd : ∀ x, x < 26 → e 272 (p + x) = g x := fun x hx => (hA.1 272 _ (by decide) (by decide)).trans (hg x hx)

  refine T_iload_n dX12_takesScore_2 rfl ?_
  refine T_iconst dX12_takesScore_3 (by decide) ?_
  refine T_icmp_ge (tgt := 77) dX12_takesScore_4 (by decide) (fun c4 => ?_) (fun c4 => ?_)
  · have e2 : a = 2 := by omega
    subst e2
    have hg0 := (hG 0 (by decide)).1
    have hg1 := (hG 1 (by decide)).1
    have ht := hV.1
    have HL : LyH e w (w 0).toNat (g 0).toNat (g 1).toNat := ⟨Wd_ag hW hA (by decide) (by decide), by omega, by omega, by omega, by rw [(h1 0 (by decide)).1]; omega, by rw [(h1 1 (by decide)).1]; omega, by omega, by omega⟩
    have hrow : layP (w 0).toNat (g 0).toNat (g 1).toNat (lyX e) (lyY e) 12 = rowS w g := layP_congr (fun k hk => by have := (h1 0 (by decide)).2 k (by omega); rw [show 12 * 0 + k = k by omega, show 2 + 12 * 0 + k = 2 + k by omega] at this; exact this) (fun k hk => by have := (h1 1 (by decide)).2 k (by omega); exact this) 12
    have hLd : Laid (layD e (layP (w 0).toNat (g 0).toNat (g 1).toNat (lyX e) (lyY e) 12)) (rowS w g) := by rw [hrow]; exact layD_Laid
    refine T_aload_n dX12_takesScore_77 rfl ?_
    refine T_callV dX12_takesScore_78 lX12_246 (As := []) (rest := _) rfl rfl k271 (by decide) (Nat.le_of_ble_eq_true rfl) (Nat.le_of_ble_eq_true rfl) (t_laysRow (w := w) (t := (w 0).toNat) (m0 := (g 0).toNat) (m1 := (g 1).toNat) HL) ?_
    rintro _ _ ⟨rfl, rfl⟩
    exact T_return dX12_takesScore_81 rfl ⟨rfl, hLd, Ag.trans hA layD_Ag (by decide) (by decide) (by decide) (by decide), GH_ag h1 layD_Ag (by decide)⟩
  · refine T_aload_n dX12_takesScore_7 rfl ?_
    refine T_getR dX12_takesScore_8 fX12_23 rfl k271 r271_13 ?_
    refine T_iload_n dX12_takesScore_11 rfl ?_
    refine T_aload_n dX12_takesScore_12 rfl ?_
    refine T_getR dX12_takesScore_13 fX12_7 rfl k271 r271_0 ?_
    refine T_aload_n dX12_takesScore_16 rfl ?_
    refine T_getIv dX12_takesScore_17 fX12_237 rfl k271 (x := (p : Int)) e11 ?_
    refine T_iload_n dX12_takesScore_20 rfl ?_
    refine T_add dX12_takesScore_21 (by omega) ?_
    refine T_ialdv dX12_takesScore_22 k272 l272 (by omega) (j := p + a) (by omega) (x := g a) (hgd a (by omega)) ?_
    refine T_iast dX12_takesScore_23 k276 l276 (by omega) (j := a) rfl ?_
    refine T_iconst dX12_takesScore_24 (by decide) ?_
    refine T_ist_n dX12_takesScore_25 (by decide) rfl ?_
    have ga := (hG a (by omega)).1
    refine tk26 (G := G) hp hp2 hg hG (by omega) (fun e' h => ih (a + 1, e') ⟨by show a + 1 ≤ 2; omega, h⟩ (by show 2 - (a + 1) < 2 - a; omega)) (0, up e 276 a (g a)) ?_
    dsimp only
    refine ⟨⟨Ag_up hA (by decide), fun b hb => ?_, fun i hi => absurd hi (Nat.not_lt_zero i)⟩, up_same, by omega⟩
    exact ⟨by rw [up_nej (by omega)]; exact (h1 b hb).1, fun i hi => by rw [up_nea (by decide)]; exact (h1 b hb).2 i hi⟩

theorem t_takesScore (hW : Wd d w) (hV : WV w) (hGd : Gd d g) (hG : GV g) : tB G mX12_takesScore 0 [vR 271, vU 0, vU 0] [] d (tkQ d w g) := by
  refine T_iconst dX12_takesScore_0 (by decide) ?_
  refine T_ist_n dX12_takesScore_1 (by decide) rfl ?_
  exact tk2 (G := G) hW hV hGd hG (0, d) ⟨Nat.zero_le 2, Ag.rf, fun b hb => absurd hb (Nat.not_lt_zero b), fun i hi => absurd hi (Nat.not_lt_zero i)⟩

end M8
