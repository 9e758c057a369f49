/-! what a text tells is sound -/
section C58
variable {T : Nat → Int} {n p q : Nat} {x : Int × Int} {dr : Nat → Int}
theorem gNum_t {k : Nat → Bool × Nat} (h : (gNum T n p k).1 = true) : kdT T n p = 1 ∧ (k (avT T n p)).1 = true := by
  unfold gNum at h
  by_cases z : kdT T n p = 1
  · rw [if_pos z] at h; exact ⟨z, h⟩
  · rw [if_neg z] at h; exact absurd (show false = true from h) (by decide)
theorem gWd_t {lo hi : Int} {k : Nat → Bool × Nat} (h : (gWd T n lo hi p k).1 = true) : isW T n p lo hi ∧ (k (avT T n p)).1 = true := by
  unfold gWd at h
  by_cases z : isW T n p lo hi
  · rw [if_pos z] at h; exact ⟨z, h⟩
  · rw [if_neg z] at h; exact absurd (show false = true from h) (by decide)
theorem isW_j {lo hi : Int} {j : Nat} (h : TV n T) (hp : p ≤ n) (hj : j < nbT T n lo hi p) : isW T n (tkI T n j p) lo hi := (isW_tk h hp (by omega)).mpr hj
theorem GV_sco (h : TV n T) (hp : p ≤ n) (hV : GV dr) (hx : (xSco T n x dr p).1 = 0) : GV (dSco T n dr p) := by
  have hp2 := (h.av (h.av hp).2).2
  have q := xSj_0 hx
  have hg2 := gvT_2 (T := T) (n := n) (p := avT T n p)
  unfold dSco
  intro a ha
  have hVa := hV a ha
  have hVg := (hV _ hg2).1
  generalize gvT T n (avT T n p) = g at q hg2 hVg ⊢
  generalize hP : avT T n (avT T n p) = p2 at q hp2 ⊢
  generalize hM : nbT T n 10 13 p2 = m at q ⊢
  by_cases z : a = g
  · subst z
    rw [show dSj T n dr a p2 m a = dr a + (m : Int) from if_pos rfl]
    refine ⟨by omega, fun k hk => ?_⟩
    by_cases y : 2 + 12 * a + (dr a).toNat ≤ 2 + 12 * a + k ∧ 2 + 12 * a + k < 2 + 12 * a + (dr a).toNat + m
    · rw [show dSj T n dr a p2 m (2 + 12 * a + k) = woT T n (tkI T n (2 + 12 * a + k - (2 + 12 * a + (dr a).toNat)) p2) - 10 by
        show (if _ then _ else if _ then _ else _) = _
        rw [if_neg (by omega), if_pos y]]
      have w := (isW_j (lo := 10) (hi := 13) (j := 2 + 12 * a + k - (2 + 12 * a + (dr a).toNat)) h hp2 (by omega)).2
      omega
    · rw [show dSj T n dr a p2 m (2 + 12 * a + k) = dr (2 + 12 * a + k) by
        show (if _ then _ else if _ then _ else _) = _
        rw [if_neg (by omega), if_neg y]]
      exact hVa.2 k (by omega)
  · have ea : dSj T n dr g p2 m a = dr a := by show (if _ then _ else if _ then _ else _) = _; rw [if_neg z, if_neg (by omega)]
    rw [ea]
    refine ⟨hVa.1, fun k hk => ?_⟩
    have hk2 := hVa.1
    rw [show dSj T n dr g p2 m (2 + 12 * a + k) = dr (2 + 12 * a + k) by show (if _ then _ else if _ then _ else _) = _; rw [if_neg (by omega), if_neg (by omega)]]
    exact hVa.2 k hk
theorem HV_hea (h : TV n T) (hp : p ≤ n) (hV : HV dr) (hx : (xHea T n x p).1 = 0) : HV (dHea T n dr p) := by
  have hp2 := (h.av (h.av hp).2).2
  have q := xMj_0 hx
  have hg2 := gvT_2 (T := T) (n := n) (p := avT T n p)
  unfold dHea
  intro a ha
  have hVa := hV a ha
  generalize gvT T n (avT T n p) = g at hg2 ⊢
  generalize hP : avT T n (avT T n p) = p2 at q hp2 ⊢
  generalize hM : nbT T n 14 18 p2 = m at q ⊢
  by_cases z : a = g
  · subst z
    rw [show dHl T n dr a p2 m a = (m : Int) from if_pos rfl]
    refine ⟨by omega, fun k hk => ?_⟩
    rw [show dHl T n dr a p2 m (2 + 6 * a + k) = woT T n (tkI T n k p2) - 14 by
      show (if _ then _ else if _ then _ else _) = _
      rw [if_neg (by omega), if_pos (by omega), show 2 + 6 * a + k - (2 + 6 * a) = k by omega]]
    have w := (isW_j (lo := 14) (hi := 18) (j := k) h hp2 (by omega)).2
    omega
  · have ea : dHl T n dr g p2 m a = dr a := by show (if _ then _ else if _ then _ else _) = _; rw [if_neg z, if_neg (by omega)]
    rw [ea]
    refine ⟨hVa.1, fun k hk => ?_⟩
    have hk2 := hVa.1
    rw [show dHl T n dr g p2 m (2 + 6 * a + k) = dr (2 + 6 * a + k) by show (if _ then _ else if _ then _ else _) = _; rw [if_neg (by omega), if_neg (by omega)]]
    exact hVa.2 k hk
theorem vlD_k {a b c e : Int} {k : Nat} (h0 : 0 ≤ dr 0) (hk : (k : Int) < dr 0) : vlD dr a b c e (1 + 4 * k) = dr (1 + 4 * k) ∧ vlD dr a b c e (2 + 4 * k) = dr (2 + 4 * k) ∧ vlD dr a b c e (3 + 4 * k) = dr (3 + 4 * k) ∧ vlD dr a b c e (4 + 4 * k) = dr (4 + 4 * k) := by
  unfold vlD
  try dsimp only
  refine ⟨?_, ?_, ?_, ?_⟩ <;> rw [if_neg (by omega), if_neg (by omega), if_neg (by omega), if_neg (by omega), if_neg (by omega)]
theorem vlD_n {a b c e : Int} {k : Nat} (hk : dr 0 = (k : Int)) : vlD dr a b c e (1 + 4 * k) = a ∧ vlD dr a b c e (2 + 4 * k) = b ∧ vlD dr a b c e (3 + 4 * k) = c ∧ vlD dr a b c e (4 + 4 * k) = e := by
  have hk2 : (dr 0).toNat = k := by omega
  unfold vlD
  try dsimp only
  rw [hk2]
  refine ⟨?_, ?_, ?_, ?_⟩
  · rw [if_neg (by omega), if_pos rfl]
  · rw [if_neg (by omega), if_neg (by omega), if_pos rfl]
  · rw [if_neg (by omega), if_neg (by omega), if_neg (by omega), if_pos rfl]
  · rw [if_neg (by omega), if_neg (by omega), if_neg (by omega), if_neg (by omega), if_pos rfl]
theorem VV_vil (hV : VV dr) (hg : (gVil T n p).1 = true) (hx : (xVil T n x dr p).1 = 0) : VV (dVil T n dr p) := by
  obtain ⟨hw, hg1⟩ := gWd_t hg
  obtain ⟨hk1, hg2⟩ := gNum_t hg1
  have hw2 := hw.2
  have hnm := nmT_rg (T := T) (n := n) (p := avT T n p)
  unfold xVil at hx
  unfold dVil
  generalize hv : woT T n p - 21 = v at hx hg2 ⊢
  generalize hP : avT T n (avT T n p) = p2 at hx hg2 ⊢
  have hx1 : (xV1 T n (xV0 x dr p) dr (avT T n p)).1 = 0 ∧ (v = 0 → inR (nmT T n p2) 1 9) := by
    unfold xV2 at hx
    by_cases z : v = 0
    · rw [if_pos z] at hx; have q := xNum_0 hx; exact ⟨q.1, fun _ => q.2⟩
    · rw [if_neg z] at hx
      refine ⟨?_, fun y => absurd y z⟩
      split at hx
      · exact absurd hx (fun u => (ntA_0 (by decide)).mp u)
      · exact hx
  have hb : (v = 1 ∨ v = 2 → isW T n p2 10 13) ∧ (v = 1 → isW T n (avT T n p2) 10 13) := by
    unfold gVi2 at hg2
    refine ⟨fun z => ?_, fun z => ?_⟩
    · rcases z with rfl | rfl
      · rw [if_neg (by decide), if_pos rfl] at hg2; exact (gWd_t hg2).1
      · rw [if_neg (by decide), if_neg (by decide), if_pos rfl] at hg2; exact (gWd_t hg2).1
    · subst z
      rw [if_neg (by decide), if_pos rfl] at hg2; exact (gWd_t (gWd_t hg2).2).1
  have q1 := xV1_0 hx1.1
  have q0 := xV0_0 q1.1
  obtain ⟨⟨v0, v8⟩, vk⟩ := hV
  obtain ⟨c, hc⟩ : ∃ c : Nat, dr 0 = (c : Int) := ⟨(dr 0).toNat, by omega⟩
  refine ⟨?_, fun k hk => ?_⟩
  · show 0 ≤ dr 0 + 1 ∧ dr 0 + 1 ≤ 8; omega
  · have hk' : (k : Int) < dr 0 + 1 := hk
    by_cases z : k = c
    · subst z
      obtain ⟨r1, r2, r3, r4⟩ := vlD_n (a := nmT T n (avT T n p)) (b := v) (c := if v = 0 then nmT T n p2 else if v = 3 then -1 else woT T n p2 - 10) (e := if v = 1 then woT T n (avT T n p2) - 10 else -1) hc
      rw [r1, r2, r3, r4]
      refine ⟨by omega, by omega, fun y => ?_, fun y => ?_, fun y => ?_⟩
      · rw [if_pos y]; exact hx1.2 y
      · have w := (hb.1 y).2
        rw [if_neg (by omega), if_neg (by omega)]; omega
      · have w := (hb.2 y).2
        rw [if_pos y]; omega
    · obtain ⟨r1, r2, r3, r4⟩ := vlD_k (a := nmT T n (avT T n p)) (b := v) (c := if v = 0 then nmT T n p2 else if v = 3 then -1 else woT T n p2 - 10) (e := if v = 1 then woT T n (avT T n p2) - 10 else -1) v0 (show (k : Int) < dr 0 by omega)
      rw [r1, r2, r3, r4]
      exact vk k (by omega)
theorem WV_up {i : Nat} {v : Int} (hV : WV dr) (hi : i < 15) (h0 : i = 0 → 1 ≤ v ∧ v ≤ 4) (h1 : 1 ≤ i ∧ i ≤ 2 → 0 ≤ v ∧ v ≤ 9) (h3 : 3 ≤ i ∧ i ≤ 8 → 0 ≤ v ∧ v ≤ 3) (h9 : 9 ≤ i ∧ i ≤ 10 → 1 ≤ v ∧ v ≤ 4) (h11 : 11 ≤ i ∧ i ≤ 12 → 0 ≤ v ∧ v ≤ 3) (h13 : 13 ≤ i → 0 ≤ v ∧ v ≤ 20) : WV (upF dr i v) := by
  obtain ⟨v1, v2, v3, v4, v5, v6⟩ := hV
  have key : ∀ (j : Nat) (lo hi2 : Int), (lo ≤ dr j ∧ dr j ≤ hi2) → (i = j → lo ≤ v ∧ v ≤ hi2) → lo ≤ upF dr i v j ∧ upF dr i v j ≤ hi2 := fun j lo hi2 q1 q2 => by
    by_cases z : j = i
    · rw [z, show upF dr i v i = v from if_pos rfl]; exact q2 z.symm
    · rw [show upF dr i v j = dr j from if_neg z]; exact q1
  have o : ∀ j, 15 ≤ j → upF dr i v j = dr j := fun j hj => if_neg (by omega)
  refine ⟨key 0 1 4 v1 (fun z => h0 z), key 1 0 9 v2 (fun z => h1 (by omega)), key 2 0 9 v3 (fun z => h1 (by omega)), fun b hb => key _ 0 3 (v4 b hb) (fun z => h3 (by omega)), fun a ha => ?_, fun a k ha hk => ?_⟩
  · obtain ⟨w1, w2, w3, w4, w5⟩ := v5 a ha
    exact ⟨key _ 0 3 w1 (fun z => h3 (by omega)), key _ 1 4 w2 (fun z => h9 (by omega)), key _ 0 3 w3 (fun z => h11 (by omega)), key _ 0 20 w4 (fun z => h13 (by omega)), by rw [o _ (by omega)]; exact w5⟩
  · rw [o _ (by omega)] at hk
    obtain ⟨w1, w2, w3⟩ := v6 a k ha hk
    refine ⟨by rw [o _ (by omega)]; exact w1, by rw [o _ (by omega)]; exact w2, fun i2 hi2 => ?_⟩
    rw [o _ (by omega)] at hi2
    rw [o _ (by omega)]; exact w3 i2 hi2
theorem WV_ord (h : TV n T) (hp : p ≤ n) (hV : WV dr) (hg : (gOrd T n p).1 = true) (hx : (xOrd T n x dr p).1 = 0) : WV (dOrd T n dr p) := by
  obtain ⟨hw, hg1⟩ := gWd_t hg
  obtain ⟨hk1, hg2⟩ := gNum_t hg1
  obtain ⟨hw2, hg3⟩ := gWd_t hg2
  have hp3 : p3T T n p ≤ n := (h.av (h.av (h.av hp).2).2).2
  have hw3 : isW T n (p3T T n p) 10 13 := by
    by_cases z : isW T n (p3T T n p) 10 13
    · exact z
    · exact absurd (show (if isW T n (p3T T n p) 10 13 then (true, tkI T n (nbT T n 10 13 (p3T T n p)) (p3T T n p)) else (false, p3T T n p)).1 = true from hg3) (by rw [if_neg z]; exact fun u => absurd (show false = true from u) (by decide))
  have q := xMj_0 hx
  have q1 := xO1_0 q.1
  have hg2 := gvT_2 (T := T) (n := n) (p := avT T n p)
  have h5 := (hV.2.2.2.2.1 _ hg2).2.2.2.2
  obtain ⟨c, hc⟩ : ∃ c : Nat, dr (15 + gvT T n (avT T n p)) = (c : Int) := ⟨(dr (15 + gvT T n (avT T n p))).toNat, by omega⟩
  unfold dOrd
  rw [hc, Int.toNat_natCast]
  have hnb := nbT_y h hp3 hw3
  have hw2' := hw2.2
  exact WV_ol hV hg2 hc (by omega) (by omega) ⟨by omega, by omega⟩ (fun i hi => by
    have w := (isW_j (lo := 10) (hi := 13) (j := i) h hp3 hi).2
    exact ⟨by omega, by omega⟩)
theorem WV_war (h : TV n T) (hp : p ≤ n) (hV : WV dr) (hg : (gWar T n p).1 = true) (hx : (xWar T n x dr p).1 = 0) : WV (dWar T n dr p) := by
  unfold gWar at hg
  unfold xWar at hx
  unfold dWar
  by_cases z : isW T n p 9 9
  · rw [if_pos z] at hg hx ⊢
    refine WV_ord h hp hV ?_ hx
    unfold gEnd at hg
    by_cases y : (gOrd T n p).1 = true
    · exact y
    · rw [if_neg y] at hg; exact hg
  · rw [if_neg z] at hg hx ⊢
    obtain ⟨hw, hg1⟩ := gWd_t hg
    have hw2 := hw.2
    generalize woT T n p = v at hx hg1 hw2 ⊢
    generalize avT T n p = p1 at hx hg1 ⊢
    unfold gWa2 at hg1
    unfold xWa2 at hx
    unfold dWa2
    have hlo : loW v = if v = 1 ∨ v = 6 then 1 else 0 := rfl
    have hhi : hiW v = if v = 1 ∨ v = 6 then 4 else if v = 5 ∨ v = 7 then 3 else if v = 8 then 20 else 9 := rfl
    by_cases c3 : v ≤ 3
    · rw [if_pos c3] at hx ⊢
      have q := (xNum_0 hx).2
      rcases (show v = 1 ∨ v = 2 ∨ v = 3 by omega) with rfl | rfl | rfl
      · have q' : 1 ≤ nmT T n p1 ∧ nmT T n p1 ≤ 4 := q
        exact WV_up (i := 0) hV (by decide) (fun _ => q') (fun u => by omega) (fun u => by omega) (fun u => by omega) (fun u => by omega) (fun u => by omega)
      · have q' : 0 ≤ nmT T n p1 ∧ nmT T n p1 ≤ 9 := q
        exact WV_up (i := 1) hV (by decide) (fun u => by omega) (fun u => q') (fun u => by omega) (fun u => by omega) (fun u => by omega) (fun u => by omega)
      · have q' : 0 ≤ nmT T n p1 ∧ nmT T n p1 ≤ 9 := q
        exact WV_up (i := 2) hV (by decide) (fun u => by omega) (fun u => q') (fun u => by omega) (fun u => by omega) (fun u => by omega) (fun u => by omega)
    · rw [if_neg c3] at hx hg1 ⊢
      by_cases c4 : v = 4
      · rw [if_pos c4] at hx hg1 ⊢
        obtain ⟨k1, k2⟩ := gWd_t hg1
        have k3 := (gWd_t k2).1.2
        have k1' := k1.2
        exact WV_up hV (by omega) (fun u => by omega) (fun u => by omega) (fun u => by omega) (fun u => by omega) (fun u => by omega) (fun u => by omega)
      · rw [if_neg c4] at hx hg1 ⊢
        have q := (xNum_0 hx).2
        have hg2 := gvT_2 (T := T) (n := n) (p := p1)
        generalize gvT T n p1 = g at hg2 ⊢
        rcases (show v = 5 ∨ v = 6 ∨ v = 7 ∨ v = 8 by omega) with rfl | rfl | rfl | rfl
        · have q' : 0 ≤ nmT T n (avT T n p1) ∧ nmT T n (avT T n p1) ≤ 3 := q
          exact WV_up (i := 7 + 2 * (5 - 5 : Int).toNat + g) hV (by omega) (fun u => by omega) (fun u => by omega) (fun u => q') (fun u => by omega) (fun u => by omega) (fun u => by omega)
        · have q' : 1 ≤ nmT T n (avT T n p1) ∧ nmT T n (avT T n p1) ≤ 4 := q
          exact WV_up (i := 7 + 2 * (6 - 5 : Int).toNat + g) hV (by omega) (fun u => by omega) (fun u => by omega) (fun u => by omega) (fun u => q') (fun u => by omega) (fun u => by omega)
        · have q' : 0 ≤ nmT T n (avT T n p1) ∧ nmT T n (avT T n p1) ≤ 3 := q
          exact WV_up (i := 7 + 2 * (7 - 5 : Int).toNat + g) hV (by omega) (fun u => by omega) (fun u => by omega) (fun u => by omega) (fun u => by omega) (fun u => q') (fun u => by omega)
        · have q' : 0 ≤ nmT T n (avT T n p1) ∧ nmT T n (avT T n p1) ≤ 20 := q
          exact WV_up (i := 7 + 2 * (8 - 5 : Int).toNat + g) hV (by omega) (fun u => by omega) (fun u => by omega) (fun u => by omega) (fun u => by omega) (fun u => by omega) (fun u => q')
/-- a row of a sort is sound -/
def SV (s : Nat) (w : Nat → Int) : Prop := if s = 0 then WV w else if s = 1 then GV w else if s = 2 then HV w else VV w
theorem SV_ln {s : Nat} (h : TV n T) (hp : p ≤ n) (hV : SV s dr) (hg : (gLn T n s p).1 = true) (hx : (xLn T n s x dr p).1 = 0) : SV s (dLn T n s dr p) := by
  by_cases z : s = 0
  · subst z; exact WV_war h hp hV hg hx
  · by_cases y : s = 1
    · subst y; exact GV_sco h hp hV hx
    · by_cases u : s = 2
      · subst u; exact HV_hea h hp hV hx
      · unfold SV gLn xLn dLn at *
        rw [if_neg z, if_neg y, if_neg u] at *
        rw [if_neg z, if_neg y, if_neg u]
        exact VV_vil hV hg hx
theorem SV_cl {s : Nat} (hs : s < 4) : SV s (clS (s : Int)) := by
  rcases (show s = 0 ∨ s = 1 ∨ s = 2 ∨ s = 3 by omega) with rfl | rfl | rfl | rfl
  · refine ⟨by decide, by decide, by decide, by decide, by decide, fun a k ha hk => ?_⟩
    rcases (show a = 0 ∨ a = 1 by omega) with rfl | rfl
    · exact absurd (show (k : Int) < 0 from hk) (by omega)
    · exact absurd (show (k : Int) < 0 from hk) (by omega)
  · intro a ha
    rcases (show a = 0 ∨ a = 1 by omega) with rfl | rfl
    · exact ⟨by decide, fun k hk => absurd (show (k : Int) < 0 from hk) (by omega)⟩
    · exact ⟨by decide, fun k hk => absurd (show (k : Int) < 0 from hk) (by omega)⟩
  · intro a ha
    rcases (show a = 0 ∨ a = 1 by omega) with rfl | rfl
    · exact ⟨by decide, fun k hk => absurd (show (k : Int) < -1 from hk) (by omega)⟩
    · exact ⟨by decide, fun k hk => absurd (show (k : Int) < -1 from hk) (by omega)⟩
  · exact ⟨by decide, fun k hk => absurd (show (k : Int) < 0 from hk) (by omega)⟩
end C58
