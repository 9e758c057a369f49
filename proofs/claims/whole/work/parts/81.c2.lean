/-! the class: numbers as beats, the row is laid -/
section C2
variable {G : sG} {d d' : sD} {w g : Nat → Int} {wo so : Nat}
/-- the memory gets a name -/
theorem T_nm {M : sM} {pc : Nat} {ls st : List sV} {Q : Option sV → sD → Prop} (h : ∀ m2, m2 = d → tB G M pc ls st m2 Q) : tB G M pc ls st d Q := h d rfl
theorem dg_sh0 : ∀ k : Nat, k < 5 → ∀ p : Nat, p < 32 → ∀ q : Nat, q < 32 → i_and (i_shr ((32 * p + q : Nat) : Int) (2 * (k : Int))) 3 = (((32 * p + q) / 4 ^ k % 4 : Nat) : Int) := by decide +kernel
theorem dg_sh {n i c : Nat} (hn : n ≤ 5) (hi : i < n) (hc : c < 1024) : i_and (i_shr (c : Int) (2 * ((n : Int) - 1 - (i : Int)))) 3 = dgN c n i := by
  have h := dg_sh0 (n - 1 - i) (by omega) (c / 32) (by omega) (c % 32) (by omega)
  rw [show 32 * (c / 32) + c % 32 = c by omega, show ((n - 1 - i : Nat) : Int) = (n : Int) - 1 - (i : Int) by omega] at h
  exact h
def Hs (d : sD) (so a : Nat) (m : Int) (x : Nat → Int) : Prop := d (so + 1) a = m ∧ ∀ i : Nat, (i : Int) < m → d (so + 2) (12 * a + i) = x i
theorem So_sc {m0 m1 : Int} {x y : Nat → Int} (h0 : Hs d so 0 m0 x) (h1 : Hs d so 1 m1 y) (hm : m0 ≤ 12) : So d so (scS m0 m1 x y) := by
  intro a ha
  match a, ha with
  | 0, _ => exact ⟨h0.1, fun k hk => by have hk' : (k : Int) < m0 := hk; rw [show 2 + 12 * 0 + k = 2 + k by omega, sc_x (by omega)]; exact h0.2 k hk⟩
  | 1, _ => exact ⟨h1.1, fun k hk => by rw [show 2 + 12 * 1 + k = 14 + k by omega, sc_y]; exact h1.2 k hk⟩
theorem So_Hs (h : So d so g) {a : Nat} (ha : a < 2) : Hs d so a (g a) (fun k => g (2 + 12 * a + k)) := h a ha
abbrev cgnQ (d : sD) (so a c n : Nat) : Option sV → sD → Prop := fun r d' => r = none ∧ Hs d' so a n (dgN c n) ∧ (∀ b m y, b < 2 → b ≠ a → m ≤ 12 → Hs d so b m y → Hs d' so b m y) ∧ Fr (so + 1) (so + 2) d d'
theorem t_giveNumber {a c n : Nat} (hs : kn S0 so = 6) (ha : a < 2) (hn : n ≤ 5) (hc : c < 4 ^ n) : tB G mX6_giveNumber 0 [vR so, vI a, vI c, vI n, vU 0, vU 0] [] d (cgnQ d so a c n) := by
  have hc2 : c < 1024 := Nat.lt_of_lt_of_le hc (pow4 n (by omega))
  have hmin : min (n : Int) 12 = (n : Int) := by omega
  have h19 : ∀ z : Nat × sD, (z.1 ≤ n ∧ z.2 (so + 1) a = (n : Int) ∧ (∀ i, i < z.1 → z.2 (so + 2) (12 * a + i) = dgN c n i) ∧ (∀ b, b ≠ a → z.2 (so + 1) b = d (so + 1) b) ∧ (∀ j, (j < 12 * a ∨ 12 * a + 12 ≤ j) → z.2 (so + 2) j = d (so + 2) j) ∧ Fr (so + 1) (so + 2) d z.2) → tB G mX6_giveNumber 19 [vR so, vI a, vI c, vI n, vI n, vI z.1] [] (z.2) (cgnQ d so a c n) := by
    refine T_loop (α := Nat × sD) 19 (fun z => [vR so, vI a, vI c, vI n, vI n, vI z.1]) (fun z => z.2) (fun z => z.1 ≤ n ∧ z.2 (so + 1) a = (n : Int) ∧ (∀ i, i < z.1 → z.2 (so + 2) (12 * a + i) = dgN c n i) ∧ (∀ b, b ≠ a → z.2 (so + 1) b = d (so + 1) b) ∧ (∀ j, (j < 12 * a ∨ 12 * a + 12 ≤ j) → z.2 (so + 2) j = d (so + 2) j) ∧ Fr (so + 1) (so + 2) d z.2) (fun z => n - z.1) ?_
    rintro ⟨k, e⟩ ⟨h1, h2, h3, h4, h5, h6⟩ ih
    try dsimp only at h1 h2 h3 h4 h5 h6 ih ⊢
    refine T_iload dX6_giveNumber_19 rfl ?_
    refine T_iload dX6_giveNumber_21 rfl ?_
    refine T_icmp_ge (tgt := 57) dX6_giveNumber_23 (by decide) (fun c23 => ?_) (fun c23 => ?_)
    · exact T_return dX6_giveNumber_57 rfl ⟨rfl, ⟨h2, fun i hi => h3 i (by omega)⟩, fun b m y hb hne hm hH => ⟨by rw [h4 b hne]; exact hH.1, fun i hi => by rw [h5 _ (by omega)]; exact hH.2 i hi⟩, h6⟩
    · refine T_aload_n dX6_giveNumber_26 rfl ?_
      refine T_getR dX6_giveNumber_27 fX6_15 rfl hs (rS1 hs) ?_
      refine T_iload_n dX6_giveNumber_30 rfl ?_
      refine T_bipush dX6_giveNumber_31 (by decide) ?_
      refine T_mul dX6_giveNumber_33 (by omega) ?_
      refine T_iload dX6_giveNumber_34 rfl ?_
      refine T_add dX6_giveNumber_36 (by omega) ?_
      refine T_iload_n dX6_giveNumber_37 rfl ?_
      refine T_iconst dX6_giveNumber_38 (by decide) ?_
      refine T_iload dX6_giveNumber_39 rfl ?_
      refine T_iconst dX6_giveNumber_41 (by decide) ?_
      refine T_sub dX6_giveNumber_42 (by omega) ?_
      refine T_iload dX6_giveNumber_43 rfl ?_
      refine T_sub dX6_giveNumber_45 (by omega) ?_
      refine T_mul dX6_giveNumber_46 (by omega) ?_
      refine T_ishr dX6_giveNumber_47 ?_
      refine T_iconst dX6_giveNumber_48 (by decide) ?_
      refine T_iand dX6_giveNumber_49 ?_
      refine T_iast dX6_giveNumber_50 (kS1 hs) (lS1 hs) (by omega) (j := 12 * a + k) (by omega) ?_
      refine T_inc dX6_giveNumber_51 rfl (by decide) rfl (by omega) ?_
      refine T_goto (tgt := 19) dX6_giveNumber_54 (by decide) ?_
      refine T_nm (fun m2 hm2 => ih (k + 1, m2) ?_ (by (try dsimp only); omega))
      subst hm2
      try dsimp only
      refine ⟨by (try dsimp only); omega, ?_, fun i hi => ?_, fun b hb => ?_, fun j hj => ?_, h6.up (by omega)⟩
      · rw [up_nea (by omega)]; exact h2
      · try dsimp only at hi ⊢
        rcases (show i < k ∨ i = k by omega) with z | rfl
        · rw [up_nej (by omega)]; exact h3 i z
        · rw [up_same]; exact dg_sh hn (by omega) hc2
      · rw [up_nea (by omega)]; exact h4 b hb
      · rw [up_nej (by omega)]; exact h5 j hj
  refine T_iload_n dX6_giveNumber_0 rfl ?_
  refine T_bipush dX6_giveNumber_1 (by decide) ?_
  refine T_min dX6_giveNumber_3 lX6_24 (by decide) (Nat.le_of_ble_eq_true rfl) ?_
  rw [hmin]
  refine T_ist dX6_giveNumber_6 (by decide) rfl ?_
  refine T_aload_n dX6_giveNumber_8 rfl ?_
  refine T_getR dX6_giveNumber_9 fX6_9 rfl hs (rS0 hs) ?_
  refine T_iload_n dX6_giveNumber_12 rfl ?_
  refine T_iload dX6_giveNumber_13 rfl ?_
  refine T_iast dX6_giveNumber_15 (kS0 hs) (lS0 hs) (by omega) (j := a) (by omega) ?_
  refine T_iconst dX6_giveNumber_16 (by decide) ?_
  refine T_ist dX6_giveNumber_17 (by decide) rfl ?_
  refine T_nm (fun m2 hm2 => h19 (0, m2) ?_ )
  subst hm2
  try dsimp only
  refine ⟨Nat.zero_le _, up_same, fun i hi => absurd hi (Nat.not_lt_zero i), fun b hb => by rw [up_nej hb], fun j _ => by rw [up_nea (by omega)], Fr.rf.up (by omega)⟩

/-- the drum holds a row as it was given, and in truth -/
def Dl (d : sD) (R : List (Int × Int)) : Prop := d 81 5 = (R.length : Int) ∧ ∀ j, j < R.length → d 82 j = (R.getD j (0, 0)).1 ∧ d 83 j = (R.getD j (0, 0)).2 ∧ d 84 j = (R.getD j (0, 0)).1
theorem gP_lt {R : List (Int × Int)} {i : Nat} {y : Int × Int} (h : i < R.length) : (R ++ [y]).getD i (0, 0) = R.getD i (0, 0) := by
  rw [List.getD_eq_getElem?_getD, List.getD_eq_getElem?_getD, List.getElem?_append_left h]
theorem gP_eq {R : List (Int × Int)} {y : Int × Int} : (R ++ [y]).getD R.length (0, 0) = y := by
  rw [List.getD_eq_getElem?_getD, List.getElem?_append_right (Nat.le_refl _), Nat.sub_self]; rfl
theorem Dl_push {R : List (Int × Int)} {b c : Int} {n : Nat} (h : Dl d R) (hn : n = R.length) : Dl (up (up (up (up d 82 n b) 84 n b) 83 n c) 81 5 ((n : Int) + 1)) (R ++ [(b, c)]) := by
  subst hn
  refine ⟨by rw [up_same, List.length_append]; rfl, fun j hj => ?_⟩
  rw [List.length_append] at hj
  have hj' : j < R.length + 1 := hj
  rcases (show j < R.length ∨ j = R.length by omega) with z | rfl
  · rw [gP_lt z, up_nea (by decide), up_nea (by decide), up_nea (by decide), up_nej (by omega), up_nea (by decide), up_nej (by omega), up_nea (by decide), up_nea (by decide), up_nea (by decide), up_nea (by decide), up_nej (by omega), up_nea (by decide)]
    exact h.2 j z
  · rw [gP_eq, up_nea (by decide), up_nea (by decide), up_nea (by decide), up_same, up_nea (by decide), up_same, up_nea (by decide), up_nea (by decide), up_same]
    exact ⟨rfl, rfl, rfl⟩
def sgW (g : Nat → Int) (a f k : Nat) : List (Int × Int) := (List.range k).map (fun i => (g (2 + 12 * a + (f + i)), (a : Int)))
theorem sgW_s {a f k : Nat} : sgW g a f (k + 1) = sgW g a f k ++ [(g (2 + 12 * a + (f + k)), (a : Int))] := by unfold sgW; rw [List.range_succ, List.map_append]; rfl
theorem sgW_len {a f k : Nat} : (sgW g a f k).length = k := by unfold sgW; rw [List.length_map, List.length_range]
abbrev ltQ (d : sD) (R : List (Int × Int)) : Option sV → sD → Prop := fun r d' => r = none ∧ Dl d' R ∧ Fr 81 84 d d'
theorem t_layTurn {a f t : Nat} {R : List (Int × Int)} (hs : kn S0 so = 6) (hO : So d so g) (hG : GV g) (ha : a < 2) (hf : f ≤ 12) (ht : t ≤ 4) (hR : Dl d R) (hl : R.length + min t ((g a).toNat - f) ≤ 24) : tB G mX1_layTurn 0 [vR 81, vR so, vI a, vI f, vI ((f + t : Nat) : Int), vU 0, vU 0] [] d (ltQ d (R ++ sgW g a f (min t ((g a).toNat - f)))) := by
  have hc := (hG a ha).1
  have hat := at_S hs
  have h16 : ∀ z : Nat × sD, (z.1 ≤ min t ((g a).toNat - f) ∧ Dl z.2 (R ++ sgW g a f z.1) ∧ Fr 81 84 d z.2) → tB G mX1_layTurn 16 [vR 81, vR so, vI a, vI f, vI ((f + t : Nat) : Int), vI (min ((f + t : Nat) : Int) (g a)), vI ((f + z.1 : Nat) : Int)] [] (z.2) (ltQ d (R ++ sgW g a f (min t ((g a).toNat - f)))) := by
    refine T_loop (α := Nat × sD) 16 (fun z => [vR 81, vR so, vI a, vI f, vI ((f + t : Nat) : Int), vI (min ((f + t : Nat) : Int) (g a)), vI ((f + z.1 : Nat) : Int)]) (fun z => z.2) (fun z => z.1 ≤ min t ((g a).toNat - f) ∧ Dl z.2 (R ++ sgW g a f z.1) ∧ Fr 81 84 d z.2) (fun z => 20 - z.1) ?_
    rintro ⟨k, e⟩ ⟨h1, h2, h3⟩ ih
    try dsimp only at h1 h2 h3 ih ⊢
    have hn : e 81 5 = ((R.length + k : Nat) : Int) := by rw [h2.1, List.length_append, sgW_len]
    have hO2 := So_fr hO h3 (by omega)
    refine T_iload dX1_layTurn_16 rfl ?_
    refine T_iload dX1_layTurn_18 rfl ?_
    refine T_icmp_ge (tgt := 97) dX1_layTurn_20 (by decide) (fun c20 => ?_) (fun c20 => ?_)
    · exact T_return dX1_layTurn_97 rfl ⟨rfl, by rw [show min t ((g a).toNat - f) = k by omega]; exact h2, h3⟩
    · refine T_aload_n dX1_layTurn_23 rfl ?_
      refine T_getIv dX1_layTurn_24 fX1_28 rfl k81 (x := ((R.length + k : Nat) : Int)) hn ?_
      refine T_bipush dX1_layTurn_27 (by decide) ?_
      refine T_icmp_ge (tgt := 97) dX1_layTurn_29 (by decide) (fun c29 => absurd c29 (by omega)) (fun c29 => ?_)
      refine T_aload_n dX1_layTurn_32 rfl ?_
      refine T_getR dX1_layTurn_33 fX1_9 rfl k81 r81_0 ?_
      refine T_aload_n dX1_layTurn_36 rfl ?_
      refine T_getIv dX1_layTurn_37 fX1_28 rfl k81 (x := ((R.length + k : Nat) : Int)) hn ?_
      refine T_aload_n dX1_layTurn_40 rfl ?_
      refine T_getR dX1_layTurn_41 fX1_50 rfl hs (rS1 hs) ?_
      refine T_iload_n dX1_layTurn_44 rfl ?_
      refine T_bipush dX1_layTurn_45 (by decide) ?_
      refine T_mul dX1_layTurn_47 (by omega) ?_
      refine T_iload dX1_layTurn_48 rfl ?_
      refine T_add dX1_layTurn_50 (by omega) ?_
      refine T_ialdv dX1_layTurn_51 (kS1 hs) (lS1 hs) (by omega) (j := 12 * a + (f + k)) (by omega) (x := g (2 + 12 * a + (f + k))) ((hO2 a ha).2 (f + k) (by omega)) ?_
      refine T_iast dX1_layTurn_52 k82 l82 (by omega) (j := R.length + k) (by omega) ?_
      refine T_aload_n dX1_layTurn_53 rfl ?_
      refine T_getR dX1_layTurn_54 fX1_18 rfl k81 r81_2 ?_
      refine T_aload_n dX1_layTurn_57 rfl ?_
      refine T_getIv dX1_layTurn_58 fX1_28 rfl k81 (x := ((R.length + k : Nat) : Int)) (by rw [up_nea (by decide)]; exact hn) ?_
      refine T_aload_n dX1_layTurn_61 rfl ?_
      refine T_getR dX1_layTurn_62 fX1_9 rfl k81 r81_0 ?_
      refine T_aload_n dX1_layTurn_65 rfl ?_
      refine T_getIv dX1_layTurn_66 fX1_28 rfl k81 (x := ((R.length + k : Nat) : Int)) (by rw [up_nea (by decide)]; exact hn) ?_
      refine T_ialdv dX1_layTurn_69 k82 l82 (by omega) (j := R.length + k) (by omega) (x := g (2 + 12 * a + (f + k))) up_same ?_
      refine T_iast dX1_layTurn_70 k84 l84 (by omega) (j := R.length + k) (by omega) ?_
      refine T_aload_n dX1_layTurn_71 rfl ?_
      refine T_getR dX1_layTurn_72 fX1_15 rfl k81 r81_1 ?_
      refine T_aload_n dX1_layTurn_75 rfl ?_
      refine T_getIv dX1_layTurn_76 fX1_28 rfl k81 (x := ((R.length + k : Nat) : Int)) (by rw [up_nea (by decide), up_nea (by decide)]; exact hn) ?_
      refine T_iload_n dX1_layTurn_79 rfl ?_
      refine T_iast dX1_layTurn_80 k83 l83 (by omega) (j := R.length + k) (by omega) ?_
      refine T_aload_n dX1_layTurn_81 rfl ?_
      refine T_dup dX1_layTurn_82 rfl ?_
      refine T_getIv dX1_layTurn_83 fX1_28 rfl k81 (x := ((R.length + k : Nat) : Int)) (by rw [up_nea (by decide), up_nea (by decide), up_nea (by decide)]; exact hn) ?_
      refine T_iconst dX1_layTurn_86 (by decide) ?_
      refine T_add dX1_layTurn_87 (by omega) ?_
      refine T_putI dX1_layTurn_88 fX1_28 rfl k81 ?_
      have h9 := Dl_push (b := g (2 + 12 * a + (f + k))) (c := (a : Int)) (n := R.length + k) h2 (by rw [List.length_append, sgW_len])
      rw [List.append_assoc, ← sgW_s] at h9
      refine T_inc dX1_layTurn_91 rfl (by decide) rfl (by omega) ?_
      refine T_goto (tgt := 16) dX1_layTurn_94 (by decide) ?_
      refine T_nm (fun m2 hm2 => ih (k + 1, m2) ?_ (by (try dsimp only); omega))
      subst hm2
      try dsimp only
      refine ⟨by (try dsimp only); omega, h9, (((h3.up (by omega)).up (by omega)).up (by omega)).up (by omega)⟩
  refine T_iload dX1_layTurn_0 rfl ?_
  refine T_aload_n dX1_layTurn_2 rfl ?_
  refine T_getR dX1_layTurn_3 fX1_42 rfl hs (rS0 hs) ?_
  refine T_iload_n dX1_layTurn_6 rfl ?_
  refine T_ialdv dX1_layTurn_7 (kS0 hs) (lS0 hs) (by omega) (j := a) (by omega) (x := g a) (hO a ha).1 ?_
  refine T_min dX1_layTurn_8 lX1_47 (by decide) (Nat.le_of_ble_eq_true rfl) ?_
  refine T_ist dX1_layTurn_11 (by decide) rfl ?_
  refine T_iload_n dX1_layTurn_13 rfl ?_
  refine T_ist dX1_layTurn_14 (by decide) rfl ?_
  exact h16 (0, d) ⟨Nat.zero_le _, by rw [show sgW g a f 0 = [] from rfl, List.append_nil]; exact hR, Fr.rf⟩

theorem t_clay {t : Nat} (hs : kn S0 so = 6) (hO : So d so g) (hG : GV g) (ht : w 0 = (t : Int)) (ht4 : 1 ≤ t ∧ t ≤ 4) : tB G mX1_lay 0 [vR 81, vI t, vR so, vU 0, vU 0] [] d (ltQ d (rowS w g)) := by
  have hat := at_S hs
  have g0 := (hG 0 (by decide)).1
  have g1 := (hG 1 (by decide)).1
  have hmax : max (1 : Int) (t : Int) = (t : Int) := by omega
  have hwt : (w 0).toNat = t := by omega
  have h14 : ∀ z : Nat × sD, (z.1 ≤ 12 ∧ Dl z.2 (layP t (g 0).toNat (g 1).toNat (fun k => g (2 + k)) (fun k => g (14 + k)) z.1) ∧ Fr 81 84 d z.2) → tB G mX1_lay 14 [vR 81, vI t, vR so, vI t, vI ((t * z.1 : Nat) : Int)] [] (z.2) (ltQ d (rowS w g)) := by
    refine T_loop (α := Nat × sD) 14 (fun z => [vR 81, vI t, vR so, vI t, vI ((t * z.1 : Nat) : Int)]) (fun z => z.2) (fun z => z.1 ≤ 12 ∧ Dl z.2 (layP t (g 0).toNat (g 1).toNat (fun k => g (2 + k)) (fun k => g (14 + k)) z.1) ∧ Fr 81 84 d z.2) (fun z => 12 - z.1) ?_
    rintro ⟨k, e⟩ ⟨h1, h2, h3⟩ ih
    try dsimp only at h1 h2 h3 ih ⊢
    have hlen := layP_len (t := t) (m0 := (g 0).toNat) (m1 := (g 1).toNat) (x := fun k => g (2 + k)) (y := fun k => g (14 + k)) k
    have htk : t * k ≤ 48 := Nat.le_trans (Nat.mul_le_mul ht4.2 h1) (by decide)
    have hts : t * (k + 1) = t * k + t := Nat.mul_succ t k
    have hkt : k ≤ t * k := Nat.le_mul_of_pos_left k (by omega)
    refine T_iload dX1_lay_14 rfl ?_
    refine T_bipush dX1_lay_16 (by decide) ?_
    refine T_icmp_ge (tgt := 54) dX1_lay_18 (by decide) (fun c18 => ?_) (fun c18 => ?_)
    · exact T_return dX1_lay_54 rfl ⟨rfl, by unfold rowS; rw [hwt, show 12 = k + (12 - k) by omega, layP_end (by omega) (by omega)]; exact h2, h3⟩
    · refine T_aload_n dX1_lay_21 rfl ?_
      refine T_aload_n dX1_lay_22 rfl ?_
      refine T_iconst dX1_lay_23 (by decide) ?_
      refine T_iload dX1_lay_24 rfl ?_
      refine T_iload dX1_lay_26 rfl ?_
      refine T_iload_n dX1_lay_28 rfl ?_
      refine T_add dX1_lay_29 (by omega) ?_
      refine T_top (y := ((t * k + t : Nat) : Int)) (by omega) ?_
      refine T_callV dX1_lay_30 lX1_38 (As := [_, _, _, _]) (rest := _) rfl rfl k81 (by decide) (Nat.le_of_ble_eq_true rfl) (Nat.le_of_ble_eq_true rfl) (t_layTurn (f := t * k) (t := t) (a := 0) hs (So_fr hO h3 (by omega)) hG (by decide) (by omega) ht4.2 h2 (by rw [hlen]; omega)) ?_
      rintro _ d1 ⟨rfl, e1, f1⟩
      refine T_aload_n dX1_lay_33 rfl ?_
      refine T_aload_n dX1_lay_34 rfl ?_
      refine T_iconst dX1_lay_35 (by decide) ?_
      refine T_iload dX1_lay_36 rfl ?_
      refine T_iload dX1_lay_38 rfl ?_
      refine T_iload_n dX1_lay_40 rfl ?_
      refine T_add dX1_lay_41 (by omega) ?_
      refine T_top (y := ((t * k + t : Nat) : Int)) (by omega) ?_
      refine T_callV dX1_lay_42 lX1_38 (As := [_, _, _, _]) (rest := _) rfl rfl k81 (by decide) (Nat.le_of_ble_eq_true rfl) (Nat.le_of_ble_eq_true rfl) (t_layTurn (f := t * k) (t := t) (a := 1) hs (So_fr hO (h3.trans f1) (by omega)) hG (by decide) (by omega) ht4.2 e1 (by rw [List.length_append, hlen, sgW_len]; omega)) ?_
      rintro _ d2 ⟨rfl, e2, f2⟩
      refine T_iload dX1_lay_45 rfl ?_
      refine T_iload_n dX1_lay_47 rfl ?_
      refine T_add dX1_lay_48 (by omega) ?_
      refine T_top (y := ((t * (k + 1) : Nat) : Int)) (by rw [hts]; omega) ?_
      refine T_ist dX1_lay_49 (by decide) rfl ?_
      refine T_goto (tgt := 14) dX1_lay_51 (by decide) ?_
      exact ih (k + 1, d2) ⟨by dsimp only; omega, by rw [List.append_assoc] at e2; exact e2, (h3.trans f1).trans f2⟩ (by dsimp only; omega)
  refine T_iconst dX1_lay_0 (by decide) ?_
  refine T_iload_n dX1_lay_1 rfl ?_
  refine T_max dX1_lay_2 lX1_32 (by decide) (Nat.le_of_ble_eq_true rfl) ?_
  rw [hmax]
  refine T_ist_n dX1_lay_5 (by decide) rfl ?_
  refine T_aload_n dX1_lay_6 rfl ?_
  refine T_iconst dX1_lay_7 (by decide) ?_
  refine T_putI dX1_lay_8 fX1_28 rfl k81 ?_
  refine T_iconst dX1_lay_11 (by decide) ?_
  refine T_ist dX1_lay_12 (by decide) rfl ?_
  refine T_nm (fun m2 hm2 => h14 (0, m2) ?_ )
  subst hm2
  try dsimp only
  refine ⟨Nat.zero_le _, ⟨by rw [up_same]; rfl, fun j hj => absurd hj (Nat.not_lt_zero j)⟩, Fr.rf.up (by omega)⟩

end C2
