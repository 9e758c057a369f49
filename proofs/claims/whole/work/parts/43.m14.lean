/-! the reference: of the moves made -/
section M14
variable {G : sG} {d : sD} {w g s : Nat → Int}
def sumN (f : Nat → Int) : Nat → Int
  | 0 => 0
  | n + 1 => sumN f n + f n
def orN (f : Nat → Int) : Nat → Int
  | 0 => 0
  | n + 1 => if orN f n = 0 then f n else 1
theorem sumN_rg {f : Nat → Int} {n : Nat} (h : ∀ i, i < n → f i = 0 ∨ f i = 1) : 0 ≤ sumN f n ∧ sumN f n ≤ n := by
  induction n with
  | zero => exact ⟨Int.le_refl _, Int.le_refl _⟩
  | succ n ih =>
    have := ih (fun i hi => h i (by omega))
    have := h n (by omega)
    unfold sumN
    omega
theorem orN_01 {f : Nat → Int} {n : Nat} (h : ∀ i, i < n → f i = 0 ∨ f i = 1) : orN f n = 0 ∨ orN f n = 1 := by
  cases n with
  | zero => exact Or.inl rfl
  | succ n =>
    unfold orN
    split
    · exact h n (by omega)
    · exact Or.inr rfl
theorem sumN_congr {f f' : Nat → Int} {n : Nat} (h : ∀ i, i < n → f i = f' i) : sumN f n = sumN f' n := by
  induction n with
  | zero => rfl
  | succ n ih => unfold sumN; rw [ih (fun i hi => h i (by omega)), h n (by omega)]
theorem orN_congr {f f' : Nat → Int} {n : Nat} (h : ∀ i, i < n → f i = f' i) : orN f n = orN f' n := by
  induction n with
  | zero => rfl
  | succ n ih => unfold orN; rw [ih (fun i hi => h i (by omega)), h n (by omega)]
/-- a move that is made is of an order of the army, heard whole -/
theorem mkS_ok (hV : WV w) {n a : Nat} (ha : a < 2) : ∀ f k, ∀ z ∈ (mkS w s n a f k).1, (z.1 : Int) < w (15 + a) ∧ isF w s n a z.1 z.2
  | 0, k, z, hz => by cases hz
  | f + 1, k, z, hz => by
    have hc := (hV.a ha).2.2.2.2
    have hB : bst w s n a k = -1 ∨ (0 ≤ bst w s n a k ∧ bst w s n a k < ((w (15 + a)).toNat : Nat) ∧ isF w s n a (bst w s n a k).toNat k) := bstM_rg (w := w) (s := s) (n := n) (a := a) (k := k) (cnt := (w (15 + a)).toNat) (w (15 + a)).toNat (Nat.le_refl _)
    rw [mkS_succ] at hz
    split at hz
    · cases hz
    · split at hz
      · exact mkS_ok hV ha f _ z hz
      · next h1 h2 =>
        rcases List.mem_cons.mp hz with rfl | hz
        · obtain ⟨q1, q2, q3⟩ := hB.resolve_left h2
          exact ⟨by show ((bst w s n a k).toNat : Int) < _; omega, q3⟩
        · exact mkS_ok hV ha f _ z hz
/-- the moves made are such -/
def MlOk (w : Nat → Int) (n a : Nat) (ml : List (Nat × Nat)) : Prop := ml.length ≤ 24 ∧ ∀ i, i < ml.length → ((ml.getD i (0, 0)).1 : Int) < w (15 + a) ∧ ((ml.getD i (0, 0)).2 : Int) + w (18 + 36 * a + 6 * (ml.getD i (0, 0)).1) ≤ hnS w n a
theorem mkS_len (hV : WV w) {n a : Nat} (ha : a < 2) : ∀ f k, ((mkS w s n a f k).1.length : Int) ≤ max 0 (hnS w n a - k)
  | 0, k => by show (0 : Int) ≤ _; omega
  | f + 1, k => by
    have hc := (hV.a ha).2.2.2.2
    have hB : bst w s n a k = -1 ∨ (0 ≤ bst w s n a k ∧ bst w s n a k < ((w (15 + a)).toNat : Nat) ∧ isF w s n a (bst w s n a k).toNat k) := bstM_rg (w := w) (s := s) (n := n) (a := a) (k := k) (cnt := (w (15 + a)).toNat) (w (15 + a)).toNat (Nat.le_refl _)
    rw [mkS_succ]
    split
    · show (0 : Int) ≤ _; omega
    · split
      · have := mkS_len hV (n := n) ha f (k + 1)
        show (((mkS w s n a f (k + 1)).1.length : Nat) : Int) ≤ _
        omega
      · next h1 h2 =>
        obtain ⟨q1, q2, q3⟩ := hB.resolve_left h2
        have hL := (hV.2.2.2.2.2 a (bst w s n a k).toNat ha (by omega)).2.1
        have := mkS_len hV (n := n) ha f (k + (w (18 + 36 * a + 6 * (bst w s n a k).toNat)).toNat)
        show ((((mkS w s n a f (k + (w (18 + 36 * a + 6 * (bst w s n a k).toNat)).toNat)).1.length + 1 : Nat)) : Int) ≤ _
        omega
theorem mkS_MlOk (hV : WV w) {n a : Nat} (ha : a < 2) (hn : n ≤ 24) : MlOk w n a (mkS w s n a 24 0).1 := by
  have hrg := hnS_rg (n := n) hV ha
  have := mkS_len (s := s) hV (n := n) ha 24 0
  refine ⟨by omega, fun i hi => ?_⟩
  have hm : (mkS w s n a 24 0).1.getD i (0, 0) ∈ (mkS w s n a 24 0).1 := by
    rw [List.getD_eq_getElem?_getD, List.getElem?_eq_getElem hi]; exact List.getElem_mem hi
  have h := mkS_ok hV ha 24 0 _ hm
  exact ⟨h.1, h.2.1⟩

abbrev imS (w : Nat → Int) (a : Nat) (ml : List (Nat × Nat)) (m : Int) : Nat → Int := orN (fun k => bI (w (17 + 36 * a + 6 * (ml.getD k (0, 0)).1) = m))
theorem im10 {a dn : Nat} {m : Int} {ml : List (Nat × Nat)} (ha : a < 2) (hK : Mk d w a ml dn) (hl : ml.length ≤ 24) : ∀ k : Nat, k ≤ ml.length → tB G mX12_isMade 10 [vR 271, vI a, vI m, vI (imS w a ml m k), vI k] [] d (fun r d' => r = some (vI (imS w a ml m ml.length)) ∧ d = d') := by
  refine T_loop (α := Nat) 10 (fun k => [vR 271, vI a, vI m, vI (imS w a ml m k), vI k]) (fun _ => d) (fun k => k ≤ ml.length) (fun k => ml.length - k) ?_
  intro k hk ih
  try dsimp only at ih ⊢
  have h01 := orN_01 (f := fun k => bI (w (17 + 36 * a + 6 * (ml.getD k (0, 0)).1) = m)) (n := k) (fun i _ => bI_01 _)
  have h46 : ∀ y : Int, y = imS w a ml m (k + 1) → k < ml.length → tB G mX12_isMade 46 [vR 271, vI a, vI m, vI (imS w a ml m k), vI k] [vI y] d (fun r d' => r = some (vI (imS w a ml m ml.length)) ∧ d = d') := by
    intro y hy hlt
    refine T_ist_n dX12_isMade_46 (by decide) rfl ?_
    refine T_inc dX12_isMade_47 rfl (by decide) rfl (by omega) ?_
    refine T_goto (tgt := 10) dX12_isMade_50 (by decide) ?_
    rw [hy]
    exact ih (k + 1) (by omega) (by omega)
  refine T_iload dX12_isMade_10 rfl ?_
  refine T_aload_n dX12_isMade_12 rfl ?_
  refine T_getR dX12_isMade_13 fX12_47 rfl k271 r271_22 ?_
  refine T_iload_n dX12_isMade_16 rfl ?_
  refine T_ialdv dX12_isMade_17 k284 l284 (by omega) (j := a) rfl (x := (ml.length : Int)) hK.1 ?_
  refine T_icmp_ge (tgt := 53) dX12_isMade_18 (by decide) (fun c18 => ?_) (fun c18 => ?_)
  · refine T_iload_n dX12_isMade_53 rfl ?_
    exact T_zreturn dX12_isMade_54 rfl h01 ⟨by rw [show k = ml.length by omega], rfl⟩
  · refine T_iload_n dX12_isMade_21 rfl ?_
    refine T_if_ne (tgt := 41) dX12_isMade_22 (by decide) (fun c22 => ?_) (fun c22 => ?_)
    · refine T_iconst dX12_isMade_41 (by decide) ?_
      refine T_goto (tgt := 46) dX12_isMade_42 (by decide) ?_
      exact h46 1 (by show (1 : Int) = orN _ (k + 1); unfold orN; rw [if_neg c22]) (by omega)
    · refine T_aload_n dX12_isMade_25 rfl ?_
      refine T_getR dX12_isMade_26 fX12_38 rfl k271 r271_19 ?_
      refine T_bipush dX12_isMade_29 (by decide) ?_
      refine T_iload_n dX12_isMade_31 rfl ?_
      refine T_mul dX12_isMade_32 (by omega) ?_
      refine T_iload dX12_isMade_33 rfl ?_
      refine T_add dX12_isMade_35 (by omega) ?_
      refine T_ialdv dX12_isMade_36 k281 l281 (by omega) (j := 24 * a + k) (by omega) (x := w (17 + 36 * a + 6 * (ml.getD k (0, 0)).1)) (hK.2.2 k (by omega)).1 ?_
      refine T_iload_n dX12_isMade_37 rfl ?_
      refine T_icmp_ne (tgt := 45) dX12_isMade_38 (by decide) (fun c38 => ?_) (fun c38 => ?_)
      · refine T_iconst dX12_isMade_45 (by decide) ?_
        exact h46 0 (by show (0 : Int) = orN _ (k + 1); unfold orN; rw [if_pos c22, bI_f c38]) (by omega)
      · refine T_iconst dX12_isMade_41 (by decide) ?_
        refine T_goto (tgt := 46) dX12_isMade_42 (by decide) ?_
        exact h46 1 (by show (1 : Int) = orN _ (k + 1); unfold orN; rw [if_pos c22, bI_t c38]) (by omega)

abbrev isMadeS (w s : Nat → Int) (n a : Nat) (m : Int) : Int := imS w a (mkS w s n a 24 0).1 m (mkS w s n a 24 0).1.length
theorem t_isMade {n a : Nat} {m : Int} (hW : Wd d w) (hV : WV w) (hn : d 271 18 = (n : Int)) (hn24 : n ≤ 24) (ha : a < 2) : tB G mX12_isMade 0 [vR 271, vI a, vI m, vU 0, vU 0] [] d (fun r d' => r = some (vI (isMadeS w (d 279) n a m)) ∧ MkF a d d') := by
  refine T_aload_n dX12_isMade_0 rfl ?_
  refine T_iload_n dX12_isMade_1 rfl ?_
  refine T_callV dX12_isMade_2 lX12_270 (As := [_]) (rest := _) rfl rfl k271 (by decide) (Nat.le_of_ble_eq_true rfl) (Nat.le_of_ble_eq_true rfl) (t_makes hW hV hn hn24 ha) ?_
  rintro _ d1 ⟨rfl, hK, hF⟩
  have hOk := mkS_MlOk (s := d 279) hV ha hn24
  refine T_iconst dX12_isMade_5 (by decide) ?_
  refine T_ist_n dX12_isMade_6 (by decide) rfl ?_
  refine T_iconst dX12_isMade_7 (by decide) ?_
  refine T_ist dX12_isMade_8 (by decide) rfl ?_
  refine tB.mono (im10 (G := G) ha hK hOk.1 0 (Nat.zero_le _)) (fun r d2 q => ⟨q.1, ?_⟩)
  rw [← q.2]; exact hF

abbrev puF (w gv : Nat → Int) (a b : Nat) : Nat → Int := fun j => bI (gv (phS w a ((b : Int) + j)).toNat = a)
def puS (w gv : Nat → Int) (a : Nat) (z : Nat × Nat) : Int := if sumN (puF w gv a z.2) (w (18 + 36 * a + 6 * z.1)).toNat = w (18 + 36 * a + 6 * z.1) then 0 else if sumN (puF w gv a z.2) (w (18 + 36 * a + 6 * z.1)).toNat = 0 then 2 else 1
theorem t_purity {n a dn i : Nat} {ml : List (Nat × Nat)} (hW : Wd d w) (hV : WV w) (hn24 : n ≤ 24) (ha : a < 2) (hK : Mk d w a ml dn) (hO : MlOk w n a ml) (hi : i < ml.length) : tB G mX12_purity 0 [vR 271, vI a, vI ((24 * a + i : Nat) : Int), vU 0, vU 0, vU 0] [] d (fun r d' => r = some (vI (puS w (d 278) a (ml.getD i (0, 0)))) ∧ d = d') := by
  obtain ⟨o1, o2⟩ := hO.2 i hi
  have hl24 := hO.1
  have hrg := hnS_rg (n := n) hV ha
  have hva := (hV.a ha).2.2.2.2
  obtain ⟨k1, k2, k3⟩ := hK.2.2 i hi
  generalize ml.getD i (0, 0) = z at o1 o2 k1 k2 k3 ⊢
  have hL := (hV.2.2.2.2.2 a z.1 ha o1).2.1
  have h18 : ∀ j : Nat, j ≤ (w (18 + 36 * a + 6 * z.1)).toNat → tB G mX12_purity 18 [vR 271, vI a, vI ((24 * a + i : Nat) : Int), vI (sumN (puF w (d 278) a z.2) j), vI (w (18 + 36 * a + 6 * z.1)), vI j] [] d (fun r d' => r = some (vI (puS w (d 278) a z)) ∧ d = d') := by
    refine T_loop (α := Nat) 18 (fun j => [vR 271, vI a, vI ((24 * a + i : Nat) : Int), vI (sumN (puF w (d 278) a z.2) j), vI (w (18 + 36 * a + 6 * z.1)), vI j]) (fun _ => d) (fun j => j ≤ (w (18 + 36 * a + 6 * z.1)).toNat) (fun j => (w (18 + 36 * a + 6 * z.1)).toNat - j) ?_
    intro j hj ih
    try dsimp only at ih ⊢
    have hsr := sumN_rg (f := puF w (d 278) a z.2) (n := j) (fun _ _ => bI_01 _)
    have h54 : ∀ y : Int, y = puF w (d 278) a z.2 j → j < (w (18 + 36 * a + 6 * z.1)).toNat → tB G mX12_purity 54 [vR 271, vI a, vI ((24 * a + i : Nat) : Int), vI (sumN (puF w (d 278) a z.2) j), vI (w (18 + 36 * a + 6 * z.1)), vI j] [vI y, vI (sumN (puF w (d 278) a z.2) j)] d (fun r d' => r = some (vI (puS w (d 278) a z)) ∧ d = d') := by
      intro y hy hlt
      have h01 : y = 0 ∨ y = 1 := by rw [hy]; exact bI_01 _
      refine T_add dX12_purity_54 (by omega) ?_
      refine T_ist_n dX12_purity_55 (by decide) rfl ?_
      refine T_inc dX12_purity_56 rfl (by decide) rfl (by omega) ?_
      refine T_goto (tgt := 18) dX12_purity_59 (by decide) ?_
      rw [hy]
      exact ih (j + 1) (by omega) (by omega)
    refine T_iload dX12_purity_18 rfl ?_
    refine T_iload dX12_purity_20 rfl ?_
    refine T_icmp_ge (tgt := 62) dX12_purity_22 (by decide) (fun c22 => ?_) (fun c22 => ?_)
    · refine T_iload_n dX12_purity_62 rfl ?_
      refine T_iload dX12_purity_63 rfl ?_
      refine T_icmp_ne (tgt := 72) dX12_purity_65 (by decide) (fun c65 => ?_) (fun c65 => ?_)
      · refine T_iload_n dX12_purity_72 rfl ?_
        refine T_if_ne (tgt := 80) dX12_purity_73 (by decide) (fun c73 => ?_) (fun c73 => ?_)
        · refine T_iconst dX12_purity_80 (by decide) ?_
          exact T_ireturn dX12_purity_81 rfl ⟨by unfold puS; rw [show j = (w (18 + 36 * a + 6 * z.1)).toNat by omega] at c65 c73; rw [if_neg c65, if_neg c73], rfl⟩
        · refine T_iconst dX12_purity_76 (by decide) ?_
          refine T_goto (tgt := 81) dX12_purity_77 (by decide) ?_
          exact T_ireturn dX12_purity_81 rfl ⟨by unfold puS; rw [show j = (w (18 + 36 * a + 6 * z.1)).toNat by omega] at c65 c73; rw [if_neg c65, if_pos c73], rfl⟩
      · refine T_iconst dX12_purity_68 (by decide) ?_
        refine T_goto (tgt := 81) dX12_purity_69 (by decide) ?_
        exact T_ireturn dX12_purity_81 rfl ⟨by unfold puS; rw [show j = (w (18 + 36 * a + 6 * z.1)).toNat by omega] at c65; rw [if_pos c65], rfl⟩
    · have hph := ph_lt (n := n) hV ha (j := ((z.2 + j : Nat) : Int)) (by omega) (by omega)
      refine T_iload_n dX12_purity_25 rfl ?_
      refine T_aload_n dX12_purity_26 rfl ?_
      refine T_getR dX12_purity_27 fX12_29 rfl k271 r271_15 ?_
      refine T_aload_n dX12_purity_30 rfl ?_
      refine T_iload_n dX12_purity_31 rfl ?_
      refine T_aload_n dX12_purity_32 rfl ?_
      refine T_getR dX12_purity_33 fX12_44 rfl k271 r271_21 ?_
      refine T_iload_n dX12_purity_36 rfl ?_
      refine T_ialdv dX12_purity_37 k283 l283 (by omega) (j := 24 * a + i) (by omega) (x := (z.2 : Int)) k3 ?_
      refine T_iload dX12_purity_38 rfl ?_
      refine T_add dX12_purity_40 (by omega) ?_
      refine T_callV dX12_purity_41 lX12_258 (As := [_, _]) (rest := _) rfl rfl k271 (by decide) (Nat.le_of_ble_eq_true rfl) (Nat.le_of_ble_eq_true rfl) (T_args2 (y := z.2 + j) (by omega) (t_placeHeard hW hV ha (by omega))) ?_
      rintro _ _ ⟨rfl, rfl⟩
      refine T_iald dX12_purity_44 k278 l278 (by omega) (j := (phS w a ((z.2 : Int) + j)).toNat) rfl ?_
      refine T_iload_n dX12_purity_45 rfl ?_
      refine T_icmp_ne (tgt := 53) dX12_purity_46 (by decide) (fun c46 => ?_) (fun c46 => ?_)
      · refine T_iconst dX12_purity_53 (by decide) ?_
        exact h54 0 (by show (0 : Int) = bI _; rw [bI_f c46]) (by omega)
      · refine T_iconst dX12_purity_49 (by decide) ?_
        refine T_goto (tgt := 54) dX12_purity_50 (by decide) ?_
        exact h54 1 (by show (1 : Int) = bI _; rw [bI_t c46]) (by omega)
  refine T_iconst dX12_purity_0 (by decide) ?_
  refine T_ist_n dX12_purity_1 (by decide) rfl ?_
  refine T_aload_n dX12_purity_2 rfl ?_
  refine T_iload_n dX12_purity_3 rfl ?_
  refine T_aload_n dX12_purity_4 rfl ?_
  refine T_getR dX12_purity_5 fX12_41 rfl k271 r271_20 ?_
  refine T_iload_n dX12_purity_8 rfl ?_
  refine T_ialdv dX12_purity_9 k282 l282 (by omega) (j := 24 * a + i) (by omega) (x := (z.1 : Int)) k2 ?_
  refine T_callV dX12_purity_10 lX12_230 (As := [_, _]) (rest := _) rfl rfl k271 (by decide) (Nat.le_of_ble_eq_true rfl) (Nat.le_of_ble_eq_true rfl) (t_lengthOf hW ha (by omega)) ?_
  rintro _ _ ⟨rfl, rfl⟩
  refine T_ist dX12_purity_13 (by decide) rfl ?_
  refine T_iconst dX12_purity_15 (by decide) ?_
  refine T_ist dX12_purity_16 (by decide) rfl ?_
  exact h18 0 (Nat.zero_le _)

abbrev ehF (w ec : Nat → Int) (a b : Nat) : Nat → Int := fun j => ec (phS w a ((b : Int) + j)).toNat
abbrev ehK (w ec : Nat → Int) (a : Nat) (z : Nat × Nat) : Int := orN (ehF w ec a z.2) (w (18 + 36 * a + 6 * z.1)).toNat
abbrev ehS (w ec : Nat → Int) (a : Nat) (ml : List (Nat × Nat)) : Nat → Int := sumN (fun k => ehK w ec a (ml.getD k (0, 0)))
theorem eh28 {n a dn i : Nat} {ml : List (Nat × Nat)} {sm : Int} {Q : Option sV → sD → Prop} (hW : Wd d w) (hV : WV w) (hn24 : n ≤ 24) (he : ∀ j, j < n → d 280 j = 0 ∨ d 280 j = 1) (ha : a < 2) (hK : Mk d w a ml dn) (hO : MlOk w n a ml) (hi : i < ml.length) (hs : 0 ≤ sm ∧ sm ≤ 24)
    (hnext : tB G mX12_echoed 4 [vR 271, vI a, vI (sm + ehK w (d 280) a (ml.getD i (0, 0))), vI ((i : Int) + 1), vU 0, vU 0, vU 0] [] d Q) : tB G mX12_echoed 28 [vR 271, vI a, vI sm, vI i, vI ((24 * a + i : Nat) : Int), vI 0, vI 0] [] d Q := by
  obtain ⟨o1, o2⟩ := hO.2 i hi
  have hl24 := hO.1
  have hrg := hnS_rg (n := n) hV ha
  have hva := (hV.a ha).2.2.2.2
  obtain ⟨k1, k2, k3⟩ := hK.2.2 i hi
  generalize ml.getD i (0, 0) = z at o1 o2 k1 k2 k3 hnext
  have hL := (hV.2.2.2.2.2 a z.1 ha o1).2.1
  have he2 : ∀ j : Nat, j < (w (18 + 36 * a + 6 * z.1)).toNat → ehF w (d 280) a z.2 j = 0 ∨ ehF w (d 280) a z.2 j = 1 := fun j hj => by
    have hph := ph_lt (n := n) hV ha (j := (z.2 : Int) + j) (by omega) (by omega)
    exact he _ (by omega)
  have h28 : ∀ j : Nat, j ≤ (w (18 + 36 * a + 6 * z.1)).toNat → tB G mX12_echoed 28 [vR 271, vI a, vI sm, vI i, vI ((24 * a + i : Nat) : Int), vI (orN (ehF w (d 280) a z.2) j), vI j] [] d Q := by
    refine T_loop (α := Nat) 28 (fun j => [vR 271, vI a, vI sm, vI i, vI ((24 * a + i : Nat) : Int), vI (orN (ehF w (d 280) a z.2) j), vI j]) (fun _ => d) (fun j => j ≤ (w (18 + 36 * a + 6 * z.1)).toNat) (fun j => (w (18 + 36 * a + 6 * z.1)).toNat - j) ?_
    intro j hj ih
    try dsimp only at ih ⊢
    have h01 := orN_01 (f := ehF w (d 280) a z.2) (n := j) (fun k hk => he2 k (by omega))
    have h97 : ∀ y : Int, y = orN (ehF w (d 280) a z.2) j → j = (w (18 + 36 * a + 6 * z.1)).toNat → tB G mX12_echoed 97 [vR 271, vI a, vI sm, vI i, vI ((24 * a + i : Nat) : Int), vI (orN (ehF w (d 280) a z.2) j), vI j] [vI y, vI sm] d Q := by
      intro y hy hje
      refine T_add dX12_echoed_97 (by omega) ?_
      refine T_ist_n dX12_echoed_98 (by decide) rfl ?_
      refine T_inc dX12_echoed_99 rfl (by decide) rfl (by omega) ?_
      refine T_goto (tgt := 4) dX12_echoed_102 (by decide) ?_
      rw [hy, hje]
      exact T_drop 4 (T_drop 5 (T_drop 6 hnext))
    have h78 : ∀ y : Int, y = orN (ehF w (d 280) a z.2) (j + 1) → j < (w (18 + 36 * a + 6 * z.1)).toNat → tB G mX12_echoed 78 [vR 271, vI a, vI sm, vI i, vI ((24 * a + i : Nat) : Int), vI (orN (ehF w (d 280) a z.2) j), vI j] [vI y] d Q := by
      intro y hy hlt
      refine T_ist dX12_echoed_78 (by decide) rfl ?_
      refine T_inc dX12_echoed_80 rfl (by decide) rfl (by omega) ?_
      refine T_goto (tgt := 28) dX12_echoed_83 (by decide) ?_
      rw [hy]
      exact ih (j + 1) (by omega) (by omega)
    refine T_iload dX12_echoed_28 rfl ?_
    refine T_aload_n dX12_echoed_30 rfl ?_
    refine T_iload_n dX12_echoed_31 rfl ?_
    refine T_aload_n dX12_echoed_32 rfl ?_
    refine T_getR dX12_echoed_33 fX12_41 rfl k271 r271_20 ?_
    refine T_iload dX12_echoed_36 rfl ?_
    refine T_ialdv dX12_echoed_38 k282 l282 (by omega) (j := 24 * a + i) (by omega) (x := (z.1 : Int)) k2 ?_
    refine T_callV dX12_echoed_39 lX12_230 (As := [_, _]) (rest := _) rfl rfl k271 (by decide) (Nat.le_of_ble_eq_true rfl) (Nat.le_of_ble_eq_true rfl) (t_lengthOf hW ha (by omega)) ?_
    rintro _ _ ⟨rfl, rfl⟩
    refine T_icmp_ge (tgt := 86) dX12_echoed_42 (by decide) (fun c42 => ?_) (fun c42 => ?_)
    · refine T_iload_n dX12_echoed_86 rfl ?_
      refine T_iload dX12_echoed_87 rfl ?_
      refine T_if_eq (tgt := 96) dX12_echoed_89 (by decide) (fun c89 => ?_) (fun c89 => ?_)
      · refine T_iconst dX12_echoed_96 (by decide) ?_
        exact h97 0 c89.symm (by omega)
      · refine T_iconst dX12_echoed_92 (by decide) ?_
        refine T_goto (tgt := 97) dX12_echoed_93 (by decide) ?_
        exact h97 1 (by omega) (by omega)
    · refine T_iload dX12_echoed_45 rfl ?_
      refine T_if_ne (tgt := 73) dX12_echoed_47 (by decide) (fun c47 => ?_) (fun c47 => ?_)
      · refine T_iconst dX12_echoed_73 (by decide) ?_
        refine T_goto (tgt := 78) dX12_echoed_74 (by decide) ?_
        exact h78 1 (by show (1 : Int) = orN _ (j + 1); unfold orN; rw [if_neg c47]) (by omega)
      · have hph := ph_lt (n := n) hV ha (j := ((z.2 + j : Nat) : Int)) (by omega) (by omega)
        refine T_aload_n dX12_echoed_50 rfl ?_
        refine T_getR dX12_echoed_51 fX12_35 rfl k271 r271_17 ?_
        refine T_aload_n dX12_echoed_54 rfl ?_
        refine T_iload_n dX12_echoed_55 rfl ?_
        refine T_aload_n dX12_echoed_56 rfl ?_
        refine T_getR dX12_echoed_57 fX12_44 rfl k271 r271_21 ?_
        refine T_iload dX12_echoed_60 rfl ?_
        refine T_ialdv dX12_echoed_62 k283 l283 (by omega) (j := 24 * a + i) (by omega) (x := (z.2 : Int)) k3 ?_
        refine T_iload dX12_echoed_63 rfl ?_
        refine T_add dX12_echoed_65 (by omega) ?_
        refine T_callV dX12_echoed_66 lX12_258 (As := [_, _]) (rest := _) rfl rfl k271 (by decide) (Nat.le_of_ble_eq_true rfl) (Nat.le_of_ble_eq_true rfl) (T_args2 (y := z.2 + j) (by omega) (t_placeHeard hW hV ha (by omega))) ?_
        rintro _ _ ⟨rfl, rfl⟩
        refine T_zald dX12_echoed_69 k280 l280 (by omega) (j := (phS w a ((z.2 : Int) + j)).toNat) rfl ?_
        refine T_if_eq (tgt := 77) dX12_echoed_70 (by decide) (fun c70 => ?_) (fun c70 => ?_)
        · refine T_iconst dX12_echoed_77 (by decide) ?_
          exact h78 0 (by show (0 : Int) = orN _ (j + 1); unfold orN; rw [if_pos c47]; exact c70.symm) (by omega)
        · refine T_iconst dX12_echoed_73 (by decide) ?_
          refine T_goto (tgt := 78) dX12_echoed_74 (by decide) ?_
          exact h78 1 (by have q := he2 j (by omega); show (1 : Int) = orN _ (j + 1); unfold orN; rw [if_pos c47]; exact (q.resolve_left c70).symm) (by omega)
  exact h28 0 (Nat.zero_le _)
theorem t_echoed {n a dn : Nat} {ml : List (Nat × Nat)} (hW : Wd d w) (hV : WV w) (hn24 : n ≤ 24) (he : ∀ j, j < n → d 280 j = 0 ∨ d 280 j = 1) (ha : a < 2) (hK : Mk d w a ml dn) (hO : MlOk w n a ml) : tB G mX12_echoed 0 [vR 271, vI a, vU 0, vU 0, vU 0, vU 0, vU 0] [] d (fun r d' => r = some (vI (ehS w (d 280) a ml ml.length)) ∧ d = d') := by
  have hl24 := hO.1
  have h01 : ∀ k, k < ml.length → ehK w (d 280) a (ml.getD k (0, 0)) = 0 ∨ ehK w (d 280) a (ml.getD k (0, 0)) = 1 := fun k hk => orN_01 (fun j hj => by
    obtain ⟨o1, o2⟩ := hO.2 k hk
    have hph := ph_lt (n := n) hV ha (j := ((ml.getD k (0, 0)).2 : Int) + j) (by omega) (by omega)
    exact he _ (by omega))
  have h4 : ∀ k : Nat, k ≤ ml.length → tB G mX12_echoed 4 [vR 271, vI a, vI (ehS w (d 280) a ml k), vI k, vU 0, vU 0, vU 0] [] d (fun r d' => r = some (vI (ehS w (d 280) a ml ml.length)) ∧ d = d') := by
    refine T_loop (α := Nat) 4 (fun k => [vR 271, vI a, vI (ehS w (d 280) a ml k), vI k, vU 0, vU 0, vU 0]) (fun _ => d) (fun k => k ≤ ml.length) (fun k => ml.length - k) ?_
    intro k hk ih
    try dsimp only at ih ⊢
    have hsr : 0 ≤ ehS w (d 280) a ml k ∧ ehS w (d 280) a ml k ≤ k := sumN_rg (f := fun k => ehK w (d 280) a (ml.getD k (0, 0))) (n := k) (fun i hi => h01 i (by omega))

    refine T_iload_n dX12_echoed_4 rfl ?_
    refine T_aload_n dX12_echoed_5 rfl ?_
    refine T_getR dX12_echoed_6 fX12_47 rfl k271 r271_22 ?_
    refine T_iload_n dX12_echoed_9 rfl ?_
    refine T_ialdv dX12_echoed_10 k284 l284 (by omega) (j := a) rfl (x := (ml.length : Int)) hK.1 ?_
    refine T_icmp_ge (tgt := 105) dX12_echoed_11 (by decide) (fun c11 => ?_) (fun c11 => ?_)
    · refine T_iload_n dX12_echoed_105 rfl ?_
      exact T_ireturn dX12_echoed_106 rfl ⟨by rw [show k = ml.length by omega], rfl⟩
    · refine T_bipush dX12_echoed_14 (by decide) ?_
      refine T_iload_n dX12_echoed_16 rfl ?_
      refine T_mul dX12_echoed_17 (by omega) ?_
      refine T_iload_n dX12_echoed_18 rfl ?_
      refine T_add dX12_echoed_19 (by omega) ?_
      refine T_ist dX12_echoed_20 (by decide) rfl ?_
      refine T_iconst dX12_echoed_22 (by decide) ?_
      refine T_ist dX12_echoed_23 (by decide) rfl ?_
      refine T_iconst dX12_echoed_25 (by decide) ?_
      refine T_ist dX12_echoed_26 (by decide) rfl ?_
      rw [show 24 * (a : Int) + (k : Int) = ((24 * a + k : Nat) : Int) by omega]
      exact eh28 (G := G) hW hV hn24 he ha hK hO (by omega) (by omega) (ih (k + 1) (by omega) (by omega))
  refine T_iconst dX12_echoed_0 (by decide) ?_
  refine T_ist_n dX12_echoed_1 (by decide) rfl ?_
  refine T_iconst dX12_echoed_2 (by decide) ?_
  refine T_ist_n dX12_echoed_3 (by decide) rfl ?_
  exact h4 0 (Nat.zero_le _)

end M14
