/-! the reference: what an army makes of what it hears -/
section M10
variable {G : sG} {d : sD} {w s : Nat → Int}

theorem t_isFrom {n a o k : Nat} (hW : Wd d w) (hV : WV w) (hn : d 271 18 = (n : Int)) (hn24 : n ≤ 24) (ha : a < 2) (ho : (o : Int) < w (15 + a)) (hk : k ≤ 24) : tB G mX12_isFrom 0 [vR 271, vI a, vI o, vI k, vU 0, vU 0] [] d (fun r d' => r = some (vI (bI (isF w (d 279) n a o k))) ∧ d = d') := by
  have ho6 : o < 6 := by have := (hV.a ha).2.2.2.2; omega
  have hL := (hV.2.2.2.2.2 a o ha ho).2.1
  have hrg := hnS_rg (n := n) hV ha
  refine T_iload_n dX12_isFrom_0 rfl ?_
  refine T_aload_n dX12_isFrom_1 rfl ?_
  refine T_iload_n dX12_isFrom_2 rfl ?_
  refine T_iload_n dX12_isFrom_3 rfl ?_
  refine T_callV dX12_isFrom_4 lX12_230 (As := [_, _]) (rest := _) rfl rfl k271 (by decide) (Nat.le_of_ble_eq_true rfl) (Nat.le_of_ble_eq_true rfl) (t_lengthOf hW ha ho6) ?_
  rintro _ _ ⟨rfl, rfl⟩
  refine T_add dX12_isFrom_7 (by omega) ?_
  refine T_aload_n dX12_isFrom_8 rfl ?_
  refine T_iload_n dX12_isFrom_9 rfl ?_
  refine T_callV dX12_isFrom_10 lX12_261 (As := [_]) (rest := _) rfl rfl k271 (by decide) (Nat.le_of_ble_eq_true rfl) (Nat.le_of_ble_eq_true rfl) (t_hears hW hV hn hn24 ha) ?_
  rintro _ _ ⟨rfl, rfl⟩
  refine T_icmp_gt (tgt := 20) dX12_isFrom_13 (by decide) (fun c13 => ?_) (fun c13 => ?_)
  · refine T_iconst dX12_isFrom_20 (by decide) ?_
    refine T_ist dX12_isFrom_21 (by decide) rfl ?_
    refine T_iconst dX12_isFrom_23 (by decide) ?_
    refine T_ist dX12_isFrom_24 (by decide) rfl ?_
    exact isF26 (G := G) hW hV hn hn24 ha ho hk (0, 0) ⟨Nat.zero_le _, by rw [bI_f (fun q => by have := q.1; omega)]⟩
  · refine T_iconst dX12_isFrom_16 (by decide) ?_
    refine T_goto (tgt := 21) dX12_isFrom_17 (by decide) ?_
    refine T_ist dX12_isFrom_21 (by decide) rfl ?_
    refine T_iconst dX12_isFrom_23 (by decide) ?_
    refine T_ist dX12_isFrom_24 (by decide) rfl ?_
    exact isF26 (G := G) hW hV hn hn24 ha ho hk (0, 1) ⟨Nat.zero_le _, by rw [bI_t ⟨by omega, fun j hj => absurd hj (Nat.not_lt_zero j)⟩]⟩

/-- the order taken at the k-th beat heard, of the last m orders: -1 none -/
def bstM (w s : Nat → Int) (n a k cnt : Nat) : Nat → Int
  | 0 => -1
  | m + 1 => if isF w s n a (cnt - 1 - m) k ∧ (bstM w s n a k cnt m = -1 ∨ w (18 + 36 * a + 6 * (bstM w s n a k cnt m).toNat) ≤ w (18 + 36 * a + 6 * (cnt - 1 - m))) then ((cnt - 1 - m : Nat) : Int) else bstM w s n a k cnt m
theorem bstM_rg {n a k cnt : Nat} : ∀ m, m ≤ cnt → bstM w s n a k cnt m = -1 ∨ (0 ≤ bstM w s n a k cnt m ∧ bstM w s n a k cnt m < cnt ∧ isF w s n a (bstM w s n a k cnt m).toNat k)
  | 0, _ => Or.inl rfl
  | m + 1, h => by
    unfold bstM
    split
    · next q => exact Or.inr ⟨by omega, by omega, by rw [Int.toNat_natCast]; exact q.1⟩
    · exact bstM_rg m (by omega)
abbrev bst (w s : Nat → Int) (n a k : Nat) : Int := bstM w s n a k (w (15 + a)).toNat (w (15 + a)).toNat
/-- the moves made from the k-th beat heard on (order, first beat), and how many beats are danced -/
def mkS (w s : Nat → Int) (n a : Nat) : Nat → Nat → List (Nat × Nat) × Nat
  | 0, _ => ([], 0)
  | f + 1, k => if hnS w n a ≤ k then ([], 0) else if bst w s n a k = -1 then ((mkS w s n a f (k + 1)).1, (mkS w s n a f (k + 1)).2 + 1) else (((bst w s n a k).toNat, k) :: (mkS w s n a f (k + (w (18 + 36 * a + 6 * (bst w s n a k).toNat)).toNat)).1, (mkS w s n a f (k + (w (18 + 36 * a + 6 * (bst w s n a k).toNat)).toNat)).2)
/-- a whole number as an argument, where a contract names a natural number -/
theorem T_args2 {M : sM} {pc : Nat} {r : Nat} {z : sV} {x : Int} {y : Nat} {l : List sV} {Q : Option sV → sD → Prop} (h : x = (y : Int)) (k : tB G M pc (vR r :: z :: vI (y : Int) :: l) [] d Q) : tB G M pc (vR r :: z :: vI x :: l) [] d Q := by rw [h]; exact k
theorem mk36 {n a k : Nat} {e : sD} {Q : Option sV → sD → Prop} (hW : Wd e w) (hV : WV w) (hn : e 271 18 = (n : Int)) (hn24 : n ≤ 24) (ha : a < 2) (hk : k ≤ 24) (h82 : tB G mX12_makes 82 [vR 271, vI a, vI k, vI (bst w (e 279) n a k), vI (-1)] [] e Q) :
    ∀ m : Nat, m ≤ (w (15 + a)).toNat → tB G mX12_makes 36 [vR 271, vI a, vI k, vI (bstM w (e 279) n a k (w (15 + a)).toNat m), vI (w (15 + a) - 1 - m)] [] e Q := by
  refine T_loop (α := Nat) 36 (fun m => [vR 271, vI a, vI k, vI (bstM w (e 279) n a k (w (15 + a)).toNat m), vI (w (15 + a) - 1 - m)]) (fun _ => e) (fun m => m ≤ (w (15 + a)).toNat) (fun m => (w (15 + a)).toNat - m) ?_
  intro m hm ih
  try dsimp only at ih ⊢
  have hc := (hV.a ha).2.2.2.2
  have hB := bstM_rg (w := w) (s := e 279) (n := n) (a := a) (k := k) (cnt := (w (15 + a)).toNat) m hm
  have hnx : ∀ y : Int, y = bstM w (e 279) n a k (w (15 + a)).toNat (m + 1) → m < (w (15 + a)).toNat → tB G mX12_makes 36 [vR 271, vI a, vI k, vI y, vI ((((w (15 + a)).toNat - 1 - m : Nat) : Int) + -1)] [] e Q := by
    intro y hy hlt
    rw [hy, show (((w (15 + a)).toNat - 1 - m : Nat) : Int) + -1 = w (15 + a) - 1 - ((m + 1 : Nat) : Int) by omega]
    exact ih (m + 1) (by omega) (by omega)

  refine T_iload dX12_makes_36 rfl ?_
  refine T_if_lt (tgt := 82) dX12_makes_38 (by decide) (fun c38 => ?_) (fun c38 => ?_)
  · have hme : m = (w (15 + a)).toNat := by omega
    subst hme
    rw [show w (15 + a) - 1 - (((w (15 + a)).toNat : Nat) : Int) = -1 by omega]
    exact h82
  · refine T_leq (ls' := [vR 271, vI a, vI k, vI (bstM w (e 279) n a k (w (15 + a)).toNat m), vI (((w (15 + a)).toNat - 1 - m : Nat) : Int)]) (by rw [show w (15 + a) - 1 - (m : Int) = (((w (15 + a)).toNat - 1 - m : Nat) : Int) by omega]) ?_
    refine T_aload_n dX12_makes_41 rfl ?_
    refine T_iload_n dX12_makes_42 rfl ?_
    refine T_iload dX12_makes_43 rfl ?_
    refine T_iload_n dX12_makes_45 rfl ?_
    refine T_callV dX12_makes_46 lX12_267 (As := [_, _, _]) (rest := _) rfl rfl k271 (by decide) (Nat.le_of_ble_eq_true rfl) (Nat.le_of_ble_eq_true rfl) (t_isFrom (o := (w (15 + a)).toNat - 1 - m) hW hV hn hn24 ha (by omega) hk) ?_
    rintro _ _ ⟨rfl, rfl⟩
    refine T_if_eq (tgt := 76) dX12_makes_49 (by decide) (fun c49 => ?_) (fun c49 => ?_)
    · refine T_inc dX12_makes_76 rfl (by decide) rfl (by omega) ?_
      refine T_goto (tgt := 36) dX12_makes_79 (by decide) ?_
      exact hnx _ (by
        conv => rhs; unfold bstM
        rw [if_neg (fun q => bI_0 c49 q.1)]) (by omega)
    · refine T_iload_n dX12_makes_52 rfl ?_
      refine T_iconst dX12_makes_53 (by decide) ?_
      refine T_icmp_eq (tgt := 73) dX12_makes_54 (by decide) (fun c54 => ?_) (fun c54 => ?_)
      · refine T_iload dX12_makes_73 rfl ?_
        refine T_ist_n dX12_makes_75 (by decide) rfl ?_
        refine T_inc dX12_makes_76 rfl (by decide) rfl (by omega) ?_
        refine T_goto (tgt := 36) dX12_makes_79 (by decide) ?_
        exact hnx _ (by
          conv => rhs; unfold bstM
          rw [if_pos ⟨bI_1 c49, Or.inl c54⟩]) (by omega)
      · refine T_aload_n dX12_makes_57 rfl ?_
        refine T_iload_n dX12_makes_58 rfl ?_
        refine T_iload dX12_makes_59 rfl ?_
        refine T_callV dX12_makes_61 lX12_230 (As := [_, _]) (rest := _) rfl rfl k271 (by decide) (Nat.le_of_ble_eq_true rfl) (Nat.le_of_ble_eq_true rfl) (t_lengthOf (k := (w (15 + a)).toNat - 1 - m) hW ha (by omega)) ?_
        rintro _ _ ⟨rfl, rfl⟩
        refine T_aload_n dX12_makes_64 rfl ?_
        refine T_iload_n dX12_makes_65 rfl ?_
        refine T_iload_n dX12_makes_66 rfl ?_
        refine T_callV dX12_makes_67 lX12_230 (As := [_, _]) (rest := _) rfl rfl k271 (by decide) (Nat.le_of_ble_eq_true rfl) (Nat.le_of_ble_eq_true rfl) (T_args2 (x := bstM w (e 279) n a k (w (15 + a)).toNat m) (by omega) (t_lengthOf (k := (bstM w (e 279) n a k (w (15 + a)).toNat m).toNat) hW ha (by omega))) ?_
        rintro _ _ ⟨rfl, rfl⟩
        refine T_icmp_lt (tgt := 76) dX12_makes_70 (by decide) (fun c70 => ?_) (fun c70 => ?_)
        · refine T_inc dX12_makes_76 rfl (by decide) rfl (by omega) ?_
          refine T_goto (tgt := 36) dX12_makes_79 (by decide) ?_
          exact hnx _ (by
            conv => rhs; unfold bstM
            rw [if_neg (fun q => q.2.elim c54 (fun z => by omega))]) (by omega)
        · refine T_iload dX12_makes_73 rfl ?_
          refine T_ist_n dX12_makes_75 (by decide) rfl ?_
          refine T_inc dX12_makes_76 rfl (by decide) rfl (by omega) ?_
          refine T_goto (tgt := 36) dX12_makes_79 (by decide) ?_
          exact hnx _ (by
            conv => rhs; unfold bstM
            rw [if_pos ⟨bI_1 c49, Or.inr (by omega)⟩]) (by omega)

/-- what makes(a) may change; what it has laid down -/
def MkF (a : Nat) (d d' : sD) : Prop := Ag [281, 282, 283, 284, 285] [] d d' ∧ (∀ j, (j < 24 * a ∨ 24 * a + 24 ≤ j) → d' 281 j = d 281 j ∧ d' 282 j = d 282 j ∧ d' 283 j = d 283 j) ∧ ∀ j, j ≠ a → d' 284 j = d 284 j ∧ d' 285 j = d 285 j
def Mk (d : sD) (w : Nat → Int) (a : Nat) (ml : List (Nat × Nat)) (dn : Nat) : Prop := d 284 a = (ml.length : Int) ∧ d 285 a = (dn : Int) ∧ ∀ i, i < ml.length → d 281 (24 * a + i) = w (17 + 36 * a + 6 * (ml.getD i (0, 0)).1) ∧ d 282 (24 * a + i) = ((ml.getD i (0, 0)).1 : Int) ∧ d 283 (24 * a + i) = ((ml.getD i (0, 0)).2 : Int)
abbrev mkQ (d : sD) (w : Nat → Int) (n a : Nat) : Option sV → sD → Prop := fun r d' => r = none ∧ Mk d' w a (mkS w (d 279) n a 24 0).1 (mkS w (d 279) n a 24 0).2 ∧ MkF a d d'
theorem mkS_succ {n a f k : Nat} : mkS w s n a (f + 1) k = if hnS w n a ≤ k then ([], 0) else if bst w s n a k = -1 then ((mkS w s n a f (k + 1)).1, (mkS w s n a f (k + 1)).2 + 1) else (((bst w s n a k).toNat, k) :: (mkS w s n a f (k + (w (18 + 36 * a + 6 * (bst w s n a k).toNat)).toNat)).1, (mkS w s n a f (k + (w (18 + 36 * a + 6 * (bst w s n a k).toNat)).toNat)).2) := rfl
theorem mkS_end {n a f k : Nat} (h : hnS w n a ≤ k) : mkS w s n a f k = ([], 0) := by
  cases f with
  | zero => rfl
  | succ f => unfold mkS; rw [if_pos h]
theorem mk16 {n a : Nat} (hW : Wd d w) (hV : WV w) (hn : d 271 18 = (n : Int)) (hn24 : n ≤ 24) (ha : a < 2) : ∀ x : (Nat × Nat) × (List (Nat × Nat) × Nat) × sD, (MkF a d x.2.2 ∧ Mk x.2.2 w a x.2.1.1 x.2.1.2 ∧ (x.1.1 : Int) ≤ hnS w n a ∧ x.2.1.1.length ≤ x.1.1 ∧ x.2.1.2 ≤ x.1.1 ∧ hnS w n a ≤ x.1.2 + x.1.1 ∧ x.2.1.1 ++ (mkS w (d 279) n a x.1.2 x.1.1).1 = (mkS w (d 279) n a 24 0).1 ∧ x.2.1.2 + (mkS w (d 279) n a x.1.2 x.1.1).2 = (mkS w (d 279) n a 24 0).2) → tB G mX12_makes 16 [vR 271, vI a, vI x.1.1, vU 0, vU 0] [] x.2.2 (mkQ d w n a) := by
  refine T_loop (α := (Nat × Nat) × (List (Nat × Nat) × Nat) × sD) 16 (fun x => [vR 271, vI a, vI x.1.1, vU 0, vU 0]) (fun x => x.2.2) (fun x => MkF a d x.2.2 ∧ Mk x.2.2 w a x.2.1.1 x.2.1.2 ∧ (x.1.1 : Int) ≤ hnS w n a ∧ x.2.1.1.length ≤ x.1.1 ∧ x.2.1.2 ≤ x.1.1 ∧ hnS w n a ≤ x.1.2 + x.1.1 ∧ x.2.1.1 ++ (mkS w (d 279) n a x.1.2 x.1.1).1 = (mkS w (d 279) n a 24 0).1 ∧ x.2.1.2 + (mkS w (d 279) n a x.1.2 x.1.1).2 = (mkS w (d 279) n a 24 0).2) (fun x => 24 - x.1.1) ?_
  rintro ⟨⟨k, f⟩, ⟨acc, dn⟩, e⟩ ⟨⟨hA, hF1, hF2⟩, ⟨hM1, hM2, hM3⟩, hk, hl1, hl2, hf, hr1, hr2⟩ ih
  try dsimp only at hA hF1 hF2 hM1 hM2 hM3 hk hl1 hl2 hf hr1 hr2 ih ⊢
  have hrg := hnS_rg (n := n) hV ha
  have hWe := Wd_ag hW hA (by decide) (by decide)
  have hne : e 271 18 = (n : Int) := (hA.2 18 (by decide)).trans hn
  have h279 : e 279 = d 279 := funext fun j => hA.1 279 j (by decide) (by decide)
  have hc := (hV.a ha).2.2.2.2
  have hB : bst w (d 279) n a k = -1 ∨ (0 ≤ bst w (d 279) n a k ∧ bst w (d 279) n a k < ((w (15 + a)).toNat : Nat) ∧ isF w (d 279) n a (bst w (d 279) n a k).toNat k) := bstM_rg (w := w) (s := d 279) (n := n) (a := a) (k := k) (cnt := (w (15 + a)).toNat) (w (15 + a)).toNat (Nat.le_refl _)
  have h82 : (k : Int) < hnS w n a → tB G mX12_makes 82 [vR 271, vI a, vI k, vI (bst w (e 279) n a k), vI (-1)] [] e (mkQ d w n a) := by
    intro hlt
    rw [h279]
    obtain ⟨f, rfl⟩ : ∃ f', f = f' + 1 := ⟨f - 1, by omega⟩
    rw [mkS_succ (f := f) (k := k), if_neg (by omega)] at hr1 hr2

    refine T_iload_n dX12_makes_82 rfl ?_
    refine T_iconst dX12_makes_83 (by decide) ?_
    refine T_icmp_ne (tgt := 103) dX12_makes_84 (by decide) (fun c84 => ?_) (fun c84 => ?_)
    · obtain ⟨hb1, hb2, hb3⟩ := hB.resolve_left c84
      have hLb := (hV.2.2.2.2.2 a (bst w (d 279) n a k).toNat ha (by omega)).2.1
      have hacc24 : acc.length < 24 := by omega
      have hWe2 := hWe
      obtain ⟨p, hp1, hp2, hp3⟩ := hWe2
      have hmv : e 272 (p + 17 + 36 * a + 6 * (bst w (d 279) n a k).toNat) = w (17 + 36 * a + 6 * (bst w (d 279) n a k).toNat) := by rw [← hp3 _ (by omega)]; congr 1; omega
      have hW4 : Wd (up (up (up (up e 281 (24 * a + acc.length) (w (17 + 36 * a + 6 * (bst w (d 279) n a k).toNat))) 282 (24 * a + acc.length) (bst w (d 279) n a k)) 283 (24 * a + acc.length) k) 284 a ((acc.length : Int) + 1)) w := ((((hWe.up (by decide) (by omega)).up (by decide) (by omega)).up (by decide) (by omega)).up (by decide) (by omega))
      rw [if_neg c84] at hr1 hr2
      refine T_bipush dX12_makes_103 (by decide) ?_
      refine T_iload_n dX12_makes_105 rfl ?_
      refine T_mul dX12_makes_106 (by omega) ?_
      refine T_aload_n dX12_makes_107 rfl ?_
      refine T_getR dX12_makes_108 fX12_47 rfl k271 r271_22 ?_
      refine T_iload_n dX12_makes_111 rfl ?_
      refine T_ialdv dX12_makes_112 k284 l284 (by omega) (j := a) rfl (x := (acc.length : Int)) hM1 ?_
      refine T_add dX12_makes_113 (by omega) ?_
      refine T_ist dX12_makes_114 (by decide) rfl ?_
      refine T_aload_n dX12_makes_116 rfl ?_
      refine T_getR dX12_makes_117 fX12_38 rfl k271 r271_19 ?_
      refine T_iload dX12_makes_120 rfl ?_
      refine T_aload_n dX12_makes_122 rfl ?_
      refine T_getR dX12_makes_123 fX12_7 rfl k271 r271_0 ?_
      refine T_aload_n dX12_makes_126 rfl ?_
      refine T_iload_n dX12_makes_127 rfl ?_
      refine T_iload_n dX12_makes_128 rfl ?_
      refine T_callV dX12_makes_129 lX12_215 (As := [_, _]) (rest := _) rfl rfl k271 (by decide) (Nat.le_of_ble_eq_true rfl) (Nat.le_of_ble_eq_true rfl) (T_args2 (x := bst w (d 279) n a k) (y := (bst w (d 279) n a k).toNat) (by omega) (t_orderAt hp1 (by omega) ha (by omega))) ?_
      rintro _ _ ⟨rfl, rfl⟩
      refine T_ialdv dX12_makes_132 k272 l272 (by omega) (j := p + 17 + 36 * a + 6 * (bst w (d 279) n a k).toNat) (by omega) (x := w (17 + 36 * a + 6 * (bst w (d 279) n a k).toNat)) hmv ?_
      refine T_iast dX12_makes_133 k281 l281 (by omega) (j := 24 * a + acc.length) (by omega) ?_
      refine T_aload_n dX12_makes_134 rfl ?_
      refine T_getR dX12_makes_135 fX12_41 rfl k271 r271_20 ?_
      refine T_iload dX12_makes_138 rfl ?_
      refine T_iload_n dX12_makes_140 rfl ?_
      refine T_iast dX12_makes_141 k282 l282 (by omega) (j := 24 * a + acc.length) (by omega) ?_
      refine T_aload_n dX12_makes_142 rfl ?_
      refine T_getR dX12_makes_143 fX12_44 rfl k271 r271_21 ?_
      refine T_iload dX12_makes_146 rfl ?_
      refine T_iload_n dX12_makes_148 rfl ?_
      refine T_iast dX12_makes_149 k283 l283 (by omega) (j := 24 * a + acc.length) (by omega) ?_
      refine T_aload_n dX12_makes_150 rfl ?_
      refine T_getR dX12_makes_151 fX12_47 rfl k271 r271_22 ?_
      refine T_iload_n dX12_makes_154 rfl ?_
      refine T_dup2 dX12_makes_155 rfl rfl ?_
      refine T_ialdv dX12_makes_156 k284 l284 (by omega) (j := a) rfl (x := (acc.length : Int)) hM1 ?_
      refine T_iconst dX12_makes_157 (by decide) ?_
      refine T_add dX12_makes_158 (by omega) ?_
      refine T_iast dX12_makes_159 k284 l284 (by omega) (j := a) rfl ?_
      refine T_iload_n dX12_makes_160 rfl ?_
      refine T_aload_n dX12_makes_161 rfl ?_
      refine T_iload_n dX12_makes_162 rfl ?_
      refine T_iload_n dX12_makes_163 rfl ?_
      refine T_callV dX12_makes_164 lX12_230 (As := [_, _]) (rest := _) rfl rfl k271 (by decide) (Nat.le_of_ble_eq_true rfl) (Nat.le_of_ble_eq_true rfl) (T_args2 (x := bst w (d 279) n a k) (y := (bst w (d 279) n a k).toNat) (by omega) (t_lengthOf hW4 ha (by omega))) ?_
      rintro _ _ ⟨rfl, rfl⟩
      refine T_add dX12_makes_167 (by omega) ?_
      refine T_ist_n dX12_makes_168 (by decide) rfl ?_
      refine T_goto (tgt := 16) dX12_makes_169 (by decide) ?_
      refine T_drop 3 (T_drop 4 ?_)
      rw [show (k : Int) + w (18 + 36 * a + 6 * (bst w (d 279) n a k).toNat) = ((k + (w (18 + 36 * a + 6 * (bst w (d 279) n a k).toNat)).toNat : Nat) : Int) by omega]
      have hle := hb3.1
      refine ih ((k + (w (18 + 36 * a + 6 * (bst w (d 279) n a k).toNat)).toNat, f), (acc ++ [((bst w (d 279) n a k).toNat, k)], dn), up (up (up (up e 281 (24 * a + acc.length) (w (17 + 36 * a + 6 * (bst w (d 279) n a k).toNat))) 282 (24 * a + acc.length) (bst w (d 279) n a k)) 283 (24 * a + acc.length) k) 284 a ((acc.length : Int) + 1)) ?_ (by show 24 - (k + (w (18 + 36 * a + 6 * (bst w (d 279) n a k).toNat)).toNat) < 24 - k; omega)
      dsimp only
      refine ⟨⟨Ag_up (Ag_up (Ag_up (Ag_up hA (by decide)) (by decide)) (by decide)) (by decide), fun j hj => ?_, fun j hj => ?_⟩, ⟨?_, ?_, fun i hi => ?_⟩, by omega, by simp; omega, by omega, by omega, by rw [List.append_assoc]; exact hr1, hr2⟩
      · have q := hF1 j hj
        refine ⟨?_, ?_, ?_⟩
        · rw [up_nea (by decide), up_nea (by decide), up_nea (by decide), up_nej (by omega)]; exact q.1
        · rw [up_nea (by decide), up_nea (by decide), up_nej (by omega), up_nea (by decide)]; exact q.2.1
        · rw [up_nea (by decide), up_nej (by omega), up_nea (by decide), up_nea (by decide)]; exact q.2.2
      · have q := hF2 j hj
        exact ⟨by rw [up_nej hj, up_nea (by decide), up_nea (by decide), up_nea (by decide)]; exact q.1, by rw [up_nea (by decide), up_nea (by decide), up_nea (by decide), up_nea (by decide)]; exact q.2⟩
      · rw [up_same]; simp
      · rw [up_nea (by decide), up_nea (by decide), up_nea (by decide), up_nea (by decide)]; exact hM2
      · have hl : i < acc.length + 1 := by simpa using hi
        rcases Nat.lt_or_ge i acc.length with q | q
        · have q3 := hM3 i q
          rw [show (acc ++ [((bst w (d 279) n a k).toNat, k)]).getD i (0, 0) = acc.getD i (0, 0) by simp [List.getD_eq_getElem?_getD, List.getElem?_append_left q]]
          refine ⟨?_, ?_, ?_⟩
          · rw [up_nea (by decide), up_nea (by decide), up_nea (by decide), up_nej (by omega)]; exact q3.1
          · rw [up_nea (by decide), up_nea (by decide), up_nej (by omega), up_nea (by decide)]; exact q3.2.1
          · rw [up_nea (by decide), up_nej (by omega), up_nea (by decide), up_nea (by decide)]; exact q3.2.2
        · have : i = acc.length := by omega
          subst this
          rw [show (acc ++ [((bst w (d 279) n a k).toNat, k)]).getD acc.length (0, 0) = ((bst w (d 279) n a k).toNat, k) by simp]
          refine ⟨?_, ?_, ?_⟩
          · rw [up_nea (by decide), up_nea (by decide), up_nea (by decide), up_same]
          · rw [up_nea (by decide), up_nea (by decide), up_same]; show bst w (d 279) n a k = (((bst w (d 279) n a k).toNat : Nat) : Int); omega
          · rw [up_nea (by decide), up_same]
    · refine T_aload_n dX12_makes_87 rfl ?_
      refine T_getR dX12_makes_88 fX12_50 rfl k271 r271_23 ?_
      refine T_iload_n dX12_makes_91 rfl ?_
      refine T_dup2 dX12_makes_92 rfl rfl ?_
      refine T_ialdv dX12_makes_93 k285 l285 (by omega) (j := a) rfl (x := (dn : Int)) hM2 ?_
      refine T_iconst dX12_makes_94 (by decide) ?_
      refine T_add dX12_makes_95 (by omega) ?_
      refine T_iast dX12_makes_96 k285 l285 (by omega) (j := a) rfl ?_
      refine T_inc dX12_makes_97 rfl (by decide) rfl (by omega) ?_
      refine T_goto (tgt := 16) dX12_makes_100 (by decide) ?_
      rw [if_pos c84] at hr1 hr2
      refine T_drop 3 (T_drop 4 ?_)
      refine ih ((k + 1, f), (acc, dn + 1), up e 285 a ((dn : Int) + 1)) ?_ (by show 24 - (k + 1) < 24 - k; omega)
      dsimp only
      refine ⟨⟨Ag_up hA (by decide), fun j hj => ?_, fun j hj => ?_⟩, ⟨?_, ?_, fun i hi => ?_⟩, by omega, by omega, by omega, by omega, hr1, by rw [← hr2]; omega⟩
      · have q := hF1 j hj
        exact ⟨by rw [up_nea (by decide)]; exact q.1, by rw [up_nea (by decide)]; exact q.2.1, by rw [up_nea (by decide)]; exact q.2.2⟩
      · have q := hF2 j hj
        exact ⟨by rw [up_nea (by decide)]; exact q.1, by rw [up_nej hj]; exact q.2⟩
      · rw [up_nea (by decide)]; exact hM1
      · rw [up_same]; rfl
      · have q := hM3 i hi
        exact ⟨by rw [up_nea (by decide)]; exact q.1, by rw [up_nea (by decide)]; exact q.2.1, by rw [up_nea (by decide)]; exact q.2.2⟩

  refine T_iload_n dX12_makes_16 rfl ?_
  refine T_aload_n dX12_makes_17 rfl ?_
  refine T_iload_n dX12_makes_18 rfl ?_
  refine T_callV dX12_makes_19 lX12_261 (As := [_]) (rest := _) rfl rfl k271 (by decide) (Nat.le_of_ble_eq_true rfl) (Nat.le_of_ble_eq_true rfl) (t_hears hWe hV hne hn24 ha) ?_
  rintro _ _ ⟨rfl, rfl⟩
  refine T_icmp_ge (tgt := 172) dX12_makes_22 (by decide) (fun c22 => ?_) (fun c22 => ?_)
  · exact T_return dX12_makes_172 rfl ⟨rfl, by rw [mkS_end (by omega)] at hr1 hr2; rw [List.append_nil] at hr1; rw [← hr1, ← hr2]; exact ⟨hM1, hM2, hM3⟩, hA, hF1, hF2⟩
  · refine T_iconst dX12_makes_25 (by decide) ?_
    refine T_ist_n dX12_makes_26 (by decide) rfl ?_
    refine T_aload_n dX12_makes_27 rfl ?_
    refine T_iload_n dX12_makes_28 rfl ?_
    refine T_callV dX12_makes_29 lX12_221 (As := [_]) (rest := _) rfl rfl k271 (by decide) (Nat.le_of_ble_eq_true rfl) (Nat.le_of_ble_eq_true rfl) (t_orders hWe ha) ?_
    rintro _ _ ⟨rfl, rfl⟩
    refine T_iconst dX12_makes_32 (by decide) ?_
    refine T_sub dX12_makes_33 (by omega) ?_
    refine T_ist dX12_makes_34 (by decide) rfl ?_
    have h := mk36 (G := G) hWe hV hne hn24 ha (k := k) (by omega) (h82 (by omega)) 0 (Nat.zero_le _)
    rw [show w (15 + a) - 1 - ((0 : Nat) : Int) = w (15 + a) - 1 by omega] at h
    exact h

theorem t_makes {n a : Nat} (hW : Wd d w) (hV : WV w) (hn : d 271 18 = (n : Int)) (hn24 : n ≤ 24) (ha : a < 2) : tB G mX12_makes 0 [vR 271, vI a, vU 0, vU 0, vU 0] [] d (mkQ d w n a) := by
  refine T_aload_n dX12_makes_0 rfl ?_
  refine T_getR dX12_makes_1 fX12_47 rfl k271 r271_22 ?_
  refine T_iload_n dX12_makes_4 rfl ?_
  refine T_iconst dX12_makes_5 (by decide) ?_
  refine T_iast dX12_makes_6 k284 l284 (by omega) (j := a) rfl ?_
  refine T_aload_n dX12_makes_7 rfl ?_
  refine T_getR dX12_makes_8 fX12_50 rfl k271 r271_23 ?_
  refine T_iload_n dX12_makes_11 rfl ?_
  refine T_iconst dX12_makes_12 (by decide) ?_
  refine T_iast dX12_makes_13 k285 l285 (by omega) (j := a) rfl ?_
  refine T_iconst dX12_makes_14 (by decide) ?_
  refine T_ist_n dX12_makes_15 (by decide) rfl ?_
  refine mk16 (G := G) hW hV hn hn24 ha ((0, 24), ([], 0), up (up d 284 a 0) 285 a 0) ?_
  dsimp only
  have hrg := hnS_rg (n := n) hV ha
  refine ⟨⟨Ag_up (Ag_up Ag.rf (by decide)) (by decide), fun j hj => ⟨?_, ?_, ?_⟩, fun j hj => ⟨?_, ?_⟩⟩, ⟨?_, ?_, fun i hi => absurd hi (Nat.not_lt_zero i)⟩, by omega, Nat.le_refl _, Nat.le_refl _, by omega, rfl, by omega⟩
  · rw [up_nea (by decide), up_nea (by decide)]
  · rw [up_nea (by decide), up_nea (by decide)]
  · rw [up_nea (by decide), up_nea (by decide)]
  · rw [up_nea (by decide), up_nej hj]
  · rw [up_nej hj, up_nea (by decide)]
  · rw [up_nea (by decide), up_same]; rfl
  · rw [up_same]; rfl

end M10
