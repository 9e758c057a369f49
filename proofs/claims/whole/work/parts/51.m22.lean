/-! the reference: how far two rows are apart -/
section M22
variable {G : sG} {d : sD} {w g x y : Nat → Int}
def edR (pr : Nat → Int) (c : Int) (y : Nat → Int) : Nat → Int
  | 0 => pr 0 + 1
  | j + 1 => min (pr j + (if c = y j then 0 else 1)) (min (pr (j + 1)) (edR pr c y j) + 1)
/-- how far two rows of beats are apart -/
def edS (x y : Nat → Int) : Nat → Nat → Int
  | 0 => fun j => (j : Int)
  | i + 1 => edR (edS x y i) (x i) y
theorem edS_0 : ∀ i : Nat, edS x y i 0 = (i : Int)
  | 0 => rfl
  | i + 1 => by show edS x y i 0 + 1 = _; rw [edS_0 i]; omega
theorem edS_rg : ∀ i j : Nat, 0 ≤ edS x y i j ∧ edS x y i j ≤ i + j
  | 0, j => by show 0 ≤ (j : Int) ∧ (j : Int) ≤ _; omega
  | i + 1, 0 => by rw [edS_0]; omega
  | i + 1, j + 1 => by
    have h1 := edS_rg i j
    have h2 := edS_rg i (j + 1)
    have h3 := edS_rg (i + 1) j
    show 0 ≤ min (edS x y i j + (if x i = y j then 0 else 1)) (min (edS x y i (j + 1)) (edS x y (i + 1) j) + 1) ∧ min (edS x y i j + (if x i = y j then 0 else 1)) (min (edS x y i (j + 1)) (edS x y (i + 1) j) + 1) ≤ _
    split <;> omega
theorem edR_congr {pr pr' y y' : Nat → Int} {c : Int} {n : Nat} (h : ∀ j, j ≤ n → pr j = pr' j) (hy : ∀ j, j < n → y j = y' j) : ∀ j, j ≤ n → edR pr c y j = edR pr' c y' j
  | 0, hj => by show _ + 1 = _ + 1; rw [h 0 hj]
  | j + 1, hj => by
    show min _ (min _ _ + 1) = min _ (min _ _ + 1)
    rw [h j (by omega), h (j + 1) hj, hy j (by omega), edR_congr h hy j (by omega)]
theorem edS_congr {x' y' : Nat → Int} {m n : Nat} (hx : ∀ j, j < m → x j = x' j) (hy : ∀ j, j < n → y j = y' j) : ∀ i, i ≤ m → ∀ j, j ≤ n → edS x y i j = edS x' y' i j
  | 0, _, _, _ => rfl
  | i + 1, hi, j, hj => by
    show edR _ _ _ _ = edR _ _ _ _
    rw [hx i (by omega)]
    exact edR_congr (fun k hk => edS_congr hx hy i (by omega) k hk) hy j hj
theorem ups_st {a lo hi k : Nat} {f f' : Nat → Int} {v : Int} (hk : lo ≤ k ∧ k < hi) (hv : v = f' k) (h : ∀ j, j ≠ k → f j = f' j) : up (ups d a lo hi f) a k v = ups d a lo hi f' := by
  funext b j; unfold up ups
  by_cases h1 : b = a ∧ j = k
  · rw [if_pos h1, if_pos ⟨h1.1, by omega, by omega⟩, hv, h1.2]
  · rw [if_neg h1]
    by_cases h2 : b = a ∧ lo ≤ j ∧ j < hi
    · rw [if_pos h2, if_pos h2, h j (fun z => h1 ⟨h2.1, z⟩)]
    · rw [if_neg h2, if_neg h2]
theorem ups_eq {a lo hi : Nat} {f f' : Nat → Int} (h : ∀ j, lo ≤ j → j < hi → f j = f' j) : ups d a lo hi f = ups d a lo hi f' := by
  funext b j; unfold ups
  by_cases h2 : b = a ∧ lo ≤ j ∧ j < hi
  · rw [if_pos h2, if_pos h2, h j h2.2.1 h2.2.2]
  · rw [if_neg h2, if_neg h2]
abbrev edF (x y : Nat → Int) (q p : Nat) : Nat → Int := fun k => if k < p + 1 then edS x y (q + 1) k else edS x y q k
abbrev apR (d : sD) (m n : Nat) : Option sV → sD → Prop := fun r d' => r = some (vI (edS (d 287) (d 288) m n)) ∧ Ag [289] [] d d'
theorem t_apart {m n : Nat} (hm : m ≤ 64) (hn : n ≤ 64) : tB G mX12_apart 0 [vR 271, vI m, vI n, vU 0, vU 0, vU 0, vU 0, vU 0] [] d (apR d m n) := by
  have h22 : ∀ q : Nat, q ≤ m → tB G mX12_apart 22 [vR 271, vI m, vI n, vI (q + 1 : Nat), vU 0, vU 0, vU 0, vU 0] [] (ups d 289 0 (n + 1) (edS (d 287) (d 288) q)) (apR d m n) := by
    refine T_loop (α := Nat) 22 (fun q => [vR 271, vI m, vI n, vI (q + 1 : Nat), vU 0, vU 0, vU 0, vU 0]) (fun q => ups d 289 0 (n + 1) (edS (d 287) (d 288) q)) (fun q => q ≤ m) (fun q => m - q) ?_
    intro q hq ih
    try dsimp only at ih ⊢
    have h45 : ∀ p : Nat, (p ≤ n ∧ q < m) → tB G mX12_apart 45 [vR 271, vI m, vI n, vI (q + 1 : Nat), vI (edS (d 287) (d 288) q p), vI (p + 1 : Nat), vU 0, vU 0] [] (ups d 289 0 (n + 1) (edF (d 287) (d 288) q p)) (apR d m n) := by
      refine T_loop (α := Nat) 45 (fun p => [vR 271, vI m, vI n, vI (q + 1 : Nat), vI (edS (d 287) (d 288) q p), vI (p + 1 : Nat), vU 0, vU 0]) (fun p => ups d 289 0 (n + 1) (edF (d 287) (d 288) q p)) (fun p => p ≤ n ∧ q < m) (fun p => n - p) ?_
      rintro p ⟨hp, hqm⟩ ih2
      try dsimp only at ih2 ⊢
      have r1 := edS_rg (x := d 287) (y := d 288) q p
      have r2 := edS_rg (x := d 287) (y := d 288) q (p + 1)
      have r3 := edS_rg (x := d 287) (y := d 288) (q + 1) p
      have h87 : ∀ z : Int, z = (if d 287 q = d 288 p then 0 else 1) → p < n → tB G mX12_apart 87 [vR 271, vI m, vI n, vI (q + 1 : Nat), vI (edS (d 287) (d 288) q p), vI (p + 1 : Nat), vI (edS (d 287) (d 288) q (p + 1)), vU 0] [vI z, vI (edS (d 287) (d 288) q p)] (ups d 289 0 (n + 1) (edF (d 287) (d 288) q p)) (apR d m n) := by
        intro z hz hlt
        have hz2 : z = 0 ∨ z = 1 := by rw [hz]; split <;> simp
        refine T_add dX12_apart_87 (by omega) ?_
        refine T_ist dX12_apart_88 (by decide) rfl ?_
        refine T_aload_n dX12_apart_90 rfl ?_
        refine T_getR dX12_apart_91 fX12_62 rfl k271 r271_28 ?_
        refine T_iload dX12_apart_94 rfl ?_
        refine T_iload dX12_apart_96 rfl ?_
        refine T_iload dX12_apart_98 rfl ?_
        refine T_aload_n dX12_apart_100 rfl ?_
        refine T_getR dX12_apart_101 fX12_62 rfl k271 r271_28 ?_
        refine T_iload dX12_apart_104 rfl ?_
        refine T_iconst dX12_apart_106 (by decide) ?_
        refine T_sub dX12_apart_107 (by omega) ?_
        refine T_ialdv dX12_apart_108 k289 l289 (by omega) (j := p) (by omega) (x := edS (d 287) (d 288) (q + 1) p) (by rw [ups_in (by omega)]; exact if_pos (by omega)) ?_
        refine T_callS dX12_apart_109 lX12_320 (As := [_, _]) (rest := _) rfl rfl (by decide) (Nat.le_of_ble_eq_true rfl) (Nat.le_of_ble_eq_true rfl) t_X12_lesser ?_
        rintro _ _ ⟨rfl, rfl⟩
        refine T_iconst dX12_apart_112 (by decide) ?_
        refine T_add dX12_apart_113 (by omega) ?_
        refine T_callS dX12_apart_114 lX12_320 (As := [_, _]) (rest := _) rfl rfl (by decide) (Nat.le_of_ble_eq_true rfl) (Nat.le_of_ble_eq_true rfl) t_X12_lesser ?_
        rintro _ _ ⟨rfl, rfl⟩
        refine T_iast dX12_apart_117 k289 l289 (by omega) (j := p + 1) (by omega) ?_
        refine T_iload dX12_apart_118 rfl ?_
        refine T_ist dX12_apart_120 (by decide) rfl ?_
        refine T_inc dX12_apart_122 rfl (by decide) rfl (by omega) ?_
        refine T_goto (tgt := 45) dX12_apart_125 (by decide) ?_
        refine T_drop 6 (T_drop 7 (T_eq ?_ (ih2 (p + 1) ⟨by omega, hqm⟩ (by omega))))
        refine ups_st (by omega) ?_ ?_
        · show _ = if _ then _ else _
          rw [if_pos (by omega), hz]; rfl
        · intro j hj
          show (if _ then _ else _) = if _ then _ else _
          by_cases h1 : j < p + 1
          · rw [if_pos h1, if_pos (by omega)]
          · rw [if_neg h1, if_neg (by omega)]
      refine T_iload dX12_apart_45 rfl ?_
      refine T_iload_n dX12_apart_47 rfl ?_
      refine T_icmp_gt (tgt := 128) dX12_apart_48 (by decide) (fun c48 => ?_) (fun c48 => ?_)
      · refine T_inc dX12_apart_128 rfl (by decide) rfl (by omega) ?_
        refine T_goto (tgt := 22) dX12_apart_131 (by decide) ?_
        refine T_drop 4 (T_drop 5 (T_eq ?_ (ih (q + 1) (by omega) (by omega))))
        exact ups_eq (fun j _ hj => if_pos (by omega))
      · refine T_aload_n dX12_apart_51 rfl ?_
        refine T_getR dX12_apart_52 fX12_62 rfl k271 r271_28 ?_
        refine T_iload dX12_apart_55 rfl ?_
        refine T_ialdv dX12_apart_57 k289 l289 (by omega) (j := p + 1) (by omega) (x := edS (d 287) (d 288) q (p + 1)) (by rw [ups_in (by omega)]; exact if_neg (by omega)) ?_
        refine T_ist dX12_apart_58 (by decide) rfl ?_
        refine T_iload dX12_apart_60 rfl ?_
        refine T_aload_n dX12_apart_62 rfl ?_
        refine T_getR dX12_apart_63 fX12_56 rfl k271 r271_26 ?_
        refine T_iload_n dX12_apart_66 rfl ?_
        refine T_iconst dX12_apart_67 (by decide) ?_
        refine T_sub dX12_apart_68 (by omega) ?_
        refine T_ialdv dX12_apart_69 k287 l287 (by omega) (j := q) (by omega) (x := d 287 q) (ups_nea (by decide)) ?_
        refine T_aload_n dX12_apart_70 rfl ?_
        refine T_getR dX12_apart_71 fX12_59 rfl k271 r271_27 ?_
        refine T_iload dX12_apart_74 rfl ?_
        refine T_iconst dX12_apart_76 (by decide) ?_
        refine T_sub dX12_apart_77 (by omega) ?_
        refine T_ialdv dX12_apart_78 k288 l288 (by omega) (j := p) (by omega) (x := d 288 p) (ups_nea (by decide)) ?_
        refine T_icmp_ne (tgt := 86) dX12_apart_79 (by decide) (fun c79 => ?_) (fun c79 => ?_)
        · refine T_iconst dX12_apart_86 (by decide) ?_
          exact h87 1 (by rw [if_neg c79]) (by omega)
        · refine T_iconst dX12_apart_82 (by decide) ?_
          refine T_goto (tgt := 87) dX12_apart_83 (by decide) ?_
          exact h87 0 (by rw [if_pos c79]) (by omega)
    refine T_iload_n dX12_apart_22 rfl ?_
    refine T_iload_n dX12_apart_23 rfl ?_
    refine T_icmp_gt (tgt := 134) dX12_apart_24 (by decide) (fun c24 => ?_) (fun c24 => ?_)
    · refine T_aload_n dX12_apart_134 rfl ?_
      refine T_getR dX12_apart_135 fX12_62 rfl k271 r271_28 ?_
      refine T_iload_n dX12_apart_138 rfl ?_
      refine T_ialdv dX12_apart_139 k289 l289 (by omega) (j := n) (by omega) (x := edS (d 287) (d 288) q n) (ups_in (by omega)) ?_
      exact T_ireturn dX12_apart_140 rfl ⟨by rw [show q = m by omega], Ag_ups Ag.rf (by decide)⟩
    · refine T_aload_n dX12_apart_27 rfl ?_
      refine T_getR dX12_apart_28 fX12_62 rfl k271 r271_28 ?_
      refine T_iconst dX12_apart_31 (by decide) ?_
      refine T_ialdv dX12_apart_32 k289 l289 (by omega) (j := 0) rfl (x := edS (d 287) (d 288) q 0) (ups_in (by omega)) ?_
      refine T_ist dX12_apart_33 (by decide) rfl ?_
      refine T_aload_n dX12_apart_35 rfl ?_
      refine T_getR dX12_apart_36 fX12_62 rfl k271 r271_28 ?_
      refine T_iconst dX12_apart_39 (by decide) ?_
      refine T_iload_n dX12_apart_40 rfl ?_
      refine T_iast dX12_apart_41 k289 l289 (by omega) (j := 0) rfl ?_
      refine T_iconst dX12_apart_42 (by decide) ?_
      refine T_ist dX12_apart_43 (by decide) rfl ?_
      refine T_eq ?_ (h45 0 ⟨Nat.zero_le _, by omega⟩)
      refine ups_st (by omega) ?_ ?_
      · show _ = if _ then _ else _
        rw [if_pos (by omega), edS_0]
      · intro j hj
        show _ = if _ then _ else _
        rw [if_neg (by omega)]
  have h2 : ∀ k : Nat, k ≤ n + 1 → tB G mX12_apart 2 [vR 271, vI m, vI n, vI k, vU 0, vU 0, vU 0, vU 0] [] (ups d 289 0 k (fun j => (j : Int))) (apR d m n) := by
    refine T_loop (α := Nat) 2 (fun k => [vR 271, vI m, vI n, vI k, vU 0, vU 0, vU 0, vU 0]) (fun k => ups d 289 0 k (fun j => (j : Int))) (fun k => k ≤ n + 1) (fun k => n + 1 - k) ?_
    intro k hk ih
    try dsimp only at ih ⊢
    refine T_iload_n dX12_apart_2 rfl ?_
    refine T_iload_n dX12_apart_3 rfl ?_
    refine T_icmp_gt (tgt := 20) dX12_apart_4 (by decide) (fun c4 => ?_) (fun c4 => ?_)
    · refine T_iconst dX12_apart_20 (by decide) ?_
      refine T_ist_n dX12_apart_21 (by decide) rfl ?_
      obtain rfl : k = n + 1 := by omega
      exact h22 0 (Nat.zero_le _)
    · refine T_aload_n dX12_apart_7 rfl ?_
      refine T_getR dX12_apart_8 fX12_62 rfl k271 r271_28 ?_
      refine T_iload_n dX12_apart_11 rfl ?_
      refine T_iload_n dX12_apart_12 rfl ?_
      refine T_iast dX12_apart_13 k289 l289 (by omega) (j := k) rfl ?_
      refine T_inc dX12_apart_14 rfl (by decide) rfl (by omega) ?_
      refine T_goto (tgt := 2) dX12_apart_17 (by decide) ?_
      exact T_eq (ups_push (Nat.zero_le _) rfl) (ih (k + 1) (by omega) (by omega))
  refine T_iconst dX12_apart_0 (by decide) ?_
  refine T_ist_n dX12_apart_1 (by decide) rfl ?_
  exact T_eq ups_nil.symm (h2 0 (Nat.zero_le _))

abbrev btW (w : Nat → Int) (a o : Nat) : Nat → Int := fun i => w (19 + 36 * a + 6 * o + i)
abbrev lnW (w : Nat → Int) (a o : Nat) : Nat := (w (18 + 36 * a + 6 * o)).toNat
abbrev frS (w : Nat → Int) (a o q : Nat) : Int := edS (btW w a o) (btW w a q) (lnW w a o) (lnW w a q)
abbrev faC : List Nat := [287, 288, 289]
theorem WV.ln (hV : WV w) {a o : Nat} (ha : a < 2) (ho : (o : Int) < w (15 + a)) : 1 ≤ lnW w a o ∧ lnW w a o ≤ 4 ∧ w (18 + 36 * a + 6 * o) = (lnW w a o : Int) ∧ o < 6 := by
  have h := (hV.2.2.2.2.2 a o ha ho).2.1
  have h2 := (hV.a ha).2.2.2.2
  unfold lnW; omega
theorem t_farOf {a o q : Nat} (hW : Wd d w) (hV : WV w) (ha : a < 2) (ho : (o : Int) < w (15 + a)) (hq : (q : Int) < w (15 + a)) : tB G mX12_farOf 0 [vR 271, vI a, vI o, vI q, vU 0] [] d (fun r d' => r = some (vI (frS w a o q)) ∧ Ag faC [] d d') := by
  have l1 := hV.ln ha ho
  have l2 := hV.ln ha hq
  have h38 : ∀ k : Nat, k ≤ lnW w a q → tB G mX12_farOf 38 [vR 271, vI a, vI o, vI q, vI k] [] (ups (ups d 287 0 (lnW w a o) (btW w a o)) 288 0 k (btW w a q)) (fun r d' => r = some (vI (frS w a o q)) ∧ Ag faC [] d d') := by
    refine T_loop (α := Nat) 38 (fun k => [vR 271, vI a, vI o, vI q, vI k]) (fun k => ups (ups d 287 0 (lnW w a o) (btW w a o)) 288 0 k (btW w a q)) (fun k => k ≤ lnW w a q) (fun k => lnW w a q - k) ?_
    intro k hk ih
    try dsimp only at ih ⊢
    have hWk : Wd (ups (ups d 287 0 (lnW w a o) (btW w a o)) 288 0 k (btW w a q)) w := (hW.ups (by decide) (by decide)).ups (by decide) (by decide)
    refine T_iload dX12_farOf_38 rfl ?_
    refine T_aload_n dX12_farOf_40 rfl ?_
    refine T_iload_n dX12_farOf_41 rfl ?_
    refine T_iload_n dX12_farOf_42 rfl ?_
    refine T_callV dX12_farOf_43 lX12_230 (As := [_, _]) (rest := _) rfl rfl k271 (by decide) (Nat.le_of_ble_eq_true rfl) (Nat.le_of_ble_eq_true rfl) (t_lengthOf hWk ha (by omega)) ?_
    rintro _ _ ⟨rfl, rfl⟩
    refine T_icmp_ge (tgt := 70) dX12_farOf_46 (by decide) (fun c46 => ?_) (fun c46 => ?_)
    · refine T_aload_n dX12_farOf_70 rfl ?_
      refine T_aload_n dX12_farOf_71 rfl ?_
      refine T_iload_n dX12_farOf_72 rfl ?_
      refine T_iload_n dX12_farOf_73 rfl ?_
      refine T_callV dX12_farOf_74 lX12_230 (As := [_, _]) (rest := _) rfl rfl k271 (by decide) (Nat.le_of_ble_eq_true rfl) (Nat.le_of_ble_eq_true rfl) (t_lengthOf hWk ha (by omega)) ?_
      rintro _ _ ⟨rfl, rfl⟩
      refine T_aload_n dX12_farOf_77 rfl ?_
      refine T_iload_n dX12_farOf_78 rfl ?_
      refine T_iload_n dX12_farOf_79 rfl ?_
      refine T_callV dX12_farOf_80 lX12_230 (As := [_, _]) (rest := _) rfl rfl k271 (by decide) (Nat.le_of_ble_eq_true rfl) (Nat.le_of_ble_eq_true rfl) (t_lengthOf hWk ha (by omega)) ?_
      rintro _ _ ⟨rfl, rfl⟩
      refine T_callV dX12_farOf_83 lX12_323 (As := [_, _]) (rest := _) rfl rfl k271 (by decide) (Nat.le_of_ble_eq_true rfl) (Nat.le_of_ble_eq_true rfl) (T_args1 (y := lnW w a o) (by omega) (T_args2 (y := lnW w a q) (by omega) (t_apart (by omega) (by omega)))) ?_
      rintro _ d1 ⟨rfl, hA1⟩
      exact T_ireturn dX12_farOf_86 rfl ⟨by rw [edS_congr (x' := btW w a o) (y' := btW w a q) (m := lnW w a o) (n := lnW w a q) (fun j hj => by rw [ups_nea (by decide), ups_in (by omega)]) (fun j hj => by rw [ups_in (by omega)]) _ (Nat.le_refl _) _ (Nat.le_refl _)], (Ag_ups (Ag_ups Ag.rf (by decide)) (by decide) : Ag faC [] d _).trans hA1 (by decide) (by decide) (by decide) (by decide)⟩
    · refine T_aload_n dX12_farOf_49 rfl ?_
      refine T_getR dX12_farOf_50 fX12_59 rfl k271 r271_27 ?_
      refine T_iload dX12_farOf_53 rfl ?_
      refine T_aload_n dX12_farOf_55 rfl ?_
      refine T_iload_n dX12_farOf_56 rfl ?_
      refine T_iload_n dX12_farOf_57 rfl ?_
      refine T_iload dX12_farOf_58 rfl ?_
      refine T_callV dX12_farOf_60 lX12_233 (As := [_, _, _]) (rest := _) rfl rfl k271 (by decide) (Nat.le_of_ble_eq_true rfl) (Nat.le_of_ble_eq_true rfl) (t_beatOf hWk ha (by omega) (by omega)) ?_
      rintro _ _ ⟨rfl, rfl⟩
      refine T_iast dX12_farOf_63 k288 l288 (by omega) (j := k) rfl ?_
      refine T_inc dX12_farOf_64 rfl (by decide) rfl (by omega) ?_
      refine T_goto (tgt := 38) dX12_farOf_67 (by decide) ?_
      exact T_eq (ups_push (Nat.zero_le _) rfl) (ih (k + 1) (by omega) (by omega))
  have h3 : ∀ k : Nat, k ≤ lnW w a o → tB G mX12_farOf 3 [vR 271, vI a, vI o, vI q, vI k] [] (ups d 287 0 k (btW w a o)) (fun r d' => r = some (vI (frS w a o q)) ∧ Ag faC [] d d') := by
    refine T_loop (α := Nat) 3 (fun k => [vR 271, vI a, vI o, vI q, vI k]) (fun k => ups d 287 0 k (btW w a o)) (fun k => k ≤ lnW w a o) (fun k => lnW w a o - k) ?_
    intro k hk ih
    try dsimp only at ih ⊢
    have hWk : Wd (ups d 287 0 k (btW w a o)) w := hW.ups (by decide) (by decide)
    refine T_iload dX12_farOf_3 rfl ?_
    refine T_aload_n dX12_farOf_5 rfl ?_
    refine T_iload_n dX12_farOf_6 rfl ?_
    refine T_iload_n dX12_farOf_7 rfl ?_
    refine T_callV dX12_farOf_8 lX12_230 (As := [_, _]) (rest := _) rfl rfl k271 (by decide) (Nat.le_of_ble_eq_true rfl) (Nat.le_of_ble_eq_true rfl) (t_lengthOf hWk ha (by omega)) ?_
    rintro _ _ ⟨rfl, rfl⟩
    refine T_icmp_ge (tgt := 35) dX12_farOf_11 (by decide) (fun c11 => ?_) (fun c11 => ?_)
    · refine T_iconst dX12_farOf_35 (by decide) ?_
      refine T_ist dX12_farOf_36 (by decide) rfl ?_
      obtain rfl : k = lnW w a o := by omega
      exact T_eq ups_nil.symm (h38 0 (Nat.zero_le _))
    · refine T_aload_n dX12_farOf_14 rfl ?_
      refine T_getR dX12_farOf_15 fX12_56 rfl k271 r271_26 ?_
      refine T_iload dX12_farOf_18 rfl ?_
      refine T_aload_n dX12_farOf_20 rfl ?_
      refine T_iload_n dX12_farOf_21 rfl ?_
      refine T_iload_n dX12_farOf_22 rfl ?_
      refine T_iload dX12_farOf_23 rfl ?_
      refine T_callV dX12_farOf_25 lX12_233 (As := [_, _, _]) (rest := _) rfl rfl k271 (by decide) (Nat.le_of_ble_eq_true rfl) (Nat.le_of_ble_eq_true rfl) (t_beatOf hWk ha (by omega) (by omega)) ?_
      rintro _ _ ⟨rfl, rfl⟩
      refine T_iast dX12_farOf_28 k287 l287 (by omega) (j := k) rfl ?_
      refine T_inc dX12_farOf_29 rfl (by decide) rfl (by omega) ?_
      refine T_goto (tgt := 3) dX12_farOf_32 (by decide) ?_
      exact T_eq (ups_push (Nat.zero_le _) rfl) (ih (k + 1) (by omega) (by omega))
  refine T_iconst dX12_farOf_0 (by decide) ?_
  refine T_ist dX12_farOf_1 (by decide) rfl ?_
  exact T_eq ups_nil.symm (h3 0 (Nat.zero_le _))

end M22
