/-! the reference: the row is laid -/
section M7
variable {G : sG} {d : sD} {w : Nat → Int}
/-- one round of turns, from t * q on; the first q rounds; the whole row -/
def seg1 (t m0 : Nat) (x : Nat → Int) (q : Nat) : List (Int × Int) := (List.range (min t (m0 - t * q))).map (fun k => (x (t * q + k), 0))
def seg2 (t m1 : Nat) (y : Nat → Int) (q : Nat) : List (Int × Int) := (List.range (min t (m1 - t * q))).map (fun k => (y (t * q + k), 1))
def layP (t m0 m1 : Nat) (x y : Nat → Int) : Nat → List (Int × Int)
  | 0 => []
  | q + 1 => layP t m0 m1 x y q ++ (seg1 t m0 x q ++ seg2 t m1 y q)
theorem layP_len {t m0 m1 : Nat} {x y : Nat → Int} : ∀ q, (layP t m0 m1 x y q).length = min (t * q) m0 + min (t * q) m1
  | 0 => by simp [layP]
  | q + 1 => by
    have ih := layP_len (t := t) (m0 := m0) (m1 := m1) (x := x) (y := y) q
    simp only [layP, seg1, seg2, List.length_append, List.length_map, List.length_range, ih, Nat.mul_succ]
    omega
theorem layP_end {t m0 m1 : Nat} {x y : Nat → Int} {q : Nat} (h0 : m0 ≤ t * q) (h1 : m1 ≤ t * q) : ∀ n, layP t m0 m1 x y (q + n) = layP t m0 m1 x y q
  | 0 => rfl
  | n + 1 => by
    have ih := layP_end (x := x) (y := y) h0 h1 n
    have hm : t * q ≤ t * (q + n) := Nat.mul_le_mul_left _ (Nat.le_add_right _ _)
    show layP t m0 m1 x y (q + n) ++ (seg1 t m0 x (q + n) ++ seg2 t m1 y (q + n)) = _
    rw [ih]
    unfold seg1 seg2
    rw [show min t (m0 - t * (q + n)) = 0 by omega, show min t (m1 - t * (q + n)) = 0 by omega]
    simp
def layD (d : sD) (acc : List (Int × Int)) : sD := up (ups (ups d 277 0 acc.length (fun j => (acc.getD j (0, 0)).1)) 278 0 acc.length (fun j => (acc.getD j (0, 0)).2)) 271 18 (acc.length : Int)
theorem layD_push {acc : List (Int × Int)} {b g : Int} : up (up (up (layD d acc) 277 acc.length b) 278 acc.length g) 271 18 ((acc.length : Int) + 1) = layD d (acc ++ [(b, g)]) := by
  unfold layD
  rw [up_comm (a := 271) (b := 277) (Or.inl (by decide)), up_comm (a := 271) (b := 278) (Or.inl (by decide)), up_up]
  have hl : (acc ++ [(b, g)]).length = acc.length + 1 := by simp
  rw [hl, ups_congr (a := 277) (f := fun j => (acc.getD j (0, 0)).1) (g := fun j => ((acc ++ [(b, g)]).getD j (0, 0)).1) (fun j _ hj => by simp [List.getD_eq_getElem?_getD, List.getElem?_append_left hj]),
    ups_congr (a := 278) (f := fun j => (acc.getD j (0, 0)).2) (g := fun j => ((acc ++ [(b, g)]).getD j (0, 0)).2) (fun j _ hj => by simp [List.getD_eq_getElem?_getD, List.getElem?_append_left hj]),
    ups2_push (by decide) (by simp) (by simp)]
  rfl
theorem layD_18 {acc : List (Int × Int)} : layD d acc 271 18 = (acc.length : Int) := up_same
theorem layD_Wd {acc : List (Int × Int)} (h : Wd d w) : Wd (layD d acc) w := ((h.ups (by decide) (by decide)).ups (by decide) (by decide)).up (by decide) (by decide)
/-- what the walk of laysRow rests on -/
def LyH (d : sD) (w : Nat → Int) (t m0 m1 : Nat) : Prop := Wd d w ∧ w 0 = (t : Int) ∧ 1 ≤ t ∧ t ≤ 4 ∧ d 276 0 = (m0 : Int) ∧ d 276 1 = (m1 : Int) ∧ m0 ≤ 12 ∧ m1 ≤ 12
abbrev lyX (d : sD) : Nat → Int := fun k => d 275 k
abbrev lyY (d : sD) : Nat → Int := fun k => d 275 (12 + k)
abbrev lyQ (d : sD) (t m0 m1 : Nat) : Option sV → sD → Prop := fun r d' => r = none ∧ d' = layD d (layP t m0 m1 (lyX d) (lyY d) 12)
theorem ly96 {t m0 m1 : Nat} (H : LyH d w t m0 m1) {q : Nat} (hq : q < 12) (hnext : tB G mX12_laysRow 9 [vR 271, vI (min (t * (q + 1)) m0 : Nat), vI (min (t * (q + 1)) m1 : Nat), vU 0] [] (layD d (layP t m0 m1 (lyX d) (lyY d) (q + 1))) (lyQ d t m0 m1)) :
    ∀ k : Nat, k ≤ min t (m1 - t * q) → tB G mX12_laysRow 96 [vR 271, vI (min (t * (q + 1)) m0 : Nat), vI (min (t * q) m1 + k : Nat), vI k] [] (layD d ((layP t m0 m1 (lyX d) (lyY d) q ++ seg1 t m0 (lyX d) q) ++ (List.range k).map (fun i => (lyY d (t * q + i), 1)))) (lyQ d t m0 m1) := by
  refine T_loop (α := Nat) 96 (fun k => [vR 271, vI (min (t * (q + 1)) m0 : Nat), vI (min (t * q) m1 + k : Nat), vI k]) (fun k => layD d ((layP t m0 m1 (lyX d) (lyY d) q ++ seg1 t m0 (lyX d) q) ++ (List.range k).map (fun i => (lyY d (t * q + i), 1)))) (fun k => k ≤ min t (m1 - t * q)) (fun k => min t (m1 - t * q) - k) ?_
  intro k hI ih
  try dsimp only at ih ⊢
  obtain ⟨hW, ht, ht1, ht4, hm0, hm1, hb0, hb1⟩ := H
  have hlen : ((layP t m0 m1 (lyX d) (lyY d) q ++ seg1 t m0 (lyX d) q) ++ (List.range k).map (fun i => (lyY d (t * q + i), (1 : Int)))).length = min (t * q) m0 + min (t * q) m1 + min t (m0 - t * q) + k := by
    rw [List.length_append, List.length_append, layP_len]
    simp [seg1]
  have hpush : ∀ b : Int, b = lyY d (t * q + k) → ((layP t m0 m1 (lyX d) (lyY d) q ++ seg1 t m0 (lyX d) q) ++ (List.range k).map (fun i => (lyY d (t * q + i), (1 : Int)))) ++ [(b, 1)] = (layP t m0 m1 (lyX d) (lyY d) q ++ seg1 t m0 (lyX d) q) ++ (List.range (k + 1)).map (fun i => (lyY d (t * q + i), (1 : Int))) := by
    intro b hb
    rw [List.range_succ, List.map_append, hb]
    simp
  have hend : k = min t (m1 - t * q) → (layP t m0 m1 (lyX d) (lyY d) q ++ seg1 t m0 (lyX d) q) ++ (List.range k).map (fun i => (lyY d (t * q + i), (1 : Int))) = layP t m0 m1 (lyX d) (lyY d) (q + 1) := by
    intro hk
    rw [hk, List.append_assoc]
    rfl
  generalize hacc : (layP t m0 m1 (lyX d) (lyY d) q ++ seg1 t m0 (lyX d) q) ++ (List.range k).map (fun i => (lyY d (t * q + i), (1 : Int))) = acc at hlen hpush hend ⊢
  have hWa := layD_Wd (acc := acc) hW
  have e18 : layD d acc 271 18 = (acc.length : Int) := layD_18
  have hmul : t * (q + 1) = t * q + t := Nat.mul_succ t q

  refine T_iload_n dX12_laysRow_96 rfl ?_
  refine T_aload_n dX12_laysRow_97 rfl ?_
  refine T_iconst dX12_laysRow_98 (by decide) ?_
  refine T_callV dX12_laysRow_99 lX12_212 (As := [_]) (rest := _) rfl rfl k271 (by decide) (Nat.le_of_ble_eq_true rfl) (Nat.le_of_ble_eq_true rfl) (t_of (y := 0) hWa rfl (by decide)) ?_
  rintro _ _ ⟨rfl, rfl⟩
  refine T_icmp_ge (tgt := 162) dX12_laysRow_102 (by decide) (fun c102 => ?_) (fun c102 => ?_)
  · refine T_goto (tgt := 9) dX12_laysRow_162 (by decide) ?_
    have hk : k = min t (m1 - t * q) := by omega
    refine T_drop 3 ?_
    rw [hend hk, show min (t * q) m1 + k = min (t * (q + 1)) m1 by omega]
    exact hnext
  · refine T_iload_n dX12_laysRow_105 rfl ?_
    refine T_aload_n dX12_laysRow_106 rfl ?_
    refine T_getR dX12_laysRow_107 fX12_23 rfl k271 r271_13 ?_
    refine T_iconst dX12_laysRow_110 (by decide) ?_
    refine T_ialdv dX12_laysRow_111 k276 l276 (by omega) (j := 1) rfl (x := (m1 : Int)) hm1 ?_
    refine T_icmp_ge (tgt := 162) dX12_laysRow_112 (by decide) (fun c112 => ?_) (fun c112 => ?_)
    · refine T_goto (tgt := 9) dX12_laysRow_162 (by decide) ?_
      have hk : k = min t (m1 - t * q) := by omega
      refine T_drop 3 ?_
      rw [hend hk, show min (t * q) m1 + k = min (t * (q + 1)) m1 by omega]
      exact hnext
    · refine T_aload_n dX12_laysRow_115 rfl ?_
      refine T_getR dX12_laysRow_116 fX12_26 rfl k271 r271_14 ?_
      refine T_aload_n dX12_laysRow_119 rfl ?_
      refine T_getIv dX12_laysRow_120 fX12_243 rfl k271 (x := (acc.length : Int)) e18 ?_
      refine T_aload_n dX12_laysRow_123 rfl ?_
      refine T_getR dX12_laysRow_124 fX12_20 rfl k271 r271_12 ?_
      refine T_bipush dX12_laysRow_127 (by decide) ?_
      refine T_iload_n dX12_laysRow_129 rfl ?_
      refine T_add dX12_laysRow_130 (by omega) ?_
      refine T_ialdv dX12_laysRow_131 k275 l275 (by omega) (j := 12 + (t * q + k)) (by omega) (x := lyY d (t * q + k)) rfl ?_
      refine T_iast dX12_laysRow_132 k277 l277 (by omega) (j := acc.length) (by omega) ?_
      refine T_aload_n dX12_laysRow_133 rfl ?_
      refine T_getR dX12_laysRow_134 fX12_29 rfl k271 r271_15 ?_
      refine T_aload_n dX12_laysRow_137 rfl ?_
      refine T_getIv dX12_laysRow_138 fX12_243 rfl k271 (x := (acc.length : Int)) e18 ?_
      refine T_iconst dX12_laysRow_141 (by decide) ?_
      refine T_iast dX12_laysRow_142 k278 l278 (by omega) (j := acc.length) (by omega) ?_
      refine T_aload_n dX12_laysRow_143 rfl ?_
      refine T_dup dX12_laysRow_144 rfl ?_
      refine T_getIv dX12_laysRow_145 fX12_243 rfl k271 (x := (acc.length : Int)) e18 ?_
      refine T_iconst dX12_laysRow_148 (by decide) ?_
      refine T_add dX12_laysRow_149 (by omega) ?_
      refine T_putI dX12_laysRow_150 fX12_243 rfl k271 ?_
      refine T_inc dX12_laysRow_153 rfl (by decide) rfl (by omega) ?_
      refine T_inc dX12_laysRow_156 rfl (by decide) rfl (by omega) ?_
      refine T_goto (tgt := 96) dX12_laysRow_159 (by decide) ?_
      refine T_eq layD_push ?_
      rw [hpush _ rfl]
      exact ih (k + 1) (by omega) (by omega)

theorem ly31 {t m0 m1 : Nat} (H : LyH d w t m0 m1) {q : Nat} (hq : q < 12) (hnext : tB G mX12_laysRow 9 [vR 271, vI (min (t * (q + 1)) m0 : Nat), vI (min (t * (q + 1)) m1 : Nat), vU 0] [] (layD d (layP t m0 m1 (lyX d) (lyY d) (q + 1))) (lyQ d t m0 m1)) :
    ∀ k : Nat, k ≤ min t (m0 - t * q) → tB G mX12_laysRow 31 [vR 271, vI (min (t * q) m0 + k : Nat), vI (min (t * q) m1 : Nat), vI k] [] (layD d (layP t m0 m1 (lyX d) (lyY d) q ++ (List.range k).map (fun i => (lyX d (t * q + i), 0)))) (lyQ d t m0 m1) := by
  refine T_loop (α := Nat) 31 (fun k => [vR 271, vI (min (t * q) m0 + k : Nat), vI (min (t * q) m1 : Nat), vI k]) (fun k => layD d (layP t m0 m1 (lyX d) (lyY d) q ++ (List.range k).map (fun i => (lyX d (t * q + i), 0)))) (fun k => k ≤ min t (m0 - t * q)) (fun k => min t (m0 - t * q) - k) ?_
  intro k hI ih
  try dsimp only at ih ⊢
  have h96 := ly96 (G := G) H hq hnext 0 (Nat.zero_le _)
  obtain ⟨hW, ht, ht1, ht4, hm0, hm1, hb0, hb1⟩ := H
  have hlen : (layP t m0 m1 (lyX d) (lyY d) q ++ (List.range k).map (fun i => (lyX d (t * q + i), (0 : Int)))).length = min (t * q) m0 + min (t * q) m1 + k := by
    rw [List.length_append, layP_len]
    simp
  have hpush : ∀ b : Int, b = lyX d (t * q + k) → (layP t m0 m1 (lyX d) (lyY d) q ++ (List.range k).map (fun i => (lyX d (t * q + i), (0 : Int)))) ++ [(b, 0)] = layP t m0 m1 (lyX d) (lyY d) q ++ (List.range (k + 1)).map (fun i => (lyX d (t * q + i), (0 : Int))) := by
    intro b hb
    rw [List.range_succ, List.map_append, hb]
    simp
  have hend : k = min t (m0 - t * q) → layP t m0 m1 (lyX d) (lyY d) q ++ (List.range k).map (fun i => (lyX d (t * q + i), (0 : Int))) = layP t m0 m1 (lyX d) (lyY d) q ++ seg1 t m0 (lyX d) q := by
    intro hk
    rw [hk]
    rfl
  generalize hacc : layP t m0 m1 (lyX d) (lyY d) q ++ (List.range k).map (fun i => (lyX d (t * q + i), (0 : Int))) = acc at hlen hpush hend ⊢
  have hWa := layD_Wd (acc := acc) hW
  have e18 : layD d acc 271 18 = (acc.length : Int) := layD_18
  have hmul : t * (q + 1) = t * q + t := Nat.mul_succ t q

  refine T_iload_n dX12_laysRow_31 rfl ?_
  refine T_aload_n dX12_laysRow_32 rfl ?_
  refine T_iconst dX12_laysRow_33 (by decide) ?_
  refine T_callV dX12_laysRow_34 lX12_212 (As := [_]) (rest := _) rfl rfl k271 (by decide) (Nat.le_of_ble_eq_true rfl) (Nat.le_of_ble_eq_true rfl) (t_of (y := 0) hWa rfl (by decide)) ?_
  rintro _ _ ⟨rfl, rfl⟩
  refine T_icmp_ge (tgt := 94) dX12_laysRow_37 (by decide) (fun c37 => ?_) (fun c37 => ?_)
  · refine T_iconst dX12_laysRow_94 (by decide) ?_
    refine T_ist_n dX12_laysRow_95 (by decide) rfl ?_
    have hk : k = min t (m0 - t * q) := by omega
    rw [hend hk, show min (t * q) m0 + k = min (t * (q + 1)) m0 by omega]
    rw [List.range_zero, List.map_nil, List.append_nil] at h96
    exact h96
  · refine T_iload_n dX12_laysRow_40 rfl ?_
    refine T_aload_n dX12_laysRow_41 rfl ?_
    refine T_getR dX12_laysRow_42 fX12_23 rfl k271 r271_13 ?_
    refine T_iconst dX12_laysRow_45 (by decide) ?_
    refine T_ialdv dX12_laysRow_46 k276 l276 (by omega) (j := 0) rfl (x := (m0 : Int)) hm0 ?_
    refine T_icmp_ge (tgt := 94) dX12_laysRow_47 (by decide) (fun c47 => ?_) (fun c47 => ?_)
    · refine T_iconst dX12_laysRow_94 (by decide) ?_
      refine T_ist_n dX12_laysRow_95 (by decide) rfl ?_
      have hk : k = min t (m0 - t * q) := by omega
      rw [hend hk, show min (t * q) m0 + k = min (t * (q + 1)) m0 by omega]
      rw [List.range_zero, List.map_nil, List.append_nil] at h96
      exact h96
    · refine T_aload_n dX12_laysRow_50 rfl ?_
      refine T_getR dX12_laysRow_51 fX12_26 rfl k271 r271_14 ?_
      refine T_aload_n dX12_laysRow_54 rfl ?_
      refine T_getIv dX12_laysRow_55 fX12_243 rfl k271 (x := (acc.length : Int)) e18 ?_
      refine T_aload_n dX12_laysRow_58 rfl ?_
      refine T_getR dX12_laysRow_59 fX12_20 rfl k271 r271_12 ?_
      refine T_iload_n dX12_laysRow_62 rfl ?_
      refine T_ialdv dX12_laysRow_63 k275 l275 (by omega) (j := t * q + k) (by omega) (x := lyX d (t * q + k)) rfl ?_
      refine T_iast dX12_laysRow_64 k277 l277 (by omega) (j := acc.length) (by omega) ?_
      refine T_aload_n dX12_laysRow_65 rfl ?_
      refine T_getR dX12_laysRow_66 fX12_29 rfl k271 r271_15 ?_
      refine T_aload_n dX12_laysRow_69 rfl ?_
      refine T_getIv dX12_laysRow_70 fX12_243 rfl k271 (x := (acc.length : Int)) e18 ?_
      refine T_iconst dX12_laysRow_73 (by decide) ?_
      refine T_iast dX12_laysRow_74 k278 l278 (by omega) (j := acc.length) (by omega) ?_
      refine T_aload_n dX12_laysRow_75 rfl ?_
      refine T_dup dX12_laysRow_76 rfl ?_
      refine T_getIv dX12_laysRow_77 fX12_243 rfl k271 (x := (acc.length : Int)) e18 ?_
      refine T_iconst dX12_laysRow_80 (by decide) ?_
      refine T_add dX12_laysRow_81 (by omega) ?_
      refine T_putI dX12_laysRow_82 fX12_243 rfl k271 ?_
      refine T_inc dX12_laysRow_85 rfl (by decide) rfl (by omega) ?_
      refine T_inc dX12_laysRow_88 rfl (by decide) rfl (by omega) ?_
      refine T_goto (tgt := 31) dX12_laysRow_91 (by decide) ?_
      refine T_eq layD_push ?_
      rw [hpush _ rfl]
      exact ih (k + 1) (by omega) (by omega)

theorem ly9 {t m0 m1 : Nat} (H : LyH d w t m0 m1) : ∀ q : Nat, q ≤ 12 → tB G mX12_laysRow 9 [vR 271, vI (min (t * q) m0 : Nat), vI (min (t * q) m1 : Nat), vU 0] [] (layD d (layP t m0 m1 (lyX d) (lyY d) q)) (lyQ d t m0 m1) := by
  refine T_loop (α := Nat) 9 (fun q => [vR 271, vI (min (t * q) m0 : Nat), vI (min (t * q) m1 : Nat), vU 0]) (fun q => layD d (layP t m0 m1 (lyX d) (lyY d) q)) (fun q => q ≤ 12) (fun q => 12 - q) ?_
  intro q hI ih
  try dsimp only at ih ⊢
  have H2 := H
  obtain ⟨hW, ht, ht1, ht4, hm0, hm1, hb0, hb1⟩ := H2
  have h12 : q = 12 → 12 ≤ t * q := fun h => by subst h; omega

  refine T_iload_n dX12_laysRow_9 rfl ?_
  refine T_aload_n dX12_laysRow_10 rfl ?_
  refine T_getR dX12_laysRow_11 fX12_23 rfl k271 r271_13 ?_
  refine T_iconst dX12_laysRow_14 (by decide) ?_
  refine T_ialdv dX12_laysRow_15 k276 l276 (by omega) (j := 0) rfl (x := (m0 : Int)) hm0 ?_
  refine T_icmp_lt (tgt := 29) dX12_laysRow_16 (by decide) (fun c16 => ?_) (fun c16 => ?_)
  · refine T_iconst dX12_laysRow_29 (by decide) ?_
    refine T_ist_n dX12_laysRow_30 (by decide) rfl ?_
    have hq : q < 12 := by omega
    have h := ly31 (G := G) H hq (ih (q + 1) (by omega) (by omega)) 0 (Nat.zero_le _)
    rw [List.range_zero, List.map_nil, List.append_nil] at h
    exact h
  · refine T_iload_n dX12_laysRow_19 rfl ?_
    refine T_aload_n dX12_laysRow_20 rfl ?_
    refine T_getR dX12_laysRow_21 fX12_23 rfl k271 r271_13 ?_
    refine T_iconst dX12_laysRow_24 (by decide) ?_
    refine T_ialdv dX12_laysRow_25 k276 l276 (by omega) (j := 1) rfl (x := (m1 : Int)) hm1 ?_
    refine T_icmp_ge (tgt := 165) dX12_laysRow_26 (by decide) (fun c26 => ?_) (fun c26 => ?_)
    · exact T_return dX12_laysRow_165 rfl ⟨rfl, by
        have he := layP_end (x := lyX d) (y := lyY d) (t := t) (m0 := m0) (m1 := m1) (q := q) (by omega) (by omega) (12 - q)
        rw [show q + (12 - q) = 12 by omega] at he
        rw [he]⟩
    · refine T_iconst dX12_laysRow_29 (by decide) ?_
      refine T_ist_n dX12_laysRow_30 (by decide) rfl ?_
      have hq : q < 12 := by omega
      have h := ly31 (G := G) H hq (ih (q + 1) (by omega) (by omega)) 0 (Nat.zero_le _)
      rw [List.range_zero, List.map_nil, List.append_nil] at h
      exact h

theorem t_laysRow {t m0 m1 : Nat} (H : LyH d w t m0 m1) : tB G mX12_laysRow 0 [vR 271, vU 0, vU 0, vU 0] [] d (lyQ d t m0 m1) := by
  refine T_aload_n dX12_laysRow_0 rfl ?_
  refine T_iconst dX12_laysRow_1 (by decide) ?_
  refine T_putI dX12_laysRow_2 fX12_243 rfl k271 ?_
  refine T_iconst dX12_laysRow_5 (by decide) ?_
  refine T_ist_n dX12_laysRow_6 (by decide) rfl ?_
  refine T_iconst dX12_laysRow_7 (by decide) ?_
  refine T_ist_n dX12_laysRow_8 (by decide) rfl ?_
  have h := ly9 (G := G) H 0 (Nat.zero_le _)
  rw [Nat.mul_zero, Nat.zero_min, Nat.zero_min] at h
  refine T_eq ?_ h
  unfold layD layP
  rw [List.length_nil, ups_nil, ups_nil]
  rfl

end M7
