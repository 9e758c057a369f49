/-! the reference: what is heard; what is played of a war and a score -/
section M9
variable {G : sG} {d : sD} {w g : Nat → Int}
def hnS (w : Nat → Int) (n a : Nat) : Int := if (n : Int) ≤ w (7 + a) then 0 else ((n : Int) - 1 - w (7 + a)) / w (9 + a) + 1
def phS (w : Nat → Int) (a : Nat) (k : Int) : Int := w (7 + a) + k * w (9 + a)
theorem WV.a (hV : WV w) {a : Nat} (ha : a < 2) : (0 ≤ w (7 + a) ∧ w (7 + a) ≤ 3) ∧ (1 ≤ w (9 + a) ∧ w (9 + a) ≤ 4) ∧ (0 ≤ w (11 + a) ∧ w (11 + a) ≤ 3) ∧ (0 ≤ w (13 + a) ∧ w (13 + a) ≤ 20) ∧ (0 ≤ w (15 + a) ∧ w (15 + a) ≤ 6) := hV.2.2.2.2.1 a ha
theorem hnS_rg (hV : WV w) {n a : Nat} (ha : a < 2) : 0 ≤ hnS w n a ∧ hnS w n a ≤ n := by
  obtain ⟨h1, h2, -⟩ := hV.a ha
  unfold hnS
  split
  · omega
  · have h3 : 0 ≤ ((n : Int) - 1 - w (7 + a)) / w (9 + a) := Int.ediv_nonneg (by omega) (by omega)
    have h4 : ((n : Int) - 1 - w (7 + a)) / w (9 + a) ≤ (n : Int) - 1 - w (7 + a) := Int.ediv_le_self _ (by omega)
    omega
theorem ph_lt (hV : WV w) {n a : Nat} (ha : a < 2) {j : Int} (h0 : 0 ≤ j) (hj : j < hnS w n a) : 0 ≤ phS w a j ∧ phS w a j < n := by
  obtain ⟨h1, h2, -⟩ := hV.a ha
  have hm : 0 ≤ j * w (9 + a) := Int.mul_nonneg h0 (by omega)
  unfold hnS at hj
  unfold phS
  split at hj
  · omega
  · have h3 : j ≤ ((n : Int) - 1 - w (7 + a)) / w (9 + a) := by omega
    have h4 : j * w (9 + a) ≤ (n : Int) - 1 - w (7 + a) := (Int.le_ediv_iff_mul_le (by omega)).mp h3
    omega

theorem t_hears {n a : Nat} (hW : Wd d w) (hV : WV w) (hn : d 271 18 = (n : Int)) (hn24 : n ≤ 24) (ha : a < 2) : tB G mX12_hears 0 [vR 271, vI a, vU 0] [] d (fun r d' => r = some (vI (hnS w n a)) ∧ d = d') := by
  obtain ⟨v1, v2, -⟩ := hV.a ha
  have hrg := hnS_rg (n := n) hV ha
  refine T_aload_n dX12_hears_0 rfl ?_
  refine T_bipush dX12_hears_1 (by decide) ?_
  refine T_iload_n dX12_hears_3 rfl ?_
  refine T_add dX12_hears_4 (by omega) ?_
  refine T_callV dX12_hears_5 lX12_212 (As := [_]) (rest := _) rfl rfl k271 (by decide) (Nat.le_of_ble_eq_true rfl) (Nat.le_of_ble_eq_true rfl) (t_of (y := 7 + a) hW (by omega) (by omega)) ?_
  rintro _ _ ⟨rfl, rfl⟩
  refine T_ist_n dX12_hears_8 (by decide) rfl ?_
  refine T_iload_n dX12_hears_9 rfl ?_
  refine T_aload_n dX12_hears_10 rfl ?_
  refine T_getI dX12_hears_11 fX12_243 rfl k271 ?_
  refine T_icmp_lt (tgt := 21) dX12_hears_14 (by decide) (fun c14 => ?_) (fun c14 => ?_)
  · refine T_aload_n dX12_hears_21 rfl ?_
    refine T_getI dX12_hears_22 fX12_243 rfl k271 ?_
    refine T_iconst dX12_hears_25 (by decide) ?_
    refine T_sub dX12_hears_26 (by omega) ?_
    refine T_iload_n dX12_hears_27 rfl ?_
    refine T_sub dX12_hears_28 (by omega) ?_
    refine T_aload_n dX12_hears_29 rfl ?_
    refine T_bipush dX12_hears_30 (by decide) ?_
    refine T_iload_n dX12_hears_32 rfl ?_
    refine T_add dX12_hears_33 (by omega) ?_
    refine T_callV dX12_hears_34 lX12_212 (As := [_]) (rest := _) rfl rfl k271 (by decide) (Nat.le_of_ble_eq_true rfl) (Nat.le_of_ble_eq_true rfl) (t_of (y := 9 + a) hW (by omega) (by omega)) ?_
    rintro _ _ ⟨rfl, rfl⟩
    refine T_div dX12_hears_37 (by omega) (by omega) ?_
    refine T_iconst dX12_hears_38 (by decide) ?_
    refine T_add dX12_hears_39 (by unfold hnS at hrg; rw [if_neg (by omega)] at hrg; rw [hn]; omega) ?_
    exact T_ireturn dX12_hears_40 rfl ⟨by unfold hnS; rw [if_neg (by omega), hn], rfl⟩
  · refine T_iconst dX12_hears_17 (by decide) ?_
    refine T_goto (tgt := 40) dX12_hears_18 (by decide) ?_
    exact T_ireturn dX12_hears_40 rfl ⟨by unfold hnS; rw [if_pos (by omega)], rfl⟩

theorem t_placeHeard {a k : Nat} (hW : Wd d w) (hV : WV w) (ha : a < 2) (hk : k ≤ 100) : tB G mX12_placeHeard 0 [vR 271, vI a, vI k] [] d (fun r d' => r = some (vI (phS w a k)) ∧ d = d') := by
  obtain ⟨v1, v2, -⟩ := hV.a ha
  have hm : 0 ≤ (k : Int) * w (9 + a) := Int.mul_nonneg (by omega) (by omega)
  have hm2 : (k : Int) * w (9 + a) ≤ 100 * 4 := Int.mul_le_mul (by omega) v2.2 (by omega) (by omega)
  refine T_aload_n dX12_placeHeard_0 rfl ?_
  refine T_bipush dX12_placeHeard_1 (by decide) ?_
  refine T_iload_n dX12_placeHeard_3 rfl ?_
  refine T_add dX12_placeHeard_4 (by omega) ?_
  refine T_callV dX12_placeHeard_5 lX12_212 (As := [_]) (rest := _) rfl rfl k271 (by decide) (Nat.le_of_ble_eq_true rfl) (Nat.le_of_ble_eq_true rfl) (t_of (y := 7 + a) hW (by omega) (by omega)) ?_
  rintro _ _ ⟨rfl, rfl⟩
  refine T_iload_n dX12_placeHeard_8 rfl ?_
  refine T_aload_n dX12_placeHeard_9 rfl ?_
  refine T_bipush dX12_placeHeard_10 (by decide) ?_
  refine T_iload_n dX12_placeHeard_12 rfl ?_
  refine T_add dX12_placeHeard_13 (by omega) ?_
  refine T_callV dX12_placeHeard_14 lX12_212 (As := [_]) (rest := _) rfl rfl k271 (by decide) (Nat.le_of_ble_eq_true rfl) (Nat.le_of_ble_eq_true rfl) (t_of (y := 9 + a) hW (by omega) (by omega)) ?_
  rintro _ _ ⟨rfl, rfl⟩
  refine T_mul dX12_placeHeard_17 (by omega) ?_
  refine T_add dX12_placeHeard_18 (by omega) ?_
  exact T_ireturn dX12_placeHeard_19 rfl ⟨rfl, rfl⟩

theorem t_heardAt {a k n : Nat} (hW : Wd d w) (hV : WV w) (ha : a < 2) (hn24 : n ≤ 24) (hk : (k : Int) < hnS w n a) : tB G mX12_heardAt 0 [vR 271, vI a, vI k] [] d (fun r d' => r = some (vI (d 279 (phS w a k).toNat)) ∧ d = d') := by
  have hp := ph_lt (n := n) hV ha (j := k) (by omega) hk
  have hrg := hnS_rg (n := n) hV ha
  refine T_aload_n dX12_heardAt_0 rfl ?_
  refine T_getR dX12_heardAt_1 fX12_32 rfl k271 r271_16 ?_
  refine T_aload_n dX12_heardAt_4 rfl ?_
  refine T_iload_n dX12_heardAt_5 rfl ?_
  refine T_iload_n dX12_heardAt_6 rfl ?_
  refine T_callV dX12_heardAt_7 lX12_258 (As := [_, _]) (rest := _) rfl rfl k271 (by decide) (Nat.le_of_ble_eq_true rfl) (Nat.le_of_ble_eq_true rfl) (t_placeHeard hW hV ha (by omega)) ?_
  rintro _ _ ⟨rfl, rfl⟩
  refine T_iald dX12_heardAt_10 k279 l279 (by omega) rfl ?_
  exact T_ireturn dX12_heardAt_11 rfl ⟨rfl, rfl⟩

/-- an order is what is heard from the k-th beat on -/
abbrev isF (w s : Nat → Int) (n a o k : Nat) : Prop := (k : Int) + w (18 + 36 * a + 6 * o) ≤ hnS w n a ∧ ∀ i, i < (w (18 + 36 * a + 6 * o)).toNat → s (phS w a ((k : Int) + i)).toNat = w (19 + 36 * a + 6 * o + i)
abbrev isFi (w s : Nat → Int) (n a o k i : Nat) : Prop := (k : Int) + w (18 + 36 * a + 6 * o) ≤ hnS w n a ∧ ∀ j, j < i → s (phS w a ((k : Int) + j)).toNat = w (19 + 36 * a + 6 * o + j)
theorem isF26 {n a o k : Nat} (hW : Wd d w) (hV : WV w) (hn : d 271 18 = (n : Int)) (hn24 : n ≤ 24) (ha : a < 2) (ho : (o : Int) < w (15 + a)) (hk : k ≤ 24) : ∀ x : Nat × Int, (x.1 ≤ (w (18 + 36 * a + 6 * o)).toNat ∧ x.2 = bI (isFi w (d 279) n a o k x.1)) → tB G mX12_isFrom 26 [vR 271, vI a, vI o, vI k, vI x.2, vI x.1] [] d (fun r d' => r = some (vI (bI (isF w (d 279) n a o k))) ∧ d = d') := by
  refine T_loop (α := Nat × Int) 26 (fun x => [vR 271, vI a, vI o, vI k, vI x.2, vI x.1]) (fun _ => d) (fun x => x.1 ≤ (w (18 + 36 * a + 6 * o)).toNat ∧ x.2 = bI (isFi w (d 279) n a o k x.1)) (fun x => (w (18 + 36 * a + 6 * o)).toNat - x.1) ?_
  rintro ⟨i, z⟩ ⟨h1, h2⟩ ih
  try dsimp only at h1 h2 ih ⊢
  have ho6 : o < 6 := by have := (hV.a ha).2.2.2.2; omega
  have hL := (hV.2.2.2.2.2 a o ha ho).2.1
  have hrg := hnS_rg (n := n) hV ha

  have h67 : ∀ y : Int, y = bI (isFi w (d 279) n a o k (i + 1)) → i < (w (18 + 36 * a + 6 * o)).toNat → tB G mX12_isFrom 67 [vR 271, vI a, vI o, vI k, vI z, vI i] [vI y] d (fun r d' => r = some (vI (bI (isF w (d 279) n a o k))) ∧ d = d') := by
    intro y hy hi
    refine T_ist dX12_isFrom_67 (by decide) rfl ?_
    refine T_inc dX12_isFrom_69 rfl (by decide) rfl (by omega) ?_
    refine T_goto (tgt := 26) dX12_isFrom_72 (by decide) ?_
    exact ih (i + 1, y) ⟨by show i + 1 ≤ _; omega, hy⟩ (by show _ - (i + 1) < _ - i; omega)
  refine T_iload dX12_isFrom_26 rfl ?_
  refine T_aload_n dX12_isFrom_28 rfl ?_
  refine T_iload_n dX12_isFrom_29 rfl ?_
  refine T_iload_n dX12_isFrom_30 rfl ?_
  refine T_callV dX12_isFrom_31 lX12_230 (As := [_, _]) (rest := _) rfl rfl k271 (by decide) (Nat.le_of_ble_eq_true rfl) (Nat.le_of_ble_eq_true rfl) (t_lengthOf hW ha ho6) ?_
  rintro _ _ ⟨rfl, rfl⟩
  refine T_icmp_ge (tgt := 75) dX12_isFrom_34 (by decide) (fun c34 => ?_) (fun c34 => ?_)
  · refine T_iload dX12_isFrom_75 rfl ?_
    exact T_zreturn dX12_isFrom_77 rfl (by rw [h2]; exact bI_01 _) ⟨by rw [h2, show i = (w (18 + 36 * a + 6 * o)).toNat by omega], rfl⟩
  · refine T_iload dX12_isFrom_37 rfl ?_
    refine T_if_eq (tgt := 75) dX12_isFrom_39 (by decide) (fun c39 => ?_) (fun c39 => ?_)
    · refine T_iload dX12_isFrom_75 rfl ?_
      exact T_zreturn dX12_isFrom_77 rfl (by rw [h2]; exact bI_01 _) ⟨by rw [c39] at h2; rw [c39, bI_f (fun q => bI_0 h2.symm ⟨q.1, fun j hj => q.2 j (by omega)⟩)], rfl⟩
    · refine T_aload_n dX12_isFrom_42 rfl ?_
      refine T_iload_n dX12_isFrom_43 rfl ?_
      refine T_iload_n dX12_isFrom_44 rfl ?_
      refine T_iload dX12_isFrom_45 rfl ?_
      refine T_add dX12_isFrom_47 (by omega) ?_
      refine T_callV dX12_isFrom_48 lX12_264 (As := [_, _]) (rest := _) rfl rfl k271 (by decide) (Nat.le_of_ble_eq_true rfl) (Nat.le_of_ble_eq_true rfl) (t_heardAt (k := k + i) (n := n) hW hV ha hn24 (by rw [h2] at c39; have := (bI_1 c39).1; omega)) ?_
      rintro _ _ ⟨rfl, rfl⟩
      refine T_aload_n dX12_isFrom_51 rfl ?_
      refine T_iload_n dX12_isFrom_52 rfl ?_
      refine T_iload_n dX12_isFrom_53 rfl ?_
      refine T_iload dX12_isFrom_54 rfl ?_
      refine T_callV dX12_isFrom_56 lX12_233 (As := [_, _, _]) (rest := _) rfl rfl k271 (by decide) (Nat.le_of_ble_eq_true rfl) (Nat.le_of_ble_eq_true rfl) (t_beatOf hW ha ho6 (by omega)) ?_
      rintro _ _ ⟨rfl, rfl⟩
      refine T_icmp_ne (tgt := 66) dX12_isFrom_59 (by decide) (fun c59 => ?_) (fun c59 => ?_)
      · refine T_iconst dX12_isFrom_66 (by decide) ?_
        exact h67 0 (by
          rw [bI_f (fun q => c59 (by have := q.2 i (by omega); exact this))]) (by omega)
      · refine T_iconst dX12_isFrom_62 (by decide) ?_
        refine T_goto (tgt := 67) dX12_isFrom_63 (by decide) ?_
        exact h67 1 (by
          rw [h2] at c39
          have h3 := bI_1 c39
          rw [bI_t ⟨h3.1, fun j hj => by
            rcases Nat.lt_or_ge j i with q | q
            · exact h3.2 j q
            · rw [show j = i by omega]; exact c59⟩]) (by omega)

end M9
