/-! the reference: the war that is at hand, as a row of 89 numbers -/
section M4
variable {G : sG} {d : sD} {w : Nat → Int}
def Wd (d : sD) (w : Nat → Int) : Prop := ∃ p : Nat, d 271 10 = (p : Int) ∧ p + 89 ≤ 3736 ∧ ∀ x, x < 89 → d 272 (p + x) = w x
theorem Wd.up {a j : Nat} {x : Int} (h : Wd d w) (h1 : a ≠ 272) (h2 : ¬ (a = 271 ∧ j = 10)) : Wd (up d a j x) w := by
  obtain ⟨p, q1, q2, q3⟩ := h
  exact ⟨p, by rw [up_ne (fun q => h2 ⟨q.1.symm, q.2.symm⟩)]; exact q1, q2, fun y hy => by rw [up_nea (Ne.symm h1)]; exact q3 y hy⟩
theorem Wd.ups {a lo hi : Nat} {f : Nat → Int} (h : Wd d w) (h1 : a ≠ 272) (h2 : a ≠ 271) : Wd (ups d a lo hi f) w := by
  obtain ⟨p, q1, q2, q3⟩ := h
  exact ⟨p, by rw [ups_nea (Ne.symm h2)]; exact q1, q2, fun y hy => by rw [ups_nea (Ne.symm h1)]; exact q3 y hy⟩
theorem ups2_push {a b k : Nat} {f g : Nat → Int} {x y : Int} (hab : a ≠ b) (hx : x = f k) (hy : y = g k) : up (up (ups (ups d a 0 k f) b 0 k g) a k x) b k y = ups (ups d a 0 (k + 1) f) b 0 (k + 1) g := by
  rw [up_ups (Or.inl hab), ups_push (Nat.zero_le _) hx, ups_push (Nat.zero_le _) hy]
/-- a war's numbers are in their bounds -/
def WV (w : Nat → Int) : Prop := (1 ≤ w 0 ∧ w 0 ≤ 4) ∧ (0 ≤ w 1 ∧ w 1 ≤ 9) ∧ (0 ≤ w 2 ∧ w 2 ≤ 9) ∧ (∀ b, b < 4 → 0 ≤ w (3 + b) ∧ w (3 + b) ≤ 3) ∧ (∀ a, a < 2 → (0 ≤ w (7 + a) ∧ w (7 + a) ≤ 3) ∧ (1 ≤ w (9 + a) ∧ w (9 + a) ≤ 4) ∧ (0 ≤ w (11 + a) ∧ w (11 + a) ≤ 3) ∧ (0 ≤ w (13 + a) ∧ w (13 + a) ≤ 20) ∧ (0 ≤ w (15 + a) ∧ w (15 + a) ≤ 6)) ∧
  ∀ a k : Nat, a < 2 → (k : Int) < w (15 + a) → (0 ≤ w (17 + 36 * a + 6 * k) ∧ w (17 + 36 * a + 6 * k) ≤ 4) ∧ (1 ≤ w (18 + 36 * a + 6 * k) ∧ w (18 + 36 * a + 6 * k) ≤ 4) ∧ ∀ i : Nat, (i : Int) < w (18 + 36 * a + 6 * k) → 0 ≤ w (19 + 36 * a + 6 * k + i) ∧ w (19 + 36 * a + 6 * k + i) ≤ 3
theorem t_of {x : Int} {y : Nat} (h : Wd d w) (hx : x = (y : Int)) (hy : y < 89) : tB G mX12_of 0 [vR 271, vI x] [] d (fun r d' => r = some (vI (w y)) ∧ d = d') := by
  obtain ⟨p, q1, q2, q3⟩ := h
  refine tB.mono (t_X12_of (by rw [q1]; omega) (by rw [q1]; omega)) (fun r d' q => ⟨?_, q.2⟩)
  rw [q.1, q1, show ((p : Int) + x).toNat = p + y by omega, q3 y hy]

theorem t_orders {a : Nat} (h : Wd d w) (ha : a < 2) : tB G mX12_orders 0 [vR 271, vI a] [] d (fun r d' => r = some (vI (w (15 + a))) ∧ d = d') := by
  refine T_aload_n dX12_orders_0 rfl ?_
  refine T_bipush dX12_orders_1 (by decide) ?_
  refine T_iload_n dX12_orders_3 rfl ?_
  refine T_add dX12_orders_4 (by omega) ?_
  refine T_callV dX12_orders_5 lX12_212 (As := [_]) (rest := _) rfl rfl k271 (by decide) (Nat.le_of_ble_eq_true rfl) (Nat.le_of_ble_eq_true rfl) (t_of (y := 15 + a) h (by omega) (by omega)) ?_
  rintro _ _ ⟨rfl, rfl⟩
  exact T_ireturn dX12_orders_8 rfl ⟨rfl, rfl⟩

theorem t_orderAt {a k : Nat} {p : Nat} (hp : d 271 10 = (p : Int)) (hq : p < 3736) (ha : a < 2) (hk : k < 6) : tB G mX12_orderAt 0 [vR 271, vI a, vI k] [] d (fun r d' => r = some (vI ((p + 17 + 36 * a + 6 * k : Nat) : Int)) ∧ d = d') := by
  refine T_aload_n dX12_orderAt_0 rfl ?_
  refine T_getI dX12_orderAt_1 fX12_209 rfl k271 ?_
  refine T_bipush dX12_orderAt_4 (by decide) ?_
  refine T_add dX12_orderAt_6 (by omega) ?_
  refine T_bipush dX12_orderAt_7 (by decide) ?_
  refine T_iload_n dX12_orderAt_9 rfl ?_
  refine T_mul dX12_orderAt_10 (by omega) ?_
  refine T_add dX12_orderAt_11 (by omega) ?_
  refine T_bipush dX12_orderAt_12 (by decide) ?_
  refine T_iload_n dX12_orderAt_14 rfl ?_
  refine T_mul dX12_orderAt_15 (by omega) ?_
  refine T_add dX12_orderAt_16 (by omega) ?_
  exact T_ireturn dX12_orderAt_17 rfl ⟨by rw [hp]; refine congrArg (fun z => some (vI z)) ?_; omega, rfl⟩

theorem t_lengthOf {a k : Nat} (h : Wd d w) (ha : a < 2) (hk : k < 6) : tB G mX12_lengthOf 0 [vR 271, vI a, vI k] [] d (fun r d' => r = some (vI (w (18 + 36 * a + 6 * k))) ∧ d = d') := by
  obtain ⟨p, q1, q2, q3⟩ := h
  refine T_aload_n dX12_lengthOf_0 rfl ?_
  refine T_getR dX12_lengthOf_1 fX12_7 rfl k271 r271_0 ?_
  refine T_aload_n dX12_lengthOf_4 rfl ?_
  refine T_iload_n dX12_lengthOf_5 rfl ?_
  refine T_iload_n dX12_lengthOf_6 rfl ?_
  refine T_callV dX12_lengthOf_7 lX12_215 (As := [_, _]) (rest := _) rfl rfl k271 (by decide) (Nat.le_of_ble_eq_true rfl) (Nat.le_of_ble_eq_true rfl) (t_orderAt q1 (by omega) ha hk) ?_
  rintro _ _ ⟨rfl, rfl⟩
  refine T_iconst dX12_lengthOf_10 (by decide) ?_
  refine T_add dX12_lengthOf_11 (by omega) ?_
  refine T_iald dX12_lengthOf_12 k272 l272 (by omega) (j := p + 17 + 36 * a + 6 * k + 1) (by omega) ?_
  exact T_ireturn dX12_lengthOf_13 rfl ⟨by rw [← q3 _ (by omega), show p + (18 + 36 * a + 6 * k) = p + 17 + 36 * a + 6 * k + 1 by omega], rfl⟩

theorem t_beatOf {a k i : Nat} (h : Wd d w) (ha : a < 2) (hk : k < 6) (hi : i < 4) : tB G mX12_beatOf 0 [vR 271, vI a, vI k, vI i] [] d (fun r d' => r = some (vI (w (19 + 36 * a + 6 * k + i))) ∧ d = d') := by
  obtain ⟨p, q1, q2, q3⟩ := h
  refine T_aload_n dX12_beatOf_0 rfl ?_
  refine T_getR dX12_beatOf_1 fX12_7 rfl k271 r271_0 ?_
  refine T_aload_n dX12_beatOf_4 rfl ?_
  refine T_iload_n dX12_beatOf_5 rfl ?_
  refine T_iload_n dX12_beatOf_6 rfl ?_
  refine T_callV dX12_beatOf_7 lX12_215 (As := [_, _]) (rest := _) rfl rfl k271 (by decide) (Nat.le_of_ble_eq_true rfl) (Nat.le_of_ble_eq_true rfl) (t_orderAt q1 (by omega) ha hk) ?_
  rintro _ _ ⟨rfl, rfl⟩
  refine T_iconst dX12_beatOf_10 (by decide) ?_
  refine T_add dX12_beatOf_11 (by omega) ?_
  refine T_iload_n dX12_beatOf_12 rfl ?_
  refine T_add dX12_beatOf_13 (by omega) ?_
  refine T_iald dX12_beatOf_14 k272 l272 (by omega) (j := p + 17 + 36 * a + 6 * k + 2 + i) (by omega) ?_
  exact T_ireturn dX12_beatOf_15 rfl ⟨by rw [← q3 _ (by omega), show p + (19 + 36 * a + 6 * k + i) = p + 17 + 36 * a + 6 * k + 2 + i by omega], rfl⟩

end M4
