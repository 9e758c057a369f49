/-! the law: the case unique -/
section C26
variable {G : sG} {d d' : sD}
noncomputable def v_unique (mm : Nat → Int) (k a x : Int) : Int := if (0 ≤ k ∧ k ≤ mm 0 - 1) then qUnique (fun x => mm (610 + 89 * k.toNat + x)) a x else -2
theorem lc_unique {k : Nat} (h : IV d) (hL : G.2.2.1 ≤ 3072) (hk : k + 6 ≤ G.2.2.1) (kk : ∀ d2, IV d2 → tB G mL_law 1718 (lwL k) [] d2 lwR) : tB G mL_law 1511 (lwL k) [] d lwR := by
  by_cases hb : (sc G (k + 3)) = 0
  ·
    refine T_aload_n dL_law_1511 rfl ?_
    refine T_aload_s dL_law_1512 rfl ?_
    refine T_iload_n dL_law_1513 rfl ?_
    refine T_iconst dL_law_1514 (by decide) ?_
    refine T_add dL_law_1515 (by omega) ?_
    refine T_sld (j := k + 1) dL_law_1516 (by omega) (by omega) ?_
    refine T_aload_s dL_law_1517 rfl ?_
    refine T_iload_n dL_law_1518 rfl ?_
    refine T_iconst dL_law_1519 (by decide) ?_
    refine T_add dL_law_1520 (by omega) ?_
    refine T_sld (j := k + 2) dL_law_1521 (by omega) (by omega) ?_
    refine T_aload_s dL_law_1522 rfl ?_
    refine T_iload_n dL_law_1523 rfl ?_
    refine T_iconst dL_law_1524 (by decide) ?_
    refine T_add dL_law_1525 (by omega) ?_
    refine T_sld (j := k + 3) dL_law_1526 (by omega) (by omega) ?_
    refine T_if_eq (tgt := 1534) dL_law_1527 (by decide) (fun c1527 => ?_) (fun c1527 => absurd hb c1527)
    refine T_iconst dL_law_1534 (by decide) ?_
    refine T_callV dL_law_1535 lL_125 (As := [_, _, _]) (rest := _) rfl rfl k1 (by decide) (Nat.le_of_ble_eq_true rfl) (Nat.le_of_ble_eq_true rfl) (t_C_unique h.ms h.cs) ?_
    rintro _ d1 ⟨rfl, f1⟩
    have hI1 := IV_cf h f1
    have h272 : d1 272 = d 272 := funext fun j => f1 _ _ (by omega)
    refine T_aload_n dL_law_1538 rfl ?_
    refine T_aload_s dL_law_1539 rfl ?_
    refine T_iload_n dL_law_1540 rfl ?_
    refine T_iconst dL_law_1541 (by decide) ?_
    refine T_add dL_law_1542 (by omega) ?_
    refine T_sld (j := k + 1) dL_law_1543 (by omega) (by omega) ?_
    refine T_aload_s dL_law_1544 rfl ?_
    refine T_iload_n dL_law_1545 rfl ?_
    refine T_iconst dL_law_1546 (by decide) ?_
    refine T_add dL_law_1547 (by omega) ?_
    refine T_sld (j := k + 2) dL_law_1548 (by omega) (by omega) ?_
    refine T_aload_s dL_law_1549 rfl ?_
    refine T_iload_n dL_law_1550 rfl ?_
    refine T_iconst dL_law_1551 (by decide) ?_
    refine T_add dL_law_1552 (by omega) ?_
    refine T_sld (j := k + 3) dL_law_1553 (by omega) (by omega) ?_
    refine T_if_eq (tgt := 1561) dL_law_1554 (by decide) (fun c1554 => ?_) (fun c1554 => absurd hb c1554)
    refine T_iconst dL_law_1561 (by decide) ?_
    refine T_callV dL_law_1562 lL_129 (As := [_, _, _]) (rest := _) rfl rfl k271 (by decide) (Nat.le_of_ble_eq_true rfl) (Nat.le_of_ble_eq_true rfl) (t_X12_unique hI1.ms) ?_
    rintro _ d2 ⟨rfl, f2⟩
    have hI2 := IV_ag hI1 f2 (by decide)
    have hv : v_unique (d1 272) (sc G (k + 1)) (sc G (k + 2)) 0 = v_unique (d 272) (sc G (k + 1)) (sc G (k + 2)) 0 := by rw [h272]
    refine T_icmp_eq (tgt := 1718) dL_law_1565 (by decide) (fun c1565 => ?_) (fun c1565 => absurd hv.symm c1565)
    exact kk d2 hI2
  ·
    refine T_aload_n dL_law_1511 rfl ?_
    refine T_aload_s dL_law_1512 rfl ?_
    refine T_iload_n dL_law_1513 rfl ?_
    refine T_iconst dL_law_1514 (by decide) ?_
    refine T_add dL_law_1515 (by omega) ?_
    refine T_sld (j := k + 1) dL_law_1516 (by omega) (by omega) ?_
    refine T_aload_s dL_law_1517 rfl ?_
    refine T_iload_n dL_law_1518 rfl ?_
    refine T_iconst dL_law_1519 (by decide) ?_
    refine T_add dL_law_1520 (by omega) ?_
    refine T_sld (j := k + 2) dL_law_1521 (by omega) (by omega) ?_
    refine T_aload_s dL_law_1522 rfl ?_
    refine T_iload_n dL_law_1523 rfl ?_
    refine T_iconst dL_law_1524 (by decide) ?_
    refine T_add dL_law_1525 (by omega) ?_
    refine T_sld (j := k + 3) dL_law_1526 (by omega) (by omega) ?_
    refine T_if_eq (tgt := 1534) dL_law_1527 (by decide) (fun c1527 => absurd c1527 hb) (fun c1527 => ?_)
    refine T_iconst dL_law_1530 (by decide) ?_
    refine T_goto (tgt := 1535) dL_law_1531 (by decide) ?_
    refine T_callV dL_law_1535 lL_125 (As := [_, _, _]) (rest := _) rfl rfl k1 (by decide) (Nat.le_of_ble_eq_true rfl) (Nat.le_of_ble_eq_true rfl) (t_C_unique h.ms h.cs) ?_
    rintro _ d1 ⟨rfl, f1⟩
    have hI1 := IV_cf h f1
    have h272 : d1 272 = d 272 := funext fun j => f1 _ _ (by omega)
    refine T_aload_n dL_law_1538 rfl ?_
    refine T_aload_s dL_law_1539 rfl ?_
    refine T_iload_n dL_law_1540 rfl ?_
    refine T_iconst dL_law_1541 (by decide) ?_
    refine T_add dL_law_1542 (by omega) ?_
    refine T_sld (j := k + 1) dL_law_1543 (by omega) (by omega) ?_
    refine T_aload_s dL_law_1544 rfl ?_
    refine T_iload_n dL_law_1545 rfl ?_
    refine T_iconst dL_law_1546 (by decide) ?_
    refine T_add dL_law_1547 (by omega) ?_
    refine T_sld (j := k + 2) dL_law_1548 (by omega) (by omega) ?_
    refine T_aload_s dL_law_1549 rfl ?_
    refine T_iload_n dL_law_1550 rfl ?_
    refine T_iconst dL_law_1551 (by decide) ?_
    refine T_add dL_law_1552 (by omega) ?_
    refine T_sld (j := k + 3) dL_law_1553 (by omega) (by omega) ?_
    refine T_if_eq (tgt := 1561) dL_law_1554 (by decide) (fun c1554 => absurd c1554 hb) (fun c1554 => ?_)
    refine T_iconst dL_law_1557 (by decide) ?_
    refine T_goto (tgt := 1562) dL_law_1558 (by decide) ?_
    refine T_callV dL_law_1562 lL_129 (As := [_, _, _]) (rest := _) rfl rfl k271 (by decide) (Nat.le_of_ble_eq_true rfl) (Nat.le_of_ble_eq_true rfl) (t_X12_unique hI1.ms) ?_
    rintro _ d2 ⟨rfl, f2⟩
    have hI2 := IV_ag hI1 f2 (by decide)
    have hv : v_unique (d1 272) (sc G (k + 1)) (sc G (k + 2)) 1 = v_unique (d 272) (sc G (k + 1)) (sc G (k + 2)) 1 := by rw [h272]
    refine T_icmp_eq (tgt := 1718) dL_law_1565 (by decide) (fun c1565 => ?_) (fun c1565 => absurd hv.symm c1565)
    exact kk d2 hI2

end C26
