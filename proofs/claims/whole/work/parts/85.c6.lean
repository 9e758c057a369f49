/-! the class: what is read off an ear -/
section C6
variable {G : sG} {d d' : sD} {w s h : Nat → Int} {wo ho e f n a dn dn' : Nat} {ml ml' : List (Nat × Nat)}
theorem t_cplaceOf {k : Nat} (he : kn S0 e = 2) (hV : WV w) (hE : Eh d e w s n a) (ha : a < 2) (hk : k ≤ 100) : tB G mX2_placeOf 0 [vR e, vI k] [] d (fun r d' => r = some (vI (phS w a k)) ∧ d = d') := by
  have hv := hV.a ha
  have hm : 0 ≤ (k : Int) * w (9 + a) ∧ (k : Int) * w (9 + a) ≤ 400 := ⟨Int.mul_nonneg (by omega) (by omega), Int.le_trans (Int.mul_le_mul (c := 100) (d := 4) (by omega) (by omega) (by omega) (by omega)) (by decide)⟩
  refine T_aload_n dX2_placeOf_0 rfl ?_
  refine T_getIv dX2_placeOf_1 fX2_37 rfl he (x := w (7 + a)) hE.1.2.1 ?_
  refine T_iload_n dX2_placeOf_4 rfl ?_
  refine T_aload_n dX2_placeOf_5 rfl ?_
  refine T_getIv dX2_placeOf_6 fX2_40 rfl he (x := w (9 + a)) hE.1.2.2 ?_
  refine T_mul dX2_placeOf_9 (by omega) ?_
  refine T_add dX2_placeOf_10 (by omega) ?_
  exact T_ireturn dX2_placeOf_11 rfl ⟨rfl, rfl⟩

theorem t_foreignness {i : Nat} (he : kn S0 e = 2) (hV : WV w) (hE : Eh d e w s n a) (hM : Em d e w a ml dn) (hK : MlOk w n a ml) (hn : d 81 5 = (n : Int)) (hn24 : n ≤ 24) (ha : a < 2) (hi : i < ml.length) : tB G mX2_foreignness 0 [vR e, vI i, vI a, vR 81, vU 0, vU 0] [] d (fun r d' => r = some (vI (puS w (d 83) a (ml.getD i (0, 0)))) ∧ d = d') := by
  obtain ⟨m1, m2, m3, m4⟩ := hM.2.2 i hi
  obtain ⟨k1, k2⟩ := hK.2 i hi
  have hl24 := hK.1
  have hrg := hnS_rg (n := n) hV ha
  obtain ⟨l1, l2, l3, l4⟩ := hV.ln ha k1
  generalize ml.getD i (0, 0) = z at *
  have hL : (w (18 + 36 * a + 6 * z.1)).toNat = lnW w a z.1 := rfl
  have h6 : ∀ x : Nat, (x ≤ lnW w a z.1) → tB G mX2_foreignness 6 [vR e, vI i, vI a, vR 81, vI (sumN (puF w (d 83) a z.2) x), vI x] [] (d) (fun r d' => r = some (vI (puS w (d 83) a z)) ∧ d = d') := by
    refine T_loop (α := Nat) 6 (fun x => [vR e, vI i, vI a, vR 81, vI (sumN (puF w (d 83) a z.2) x), vI x]) (fun x => d) (fun x => x ≤ lnW w a z.1) (fun x => 5 - x) ?_
    rintro j h1 ih
    try dsimp only at h1 ih ⊢
    have hsm : 0 ≤ (sumN (puF w (d 83) a z.2) j) ∧ (sumN (puF w (d 83) a z.2) j) ≤ j := sumN_rg (fun _ _ => bI_01 _)
    have h45 : ∀ y : Int, y = puF w (d 83) a z.2 j → j < lnW w a z.1 → tB G mX2_foreignness 45 [vR e, vI i, vI a, vR 81, vI (sumN (puF w (d 83) a z.2) j), vI j] [vI y, vI (sumN (puF w (d 83) a z.2) j)] d (fun r d' => r = some (vI (puS w (d 83) a z)) ∧ d = d') := by
      intro y hy hj
      have hy2 : y = 0 ∨ y = 1 := by rw [hy]; exact bI_01 _
      refine T_add dX2_foreignness_45 (by omega) ?_
      refine T_ist dX2_foreignness_46 (by decide) rfl ?_
      refine T_inc dX2_foreignness_48 rfl (by decide) rfl (by omega) ?_
      rw [hy]
      refine T_goto (tgt := 6) dX2_foreignness_51 (by decide) ?_
      exact ih (j + 1) hj (by omega)
    refine T_iload dX2_foreignness_6 rfl ?_
    refine T_aload_n dX2_foreignness_8 rfl ?_
    refine T_getR dX2_foreignness_9 fX2_28 rfl he (rE5 he) ?_
    refine T_iload_n dX2_foreignness_12 rfl ?_
    refine T_ialdv dX2_foreignness_13 (kE5 he) (lE5 he) (by omega) (j := i) (by omega) (x := (lnW w a z.1 : Int)) (by rw [m4]; exact l3) ?_
    refine T_icmp_ge (tgt := 54) dX2_foreignness_14 (by decide) (fun c14 => ?_) (fun c14 => ?_)
    · obtain rfl : j = lnW w a z.1 := by omega
      refine T_iload dX2_foreignness_54 rfl ?_
      refine T_aload_n dX2_foreignness_56 rfl ?_
      refine T_getR dX2_foreignness_57 fX2_28 rfl he (rE5 he) ?_
      refine T_iload_n dX2_foreignness_60 rfl ?_
      refine T_ialdv dX2_foreignness_61 (kE5 he) (lE5 he) (by omega) (j := i) (by omega) (x := (lnW w a z.1 : Int)) (by rw [m4]; exact l3) ?_
      refine T_icmp_ne (tgt := 67) dX2_foreignness_62 (by decide) (fun c62 => ?_) (fun c62 => ?_)
      · refine T_iload dX2_foreignness_67 rfl ?_
        refine T_if_ne (tgt := 76) dX2_foreignness_69 (by decide) (fun c69 => ?_) (fun c69 => ?_)
        · refine T_iconst dX2_foreignness_76 (by decide) ?_
          exact T_ireturn dX2_foreignness_77 rfl ⟨by unfold puS; rw [hL, l3, if_neg c62, if_neg c69], rfl⟩
        · refine T_iconst dX2_foreignness_72 (by decide) ?_
          refine T_goto (tgt := 77) dX2_foreignness_73 (by decide) ?_
          exact T_ireturn dX2_foreignness_77 rfl ⟨by unfold puS; rw [hL, l3, if_neg c62, if_pos c69], rfl⟩
      · refine T_iconst dX2_foreignness_65 (by decide) ?_
        exact T_ireturn dX2_foreignness_66 rfl ⟨by unfold puS; rw [hL, l3, if_pos c62], rfl⟩
    · refine T_iload dX2_foreignness_17 rfl ?_
      refine T_aload_n dX2_foreignness_19 rfl ?_
      refine T_iload_n dX2_foreignness_20 rfl ?_
      refine T_aload_n dX2_foreignness_21 rfl ?_
      refine T_aload_n dX2_foreignness_22 rfl ?_
      refine T_getR dX2_foreignness_23 fX2_25 rfl he (rE4 he) ?_
      refine T_iload_n dX2_foreignness_26 rfl ?_
      refine T_ialdv dX2_foreignness_27 (kE4 he) (lE4 he) (by omega) (j := i) (by omega) (x := (z.2 : Int)) m3 ?_
      refine T_iload dX2_foreignness_28 rfl ?_
      refine T_add dX2_foreignness_30 (by omega) ?_
      refine T_top (y := ((z.2 + j : Nat) : Int)) (by omega) ?_
      have hph := ph_lt (n := n) hV ha (j := ((z.2 + j : Nat) : Int)) (by omega) (by omega)
      refine T_callV dX2_foreignness_31 lX2_80 (As := [_]) (rest := _) rfl rfl he (by decide) (Nat.le_of_ble_eq_true rfl) (Nat.le_of_ble_eq_true rfl) (t_cplaceOf he hV hE ha (by omega)) ?_
      rintro _ _ ⟨rfl, rfl⟩
      refine T_callV dX2_foreignness_34 lX2_84 (As := [_, _]) (rest := _) rfl rfl k81 (by decide) (Nat.le_of_ble_eq_true rfl) (Nat.le_of_ble_eq_true rfl) (t_wasGivenBy hn hn24) ?_
      rintro _ _ ⟨rfl, rfl⟩
      refine T_if_eq (tgt := 44) dX2_foreignness_37 (by decide) (fun c37 => ?_) (fun c37 => ?_)
      · refine T_iconst dX2_foreignness_44 (by decide) ?_
        exact h45 _ (by show _ = bI _; rw [bI_f (fun q => bI_0 c37 ⟨hph, by rw [Int.natCast_add]; exact q⟩)]) (by omega)
      · refine T_iconst dX2_foreignness_40 (by decide) ?_
        refine T_goto (tgt := 45) dX2_foreignness_41 (by decide) ?_
        exact h45 _ (by show _ = bI _; rw [bI_t (by have := (bI_1 c37).2; rwa [Int.natCast_add] at this)]) (by omega)
  refine T_iconst dX2_foreignness_0 (by decide) ?_
  refine T_ist dX2_foreignness_1 (by decide) rfl ?_
  refine T_iconst dX2_foreignness_3 (by decide) ?_
  refine T_ist dX2_foreignness_4 (by decide) rfl ?_
  exact h6 0 (Nat.zero_le _)

theorem bI_and {p : Prop} [Decidable p] {x : Int} (hp : p) (hx : x = 0 ∨ x = 1) : bI (p ∧ ¬ x = 0) = x := by
  rcases hx with z | z
  · rw [bI_f (fun q => q.2 z), z]
  · rw [bI_t ⟨hp, by omega⟩, z]
theorem or01 {x y : Int} (hx : x = 0 ∨ x = 1) (hy : y = 0 ∨ y = 1) : i_or x y = if x = 0 then y else 1 := by
  rcases hx with rfl | rfl <;> rcases hy with rfl | rfl <;> decide +kernel
theorem t_echoedMoves (he : kn S0 e = 2) (hV : WV w) (hE : Eh d e w s n a) (hM : Em d e w a ml dn) (hK : MlOk w n a ml) (hn : d 81 5 = (n : Int)) (hn24 : n ≤ 24) (h86 : ∀ j, j < n → d 86 j = 0 ∨ d 86 j = 1) (ha : a < 2) : tB G mX2_echoedMoves 0 [vR e, vR 81, vU 0, vU 0, vU 0, vU 0] [] d (fun r d' => r = some (vI (ehS w (d 86) a ml ml.length)) ∧ d = d') := by
  have hl24 := hK.1
  have hrg := hnS_rg (n := n) hV ha
  have h4 : ∀ x : Nat, (x ≤ ml.length) → tB G mX2_echoedMoves 4 [vR e, vR 81, vI (ehS w (d 86) a ml x), vI x, vU 0, vU 0] [] (d) (fun r d' => r = some (vI (ehS w (d 86) a ml ml.length)) ∧ d = d') := by
    refine T_loop (α := Nat) 4 (fun x => [vR e, vR 81, vI (ehS w (d 86) a ml x), vI x, vU 0, vU 0]) (fun x => d) (fun x => x ≤ ml.length) (fun x => ml.length - x) ?_
    rintro i h1 ih
    try dsimp only at h1 ih ⊢
    have h01 : ∀ j, j < ml.length → ehK w (d 86) a (ml.getD j (0, 0)) = 0 ∨ ehK w (d 86) a (ml.getD j (0, 0)) = 1 := fun j hj => orN_01 (fun u hu => by
      have o2 := (hK.2 j hj).2
      have hph := ph_lt (n := n) hV ha (j := ((ml.getD j (0, 0)).2 : Int) + u) (by omega) (by omega)
      exact h86 _ (by omega))
    have hsm : 0 ≤ ehS w (d 86) a ml i ∧ ehS w (d 86) a ml i ≤ i := sumN_rg (fun j hj => h01 j (by omega))
    have h68 : ∀ y : Int, y = ehK w (d 86) a (ml.getD i (0, 0)) → i < ml.length → tB G mX2_echoedMoves 68 [vR e, vR 81, vI (ehS w (d 86) a ml i), vI i, vU 0, vU 0] [vI y, vI (ehS w (d 86) a ml i)] d (fun r d' => r = some (vI (ehS w (d 86) a ml ml.length)) ∧ d = d') := by
      intro y hy hi
      have hy2 : y = 0 ∨ y = 1 := by rw [hy]; exact h01 i hi
      refine T_add dX2_echoedMoves_68 (by omega) ?_
      refine T_ist_n dX2_echoedMoves_69 (by decide) rfl ?_
      refine T_inc dX2_echoedMoves_70 rfl (by decide) rfl (by omega) ?_
      rw [hy]
      refine T_goto (tgt := 4) dX2_echoedMoves_73 (by decide) ?_
      exact ih (i + 1) hi (by omega)
    have h18 : i < ml.length → ∀ x : Nat, x ≤ lnW w a (ml.getD i (0, 0)).1 → tB G mX2_echoedMoves 18 [vR e, vR 81, vI (ehS w (d 86) a ml i), vI i, vI (orN (ehF w (d 86) a (ml.getD i (0, 0)).2) x), vI x] [] d (fun r d' => r = some (vI (ehS w (d 86) a ml ml.length)) ∧ d = d') := by
      intro hi
      obtain ⟨m1, m2, m3, m4⟩ := hM.2.2 i hi
      obtain ⟨k1, k2⟩ := hK.2 i hi
      obtain ⟨l1, l2, l3, l4⟩ := hV.ln ha k1
      have hor : ∀ x, x ≤ lnW w a (ml.getD i (0, 0)).1 → orN (ehF w (d 86) a (ml.getD i (0, 0)).2) x = 0 ∨ orN (ehF w (d 86) a (ml.getD i (0, 0)).2) x = 1 := fun x hx => orN_01 (fun u hu => by
        have hph := ph_lt (n := n) hV ha (j := ((ml.getD i (0, 0)).2 : Int) + u) (by omega) (by omega)
        exact h86 _ (by omega))
      refine T_loop (α := Nat) 18 (fun x => [vR e, vR 81, vI (ehS w (d 86) a ml i), vI i, vI (orN (ehF w (d 86) a (ml.getD i (0, 0)).2) x), vI x]) (fun _ => d) (fun x => x ≤ lnW w a (ml.getD i (0, 0)).1) (fun x => 5 - x) ?_
      rintro j g1 ih2
      try dsimp only at g1 ih2 ⊢
      refine T_iload dX2_echoedMoves_18 rfl ?_
      refine T_aload_n dX2_echoedMoves_20 rfl ?_
      refine T_getR dX2_echoedMoves_21 fX2_28 rfl he (rE5 he) ?_
      refine T_iload_n dX2_echoedMoves_24 rfl ?_
      refine T_ialdv dX2_echoedMoves_25 (kE5 he) (lE5 he) (by omega) (j := i) (by omega) (x := (lnW w a (ml.getD i (0, 0)).1 : Int)) (by rw [m4]; exact l3) ?_
      refine T_icmp_ge (tgt := 57) dX2_echoedMoves_26 (by decide) (fun c26 => ?_) (fun c26 => ?_)
      · obtain rfl : j = lnW w a (ml.getD i (0, 0)).1 := by omega
        have ho1 := hor _ g1
        refine T_iload_n dX2_echoedMoves_57 rfl ?_
        refine T_iload dX2_echoedMoves_58 rfl ?_
        refine T_if_eq (tgt := 67) dX2_echoedMoves_60 (by decide) (fun c60 => ?_) (fun c60 => ?_)
        · refine T_iconst dX2_echoedMoves_67 (by decide) ?_
          exact T_drop 4 (T_drop 5 (h68 _ (by show _ = orN _ _; exact c60.symm) hi))
        · refine T_iconst dX2_echoedMoves_63 (by decide) ?_
          refine T_goto (tgt := 68) dX2_echoedMoves_64 (by decide) ?_
          exact T_drop 4 (T_drop 5 (h68 _ (by show _ = orN _ _; exact (ho1.resolve_left c60).symm) hi))
      · refine T_iload dX2_echoedMoves_29 rfl ?_
        refine T_aload_n dX2_echoedMoves_31 rfl ?_
        refine T_aload_n dX2_echoedMoves_32 rfl ?_
        refine T_aload_n dX2_echoedMoves_33 rfl ?_
        refine T_getR dX2_echoedMoves_34 fX2_25 rfl he (rE4 he) ?_
        refine T_iload_n dX2_echoedMoves_37 rfl ?_
        refine T_ialdv dX2_echoedMoves_38 (kE4 he) (lE4 he) (by omega) (j := i) (by omega) (x := ((ml.getD i (0, 0)).2 : Int)) m3 ?_
        refine T_iload dX2_echoedMoves_39 rfl ?_
        refine T_add dX2_echoedMoves_41 (by omega) ?_
        refine T_top (y := (((ml.getD i (0, 0)).2 + j : Nat) : Int)) (by omega) ?_
        have hph := ph_lt (n := n) hV ha (j := (((ml.getD i (0, 0)).2 + j : Nat) : Int)) (by omega) (by omega)
        have h8 := h86 (phS w a (((ml.getD i (0, 0)).2 + j : Nat) : Int)).toNat (by omega)
        refine T_callV dX2_echoedMoves_42 lX2_80 (As := [_]) (rest := _) rfl rfl he (by decide) (Nat.le_of_ble_eq_true rfl) (Nat.le_of_ble_eq_true rfl) (t_cplaceOf he hV hE ha (by omega)) ?_
        rintro _ _ ⟨rfl, rfl⟩
        refine T_callV dX2_echoedMoves_45 lX2_88 (As := [_]) (rest := _) rfl rfl k81 (by decide) (Nat.le_of_ble_eq_true rfl) (Nat.le_of_ble_eq_true rfl) (t_echoesAt hn hn24) ?_
        rintro _ _ ⟨rfl, rfl⟩
        refine T_top (y := d 86 (phS w a (((ml.getD i (0, 0)).2 + j : Nat) : Int)).toNat) (bI_and hph h8) ?_
        refine T_ior dX2_echoedMoves_48 ?_
        refine T_top (y := orN (ehF w (d 86) a (ml.getD i (0, 0)).2) (j + 1)) (by rw [or01 (hor j g1) h8, orN_s, Int.natCast_add]) ?_
        refine T_ist dX2_echoedMoves_49 (by decide) rfl ?_
        refine T_inc dX2_echoedMoves_51 rfl (by decide) rfl (by omega) ?_
        refine T_goto (tgt := 18) dX2_echoedMoves_54 (by decide) ?_
        exact ih2 (j + 1) (by omega) (by omega)
    refine T_iload_n dX2_echoedMoves_4 rfl ?_
    refine T_aload_n dX2_echoedMoves_5 rfl ?_
    refine T_getIv dX2_echoedMoves_6 fX2_31 rfl he (x := (ml.length : Int)) hM.1 ?_
    refine T_icmp_ge (tgt := 76) dX2_echoedMoves_9 (by decide) (fun c9 => ?_) (fun c9 => ?_)
    · refine T_iload_n dX2_echoedMoves_76 rfl ?_
      exact T_ireturn dX2_echoedMoves_77 rfl ⟨by rw [show i = ml.length by omega], rfl⟩
    · refine T_iconst dX2_echoedMoves_12 (by decide) ?_
      refine T_ist dX2_echoedMoves_13 (by decide) rfl ?_
      refine T_iconst dX2_echoedMoves_15 (by decide) ?_
      refine T_ist dX2_echoedMoves_16 (by decide) rfl ?_
      exact h18 (by omega) 0 (Nat.zero_le _)
  refine T_iconst dX2_echoedMoves_0 (by decide) ?_
  refine T_ist_n dX2_echoedMoves_1 (by decide) rfl ?_
  refine T_iconst dX2_echoedMoves_2 (by decide) ?_
  refine T_ist_n dX2_echoedMoves_3 (by decide) rfl ?_
  exact h4 0 (Nat.zero_le _)

theorem t_hasMade {m : Int} (he : kn S0 e = 2) (hM : Em d e w a ml dn) (hl : ml.length ≤ 24) : tB G mX2_hasMade 0 [vR e, vI m, vU 0] [] d (fun r d' => r = some (vI (imS w a ml m ml.length)) ∧ d = d') := by
  have h2 : ∀ x : Nat, (x ≤ ml.length ∧ imS w a ml m x = 0) → tB G mX2_hasMade 2 [vR e, vI m, vI x] [] (d) (fun r d' => r = some (vI (imS w a ml m ml.length)) ∧ d = d') := by
    refine T_loop (α := Nat) 2 (fun x => [vR e, vI m, vI x]) (fun x => d) (fun x => x ≤ ml.length ∧ imS w a ml m x = 0) (fun x => ml.length - x) ?_
    rintro i ⟨h1, h2⟩ ih
    try dsimp only at h1 h2 ih ⊢
    refine T_iload_n dX2_hasMade_2 rfl ?_
    refine T_aload_n dX2_hasMade_3 rfl ?_
    refine T_getIv dX2_hasMade_4 fX2_31 rfl he (x := (ml.length : Int)) hM.1 ?_
    refine T_icmp_ge (tgt := 28) dX2_hasMade_7 (by decide) (fun c7 => ?_) (fun c7 => ?_)
    · refine T_iconst dX2_hasMade_28 (by decide) ?_
      exact T_zreturn dX2_hasMade_29 rfl (by omega) ⟨by rw [← h2, show i = ml.length by omega], rfl⟩
    · refine T_aload_n dX2_hasMade_10 rfl ?_
      refine T_getR dX2_hasMade_11 fX2_19 rfl he (rE2 he) ?_
      refine T_iload_n dX2_hasMade_14 rfl ?_
      refine T_ialdv dX2_hasMade_15 (kE2 he) (lE2 he) (by omega) (j := i) (by omega) (x := w (17 + 36 * a + 6 * (ml.getD i (0, 0)).1)) (hM.2.2 i (by omega)).1 ?_
      refine T_iload_n dX2_hasMade_16 rfl ?_
      refine T_icmp_ne (tgt := 22) dX2_hasMade_17 (by decide) (fun c17 => ?_) (fun c17 => ?_)
      · refine T_inc dX2_hasMade_22 rfl (by decide) rfl (by omega) ?_
        refine T_goto (tgt := 2) dX2_hasMade_25 (by decide) ?_
        exact ih (i + 1) ⟨by omega, by show (if _ then _ else _) = _; rw [if_pos h2]; exact bI_f c17⟩ (by omega)
      · have h3 : imS w a ml m (i + 1) = 1 := by show (if _ then _ else _) = _; rw [if_pos h2]; exact bI_t c17
        have h4 : imS w a ml m ml.length = 1 := by rw [show ml.length = i + 1 + (ml.length - (i + 1)) by omega]; exact orN_mono h3 _
        refine T_iconst dX2_hasMade_20 (by decide) ?_
        exact T_zreturn dX2_hasMade_21 rfl (by omega) ⟨by rw [h4], rfl⟩
  refine T_iconst dX2_hasMade_0 (by decide) ?_
  refine T_ist_n dX2_hasMade_1 (by decide) rfl ?_
  exact h2 0 ⟨Nat.zero_le _, rfl⟩

abbrev atP (w h : Nat → Int) (a : Nat) (ml : List (Nat × Nat)) : Prop := (ml.length : Int) = h a ∧ ∀ i, i < ml.length → w (17 + 36 * a + 6 * (ml.getD i (0, 0)).1) = h (2 + 6 * a + i)
theorem t_madeAsTold (he : kn S0 e = 2) (hh : kn S0 ho = 4) (hH : Ho d ho h) (hHV : HV h) (hM : Em d e w a ml dn) (hl : ml.length ≤ 24) (ha : a < 2) : tB G mX2_madeAsTold 0 [vR e, vR ho, vI a, vU 0] [] d (fun r d' => r = some (vI (bI (atP w h a ml))) ∧ d = d') := by
  have hv := (hHV a ha).1
  have h17 : ∀ x : Nat, ((x ≤ ml.length ∧ (ml.length : Int) = h a) ∧ ∀ i, i < x → w (17 + 36 * a + 6 * (ml.getD i (0, 0)).1) = h (2 + 6 * a + i)) → tB G mX2_madeAsTold 17 [vR e, vR ho, vI a, vI x] [] (d) (fun r d' => r = some (vI (bI (atP w h a ml))) ∧ d = d') := by
    refine T_loop (α := Nat) 17 (fun x => [vR e, vR ho, vI a, vI x]) (fun x => d) (fun x => (x ≤ ml.length ∧ (ml.length : Int) = h a) ∧ ∀ i, i < x → w (17 + 36 * a + 6 * (ml.getD i (0, 0)).1) = h (2 + 6 * a + i)) (fun x => ml.length - x) ?_
    rintro i ⟨⟨h1, h2⟩, h3⟩ ih
    try dsimp only at h1 h2 h3 ih ⊢
    refine T_iload_n dX2_madeAsTold_17 rfl ?_
    refine T_aload_n dX2_madeAsTold_18 rfl ?_
    refine T_getIv dX2_madeAsTold_19 fX2_31 rfl he (x := (ml.length : Int)) hM.1 ?_
    refine T_icmp_ge (tgt := 53) dX2_madeAsTold_22 (by decide) (fun c22 => ?_) (fun c22 => ?_)
    · refine T_iconst dX2_madeAsTold_53 (by decide) ?_
      exact T_zreturn dX2_madeAsTold_54 rfl (by omega) ⟨by rw [bI_t ⟨h2, fun j hj => h3 j (by omega)⟩], rfl⟩
    · refine T_aload_n dX2_madeAsTold_25 rfl ?_
      refine T_getR dX2_madeAsTold_26 fX2_19 rfl he (rE2 he) ?_
      refine T_iload_n dX2_madeAsTold_29 rfl ?_
      refine T_ialdv dX2_madeAsTold_30 (kE2 he) (lE2 he) (by omega) (j := i) (by omega) (x := w (17 + 36 * a + 6 * (ml.getD i (0, 0)).1)) (hM.2.2 i (by omega)).1 ?_
      refine T_aload_n dX2_madeAsTold_31 rfl ?_
      refine T_getR dX2_madeAsTold_32 fX2_97 rfl hh (rH1 hh) ?_
      refine T_iload_n dX2_madeAsTold_35 rfl ?_
      refine T_bipush dX2_madeAsTold_36 (by decide) ?_
      refine T_mul dX2_madeAsTold_38 (by omega) ?_
      refine T_iload_n dX2_madeAsTold_39 rfl ?_
      refine T_add dX2_madeAsTold_40 (by omega) ?_
      refine T_ialdv dX2_madeAsTold_41 (kH1 hh) (lH1 hh) (by omega) (j := 6 * a + i) (by omega) (x := h (2 + 6 * a + i)) ((hH a ha).2 i (by omega)) ?_
      refine T_icmp_eq (tgt := 47) dX2_madeAsTold_42 (by decide) (fun c42 => ?_) (fun c42 => ?_)
      · refine T_inc dX2_madeAsTold_47 rfl (by decide) rfl (by omega) ?_
        refine T_goto (tgt := 17) dX2_madeAsTold_50 (by decide) ?_
        refine ih (i + 1) ⟨⟨by omega, h2⟩, fun j hj => ?_⟩ (by omega)
        rcases (show j < i ∨ j = i by omega) with q | rfl
        · exact h3 j q
        · exact c42
      · refine T_iconst dX2_madeAsTold_45 (by decide) ?_
        exact T_zreturn dX2_madeAsTold_46 rfl (by omega) ⟨by rw [bI_f (fun q => c42 (q.2 i (by omega)))], rfl⟩
  refine T_aload_n dX2_madeAsTold_0 rfl ?_
  refine T_getIv dX2_madeAsTold_1 fX2_31 rfl he (x := (ml.length : Int)) hM.1 ?_
  refine T_aload_n dX2_madeAsTold_4 rfl ?_
  refine T_getR dX2_madeAsTold_5 fX2_92 rfl hh (rH0 hh) ?_
  refine T_iload_n dX2_madeAsTold_8 rfl ?_
  refine T_ialdv dX2_madeAsTold_9 (kH0 hh) (lH0 hh) (by omega) (j := a) (by omega) (x := h a) (hH a ha).1 ?_
  refine T_icmp_eq (tgt := 15) dX2_madeAsTold_10 (by decide) (fun c10 => ?_) (fun c10 => ?_)
  · refine T_iconst dX2_madeAsTold_15 (by decide) ?_
    refine T_ist_n dX2_madeAsTold_16 (by decide) rfl ?_
    exact h17 0 ⟨⟨Nat.zero_le _, c10⟩, fun j hj => absurd hj (Nat.not_lt_zero j)⟩
  · refine T_iconst dX2_madeAsTold_13 (by decide) ?_
    exact T_zreturn dX2_madeAsTold_14 rfl (by omega) ⟨by rw [bI_f (fun q => c10 q.1)], rfl⟩

theorem t_madeTheSame (he : kn S0 e = 2) (hf : kn S0 f = 2) (hM : Em d e w 0 ml dn) (hM' : Em d f w 1 ml' dn') (hl : ml.length ≤ 24) (hl' : ml'.length ≤ 24) : tB G mX2_madeTheSame 0 [vR e, vR f, vU 0] [] d (fun r d' => r = some (vI (bI (maP w ml ml'))) ∧ d = d') := by
  have h15 : ∀ x : Nat, ((x ≤ ml.length ∧ ml.length = ml'.length) ∧ ∀ i, i < x → w (17 + 6 * (ml.getD i (0, 0)).1) = w (53 + 6 * (ml'.getD i (0, 0)).1)) → tB G mX2_madeTheSame 15 [vR e, vR f, vI x] [] (d) (fun r d' => r = some (vI (bI (maP w ml ml'))) ∧ d = d') := by
    refine T_loop (α := Nat) 15 (fun x => [vR e, vR f, vI x]) (fun x => d) (fun x => (x ≤ ml.length ∧ ml.length = ml'.length) ∧ ∀ i, i < x → w (17 + 6 * (ml.getD i (0, 0)).1) = w (53 + 6 * (ml'.getD i (0, 0)).1)) (fun x => ml.length - x) ?_
    rintro i ⟨⟨h1, h2⟩, h3⟩ ih
    try dsimp only at h1 h2 h3 ih ⊢
    refine T_iload_n dX2_madeTheSame_15 rfl ?_
    refine T_aload_n dX2_madeTheSame_16 rfl ?_
    refine T_getIv dX2_madeTheSame_17 fX2_31 rfl he (x := (ml.length : Int)) hM.1 ?_
    refine T_icmp_ge (tgt := 46) dX2_madeTheSame_20 (by decide) (fun c20 => ?_) (fun c20 => ?_)
    · refine T_iconst dX2_madeTheSame_46 (by decide) ?_
      exact T_zreturn dX2_madeTheSame_47 rfl (by omega) ⟨by rw [bI_t ⟨h2, fun j hj => h3 j (by omega)⟩], rfl⟩
    · refine T_aload_n dX2_madeTheSame_23 rfl ?_
      refine T_getR dX2_madeTheSame_24 fX2_19 rfl he (rE2 he) ?_
      refine T_iload_n dX2_madeTheSame_27 rfl ?_
      refine T_ialdv dX2_madeTheSame_28 (kE2 he) (lE2 he) (by omega) (j := i) (by omega) (x := w (17 + 6 * (ml.getD i (0, 0)).1)) (by have := (hM.2.2 i (by omega)).1; rwa [show 17 + 36 * 0 + 6 * (ml.getD i (0, 0)).1 = 17 + 6 * (ml.getD i (0, 0)).1 by omega] at this) ?_
      refine T_aload_n dX2_madeTheSame_29 rfl ?_
      refine T_getR dX2_madeTheSame_30 fX2_19 rfl hf (rE2 hf) ?_
      refine T_iload_n dX2_madeTheSame_33 rfl ?_
      refine T_ialdv dX2_madeTheSame_34 (kE2 hf) (lE2 hf) (by omega) (j := i) (by omega) (x := w (53 + 6 * (ml'.getD i (0, 0)).1)) (by have := (hM'.2.2 i (by omega)).1; rwa [show 17 + 36 * 1 + 6 * (ml'.getD i (0, 0)).1 = 53 + 6 * (ml'.getD i (0, 0)).1 by omega] at this) ?_
      refine T_icmp_eq (tgt := 40) dX2_madeTheSame_35 (by decide) (fun c35 => ?_) (fun c35 => ?_)
      · refine T_inc dX2_madeTheSame_40 rfl (by decide) rfl (by omega) ?_
        refine T_goto (tgt := 15) dX2_madeTheSame_43 (by decide) ?_
        refine ih (i + 1) ⟨⟨by omega, h2⟩, fun j hj => ?_⟩ (by omega)
        rcases (show j < i ∨ j = i by omega) with q | rfl
        · exact h3 j q
        · exact c35
      · refine T_iconst dX2_madeTheSame_38 (by decide) ?_
        exact T_zreturn dX2_madeTheSame_39 rfl (by omega) ⟨by rw [bI_f (fun q => c35 (q.2 i (by omega)))], rfl⟩
  refine T_aload_n dX2_madeTheSame_0 rfl ?_
  refine T_getIv dX2_madeTheSame_1 fX2_31 rfl he (x := (ml.length : Int)) hM.1 ?_
  refine T_aload_n dX2_madeTheSame_4 rfl ?_
  refine T_getIv dX2_madeTheSame_5 fX2_31 rfl hf (x := (ml'.length : Int)) hM'.1 ?_
  refine T_icmp_eq (tgt := 13) dX2_madeTheSame_8 (by decide) (fun c8 => ?_) (fun c8 => ?_)
  · refine T_iconst dX2_madeTheSame_13 (by decide) ?_
    refine T_ist_n dX2_madeTheSame_14 (by decide) rfl ?_
    exact h15 0 ⟨⟨Nat.zero_le _, by omega⟩, fun j hj => absurd hj (Nat.not_lt_zero j)⟩
  · refine T_iconst dX2_madeTheSame_11 (by decide) ?_
    exact T_zreturn dX2_madeTheSame_12 rfl (by omega) ⟨by rw [bI_f (fun q => c8 (by rw [q.1]))], rfl⟩

theorem t_calikeFrom {i j : Nat} (he : kn S0 e = 2) (hf : kn S0 f = 2) (hV : WV w) (hE : Eh d e w s n 0) (hE' : Eh d f w s n 1) (hn24 : n ≤ 24) (hi : (i : Int) ≤ hnS w n 0) (hj : (j : Int) ≤ hnS w n 1) : tB G mX2_alikeFrom 0 [vR e, vI i, vR f, vI j, vU 0, vU 0] [] d (fun r d' => r = some (vI (afS w s n i j)) ∧ d = d') := by
  have r0 := hnS_rg (n := n) (a := 0) hV (by decide)
  have r1 := hnS_rg (n := n) (a := 1) hV (by decide)
  have h20 : ∀ x : Nat, (x ≤ 24 ∧ afN w s n i j (25 - x) x = afS w s n i j) → tB G mX2_alikeFrom 20 [vR e, vI i, vR f, vI j, vI (min (hnS w n 0 - i) (hnS w n 1 - j)), vI x] [] (d) (fun r d' => r = some (vI (afS w s n i j)) ∧ d = d') := by
    refine T_loop (α := Nat) 20 (fun x => [vR e, vI i, vR f, vI j, vI (min (hnS w n 0 - i) (hnS w n 1 - j)), vI x]) (fun x => d) (fun x => x ≤ 24 ∧ afN w s n i j (25 - x) x = afS w s n i j) (fun x => 25 - x) ?_
    rintro k ⟨h1, h2⟩ ih
    try dsimp only at h1 h2 ih ⊢
    refine T_iload dX2_alikeFrom_20 rfl ?_
    refine T_iload dX2_alikeFrom_22 rfl ?_
    refine T_icmp_ge (tgt := 54) dX2_alikeFrom_24 (by decide) (fun c24 => ?_) (fun c24 => ?_)
    · refine T_iload dX2_alikeFrom_54 rfl ?_
      exact T_ireturn dX2_alikeFrom_56 rfl ⟨by rw [← h2, afN_n (fun q => by have := q.1; have := q.2.1; omega)], rfl⟩
    · refine T_aload_n dX2_alikeFrom_27 rfl ?_
      refine T_getR dX2_alikeFrom_28 fX2_9 rfl he (rE0 he) ?_
      refine T_iload_n dX2_alikeFrom_31 rfl ?_
      refine T_iload dX2_alikeFrom_32 rfl ?_
      refine T_add dX2_alikeFrom_34 (by omega) ?_
      refine T_ialdv dX2_alikeFrom_35 (kE0 he) (lE0 he) (by omega) (j := i + k) (by omega) (x := s (phS w 0 ((i + k : Nat) : Int)).toNat) (hE.2 (i + k) (by omega)) ?_
      refine T_aload_n dX2_alikeFrom_36 rfl ?_
      refine T_getR dX2_alikeFrom_37 fX2_9 rfl hf (rE0 hf) ?_
      refine T_iload_n dX2_alikeFrom_40 rfl ?_
      refine T_iload dX2_alikeFrom_41 rfl ?_
      refine T_add dX2_alikeFrom_43 (by omega) ?_
      refine T_ialdv dX2_alikeFrom_44 (kE0 hf) (lE0 hf) (by omega) (j := j + k) (by omega) (x := s (phS w 1 ((j + k : Nat) : Int)).toNat) (hE'.2 (j + k) (by omega)) ?_
      refine T_icmp_ne (tgt := 54) dX2_alikeFrom_45 (by decide) (fun c45 => ?_) (fun c45 => ?_)
      · refine T_iload dX2_alikeFrom_54 rfl ?_
        exact T_ireturn dX2_alikeFrom_56 rfl ⟨by rw [← h2, afN_n (fun q => c45 q.2.2)], rfl⟩
      · refine T_inc dX2_alikeFrom_48 rfl (by decide) rfl (by omega) ?_
        refine T_goto (tgt := 20) dX2_alikeFrom_51 (by decide) ?_
        refine ih (k + 1) ⟨by omega, ?_⟩ (by omega)
        rw [← h2, afN_y ⟨by omega, by omega, c45⟩ (by omega), show 25 - (k + 1) = 25 - k - 1 by omega]
  refine T_aload_n dX2_alikeFrom_0 rfl ?_
  refine T_getIv dX2_alikeFrom_1 fX2_15 rfl he (x := hnS w n 0) hE.1.1 ?_
  refine T_iload_n dX2_alikeFrom_4 rfl ?_
  refine T_sub dX2_alikeFrom_5 (by omega) ?_
  refine T_aload_n dX2_alikeFrom_6 rfl ?_
  refine T_getIv dX2_alikeFrom_7 fX2_15 rfl hf (x := hnS w n 1) hE'.1.1 ?_
  refine T_iload_n dX2_alikeFrom_10 rfl ?_
  refine T_sub dX2_alikeFrom_11 (by omega) ?_
  refine T_min dX2_alikeFrom_12 lX2_98 (by decide) (Nat.le_of_ble_eq_true rfl) ?_
  refine T_ist dX2_alikeFrom_15 (by decide) rfl ?_
  refine T_iconst dX2_alikeFrom_17 (by decide) ?_
  refine T_ist dX2_alikeFrom_18 (by decide) rfl ?_
  exact h20 0 ⟨Nat.zero_le _, rfl⟩

end C6
