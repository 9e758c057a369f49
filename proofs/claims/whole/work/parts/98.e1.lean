/-! the class: version, tale -/
section C19
variable {G : sG} {d d' : sD} {w g v x y : Nat → Int} {wo vo e n a : Nat} {U V src : List Int}
theorem t_sameVersion {p q : Nat} (hp : p < 8) (hq : q < 8) (hU : Vc d p U) (hV : Vc d q V) (hl : U.length ≤ 60) (hl2 : V.length ≤ 60) : tB G mX7_sameVersion 0 [vR 91, vI p, vI q, vU 0] [] d (fun r d' => r = some (vI (bI (alP U V))) ∧ d = d') := by
  obtain ⟨p1, p2, p3⟩ := kn_t p hp
  obtain ⟨q1, q2, q3⟩ := kn_t q hq
  have h19 : ∀ z : Nat, ((z ≤ U.length ∧ U.length = V.length) ∧ ∀ j, j < z → U.getD j 0 = V.getD j 0) → tB G mX7_sameVersion 19 [vR 91, vI p, vI q, vI z] [] (d) (fun r d' => r = some (vI (bI (alP U V))) ∧ d = d') := by
    refine T_loop (α := Nat) 19 (fun z => [vR 91, vI p, vI q, vI z]) (fun z => d) (fun z => (z ≤ U.length ∧ U.length = V.length) ∧ ∀ j, j < z → U.getD j 0 = V.getD j 0) (fun z => U.length - z) ?_
    rintro i ⟨⟨h1, h2⟩, h3⟩ ih
    try dsimp only at h1 h2 h3 ih ⊢
    refine T_iload_n dX7_sameVersion_19 rfl ?_
    refine T_aload_n dX7_sameVersion_20 rfl ?_
    refine T_getR dX7_sameVersion_21 fX7_16 rfl k91 r91_1 ?_
    refine T_iload_n dX7_sameVersion_24 rfl ?_
    refine T_ialdv dX7_sameVersion_25 k101 l101 (by omega) (j := p) (by omega) (x := (U.length : Int)) hU.1 ?_
    refine T_icmp_ge (tgt := 56) dX7_sameVersion_26 (by decide) (fun c26 => ?_) (fun c26 => ?_)
    · refine T_iconst dX7_sameVersion_56 (by decide) ?_
      exact T_zreturn dX7_sameVersion_57 rfl (by omega) ⟨by rw [bI_t ⟨h2, fun j hj => h3 j (by omega)⟩], rfl⟩
    · refine T_aload_n dX7_sameVersion_29 rfl ?_
      refine T_getR dX7_sameVersion_30 fX7_11 rfl k91 r91_0 ?_
      refine T_iload_n dX7_sameVersion_33 rfl ?_
      refine T_aald dX7_sameVersion_34 k92 (by decide) l92 (by omega) p3 ?_
      refine T_iload_n dX7_sameVersion_35 rfl ?_
      refine T_ialdv dX7_sameVersion_36 p1 p2 (by omega) (j := i) (by omega) (x := U.getD i 0) (hU.2 i (by omega)) ?_
      refine T_aload_n dX7_sameVersion_37 rfl ?_
      refine T_getR dX7_sameVersion_38 fX7_11 rfl k91 r91_0 ?_
      refine T_iload_n dX7_sameVersion_41 rfl ?_
      refine T_aald dX7_sameVersion_42 k92 (by decide) l92 (by omega) q3 ?_
      refine T_iload_n dX7_sameVersion_43 rfl ?_
      refine T_ialdv dX7_sameVersion_44 q1 q2 (by omega) (j := i) (by omega) (x := V.getD i 0) (hV.2 i (by omega)) ?_
      refine T_icmp_eq (tgt := 50) dX7_sameVersion_45 (by decide) (fun c45 => ?_) (fun c45 => ?_)
      · refine T_inc dX7_sameVersion_50 rfl (by decide) rfl (by omega) ?_
        refine T_goto (tgt := 19) dX7_sameVersion_53 (by decide) ?_
        refine ih (i + 1) ⟨⟨by omega, h2⟩, fun j hj => ?_⟩ (by omega)
        rcases (show j < i ∨ j = i by omega) with z | rfl
        · exact h3 j z
        · exact c45
      · refine T_iconst dX7_sameVersion_48 (by decide) ?_
        exact T_zreturn dX7_sameVersion_49 rfl (by omega) ⟨by rw [bI_f (fun z => c45 (z.2 i (by omega)))], rfl⟩
  refine T_aload_n dX7_sameVersion_0 rfl ?_
  refine T_getR dX7_sameVersion_1 fX7_16 rfl k91 r91_1 ?_
  refine T_iload_n dX7_sameVersion_4 rfl ?_
  refine T_ialdv dX7_sameVersion_5 k101 l101 (by omega) (j := p) (by omega) (x := (U.length : Int)) hU.1 ?_
  refine T_aload_n dX7_sameVersion_6 rfl ?_
  refine T_getR dX7_sameVersion_7 fX7_16 rfl k91 r91_1 ?_
  refine T_iload_n dX7_sameVersion_10 rfl ?_
  refine T_ialdv dX7_sameVersion_11 k101 l101 (by omega) (j := q) (by omega) (x := (V.length : Int)) hV.1 ?_
  refine T_icmp_eq (tgt := 17) dX7_sameVersion_12 (by decide) (fun c12 => ?_) (fun c12 => ?_)
  · refine T_iconst dX7_sameVersion_17 (by decide) ?_
    refine T_ist_n dX7_sameVersion_18 (by decide) rfl ?_
    exact h19 0 ⟨⟨Nat.zero_le _, by omega⟩, fun j hj => absurd hj (Nat.not_lt_zero j)⟩
  · refine T_iconst dX7_sameVersion_15 (by decide) ?_
    exact T_zreturn dX7_sameVersion_16 rfl (by omega) ⟨by rw [bI_f (fun z => c12 (by rw [z.1]))], rfl⟩

theorem alP_sym : alP U V ↔ alP V U := ⟨fun h => ⟨h.1.symm, fun j hj => (h.2 j (by have := h.1; omega)).symm⟩, fun h => ⟨h.1.symm, fun j hj => (h.2 j (by have := h.1; omega)).symm⟩⟩
theorem t_likeBits {p n : Nat} {F : Nat → List Int} (hn : n ≤ 8) (hp : p < n) (h : ∀ k, k < n → Vc d k (F k)) (hl : ∀ k, (F k).length ≤ 60) : tB G mX7_likeBits 0 [vR 91, vI p, vI n, vU 0, vU 0] [] d (fun r d' => r = some (vI (tlB F p n)) ∧ d = d') := by
  have h5 : ∀ z : Nat, (z ≤ n) → tB G mX7_likeBits 5 [vR 91, vI p, vI n, vI (tlB F p z), vI z] [] (d) (fun r d' => r = some (vI (tlB F p n)) ∧ d = d') := by
    refine T_loop (α := Nat) 5 (fun z => [vR 91, vI p, vI n, vI (tlB F p z), vI z]) (fun z => d) (fun z => z ≤ n) (fun z => n - z) ?_
    rintro i h1 ih
    try dsimp only at h1 ih ⊢
    have h37 : ∀ y : Int, y = (if alP (F i) (F p) then i_shl 1 i else 0) → i < n → tB G mX7_likeBits 37 [vR 91, vI p, vI n, vI (tlB F p i), vI i] [vI y, vI (tlB F p i)] d (fun r d' => r = some (vI (tlB F p n)) ∧ d = d') := by
      rintro _ rfl hi
      refine T_ior dX7_likeBits_37 ?_
      refine T_ist_n dX7_likeBits_38 (by decide) rfl ?_
      refine T_inc dX7_likeBits_39 rfl (by decide) rfl (by omega) ?_
      refine T_goto (tgt := 5) dX7_likeBits_42 (by decide) ?_
      exact ih (i + 1) hi (by omega)
    refine T_iload dX7_likeBits_5 rfl ?_
    refine T_iload_n dX7_likeBits_7 rfl ?_
    refine T_icmp_ge (tgt := 45) dX7_likeBits_8 (by decide) (fun c8 => ?_) (fun c8 => ?_)
    · refine T_iload_n dX7_likeBits_45 rfl ?_
      exact T_ireturn dX7_likeBits_46 rfl ⟨by rw [show i = n by omega], rfl⟩
    · refine T_iload dX7_likeBits_11 rfl ?_
      refine T_bipush dX7_likeBits_13 (by decide) ?_
      refine T_icmp_ge (tgt := 45) dX7_likeBits_15 (by decide) (fun c15 => absurd c15 (by omega)) (fun c15 => ?_)
      refine T_iload_n dX7_likeBits_18 rfl ?_
      refine T_aload_n dX7_likeBits_19 rfl ?_
      refine T_iload_n dX7_likeBits_20 rfl ?_
      refine T_iload dX7_likeBits_21 rfl ?_
      refine T_callV dX7_likeBits_23 lX7_58 (As := [_, _]) (rest := _) rfl rfl k91 (by decide) (Nat.le_of_ble_eq_true rfl) (Nat.le_of_ble_eq_true rfl) (t_sameVersion (by omega) (by omega) (h p hp) (h i (by omega)) (hl p) (hl i)) ?_
      rintro _ _ ⟨rfl, rfl⟩
      refine T_if_eq (tgt := 36) dX7_likeBits_26 (by decide) (fun c26 => ?_) (fun c26 => ?_)
      · have h26 := bI_0 c26
        refine T_iconst dX7_likeBits_36 (by decide) ?_
        exact h37 _ (by rw [if_neg (fun z => h26 (alP_sym.mp z))]) (by omega)
      · have h26 := bI_1 c26
        refine T_iconst dX7_likeBits_29 (by decide) ?_
        refine T_iload dX7_likeBits_30 rfl ?_
        refine T_ishl dX7_likeBits_32 ?_
        refine T_goto (tgt := 37) dX7_likeBits_33 (by decide) ?_
        exact h37 _ (by rw [if_pos (alP_sym.mp h26)]) (by omega)
  refine T_iconst dX7_likeBits_0 (by decide) ?_
  refine T_ist_n dX7_likeBits_1 (by decide) rfl ?_
  refine T_iconst dX7_likeBits_2 (by decide) ?_
  refine T_ist dX7_likeBits_3 (by decide) rfl ?_
  exact h5 0 (Nat.zero_le _)

abbrev taQ (d : sD) (k l t i : Int) : Option sV → sD → Prop := fun r d' => (¬ Vpv d k l t i ∧ r = some (vI 0) ∧ Cf d d') ∨ (Vpv d k l t i ∧ r = some (vI 1) ∧ Ssd d' (srS (wvD d k.toNat) (gvD d l.toNat)) ∧ (∀ q, q < (vvD d t.toNat 0).toNat → Vc d' q (VlS (wvD d k.toNat) (gvD d l.toNat) (vvD d t.toNat) q)) ∧ Cf d d')
theorem t_tellAround {k l t i : Int} (hM : MS d) (hC : CS d) : tB G mX11_tellAround 0 [vR 1, vI k, vI l, vI t, vI i, vU 0] [] d (taQ d k l t i) := by
  have hc0 := hM.1 3 (by decide)
  refine T_aload_n dX11_tellAround_0 rfl ?_
  refine T_iload_n dX11_tellAround_1 rfl ?_
  refine T_callV dX11_tellAround_2 lX11_352 (As := [_]) (rest := _) rfl rfl k1 (by decide) (Nat.le_of_ble_eq_true rfl) (Nat.le_of_ble_eq_true rfl) (t_villagesAt hM hC) ?_
  rintro _ _ (⟨hu, rfl, rfl⟩ | ⟨hu, rfl, rfl⟩)
  ·
    refine T_ast dX11_tellAround_5 (by decide) rfl ?_
    refine T_aload dX11_tellAround_7 rfl ?_
    refine T_ifnull (tgt := 36) dX11_tellAround_9 (by decide) (fun c9 => ?_) (fun c9 => absurd rfl c9)
    refine T_iconst dX11_tellAround_36 (by decide) ?_
    exact T_zreturn dX11_tellAround_37 rfl (by omega) (Or.inl ⟨fun q => hu q.1.2, rfl, Cf.rf⟩)
  · have hv := (kn_v t.toNat (by omega)).1
    have hO := hC.2.2.2.2 t.toNat (by omega)
    have hV := hM.2.2.2.2 t.toNat (by omega)
    have hat := at_V hv
    refine T_ast dX11_tellAround_5 (by decide) rfl ?_
    refine T_aload dX11_tellAround_7 rfl ?_
    refine T_ifnull (tgt := 36) dX11_tellAround_9 (by decide) (fun c9 => absurd c9 (by omega)) (fun c9 => ?_)
    refine T_iload dX11_tellAround_12 rfl ?_
    refine T_if_lt (tgt := 36) dX11_tellAround_14 (by decide) (fun c14 => ?_) (fun c14 => ?_)
    · refine T_iconst dX11_tellAround_36 (by decide) ?_
      exact T_zreturn dX11_tellAround_37 rfl (by omega) (Or.inl ⟨fun q => by have := q.2; omega, rfl, Cf.rf⟩)
    · refine T_iload dX11_tellAround_17 rfl ?_
      refine T_aload dX11_tellAround_19 rfl ?_
      refine T_getIv dX11_tellAround_21 fX11_356 rfl hv (x := vvD d t.toNat 0) hO.1 ?_
      refine T_icmp_ge (tgt := 36) dX11_tellAround_24 (by decide) (fun c24 => ?_) (fun c24 => ?_)
      · refine T_iconst dX11_tellAround_36 (by decide) ?_
        exact T_zreturn dX11_tellAround_37 rfl (by omega) (Or.inl ⟨fun q => by have := q.2; omega, rfl, Cf.rf⟩)
      · refine T_aload_n dX11_tellAround_27 rfl ?_
        refine T_iload_n dX11_tellAround_28 rfl ?_
        refine T_iload_n dX11_tellAround_29 rfl ?_
        refine T_callV dX11_tellAround_30 lX11_225 (As := [_, _]) (rest := _) rfl rfl k1 (by decide) (Nat.le_of_ble_eq_true rfl) (Nat.le_of_ble_eq_true rfl) (t_perform hM hC) ?_
        rintro _ d1 (⟨hp, rfl, rfl⟩ | ⟨hp, rfl, e1, e2, f1⟩)
        ·
          refine T_if_ne (tgt := 38) dX11_tellAround_33 (by decide) (fun c33 => absurd rfl c33) (fun c33 => ?_)
          refine T_iconst dX11_tellAround_36 (by decide) ?_
          exact T_zreturn dX11_tellAround_37 rfl (by omega) (Or.inl ⟨fun q => hp q.1.1, rfl, Cf.rf⟩)
        · have hVw := hM.2.1 k.toNat (by omega)
          have hG := hM.2.2.1 l.toNat (by omega)
          have hlen := rowS_24 hVw hG
          have hsd : Ssd d1 (srS (wvD d k.toNat) (gvD d l.toNat)) := ⟨by rw [srS_len]; exact e1.1, fun j hj => by rw [srS_len] at hj; rw [(e2 j hj).1, srS_get hj]; unfold snS; rw [if_pos hj]⟩
          refine T_if_ne (tgt := 38) dX11_tellAround_33 (by decide) (fun c33 => ?_) (fun c33 => absurd c33 (by decide))
          refine T_aload_n dX11_tellAround_38 rfl ?_
          refine T_getR dX11_tellAround_39 fX11_61 rfl k1 r1_8 ?_
          refine T_aload dX11_tellAround_42 rfl ?_
          refine T_aload_n dX11_tellAround_44 rfl ?_
          refine T_getR dX11_tellAround_45 fX11_41 rfl k1 r1_5 ?_
          refine T_callV dX11_tellAround_48 lX11_390 (As := [_, _]) (rest := _) rfl rfl k91 (by decide) (Nat.le_of_ble_eq_true rfl) (Nat.le_of_ble_eq_true rfl) (t_tell hv (Vo_fr hO f1 (by omega)) hV hsd (by rw [srS_len]; exact hlen)) ?_
          rintro _ d2 ⟨rfl, e3, f2⟩
          refine T_iconst dX11_tellAround_51 (by decide) ?_
          exact T_zreturn dX11_tellAround_52 rfl (by omega) (Or.inr ⟨⟨⟨hp, hu⟩, by omega⟩, rfl, ⟨by rw [f2 _ _ (by omega)]; exact hsd.1, fun j hj => by rw [f2 _ _ (by omega)]; exact hsd.2 j hj⟩, e3, (f1.cf (by omega)).trans (f2.cf (by omega))⟩)

theorem t_C_version {k l t i x : Int} (hM : MS d) (hC : CS d) : tB G mX11_version 0 [vR 1, vI k, vI l, vI t, vI i, vI x, vU 0] [] d (cQ d (if Vpv d k l t i then qVersion (VlS (wvD d k.toNat) (gvD d l.toNat) (vvD d t.toNat) i.toNat) x else -1)) := by
  have hc0 := hM.1 3 (by decide)
  refine T_aload_n dX11_version_0 rfl ?_
  refine T_iload_n dX11_version_1 rfl ?_
  refine T_iload_n dX11_version_2 rfl ?_
  refine T_iload_n dX11_version_3 rfl ?_
  refine T_iload dX11_version_4 rfl ?_
  refine T_callV dX11_version_6 lX11_372 (As := [_, _, _, _]) (rest := _) rfl rfl k1 (by decide) (Nat.le_of_ble_eq_true rfl) (Nat.le_of_ble_eq_true rfl) (t_tellAround hM hC) ?_
  rintro _ d1 (⟨hp, rfl, f1⟩ | ⟨hp, rfl, e1, e2, f1⟩)
  ·
    refine T_if_ne (tgt := 14) dX11_version_9 (by decide) (fun c9 => absurd rfl c9) (fun c9 => ?_)
    refine T_iconst dX11_version_12 (by decide) ?_
    exact T_ireturn dX11_version_13 rfl ⟨by rw [if_neg hp], f1⟩
  · rw [if_pos hp]
    have hV := hM.2.2.2.2 t.toNat (by omega)
    have h8 := hV.1
    have hE := e2 i.toNat (by omega)
    have hl : (VlS (wvD d k.toNat) (gvD d l.toNat) (vvD d t.toNat) i.toNat).length ≤ 60 := Vl_len _ _
    generalize VlS (wvD d k.toNat) (gvD d l.toNat) (vvD d t.toNat) i.toNat = V at *
    obtain ⟨p1, p2, p3⟩ := kn_t i.toNat (by omega)
    refine T_if_ne (tgt := 14) dX11_version_9 (by decide) (fun c9 => ?_) (fun c9 => absurd c9 (by decide))
    refine T_aload_n dX11_version_14 rfl ?_
    refine T_getR dX11_version_15 fX11_61 rfl k1 r1_8 ?_
    refine T_getR dX11_version_18 fX11_376 rfl k91 r91_1 ?_
    refine T_iload dX11_version_21 rfl ?_
    refine T_ialdv dX11_version_23 k101 l101 (by omega) rfl (x := (V.length : Int)) hE.1 ?_
    refine T_ist dX11_version_24 (by decide) rfl ?_
    refine T_iload dX11_version_26 rfl ?_
    refine T_iconst dX11_version_28 (by decide) ?_
    refine T_icmp_ne (tgt := 35) dX11_version_29 (by decide) (fun c29 => ?_) (fun c29 => ?_)
    · refine T_iload dX11_version_35 rfl ?_
      refine T_if_lt (tgt := 63) dX11_version_37 (by decide) (fun c37 => ?_) (fun c37 => ?_)
      · refine T_iconst dX11_version_63 (by decide) ?_
        exact T_ireturn dX11_version_64 rfl ⟨by unfold qVersion; rw [if_neg c29, if_neg (by omega)], f1⟩
      · refine T_iload dX11_version_40 rfl ?_
        refine T_iload dX11_version_42 rfl ?_
        refine T_icmp_ge (tgt := 63) dX11_version_44 (by decide) (fun c44 => ?_) (fun c44 => ?_)
        · refine T_iconst dX11_version_63 (by decide) ?_
          exact T_ireturn dX11_version_64 rfl ⟨by unfold qVersion; rw [if_neg c29, if_neg (by omega)], f1⟩
        · refine T_aload_n dX11_version_47 rfl ?_
          refine T_getR dX11_version_48 fX11_61 rfl k1 r1_8 ?_
          refine T_getR dX11_version_51 fX11_377 rfl k91 r91_0 ?_
          refine T_iload dX11_version_54 rfl ?_
          refine T_aald dX11_version_56 k92 (by decide) l92 (by omega) p3 ?_
          refine T_iload dX11_version_57 rfl ?_
          refine T_ialdv dX11_version_59 p1 p2 (by omega) rfl (x := V.getD x.toNat 0) (hE.2 x.toNat (by omega)) ?_
          refine T_goto (tgt := 64) dX11_version_60 (by decide) ?_
          exact T_ireturn dX11_version_64 rfl ⟨by unfold qVersion; rw [if_neg c29, if_pos (by omega)], f1⟩
    · refine T_iload dX11_version_32 rfl ?_
      exact T_ireturn dX11_version_34 rfl ⟨by unfold qVersion; rw [if_pos c29], f1⟩

theorem t_C_tale {k l t i x : Int} (hM : MS d) (hC : CS d) : tB G mX11_tale 0 [vR 1, vI k, vI l, vI t, vI i, vI x] [] d (cQ d (if Vpv d k l t i then qTale (VlS (wvD d k.toNat) (gvD d l.toNat) (vvD d t.toNat)) (srS (wvD d k.toNat) (gvD d l.toNat)) (vvD d t.toNat 0).toNat i.toNat x else -1)) := by
  have hc0 := hM.1 3 (by decide)
  refine T_aload_n dX11_tale_0 rfl ?_
  refine T_iload_n dX11_tale_1 rfl ?_
  refine T_iload_n dX11_tale_2 rfl ?_
  refine T_iload_n dX11_tale_3 rfl ?_
  refine T_iload dX11_tale_4 rfl ?_
  refine T_callV dX11_tale_6 lX11_372 (As := [_, _, _, _]) (rest := _) rfl rfl k1 (by decide) (Nat.le_of_ble_eq_true rfl) (Nat.le_of_ble_eq_true rfl) (t_tellAround hM hC) ?_
  rintro _ d1 (⟨hp, rfl, f1⟩ | ⟨hp, rfl, e1, e2, f1⟩)
  ·
    refine T_if_ne (tgt := 14) dX11_tale_9 (by decide) (fun c9 => absurd rfl c9) (fun c9 => ?_)
    refine T_iconst dX11_tale_12 (by decide) ?_
    exact T_ireturn dX11_tale_13 rfl ⟨by rw [if_neg hp], f1⟩
  · rw [if_pos hp]
    have hVw := hM.2.1 k.toNat (by omega)
    have hG := hM.2.2.1 l.toNat (by omega)
    have hlen := rowS_24 hVw hG
    have hV := hM.2.2.2.2 t.toNat (by omega)
    have hO := hC.2.2.2.2 t.toNat (by omega)
    have hv := (kn_v t.toNat (by omega)).1
    have hat := at_V hv
    have h8 := hV.1
    have hl : ∀ q, (VlS (wvD d k.toNat) (gvD d l.toNat) (vvD d t.toNat) q).length ≤ 60 := fun q => Vl_len _ _
    have hsl : (srS (wvD d k.toNat) (gvD d l.toNat)).length ≤ 24 := by rw [srS_len]; exact hlen
    have hO1 : d1 (25 + 21 * t.toNat) 0 = vvD d t.toNat 0 := by rw [f1 _ _ (by omega)]; exact hO.1
    obtain ⟨i, rfl⟩ : ∃ q : Nat, i = (q : Int) := ⟨i.toNat, by omega⟩
    rw [Int.toNat_natCast]
    have hE := e2 i (by omega)
    have hn8 : (vvD d t.toNat 0).toNat ≤ 8 := by omega
    have hin : i < (vvD d t.toNat 0).toNat := by omega
    have hnn : vvD d t.toNat 0 = (((vvD d t.toNat 0).toNat : Nat) : Int) := by omega
    generalize VlS (wvD d k.toNat) (gvD d l.toNat) (vvD d t.toNat) = F at *
    generalize srS (wvD d k.toNat) (gvD d l.toNat) = src at *
    generalize (vvD d t.toNat 0).toNat = N at *
    have hli := hl i
    obtain ⟨p1, p2, p3⟩ := kn_t i (by omega)
    refine T_if_ne (tgt := 14) dX11_tale_9 (by decide) (fun c9 => ?_) (fun c9 => absurd c9 (by decide))
    refine T_iload dX11_tale_14 rfl ?_
    refine T_if_eq (tgt := 41) dX11_tale_16 (by decide) (fun c16 => ?_) (fun c16 => ?_)
    · refine T_aload_n dX11_tale_41 rfl ?_
      refine T_getR dX11_tale_42 fX11_68 rfl k1 r1_9 ?_
      refine T_iconst dX11_tale_45 (by decide) ?_
      refine T_aload_n dX11_tale_46 rfl ?_
      refine T_getR dX11_tale_47 fX11_61 rfl k1 r1_8 ?_
      refine T_getR dX11_tale_50 fX11_377 rfl k91 r91_0 ?_
      refine T_iload dX11_tale_53 rfl ?_
      refine T_aald dX11_tale_55 k92 (by decide) l92 (by omega) p3 ?_
      refine T_iconst dX11_tale_56 (by decide) ?_
      refine T_aload_n dX11_tale_57 rfl ?_
      refine T_getR dX11_tale_58 fX11_61 rfl k1 r1_8 ?_
      refine T_getR dX11_tale_61 fX11_376 rfl k91 r91_1 ?_
      refine T_iload dX11_tale_64 rfl ?_
      refine T_ialdv dX11_tale_66 k101 l101 (by omega) (j := i) (by omega) (x := ((F i).length : Int)) hE.1 ?_
      refine T_callV dX11_tale_67 lX11_383 (As := [_, _, _, _]) (rest := _) rfl rfl k102 (by decide) (Nat.le_of_ble_eq_true rfl) (Nat.le_of_ble_eq_true rfl) (t_take (q := 0) (at' := 0) (many := (F i).length) (by decide) p1 p2 (by decide) (by omega) (by omega) (by omega)) ?_
      rintro _ d2 ⟨rfl, ⟨g1, g2⟩, g3, g4, f2⟩
      refine T_aload_n dX11_tale_70 rfl ?_
      refine T_getR dX11_tale_71 fX11_68 rfl k1 r1_9 ?_
      refine T_iconst dX11_tale_74 (by decide) ?_
      refine T_aload_n dX11_tale_75 rfl ?_
      refine T_getR dX11_tale_76 fX11_41 rfl k1 r1_5 ?_
      refine T_getR dX11_tale_79 fX11_237 rfl k81 r81_3 ?_
      refine T_iconst dX11_tale_82 (by decide) ?_
      refine T_aload_n dX11_tale_83 rfl ?_
      refine T_getR dX11_tale_84 fX11_41 rfl k1 r1_5 ?_
      refine T_getIv dX11_tale_87 fX11_228 rfl k81 (x := (src.length : Int)) (by rw [f2 _ _ (by omega)]; exact e1.1) ?_
      refine T_callV dX11_tale_90 lX11_383 (As := [_, _, _, _]) (rest := _) rfl rfl k102 (by decide) (Nat.le_of_ble_eq_true rfl) (Nat.le_of_ble_eq_true rfl) (t_take (q := 1) (at' := 0) (many := src.length) (by decide) k85 l85 (by decide) (by omega) (by omega) (by omega)) ?_
      rintro _ d3 ⟨rfl, ⟨q1, q2⟩, q3, q4, f3⟩
      refine T_aload_n dX11_tale_93 rfl ?_
      refine T_getR dX11_tale_94 fX11_68 rfl k1 r1_9 ?_
      refine T_callV dX11_tale_97 lX11_387 (As := []) (rest := _) rfl rfl k102 (by decide) (Nat.le_of_ble_eq_true rfl) (Nat.le_of_ble_eq_true rfl) (t_fewestChanges (m := (F i).length) (n := src.length) (by omega) (by omega) (q4.trans g2) q2) ?_
      rintro _ d4 ⟨rfl, f4⟩
      exact T_ireturn dX11_tale_100 rfl ⟨by unfold qTale; rw [if_pos c16, edS_congr (x' := gtD (F i)) (y' := gtD src) (m := (F i).length) (n := src.length) (fun j hj => by rw [q3 j]; have z := g1 j hj; rw [Nat.zero_add] at z; exact z.trans (hE.2 j hj)) (fun j hj => by have z := q1 j hj; rw [Nat.zero_add] at z; rw [z, f2 _ _ (by omega)]; exact e1.2 j hj) _ (Nat.le_refl _) _ (Nat.le_refl _)], ((f1.trans (f2.cf (by omega))).trans (f3.cf (by omega))).trans (f4.cf (by omega))⟩
    · refine T_aload_n dX11_tale_19 rfl ?_
      refine T_getR dX11_tale_20 fX11_61 rfl k1 r1_8 ?_
      refine T_iload dX11_tale_23 rfl ?_
      refine T_aload_n dX11_tale_25 rfl ?_
      refine T_getR dX11_tale_26 fX11_10 rfl k1 r1_0 ?_
      refine T_getR dX11_tale_29 fX11_153 rfl k2 r2_8 ?_
      refine T_iload_n dX11_tale_32 rfl ?_
      refine T_aald dX11_tale_33 k8 (by decide) l8 (by omega) (kn_v t.toNat (by omega)).2 ?_
      refine T_getIv dX11_tale_34 fX11_356 rfl hv (x := (N : Int)) (hO1.trans hnn) ?_
      refine T_callV dX11_tale_37 lX11_380 (As := [_, _]) (rest := _) rfl rfl k91 (by decide) (Nat.le_of_ble_eq_true rfl) (Nat.le_of_ble_eq_true rfl) (t_likeBits hn8 hin e2 hl) ?_
      rintro _ _ ⟨rfl, rfl⟩
      exact T_ireturn dX11_tale_40 rfl ⟨by unfold qTale; rw [if_neg c16], f1⟩

end C19
