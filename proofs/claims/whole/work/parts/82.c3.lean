/-! the class: the drum -/
section C3
variable {G : sG} {d d' : sD} {w g t s r : Nat → Int} {wo n : Nat}
theorem t_wasGivenBy {a : Nat} {p : Int} (hn : d 81 5 = (n : Int)) (hn24 : n ≤ 24) : tB G mX1_wasGivenBy 0 [vR 81, vI a, vI p] [] d (fun r d' => r = some (vI (bI ((0 ≤ p ∧ p < n) ∧ d 83 p.toNat = a))) ∧ d = d') := by
  refine T_iload_n dX1_wasGivenBy_0 rfl ?_
  refine T_if_lt (tgt := 26) dX1_wasGivenBy_1 (by decide) (fun c1 => ?_) (fun c1 => ?_)
  · refine T_iconst dX1_wasGivenBy_26 (by decide) ?_
    exact T_zreturn dX1_wasGivenBy_27 rfl (by omega) ⟨by rw [bI_f (fun z => by omega)], rfl⟩
  · refine T_iload_n dX1_wasGivenBy_4 rfl ?_
    refine T_aload_n dX1_wasGivenBy_5 rfl ?_
    refine T_getIv dX1_wasGivenBy_6 fX1_28 rfl k81 (x := (n : Int)) hn ?_
    refine T_icmp_ge (tgt := 26) dX1_wasGivenBy_9 (by decide) (fun c9 => ?_) (fun c9 => ?_)
    · refine T_iconst dX1_wasGivenBy_26 (by decide) ?_
      exact T_zreturn dX1_wasGivenBy_27 rfl (by omega) ⟨by rw [bI_f (fun z => by omega)], rfl⟩
    · refine T_aload_n dX1_wasGivenBy_12 rfl ?_
      refine T_getR dX1_wasGivenBy_13 fX1_15 rfl k81 r81_1 ?_
      refine T_iload_n dX1_wasGivenBy_16 rfl ?_
      refine T_iald dX1_wasGivenBy_17 k83 l83 (by omega) rfl ?_
      refine T_iload_n dX1_wasGivenBy_18 rfl ?_
      refine T_icmp_ne (tgt := 26) dX1_wasGivenBy_19 (by decide) (fun c19 => ?_) (fun c19 => ?_)
      · refine T_iconst dX1_wasGivenBy_26 (by decide) ?_
        exact T_zreturn dX1_wasGivenBy_27 rfl (by omega) ⟨by rw [bI_f (fun z => c19 z.2)], rfl⟩
      · refine T_iconst dX1_wasGivenBy_22 (by decide) ?_
        refine T_goto (tgt := 27) dX1_wasGivenBy_23 (by decide) ?_
        exact T_zreturn dX1_wasGivenBy_27 rfl (by omega) ⟨by rw [bI_t ⟨⟨by omega, by omega⟩, c19⟩], rfl⟩

theorem t_echoesAt {p : Int} (hn : d 81 5 = (n : Int)) (hn24 : n ≤ 24) : tB G mX1_echoesAt 0 [vR 81, vI p] [] d (fun r d' => r = some (vI (bI ((0 ≤ p ∧ p < n) ∧ ¬ d 86 p.toNat = 0))) ∧ d = d') := by
  refine T_iload_n dX1_echoesAt_0 rfl ?_
  refine T_if_lt (tgt := 25) dX1_echoesAt_1 (by decide) (fun c1 => ?_) (fun c1 => ?_)
  · refine T_iconst dX1_echoesAt_25 (by decide) ?_
    exact T_zreturn dX1_echoesAt_26 rfl (by omega) ⟨by rw [bI_f (fun z => by omega)], rfl⟩
  · refine T_iload_n dX1_echoesAt_4 rfl ?_
    refine T_aload_n dX1_echoesAt_5 rfl ?_
    refine T_getIv dX1_echoesAt_6 fX1_28 rfl k81 (x := (n : Int)) hn ?_
    refine T_icmp_ge (tgt := 25) dX1_echoesAt_9 (by decide) (fun c9 => ?_) (fun c9 => ?_)
    · refine T_iconst dX1_echoesAt_25 (by decide) ?_
      exact T_zreturn dX1_echoesAt_26 rfl (by omega) ⟨by rw [bI_f (fun z => by omega)], rfl⟩
    · refine T_aload_n dX1_echoesAt_12 rfl ?_
      refine T_getR dX1_echoesAt_13 fX1_24 rfl k81 r81_4 ?_
      refine T_iload_n dX1_echoesAt_16 rfl ?_
      refine T_zald dX1_echoesAt_17 k86 l86 (by omega) rfl ?_
      refine T_if_eq (tgt := 25) dX1_echoesAt_18 (by decide) (fun c18 => ?_) (fun c18 => ?_)
      · refine T_iconst dX1_echoesAt_25 (by decide) ?_
        exact T_zreturn dX1_echoesAt_26 rfl (by omega) ⟨by rw [bI_f (fun z => z.2 c18)], rfl⟩
      · refine T_iconst dX1_echoesAt_21 (by decide) ?_
        refine T_goto (tgt := 26) dX1_echoesAt_22 (by decide) ?_
        exact T_zreturn dX1_echoesAt_26 rfl (by omega) ⟨by rw [bI_t ⟨⟨by omega, by omega⟩, c18⟩], rfl⟩

theorem t_restsGiven (hn : d 81 5 = (n : Int)) (hn24 : n ≤ 24) (hr : ∀ j, j < n → d 82 j = r j) : tB G mX1_restsGiven 0 [vR 81, vU 0, vU 0] [] d (fun x d' => x = some (vI (rsM r n)) ∧ d = d') := by
  have h4 : ∀ z : Nat, (z ≤ n) → tB G mX1_restsGiven 4 [vR 81, vI (rsM r z), vI z] [] (d) (fun x d' => x = some (vI (rsM r n)) ∧ d = d') := by
    refine T_loop (α := Nat) 4 (fun z => [vR 81, vI (rsM r z), vI z]) (fun z => d) (fun z => z ≤ n) (fun z => n - z) ?_
    rintro k h1 ih
    try dsimp only at h1 ih ⊢
    have h29 : ∀ x : Int, x = (if r k = 0 then i_shl 1 k else 0) → k < n → tB G mX1_restsGiven 29 [vR 81, vI (rsM r k), vI k] [vI x, vI (rsM r k)] d (fun x d' => x = some (vI (rsM r n)) ∧ d = d') := by
      rintro _ rfl hk
      refine T_ior dX1_restsGiven_29 ?_
      refine T_ist_n dX1_restsGiven_30 (by decide) rfl ?_
      refine T_inc dX1_restsGiven_31 rfl (by decide) rfl (by omega) ?_
      refine T_goto (tgt := 4) dX1_restsGiven_34 (by decide) ?_
      exact ih (k + 1) hk (by omega)
    refine T_iload_n dX1_restsGiven_4 rfl ?_
    refine T_aload_n dX1_restsGiven_5 rfl ?_
    refine T_getIv dX1_restsGiven_6 fX1_28 rfl k81 (x := (n : Int)) hn ?_
    refine T_icmp_ge (tgt := 37) dX1_restsGiven_9 (by decide) (fun c9 => ?_) (fun c9 => ?_)
    · refine T_iload_n dX1_restsGiven_37 rfl ?_
      exact T_ireturn dX1_restsGiven_38 rfl ⟨by rw [show k = n by omega], rfl⟩
    · refine T_iload_n dX1_restsGiven_12 rfl ?_
      refine T_aload_n dX1_restsGiven_13 rfl ?_
      refine T_getR dX1_restsGiven_14 fX1_9 rfl k81 r81_0 ?_
      refine T_iload_n dX1_restsGiven_17 rfl ?_
      refine T_ialdv dX1_restsGiven_18 k82 l82 (by omega) (j := k) (by omega) (x := r k) (hr k (by omega)) ?_
      refine T_if_ne (tgt := 28) dX1_restsGiven_19 (by decide) (fun c19 => ?_) (fun c19 => ?_)
      · refine T_iconst dX1_restsGiven_28 (by decide) ?_
        exact h29 _ (by rw [if_neg c19]) (by omega)
      · refine T_iconst dX1_restsGiven_22 (by decide) ?_
        refine T_iload_n dX1_restsGiven_23 rfl ?_
        refine T_ishl dX1_restsGiven_24 ?_
        refine T_goto (tgt := 29) dX1_restsGiven_25 (by decide) ?_
        exact h29 _ (by rw [if_pos c19]) (by omega)
  refine T_iconst dX1_restsGiven_0 (by decide) ?_
  refine T_ist_n dX1_restsGiven_1 (by decide) rfl ?_
  refine T_iconst dX1_restsGiven_2 (by decide) ?_
  refine T_ist_n dX1_restsGiven_3 (by decide) rfl ?_
  exact h4 0 (Nat.zero_le _)

theorem t_hush {x : Int} (hn : d 81 5 = (n : Int)) (hn24 : n ≤ 24) (hr : ∀ j, j < n → d 82 j = r j) : tB G mX1_hush 0 [vR 81, vI x, vU 0] [] d (fun z d' => z = none ∧ (∀ j, j < n → d' 84 j = if bitP x j then 0 else r j) ∧ Fr 84 84 d d') := by
  have h2 : ∀ z : Nat × sD, (z.1 ≤ n ∧ (∀ j, j < z.1 → z.2 84 j = if bitP x j then 0 else r j) ∧ Fr 84 84 d z.2) → tB G mX1_hush 2 [vR 81, vI x, vI z.1] [] (z.2) (fun z d' => z = none ∧ (∀ j, j < n → d' 84 j = if bitP x j then 0 else r j) ∧ Fr 84 84 d d') := by
    refine T_loop (α := Nat × sD) 2 (fun z => [vR 81, vI x, vI z.1]) (fun z => z.2) (fun z => z.1 ≤ n ∧ (∀ j, j < z.1 → z.2 84 j = if bitP x j then 0 else r j) ∧ Fr 84 84 d z.2) (fun z => n - z.1) ?_
    rintro ⟨k, e⟩ ⟨h1, h2, h3⟩ ih
    try dsimp only at h1 h2 h3 ih ⊢
    have hne : e 81 5 = (n : Int) := by rw [h3 81 5 (by omega)]; exact hn
    have h34 : ∀ y : Int, y = (if bitP x k then 0 else r k) → k < n → tB G mX1_hush 34 [vR 81, vI x, vI k] [vI y, vI k, vR 84] e (fun z d' => z = none ∧ (∀ j, j < n → d' 84 j = if bitP x j then 0 else r j) ∧ Fr 84 84 d d') := by
      rintro _ rfl hk
      refine T_iast dX1_hush_34 k84 l84 (by omega) (j := k) (by omega) ?_
      refine T_inc dX1_hush_35 rfl (by decide) rfl (by omega) ?_
      refine T_goto (tgt := 2) dX1_hush_38 (by decide) ?_
      refine T_nm (fun m2 hm2 => ih (k + 1, m2) ?_ (by (try dsimp only); omega))
      subst hm2
      try dsimp only
      refine ⟨by (try dsimp only); omega, fun j hj => ?_, h3.up (by omega)⟩
      try dsimp only at hj ⊢
      rcases (show j < k ∨ j = k by omega) with z | rfl
      · rw [up_nej (by omega)]; exact h2 j z
      · rw [up_same]
    refine T_iload_n dX1_hush_2 rfl ?_
    refine T_aload_n dX1_hush_3 rfl ?_
    refine T_getIv dX1_hush_4 fX1_28 rfl k81 (x := (n : Int)) hne ?_
    refine T_icmp_ge (tgt := 41) dX1_hush_7 (by decide) (fun c7 => ?_) (fun c7 => ?_)
    · exact T_return dX1_hush_41 rfl ⟨rfl, fun j hj => h2 j (by omega), h3⟩
    · refine T_aload_n dX1_hush_10 rfl ?_
      refine T_getR dX1_hush_11 fX1_18 rfl k81 r81_2 ?_
      refine T_iload_n dX1_hush_14 rfl ?_
      refine T_iload_n dX1_hush_15 rfl ?_
      refine T_iload_n dX1_hush_16 rfl ?_
      refine T_ishr dX1_hush_17 ?_
      refine T_iconst dX1_hush_18 (by decide) ?_
      refine T_iand dX1_hush_19 ?_
      refine T_iconst dX1_hush_20 (by decide) ?_
      refine T_icmp_ne (tgt := 28) dX1_hush_21 (by decide) (fun c21 => ?_) (fun c21 => ?_)
      · refine T_aload_n dX1_hush_28 rfl ?_
        refine T_getR dX1_hush_29 fX1_9 rfl k81 r81_0 ?_
        refine T_iload_n dX1_hush_32 rfl ?_
        refine T_ialdv dX1_hush_33 k82 l82 (by omega) (j := k) (by omega) (x := r k) (by rw [h3 82 k (by omega)]; exact hr k (by omega)) ?_
        exact h34 _ (by rw [if_neg c21]) (by omega)
      · refine T_iconst dX1_hush_24 (by decide) ?_
        refine T_goto (tgt := 34) dX1_hush_25 (by decide) ?_
        exact h34 _ (by rw [if_pos c21]) (by omega)
  refine T_iconst dX1_hush_0 (by decide) ?_
  refine T_ist_n dX1_hush_1 (by decide) rfl ?_
  exact h2 (0, d) ⟨Nat.zero_le _, fun j hj => absurd hj (Nat.not_lt_zero j), Fr.rf⟩

theorem t_blow {x : Int} (hn : d 81 5 = (n : Int)) (hn24 : n ≤ 24) (hr : ∀ j, j < n → d 82 j = r j) : tB G mX1_blow 0 [vR 81, vI x, vU 0, vU 0] [] d (fun z d' => z = some (vI (drM x n).1) ∧ (∀ j, j < n → d' 84 j = if rnB (drM x j).1 = 0 then 0 else r j) ∧ Fr 84 84 d d') := by
  have h4 : ∀ z : Nat × sD, (z.1 ≤ n ∧ (∀ j, j < z.1 → z.2 84 j = if rnB (drM x j).1 = 0 then 0 else r j) ∧ Fr 84 84 d z.2) → tB G mX1_blow 4 [vR 81, vI x, vI (drM x z.1).1, vI z.1] [] (z.2) (fun z d' => z = some (vI (drM x n).1) ∧ (∀ j, j < n → d' 84 j = if rnB (drM x j).1 = 0 then 0 else r j) ∧ Fr 84 84 d d') := by
    refine T_loop (α := Nat × sD) 4 (fun z => [vR 81, vI x, vI (drM x z.1).1, vI z.1]) (fun z => z.2) (fun z => z.1 ≤ n ∧ (∀ j, j < z.1 → z.2 84 j = if rnB (drM x j).1 = 0 then 0 else r j) ∧ Fr 84 84 d z.2) (fun z => n - z.1) ?_
    rintro ⟨k, e⟩ ⟨h1, h2, h3⟩ ih
    try dsimp only at h1 h2 h3 ih ⊢
    have hne : e 81 5 = (n : Int) := by rw [h3 81 5 (by omega)]; exact hn
    have h46 : ∀ y : Int, y = (if rnB (drM x k).1 = 0 then 0 else r k) → k < n → tB G mX1_blow 46 [vR 81, vI x, vI (drM x (k + 1)).1, vI k] [vI y, vI k, vR 84] e (fun z d' => z = some (vI (drM x n).1) ∧ (∀ j, j < n → d' 84 j = if rnB (drM x j).1 = 0 then 0 else r j) ∧ Fr 84 84 d d') := by
      rintro _ rfl hk
      refine T_iast dX1_blow_46 k84 l84 (by omega) (j := k) (by omega) ?_
      refine T_inc dX1_blow_47 rfl (by decide) rfl (by omega) ?_
      refine T_goto (tgt := 4) dX1_blow_50 (by decide) ?_
      refine T_nm (fun m2 hm2 => ih (k + 1, m2) ?_ (by (try dsimp only); omega))
      subst hm2
      try dsimp only
      refine ⟨by (try dsimp only); omega, fun j hj => ?_, h3.up (by omega)⟩
      try dsimp only at hj ⊢
      rcases (show j < k ∨ j = k by omega) with z | rfl
      · rw [up_nej (by omega)]; exact h2 j z
      · rw [up_same]
    refine T_iload_n dX1_blow_4 rfl ?_
    refine T_aload_n dX1_blow_5 rfl ?_
    refine T_getIv dX1_blow_6 fX1_28 rfl k81 (x := (n : Int)) hne ?_
    refine T_icmp_ge (tgt := 53) dX1_blow_9 (by decide) (fun c9 => ?_) (fun c9 => ?_)
    · refine T_iload_n dX1_blow_53 rfl ?_
      exact T_ireturn dX1_blow_54 rfl ⟨by rw [show k = n by omega], fun j hj => h2 j (by omega), h3⟩
    · refine T_iload_n dX1_blow_12 rfl ?_
      refine T_ldc dX1_blow_13 (by decide) kX1_53 ?_
      refine T_imul dX1_blow_15 ?_
      refine T_sipush dX1_blow_16 (by decide) ?_
      refine T_iadd dX1_blow_19 ?_
      refine T_ist_n dX1_blow_20 (by decide) rfl ?_
      refine T_aload_n dX1_blow_21 rfl ?_
      refine T_getR dX1_blow_22 fX1_18 rfl k81 r81_2 ?_
      refine T_iload_n dX1_blow_25 rfl ?_
      refine T_iload_n dX1_blow_26 rfl ?_
      refine T_bipush dX1_blow_27 (by decide) ?_
      refine T_iushr dX1_blow_29 ?_
      refine T_bipush dX1_blow_30 (by decide) ?_
      refine T_irem dX1_blow_32 (by decide) ?_
      refine T_if_ne (tgt := 40) dX1_blow_33 (by decide) (fun c33 => ?_) (fun c33 => ?_)
      · refine T_aload_n dX1_blow_40 rfl ?_
        refine T_getR dX1_blow_41 fX1_9 rfl k81 r81_0 ?_
        refine T_iload_n dX1_blow_44 rfl ?_
        refine T_ialdv dX1_blow_45 k82 l82 (by omega) (j := k) (by omega) (x := r k) (by rw [h3 82 k (by omega)]; exact hr k (by omega)) ?_
        exact h46 _ (by rw [if_neg (show ¬ rnB (drM x k).1 = 0 from c33)]) (by omega)
      · refine T_iconst dX1_blow_36 (by decide) ?_
        refine T_goto (tgt := 46) dX1_blow_37 (by decide) ?_
        exact h46 _ (by rw [if_pos (show rnB (drM x k).1 = 0 from c33)]) (by omega)
  refine T_iload_n dX1_blow_0 rfl ?_
  refine T_ist_n dX1_blow_1 (by decide) rfl ?_
  refine T_iconst dX1_blow_2 (by decide) ?_
  refine T_ist_n dX1_blow_3 (by decide) rfl ?_
  exact h4 (0, d) ⟨Nat.zero_le _, fun j hj => absurd hj (Nat.not_lt_zero j), Fr.rf⟩

theorem t_giveOther {p b : Nat} (hn : d 81 5 = (n : Int)) (hn24 : n ≤ 24) (hp : p < n) (hr : d 82 p = r p) (hr3 : 0 ≤ r p ∧ r p ≤ 3) (hb : b < 4) : tB G mX1_giveOther 0 [vR 81, vI p, vI b] [] d (fun z d' => z = none ∧ d' = up d 84 p ((r p + b) % 4)) := by
  refine T_iload_n dX1_giveOther_0 rfl ?_
  refine T_if_lt (tgt := 28) dX1_giveOther_1 (by decide) (fun c1 => absurd c1 (by omega)) (fun c1 => ?_)
  refine T_iload_n dX1_giveOther_4 rfl ?_
  refine T_aload_n dX1_giveOther_5 rfl ?_
  refine T_getIv dX1_giveOther_6 fX1_28 rfl k81 (x := (n : Int)) hn ?_
  refine T_icmp_ge (tgt := 28) dX1_giveOther_9 (by decide) (fun c9 => absurd c9 (by omega)) (fun c9 => ?_)
  refine T_aload_n dX1_giveOther_12 rfl ?_
  refine T_getR dX1_giveOther_13 fX1_18 rfl k81 r81_2 ?_
  refine T_iload_n dX1_giveOther_16 rfl ?_
  refine T_aload_n dX1_giveOther_17 rfl ?_
  refine T_getR dX1_giveOther_18 fX1_9 rfl k81 r81_0 ?_
  refine T_iload_n dX1_giveOther_21 rfl ?_
  refine T_ialdv dX1_giveOther_22 k82 l82 (by omega) (j := p) (by omega) (x := r p) hr ?_
  refine T_iload_n dX1_giveOther_23 rfl ?_
  refine T_add dX1_giveOther_24 (by omega) ?_
  refine T_iconst dX1_giveOther_25 (by decide) ?_
  refine T_rem dX1_giveOther_26 (by omega) (by omega) ?_
  refine T_iast dX1_giveOther_27 k84 l84 (by omega) (j := p) (by omega) ?_
  exact T_return dX1_giveOther_28 rfl ⟨rfl, rfl⟩

/-- what the drum plays -/
def Ds (d : sD) (w t : Nat → Int) (n : Nat) : Prop := ∀ j, j < n → d 85 j = sndB w t j ∧ d 86 j = bI (ecP w (sndA w t) j)
theorem ecP_lo {j : Nat} (h : (j : Int) < w 2) : ¬ ecP w s j := fun z => by omega
theorem sndB_lo {j : Nat} (h : (j : Int) < w 2) : sndB w t j = sndA w t j := if_neg (ecP_lo h)
theorem sndB_2 {j : Nat} : sndB w t j = 2 ↔ sndA w t j = 2 := by
  unfold sndB
  by_cases q : ecP w (sndA w t) j
  · rw [if_pos q]; have := q.2.2.2; omega
  · rw [if_neg q]
theorem t_sendEchoes {f : Nat} (hf : w 2 = (f : Int)) (hf9 : 1 ≤ f ∧ f ≤ 9) (hn : d 81 5 = (n : Int)) (hn24 : n ≤ 24) (hs : ∀ j, j < n → d 85 j = sndA w t j ∧ d 86 j = 0) : tB G mX1_sendEchoes 0 [vR 81, vI f, vU 0] [] d (fun z d' => z = none ∧ Ds d' w t n ∧ Fr 85 86 d d') := by
  have h2 : ∀ z : Nat × sD, (z.1 ≤ 24 ∧ (∀ j, j < n → (j < f + z.1 → z.2 85 j = sndB w t j ∧ z.2 86 j = bI (ecP w (sndA w t) j)) ∧ (f + z.1 ≤ j → z.2 85 j = sndA w t j ∧ z.2 86 j = 0)) ∧ Fr 85 86 d z.2) → tB G mX1_sendEchoes 2 [vR 81, vI f, vI z.1] [] (z.2) (fun z d' => z = none ∧ Ds d' w t n ∧ Fr 85 86 d d') := by
    refine T_loop (α := Nat × sD) 2 (fun z => [vR 81, vI f, vI z.1]) (fun z => z.2) (fun z => z.1 ≤ 24 ∧ (∀ j, j < n → (j < f + z.1 → z.2 85 j = sndB w t j ∧ z.2 86 j = bI (ecP w (sndA w t) j)) ∧ (f + z.1 ≤ j → z.2 85 j = sndA w t j ∧ z.2 86 j = 0)) ∧ Fr 85 86 d z.2) (fun z => 25 - z.1) ?_
    rintro ⟨k, e⟩ ⟨h1, h2, h3⟩ ih
    try dsimp only at h1 h2 h3 ih ⊢
    have hne : e 81 5 = (n : Int) := by rw [h3 81 5 (by omega)]; exact hn
    have h51 : ∀ e2 : sD, k + f < n → Fr 85 86 d e2 → (∀ j, j < n → j ≠ k + f → e2 85 j = e 85 j ∧ e2 86 j = e 86 j) → (e2 85 (k + f) = sndB w t (k + f) ∧ e2 86 (k + f) = bI (ecP w (sndA w t) (k + f))) → tB G mX1_sendEchoes 51 [vR 81, vI f, vI k] [] e2 (fun z d' => z = none ∧ Ds d' w t n ∧ Fr 85 86 d d') := by
      intro e2 hk hF2 hj2 hk2
      refine T_inc dX1_sendEchoes_51 rfl (by decide) rfl (by omega) ?_
      refine T_goto (tgt := 2) dX1_sendEchoes_54 (by decide) ?_
      refine ih (k + 1, e2) ⟨by dsimp only; omega, fun j hj => ⟨fun q => ?_, fun q => ?_⟩, hF2⟩ (by dsimp only; omega)
      · dsimp only at q ⊢
        rcases (show j < f + k ∨ j = k + f by omega) with z | rfl
        · rw [(hj2 j hj (by omega)).1, (hj2 j hj (by omega)).2]; exact (h2 j hj).1 z
        · exact hk2
      · dsimp only at q ⊢
        rw [(hj2 j hj (by omega)).1, (hj2 j hj (by omega)).2]; exact (h2 j hj).2 (by omega)
    refine T_iload_n dX1_sendEchoes_2 rfl ?_
    refine T_iload_n dX1_sendEchoes_3 rfl ?_
    refine T_add dX1_sendEchoes_4 (by omega) ?_
    refine T_aload_n dX1_sendEchoes_5 rfl ?_
    refine T_getIv dX1_sendEchoes_6 fX1_28 rfl k81 (x := (n : Int)) hne ?_
    refine T_icmp_ge (tgt := 57) dX1_sendEchoes_9 (by decide) (fun c9 => ?_) (fun c9 => ?_)
    · exact T_return dX1_sendEchoes_57 rfl ⟨rfl, fun j hj => (h2 j hj).1 (by omega), h3⟩
    · refine T_aload_n dX1_sendEchoes_12 rfl ?_
      refine T_getR dX1_sendEchoes_13 fX1_21 rfl k81 r81_3 ?_
      refine T_iload_n dX1_sendEchoes_16 rfl ?_
      refine T_ialdv dX1_sendEchoes_17 k85 l85 (by omega) (j := k) (by omega) (x := sndB w t k) ((h2 k (by omega)).1 (by omega)).1 ?_
      refine T_iconst dX1_sendEchoes_18 (by decide) ?_
      refine T_icmp_ne (tgt := 51) dX1_sendEchoes_19 (by decide) (fun c19 => ?_) (fun c19 => ?_)
      · exact h51 e (by omega) h3 (fun j _ _ => ⟨rfl, rfl⟩) ⟨by rw [((h2 (k + f) (by omega)).2 (by omega)).1]; unfold sndB; rw [if_neg (by exact fun z => c19 (sndB_2.mpr (by have := z.2.2.1; rwa [hf, Int.toNat_natCast, Nat.add_sub_cancel] at this)))], by rw [((h2 (k + f) (by omega)).2 (by omega)).2, bI_f (by exact fun z => c19 (sndB_2.mpr (by have := z.2.2.1; rwa [hf, Int.toNat_natCast, Nat.add_sub_cancel] at this)))]⟩
      · have c19b := sndB_2.mp c19
        refine T_aload_n dX1_sendEchoes_22 rfl ?_
        refine T_getR dX1_sendEchoes_23 fX1_21 rfl k81 r81_3 ?_
        refine T_iload_n dX1_sendEchoes_26 rfl ?_
        refine T_iload_n dX1_sendEchoes_27 rfl ?_
        refine T_add dX1_sendEchoes_28 (by omega) ?_
        refine T_ialdv dX1_sendEchoes_29 k85 l85 (by omega) (j := k + f) (by omega) (x := sndA w t (k + f)) ((h2 (k + f) (by omega)).2 (by omega)).1 ?_
        refine T_if_ne (tgt := 51) dX1_sendEchoes_30 (by decide) (fun c30 => ?_) (fun c30 => ?_)
        · exact h51 e (by omega) h3 (fun j _ _ => ⟨rfl, rfl⟩) ⟨by rw [((h2 (k + f) (by omega)).2 (by omega)).1]; unfold sndB; rw [if_neg (by exact fun z => c30 z.2.2.2)], by rw [((h2 (k + f) (by omega)).2 (by omega)).2, bI_f (by exact fun z => c30 z.2.2.2)]⟩
        · refine T_aload_n dX1_sendEchoes_33 rfl ?_
          refine T_getR dX1_sendEchoes_34 fX1_21 rfl k81 r81_3 ?_
          refine T_iload_n dX1_sendEchoes_37 rfl ?_
          refine T_iload_n dX1_sendEchoes_38 rfl ?_
          refine T_add dX1_sendEchoes_39 (by omega) ?_
          refine T_iconst dX1_sendEchoes_40 (by decide) ?_
          have hec : ecP w (sndA w t) (k + f) := ⟨by omega, by omega, by rw [hf, Int.toNat_natCast, Nat.add_sub_cancel]; exact c19b, c30⟩
          refine T_iast dX1_sendEchoes_41 k85 l85 (by omega) (j := k + f) (by omega) ?_
          refine T_aload_n dX1_sendEchoes_42 rfl ?_
          refine T_getR dX1_sendEchoes_43 fX1_24 rfl k81 r81_4 ?_
          refine T_iload_n dX1_sendEchoes_46 rfl ?_
          refine T_iload_n dX1_sendEchoes_47 rfl ?_
          refine T_add dX1_sendEchoes_48 (by omega) ?_
          refine T_iconst dX1_sendEchoes_49 (by decide) ?_
          refine T_zast dX1_sendEchoes_50 k86 l86 (by omega) (j := k + f) (by omega) (by omega) ?_
          exact h51 _ (by omega) ((h3.up (by omega)).up (by omega)) (fun j _ hne => ⟨by rw [up_nea (by decide), up_nej hne], by rw [up_nej hne, up_nea (by decide)]⟩) ⟨by rw [up_nea (by decide), up_same]; unfold sndB; rw [if_pos hec], by rw [up_same, bI_t hec]⟩
  refine T_iconst dX1_sendEchoes_0 (by decide) ?_
  refine T_ist_n dX1_sendEchoes_1 (by decide) rfl ?_
  refine h2 (0, d) ⟨Nat.zero_le _, fun j hj => ⟨fun q => ?_, fun q => hs j hj⟩, Fr.rf⟩
  dsimp only at q ⊢
  rw [(hs j hj).1, (hs j hj).2, sndB_lo (by omega), bI_f (ecP_lo (by omega))]
  exact ⟨rfl, rfl⟩

theorem t_cplay (hw : kn S0 wo = 10) (hO : Wo d wo w) (hV : WV w) (hn : d 81 5 = (n : Int)) (hn24 : n ≤ 24) (ht : ∀ j, j < n → d 84 j = t j ∧ 0 ≤ t j ∧ t j ≤ 3) : tB G mX1_play 0 [vR 81, vR wo, vU 0, vU 0] [] d (fun z d' => z = none ∧ Ds d' w t n ∧ Fr 85 86 d d') := by
  have hat := at_W hw
  have hv1 := hV.2.1
  have hv2 := hV.2.2.1
  have h2 : ∀ z : Nat × sD, (z.1 ≤ n ∧ (∀ j, j < z.1 → z.2 85 j = sndA w t j ∧ z.2 86 j = 0) ∧ Fr 85 86 d z.2) → tB G mX1_play 2 [vR 81, vR wo, vI z.1, vU 0] [] (z.2) (fun z d' => z = none ∧ Ds d' w t n ∧ Fr 85 86 d d') := by
    refine T_loop (α := Nat × sD) 2 (fun z => [vR 81, vR wo, vI z.1, vU 0]) (fun z => z.2) (fun z => z.1 ≤ n ∧ (∀ j, j < z.1 → z.2 85 j = sndA w t j ∧ z.2 86 j = 0) ∧ Fr 85 86 d z.2) (fun z => n - z.1) ?_
    rintro ⟨k, e⟩ ⟨h1, h2, h3⟩ ih
    try dsimp only at h1 h2 h3 ih ⊢
    have hne : e 81 5 = (n : Int) := by rw [h3 81 5 (by omega)]; exact hn
    have hOe := Wo_fr hO h3 (by omega)
    have h57 : ∀ x y : Int, x = (if tiP w k then 0 else t k) → k < n → tB G mX1_play 57 [vR 81, vR wo, vI k, vI y] [vI x, vR (wo + 1), vI k, vR 85] e (fun z d' => z = none ∧ Ds d' w t n ∧ Fr 85 86 d d') := by
      intro x y hx hk
      have hx3 : 0 ≤ x ∧ x ≤ 3 := by have := ht k hk; split at hx <;> omega
      have hval : e (wo + 1) x.toNat = sndA w t k := by rw [hOe.2.1 x.toNat (by omega)]; unfold sndA; rw [← hx]; congr 1; omega
      refine T_ialdv dX1_play_57 (kW3 hw) (lW3 hw) (by omega) rfl (x := sndA w t k) hval ?_
      refine T_iast dX1_play_58 k85 l85 (by omega) (j := k) (by omega) ?_
      refine T_aload_n dX1_play_59 rfl ?_
      refine T_getR dX1_play_60 fX1_24 rfl k81 r81_4 ?_
      refine T_iload_n dX1_play_63 rfl ?_
      refine T_iconst dX1_play_64 (by decide) ?_
      refine T_zast dX1_play_65 k86 l86 (by omega) (j := k) (by omega) (by omega) ?_
      refine T_inc dX1_play_66 rfl (by decide) rfl (by omega) ?_
      refine T_drop 3 ?_
      refine T_goto (tgt := 2) dX1_play_69 (by decide) ?_
      refine T_nm (fun m2 hm2 => ih (k + 1, m2) ?_ (by (try dsimp only); omega))
      subst hm2
      try dsimp only
      refine ⟨by (try dsimp only); omega, fun j hj => ?_, (h3.up (by omega)).up (by omega)⟩
      try dsimp only at hj ⊢
      rcases (show j < k ∨ j = k by omega) with z | rfl
      · rw [up_nea (by decide), up_nej (by omega), up_nej (by omega), up_nea (by decide)]; exact h2 j z
      · rw [up_nea (by decide), up_same, up_same]; exact ⟨rfl, rfl⟩
    have h33 : ∀ y : Int, y = bI (tiP w k) → k < n → tB G mX1_play 33 [vR 81, vR wo, vI k, vU 0] [vI y] e (fun z d' => z = none ∧ Ds d' w t n ∧ Fr 85 86 d d') := by
      intro y hy hk
      refine T_ist_n dX1_play_33 (by decide) rfl ?_
      refine T_aload_n dX1_play_34 rfl ?_
      refine T_getR dX1_play_35 fX1_21 rfl k81 r81_3 ?_
      refine T_iload_n dX1_play_38 rfl ?_
      refine T_aload_n dX1_play_39 rfl ?_
      refine T_getR dX1_play_40 fX1_59 rfl hw (rW3 hw) ?_
      refine T_iload_n dX1_play_43 rfl ?_
      refine T_if_eq (tgt := 51) dX1_play_44 (by decide) (fun c44 => ?_) (fun c44 => ?_)
      · refine T_aload_n dX1_play_51 rfl ?_
        refine T_getR dX1_play_52 fX1_18 rfl k81 r81_2 ?_
        refine T_iload_n dX1_play_55 rfl ?_
        refine T_ialdv dX1_play_56 k84 l84 (by omega) (j := k) (by omega) (x := t k) (by rw [h3 84 k (by omega)]; exact (ht k hk).1) ?_
        exact h57 _ _ (by rw [if_neg (bI_0 (hy ▸ c44))]) hk
      · refine T_iconst dX1_play_47 (by decide) ?_
        refine T_goto (tgt := 57) dX1_play_48 (by decide) ?_
        exact h57 _ _ (by rw [if_pos (bI_1 (hy ▸ c44))]) hk
    refine T_iload_n dX1_play_2 rfl ?_
    refine T_aload_n dX1_play_3 rfl ?_
    refine T_getIv dX1_play_4 fX1_28 rfl k81 (x := (n : Int)) hne ?_
    refine T_icmp_ge (tgt := 72) dX1_play_7 (by decide) (fun c7 => ?_) (fun c7 => ?_)
    · refine T_aload_n dX1_play_72 rfl ?_
      refine T_getIv dX1_play_73 fX1_62 rfl hw (x := w 2) hOe.1.2.2 ?_
      refine T_if_le (tgt := 87) dX1_play_76 (by decide) (fun c76 => ?_) (fun c76 => ?_)
      · exact T_return dX1_play_87 rfl ⟨rfl, fun j hj => by rw [(h2 j (by omega)).1, (h2 j (by omega)).2, sndB, if_neg (fun z : ecP w (sndA w t) j => by omega), bI_f (fun z => by omega)]; exact ⟨rfl, rfl⟩, h3⟩
      · refine T_aload_n dX1_play_79 rfl ?_
        refine T_aload_n dX1_play_80 rfl ?_
        refine T_getIv dX1_play_81 fX1_62 rfl hw (x := w 2) hOe.1.2.2 ?_
        refine T_callV dX1_play_84 lX1_65 (As := [_]) (rest := _) rfl rfl k81 (by decide) (Nat.le_of_ble_eq_true rfl) (Nat.le_of_ble_eq_true rfl) (T_args1 (y := (w 2).toNat) (by omega) (t_sendEchoes (f := (w 2).toNat) (w := w) (t := t) (by omega) (by omega) hne hn24 (fun j hj => h2 j (by omega)))) ?_
        rintro _ d1 ⟨rfl, e1, f1⟩
        exact T_return dX1_play_87 rfl ⟨rfl, e1, h3.trans f1⟩
    · refine T_aload_n dX1_play_10 rfl ?_
      refine T_getIv dX1_play_11 fX1_54 rfl hw (x := w 1) hOe.1.2.1 ?_
      refine T_if_le (tgt := 32) dX1_play_14 (by decide) (fun c14 => ?_) (fun c14 => ?_)
      · refine T_iconst dX1_play_32 (by decide) ?_
        exact h33 _ (by rw [bI_f (fun z => by omega)]) (by omega)
      · refine T_iload_n dX1_play_17 rfl ?_
        refine T_iconst dX1_play_18 (by decide) ?_
        refine T_add dX1_play_19 (by omega) ?_
        refine T_aload_n dX1_play_20 rfl ?_
        refine T_getIv dX1_play_21 fX1_54 rfl hw (x := w 1) hOe.1.2.1 ?_
        refine T_rem dX1_play_24 (by omega) (by omega) ?_
        refine T_if_ne (tgt := 32) dX1_play_25 (by decide) (fun c25 => ?_) (fun c25 => ?_)
        · refine T_iconst dX1_play_32 (by decide) ?_
          exact h33 _ (by rw [bI_f (fun z => c25 z.2)]) (by omega)
        · refine T_iconst dX1_play_28 (by decide) ?_
          refine T_goto (tgt := 33) dX1_play_29 (by decide) ?_
          exact h33 _ (by rw [bI_t ⟨by omega, c25⟩]) (by omega)
  refine T_iconst dX1_play_0 (by decide) ?_
  refine T_ist_n dX1_play_1 (by decide) rfl ?_
  exact h2 (0, d) ⟨Nat.zero_le _, fun j hj => absurd hj (Nat.not_lt_zero j), Fr.rf⟩

theorem t_repeatsAfter {p : Nat} (hn : d 81 5 = (n : Int)) (hn24 : n ≤ 24) (hs : ∀ j, j < n → d 85 j = s j) (hp : p ≤ 24) : tB G mX1_repeatsAfter 0 [vR 81, vI p, vU 0] [] d (fun r d' => r = some (vI (bI (pdP s n p))) ∧ d = d') := by
  have h2 : ∀ z : Nat, (z ≤ 24 ∧ ∀ i, i < z → s i = s (i + p)) → tB G mX1_repeatsAfter 2 [vR 81, vI p, vI z] [] (d) (fun r d' => r = some (vI (bI (pdP s n p))) ∧ d = d') := by
    refine T_loop (α := Nat) 2 (fun z => [vR 81, vI p, vI z]) (fun z => d) (fun z => z ≤ 24 ∧ ∀ i, i < z → s i = s (i + p)) (fun z => 25 - z) ?_
    rintro i ⟨h1, h2⟩ ih
    try dsimp only at h1 h2 ih ⊢
    refine T_iload_n dX1_repeatsAfter_2 rfl ?_
    refine T_iload_n dX1_repeatsAfter_3 rfl ?_
    refine T_add dX1_repeatsAfter_4 (by omega) ?_
    refine T_aload_n dX1_repeatsAfter_5 rfl ?_
    refine T_getIv dX1_repeatsAfter_6 fX1_28 rfl k81 (x := (n : Int)) hn ?_
    refine T_icmp_ge (tgt := 37) dX1_repeatsAfter_9 (by decide) (fun c9 => ?_) (fun c9 => ?_)
    · refine T_iconst dX1_repeatsAfter_37 (by decide) ?_
      exact T_zreturn dX1_repeatsAfter_38 rfl (by omega) ⟨by rw [bI_t (fun j hj => h2 j (by omega))], rfl⟩
    · refine T_aload_n dX1_repeatsAfter_12 rfl ?_
      refine T_getR dX1_repeatsAfter_13 fX1_21 rfl k81 r81_3 ?_
      refine T_iload_n dX1_repeatsAfter_16 rfl ?_
      refine T_ialdv dX1_repeatsAfter_17 k85 l85 (by omega) (j := i) (by omega) (x := s i) (hs i (by omega)) ?_
      refine T_aload_n dX1_repeatsAfter_18 rfl ?_
      refine T_getR dX1_repeatsAfter_19 fX1_21 rfl k81 r81_3 ?_
      refine T_iload_n dX1_repeatsAfter_22 rfl ?_
      refine T_iload_n dX1_repeatsAfter_23 rfl ?_
      refine T_add dX1_repeatsAfter_24 (by omega) ?_
      refine T_ialdv dX1_repeatsAfter_25 k85 l85 (by omega) (j := i + p) (by omega) (x := s (i + p)) (hs (i + p) (by omega)) ?_
      refine T_icmp_eq (tgt := 31) dX1_repeatsAfter_26 (by decide) (fun c26 => ?_) (fun c26 => ?_)
      · refine T_inc dX1_repeatsAfter_31 rfl (by decide) rfl (by omega) ?_
        refine T_goto (tgt := 2) dX1_repeatsAfter_34 (by decide) ?_
        refine ih (i + 1) ⟨by omega, fun j hj => ?_⟩ (by omega)
        rcases (show j < i ∨ j = i by omega) with z | rfl
        · exact h2 j z
        · exact c26
      · refine T_iconst dX1_repeatsAfter_29 (by decide) ?_
        exact T_zreturn dX1_repeatsAfter_30 rfl (by omega) ⟨by rw [bI_f (fun z => c26 (z i (by omega)))], rfl⟩
  refine T_iconst dX1_repeatsAfter_0 (by decide) ?_
  refine T_ist_n dX1_repeatsAfter_1 (by decide) rfl ?_
  exact h2 0 ⟨Nat.zero_le _, fun j hj => absurd hj (Nat.not_lt_zero j)⟩

theorem t_cperiod (hn : d 81 5 = (n : Int)) (hn24 : n ≤ 24) (hs : ∀ j, j < n → d 85 j = s j) : tB G mX1_period 0 [vR 81, vU 0] [] d (fun r d' => r = some (vI (pdS s n)) ∧ d = d') := by
  have h2 : ∀ z : Nat, ((1 ≤ z ∧ z ≤ 25) ∧ fstN (pdP s n) (n - z) z = fstN (pdP s n) (n - 1) 1) → tB G mX1_period 2 [vR 81, vI z] [] (d) (fun r d' => r = some (vI (pdS s n)) ∧ d = d') := by
    refine T_loop (α := Nat) 2 (fun z => [vR 81, vI z]) (fun z => d) (fun z => (1 ≤ z ∧ z ≤ 25) ∧ fstN (pdP s n) (n - z) z = fstN (pdP s n) (n - 1) 1) (fun z => 30 - z) ?_
    rintro i ⟨⟨h0, h1⟩, h2⟩ ih
    try dsimp only at h0 h1 h2 ih ⊢
    refine T_iload_n dX1_period_2 rfl ?_
    refine T_aload_n dX1_period_3 rfl ?_
    refine T_getIv dX1_period_4 fX1_28 rfl k81 (x := (n : Int)) hn ?_
    refine T_icmp_ge (tgt := 26) dX1_period_7 (by decide) (fun c7 => ?_) (fun c7 => ?_)
    · refine T_aload_n dX1_period_26 rfl ?_
      refine T_getIv dX1_period_27 fX1_28 rfl k81 (x := (n : Int)) hn ?_
      exact T_ireturn dX1_period_30 rfl ⟨by rw [show n - i = 0 by omega] at h2; unfold pdS; rw [← h2]; rfl, rfl⟩
    · refine T_aload_n dX1_period_10 rfl ?_
      refine T_iload_n dX1_period_11 rfl ?_
      refine T_callV dX1_period_12 lX1_69 (As := [_]) (rest := _) rfl rfl k81 (by decide) (Nat.le_of_ble_eq_true rfl) (Nat.le_of_ble_eq_true rfl) (t_repeatsAfter hn hn24 hs (by omega)) ?_
      rintro _ _ ⟨rfl, rfl⟩
      refine T_if_eq (tgt := 20) dX1_period_15 (by decide) (fun c15 => ?_) (fun c15 => ?_)
      · refine T_inc dX1_period_20 rfl (by decide) rfl (by omega) ?_
        refine T_goto (tgt := 2) dX1_period_23 (by decide) ?_
        refine ih (i + 1) ⟨⟨by omega, by omega⟩, ?_⟩ (by omega)
        rw [← h2, fstN_f (bI_0 c15) (by omega), show n - (i + 1) = n - i - 1 by omega]
      · refine T_iload_n dX1_period_18 rfl ?_
        exact T_ireturn dX1_period_19 rfl ⟨by rw [fstN_t (bI_1 c15) (by omega)] at h2; unfold pdS; rw [← h2, if_neg (by omega)], rfl⟩
  refine T_iconst dX1_period_0 (by decide) ?_
  refine T_ist_n dX1_period_1 (by decide) rfl ?_
  exact h2 1 ⟨⟨by omega, by omega⟩, rfl⟩

end C3
