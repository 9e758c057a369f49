/-! the class: what the villages tell -/
section C18
variable {G : sG} {d d' : sD} {w g v x y : Nat → Int} {wo vo e n a : Nat} {acc L src : List Int}
theorem kn_t : ∀ q, q < 8 → kn S0 (93 + q) = 13 ∧ ln S0 (93 + q) = 60 ∧ rf0 92 q = 93 + q := by decide +kernel
def Vc (d : sD) (k : Nat) (acc : List Int) : Prop := d 101 k = (acc.length : Int) ∧ ∀ i, i < acc.length → d (93 + k) i = acc.getD i 0
def AdC (k : Nat) (d d' : sD) : Prop := Fr 93 101 d d' ∧ (∀ j, j ≠ k → d' 101 j = d 101 j) ∧ ∀ b j, b < 101 → b ≠ 93 + k → d' b j = d b j
theorem AdC.rf {k : Nat} : AdC k d d := ⟨Fr.rf, fun _ _ => rfl, fun _ _ _ _ => rfl⟩
theorem AdC.trans {k : Nat} {d d1 d2 : sD} (h : AdC k d d1) (h2 : AdC k d1 d2) : AdC k d d2 := ⟨h.1.trans h2.1, fun j hj => (h2.2.1 j hj).trans (h.2.1 j hj), fun b j hb hj => (h2.2.2 b j hb hj).trans (h.2.2 b j hb hj)⟩
theorem Vc_ad {k q : Nat} (h : Vc d k acc) (hA : AdC q d d') (hk : k < 8) (hne : k ≠ q) : Vc d' k acc := ⟨by rw [hA.2.1 k hne]; exact h.1, fun i hi => by rw [hA.2.2 _ _ (by omega) (by omega)]; exact h.2 i hi⟩
theorem Vc_push {k : Nat} {y : Int} (h : Vc d k acc) (hk : k < 8) : Vc (up (up d (93 + k) acc.length y) 101 k ((acc.length : Int) + 1)) k (acc ++ [y]) := by
  refine ⟨by rw [up_same, List.length_append]; rfl, fun i hi => ?_⟩
  rw [up_nea (by omega)]
  rw [List.length_append] at hi
  have hi2 : i < acc.length + 1 := hi
  rcases (show i < acc.length ∨ i = acc.length by omega) with z | rfl
  · rw [up_nej (by omega), getD_lt z]; exact h.2 i z
  · rw [up_same, getD_eq]
theorem t_say {k : Nat} {y : Int} (hk : k < 8) (hl : acc.length ≤ 60) (h : Vc d k acc) : tB G mX7_say 0 [vR 91, vI k, vI y, vU 0] [] d (fun r d' => r = none ∧ Vc d' k (cap1 acc y) ∧ AdC k d d') := by
  obtain ⟨r1, r2, r3⟩ := kn_t k hk
  refine T_aload_n dX7_say_0 rfl ?_
  refine T_getR dX7_say_1 fX7_16 rfl k91 r91_1 ?_
  refine T_iload_n dX7_say_4 rfl ?_
  refine T_ialdv dX7_say_5 k101 l101 (by omega) (j := k) (by omega) (x := (acc.length : Int)) h.1 ?_
  refine T_ist_n dX7_say_6 (by decide) rfl ?_
  refine T_iload_n dX7_say_7 rfl ?_
  refine T_bipush dX7_say_8 (by decide) ?_
  refine T_icmp_ge (tgt := 31) dX7_say_10 (by decide) (fun c10 => ?_) (fun c10 => ?_)
  · exact T_return dX7_say_31 rfl ⟨rfl, by unfold cap1; rw [if_neg (by omega)]; exact h, AdC.rf⟩
  · refine T_aload_n dX7_say_13 rfl ?_
    refine T_getR dX7_say_14 fX7_11 rfl k91 r91_0 ?_
    refine T_iload_n dX7_say_17 rfl ?_
    refine T_aald dX7_say_18 k92 (by decide) l92 (by omega) r3 ?_
    refine T_iload_n dX7_say_19 rfl ?_
    refine T_iload_n dX7_say_20 rfl ?_
    refine T_iast dX7_say_21 r1 r2 (by omega) (j := acc.length) (by omega) ?_
    refine T_aload_n dX7_say_22 rfl ?_
    refine T_getR dX7_say_23 fX7_16 rfl k91 r91_1 ?_
    refine T_iload_n dX7_say_26 rfl ?_
    refine T_iload_n dX7_say_27 rfl ?_
    refine T_iconst dX7_say_28 (by decide) ?_
    refine T_add dX7_say_29 (by omega) ?_
    refine T_iast dX7_say_30 k101 l101 (by omega) (j := k) (by omega) ?_
    exact T_return dX7_say_31 rfl ⟨rfl, by unfold cap1; rw [if_pos (by omega)]; exact Vc_push h hk, ⟨(Fr.rf.up (by omega)).up (by omega), fun j hj => by rw [up_nej hj, up_nea (by omega)], fun b j hb hj => by rw [up_nea (by omega), up_nea hj]⟩⟩

theorem t_swapped {b p q : Int} : tB G mX7_swapped 0 [vI b, vI p, vI q] [] d (fun r d' => r = some (vI (if b = p then q else if b = q then p else b)) ∧ d = d') := by
  refine T_iload_n dX7_swapped_0 rfl ?_
  refine T_iload_n dX7_swapped_1 rfl ?_
  refine T_icmp_ne (tgt := 7) dX7_swapped_2 (by decide) (fun c2 => ?_) (fun c2 => ?_)
  · refine T_iload_n dX7_swapped_7 rfl ?_
    refine T_iload_n dX7_swapped_8 rfl ?_
    refine T_icmp_ne (tgt := 16) dX7_swapped_9 (by decide) (fun c9 => ?_) (fun c9 => ?_)
    · refine T_iload_n dX7_swapped_16 rfl ?_
      exact T_ireturn dX7_swapped_17 rfl ⟨by rw [if_neg c2, if_neg c9], rfl⟩
    · refine T_iload_n dX7_swapped_12 rfl ?_
      refine T_goto (tgt := 17) dX7_swapped_13 (by decide) ?_
      exact T_ireturn dX7_swapped_17 rfl ⟨by rw [if_neg c2, if_pos c9], rfl⟩
  · refine T_iload_n dX7_swapped_5 rfl ?_
    exact T_ireturn dX7_swapped_6 rfl ⟨by rw [if_pos c2], rfl⟩

abbrev chB (k a b x : Int) : Int := if k = 1 ∧ x = a then b else if k = 1 ∧ x = b then a else x
abbrev rpQ (d : sD) (v : Nat → Int) (L : List Int) (q : Nat) : Option sV → sD → Prop := fun r d' => r = none ∧ Vc d' q (chL v q L) ∧ AdC q d d'
theorem t_repeat {q fo N : Nat} (hv : kn S0 vo = 9) (hO : Vo d vo v) (hV : VV v) (hq : (q : Int) < v 0) (hf : kn S0 fo = 13) (hN : ln S0 fo = N) (hLN : L.length ≤ N) (hL : L.length ≤ 60) (hfo : fo < 93 + q) (hs : ∀ i, i < L.length → d fo i = L.getD i 0) : tB G mX7_repeat 0 [vR 91, vR vo, vI q, vR fo, vI L.length, vU 0, vU 0, vU 0, vU 0, vU 0, vU 0] [] d (rpQ d v L q) := by
  have hat := at_V hv
  have h8 := hV.1
  obtain ⟨o1, o2, o3, o4⟩ := hO.2 q hq
  obtain ⟨v1, v2, v3, v4, v5⟩ := hV.2 q hq
  have hchs : ∀ i, chN (v (2 + 4 * q)) (v (3 + 4 * q)) (v (4 + 4 * q)) L (i + 1) = chI (v (2 + 4 * q)) (v (3 + 4 * q)) (v (4 + 4 * q)) L.length i (L.getD i 0) (chN (v (2 + 4 * q)) (v (3 + 4 * q)) (v (4 + 4 * q)) L i) := fun i => rfl
  have hcl : ∀ i, (chN (v (2 + 4 * q)) (v (3 + 4 * q)) (v (4 + 4 * q)) L i).length ≤ 60 := fun i => chN_len i
  have hchL : chL v q L = chN (v (2 + 4 * q)) (v (3 + 4 * q)) (v (4 + 4 * q)) L L.length := rfl
  have h26 : ∀ kd p p2 : Int, v (2 + 4 * q) = kd → v (3 + 4 * q) = p → v (4 + 4 * q) = p2 → ∀ z : Nat × sD, (z.1 ≤ L.length ∧ Vc z.2 q (chN kd p p2 L z.1) ∧ AdC q d z.2) → tB G mX7_repeat 26 [vR 91, vR vo, vI q, vR fo, vI L.length, vI kd, vI p, vI z.1, vU 0, vU 0, vU 0] [] z.2 (rpQ d v L q) := by
    intro kd p p2 hkd hp hp2
    rw [hkd, hp, hp2] at hchs hcl hchL
    rw [hkd, hp] at v3
    rw [hkd] at v2
    refine T_loop (α := Nat × sD) 26 (fun z => [vR 91, vR vo, vI q, vR fo, vI L.length, vI kd, vI p, vI z.1, vU 0, vU 0, vU 0]) (fun z => z.2) (fun z => z.1 ≤ L.length ∧ Vc z.2 q (chN kd p p2 L z.1) ∧ AdC q d z.2) (fun z => L.length - z.1) ?_
    rintro ⟨i, b⟩ ⟨g1, g2, g3⟩ ih
    try dsimp only at g1 g2 g3 ih ⊢
    have hsi : i < L.length → b fo i = L.getD i 0 := fun hi => by rw [g3.2.2 _ _ (by omega) (by omega)]; exact hs i hi
    have hcI := hchs i
    have hcl' := hcl i
    generalize hacc : chN kd p p2 L i = acc at *
    generalize L.getD i 0 = x at *
    have h149 : ∀ m2 : sD, i < L.length → Vc m2 q (chI kd p p2 L.length i x acc) → AdC q d m2 → tB G mX7_repeat 149 [vR 91, vR vo, vI q, vR fo, vI L.length, vI kd, vI p, vI i, vU 0, vU 0, vU 0] [] m2 (rpQ d v L q) := by
      intro m2 hi q2 q3
      refine T_inc dX7_repeat_149 rfl (by decide) rfl (by omega) ?_
      refine T_goto (tgt := 26) dX7_repeat_152 (by decide) ?_
      exact ih (i + 1, m2) ⟨by dsimp only; omega, by dsimp only; rw [hcI]; exact q2, q3⟩ (by dsimp only; omega)
    have h120 : ∀ y dr la : Int, y = chB kd p p2 x → i < L.length → ¬ ((kd = 0 ∧ ((i : Int) + 1) % p = 0) ∨ (kd = 3 ∧ (i : Int) = (L.length : Int) - 1)) → tB G mX7_repeat 120 [vR 91, vR vo, vI q, vR fo, vI L.length, vI kd, vI p, vI i, vI dr, vI la, vU 0] [vI y] b (rpQ d v L q) := by
      intro y dr la hy hi hno
      have hq8 : q < 8 := by omega
      have hyd : y = (if kd = 1 ∧ x = p then p2 else if kd = 1 ∧ x = p2 then p else x) := hy
      have hyx : kd = 2 → y = x := fun z => by rw [hyd, if_neg (by omega), if_neg (by omega)]
      refine T_ist dX7_repeat_120 (by decide) rfl ?_
      refine T_aload_n dX7_repeat_122 rfl ?_
      refine T_iload_n dX7_repeat_123 rfl ?_
      refine T_iload dX7_repeat_124 rfl ?_
      refine T_callV dX7_repeat_126 lX7_54 (As := [_, _]) (rest := _) rfl rfl k91 (by decide) (Nat.le_of_ble_eq_true rfl) (Nat.le_of_ble_eq_true rfl) (t_say (acc := acc) hq8 hcl' g2) ?_
      rintro _ d1 ⟨rfl, e1, f1⟩
      refine T_iload dX7_repeat_129 rfl ?_
      refine T_iconst dX7_repeat_131 (by decide) ?_
      refine T_icmp_ne (tgt := 149) dX7_repeat_132 (by decide) (fun c132 => ?_) (fun c132 => ?_)
      · exact T_drop 8 (T_drop 9 (T_drop 10 (h149 d1 hi (by unfold chI; rw [if_neg hno, if_neg (fun z => c132 z.1), ← hyd]; exact e1) (g3.trans f1))))
      · refine T_iload dX7_repeat_135 rfl ?_
        refine T_iload dX7_repeat_137 rfl ?_
        refine T_icmp_ne (tgt := 149) dX7_repeat_139 (by decide) (fun c139 => ?_) (fun c139 => ?_)
        · exact T_drop 8 (T_drop 9 (T_drop 10 (h149 d1 hi (by unfold chI; rw [if_neg hno, if_neg (fun z => c139 ((hyx z.1).trans z.2)), ← hyd]; exact e1) (g3.trans f1))))
        · refine T_aload_n dX7_repeat_142 rfl ?_
          refine T_iload_n dX7_repeat_143 rfl ?_
          refine T_iload dX7_repeat_144 rfl ?_
          refine T_callV dX7_repeat_146 lX7_54 (As := [_, _]) (rest := _) rfl rfl k91 (by decide) (Nat.le_of_ble_eq_true rfl) (Nat.le_of_ble_eq_true rfl) (t_say (acc := cap1 acc y) hq8 (cap1_len hcl') e1) ?_
          rintro _ d2 ⟨rfl, e2, f2⟩
          exact T_drop 8 (T_drop 9 (T_drop 10 (h149 d2 hi (by unfold chI; rw [if_neg hno, if_pos ⟨c132, (hyx c132).symm.trans c139⟩, ← hyd]; rw [hyx c132] at e2 ⊢; exact e2) ((g3.trans f1).trans f2))))
    have h80 : ∀ dr la : Int, dr = bI (kd = 0 ∧ ((i : Int) + 1) % p = 0) → la = bI (kd = 3 ∧ (i : Int) = (L.length : Int) - 1) → i < L.length → tB G mX7_repeat 80 [vR 91, vR vo, vI q, vR fo, vI L.length, vI kd, vI p, vI i, vI dr, vU 0, vU 0] [vI la] b (rpQ d v L q) := by
      intro dr la hdr hla hi
      have hOb := Vo_fr hO g3.1 (by omega)
      refine T_ist dX7_repeat_80 (by decide) rfl ?_
      refine T_iload dX7_repeat_82 rfl ?_
      refine T_if_ne (tgt := 149) dX7_repeat_84 (by decide) (fun c84 => ?_) (fun c84 => ?_)
      · exact T_drop 8 (T_drop 9 (T_drop 10 (h149 b hi (by unfold chI; rw [if_pos (Or.inl (bI_1 (hdr ▸ c84)))]; exact g2) g3)))
      · refine T_iload dX7_repeat_87 rfl ?_
        refine T_if_ne (tgt := 149) dX7_repeat_89 (by decide) (fun c89 => ?_) (fun c89 => ?_)
        · exact T_drop 8 (T_drop 9 (T_drop 10 (h149 b hi (by unfold chI; rw [if_pos (Or.inr (bI_1 (hla ▸ c89)))]; exact g2) g3)))
        · refine T_iload dX7_repeat_92 rfl ?_
          refine T_iconst dX7_repeat_94 (by decide) ?_
          refine T_icmp_ne (tgt := 116) dX7_repeat_95 (by decide) (fun c95 => ?_) (fun c95 => ?_)
          · refine T_aload_n dX7_repeat_116 rfl ?_
            refine T_iload dX7_repeat_117 rfl ?_
            refine T_ialdv dX7_repeat_119 hf hN (by omega) (j := i) (by omega) (x := x) (hsi hi) ?_
            exact h120 _ _ _ (by show _ = if _ then _ else _; rw [if_neg (fun z => c95 z.1), if_neg (fun z => c95 z.1)]) hi (fun z => z.elim (bI_0 (hdr ▸ c84)) (bI_0 (hla ▸ c89)))
          · refine T_aload_n dX7_repeat_98 rfl ?_
            refine T_iload dX7_repeat_99 rfl ?_
            refine T_ialdv dX7_repeat_101 hf hN (by omega) (j := i) (by omega) (x := x) (hsi hi) ?_
            refine T_iload dX7_repeat_102 rfl ?_
            refine T_aload_n dX7_repeat_104 rfl ?_
            refine T_getR dX7_repeat_105 fX7_47 rfl hv (rV4 hv) ?_
            refine T_iload_n dX7_repeat_108 rfl ?_
            refine T_ialdv dX7_repeat_109 (kV4 hv) (lV4 hv) (by omega) (j := q) (by omega) (x := p2) ((hOb.2 q hq).2.2.2.trans hp2) ?_
            refine T_callS dX7_repeat_110 lX7_50 (As := [_, _, _]) (rest := _) rfl rfl (by decide) (Nat.le_of_ble_eq_true rfl) (Nat.le_of_ble_eq_true rfl) t_swapped ?_
            rintro _ _ ⟨rfl, rfl⟩
            refine T_goto (tgt := 120) dX7_repeat_113 (by decide) ?_
            exact h120 _ _ _ (by show _ = if _ then _ else _; by_cases z1 : x = p <;> by_cases z2 : x = p2 <;> simp [z1, z2, c95]) hi (fun z => z.elim (bI_0 (hdr ▸ c84)) (bI_0 (hla ▸ c89)))
    have h58 : ∀ dr : Int, dr = bI (kd = 0 ∧ ((i : Int) + 1) % p = 0) → i < L.length → tB G mX7_repeat 58 [vR 91, vR vo, vI q, vR fo, vI L.length, vI kd, vI p, vI i, vU 0, vU 0, vU 0] [vI dr] b (rpQ d v L q) := by
      intro dr hdr hi
      refine T_ist dX7_repeat_58 (by decide) rfl ?_
      refine T_iload dX7_repeat_60 rfl ?_
      refine T_iconst dX7_repeat_62 (by decide) ?_
      refine T_icmp_ne (tgt := 79) dX7_repeat_63 (by decide) (fun c63 => ?_) (fun c63 => ?_)
      · refine T_iconst dX7_repeat_79 (by decide) ?_
        exact h80 _ _ hdr (by rw [bI_f (fun z => c63 z.1)]) hi
      · refine T_iload dX7_repeat_66 rfl ?_
        refine T_iload dX7_repeat_68 rfl ?_
        refine T_iconst dX7_repeat_70 (by decide) ?_
        refine T_sub dX7_repeat_71 (by omega) ?_
        refine T_icmp_ne (tgt := 79) dX7_repeat_72 (by decide) (fun c72 => ?_) (fun c72 => ?_)
        · refine T_iconst dX7_repeat_79 (by decide) ?_
          exact h80 _ _ hdr (by rw [bI_f (fun z => c72 z.2)]) hi
        · refine T_iconst dX7_repeat_75 (by decide) ?_
          refine T_goto (tgt := 80) dX7_repeat_76 (by decide) ?_
          exact h80 _ _ hdr (by rw [bI_t ⟨c63, c72⟩]) hi
    refine T_iload dX7_repeat_26 rfl ?_
    refine T_iload dX7_repeat_28 rfl ?_
    refine T_icmp_ge (tgt := 155) dX7_repeat_30 (by decide) (fun c30 => ?_) (fun c30 => ?_)
    · exact T_return dX7_repeat_155 rfl ⟨rfl, by rw [hchL, show L.length = i by omega, hacc]; exact g2, g3⟩
    · refine T_iload dX7_repeat_33 rfl ?_
      refine T_if_ne (tgt := 57) dX7_repeat_35 (by decide) (fun c35 => ?_) (fun c35 => ?_)
      · refine T_iconst dX7_repeat_57 (by decide) ?_
        exact h58 _ (by rw [bI_f (fun z => c35 z.1)]) (by omega)
      · refine T_iload dX7_repeat_38 rfl ?_
        refine T_if_le (tgt := 57) dX7_repeat_40 (by decide) (fun c40 => ?_) (fun c40 => ?_)
        · refine T_iconst dX7_repeat_57 (by decide) ?_
          exact h58 _ (by rw [bI_f (fun z => by have := v3 z.1; omega)]) (by omega)
        · refine T_iload dX7_repeat_43 rfl ?_
          refine T_iconst dX7_repeat_45 (by decide) ?_
          refine T_add dX7_repeat_46 (by omega) ?_
          refine T_iload dX7_repeat_47 rfl ?_
          refine T_rem dX7_repeat_49 (by omega) (by omega) ?_
          refine T_if_ne (tgt := 57) dX7_repeat_50 (by decide) (fun c50 => ?_) (fun c50 => ?_)
          · refine T_iconst dX7_repeat_57 (by decide) ?_
            exact h58 _ (by rw [bI_f (fun z => c50 z.2)]) (by omega)
          · refine T_iconst dX7_repeat_53 (by decide) ?_
            refine T_goto (tgt := 58) dX7_repeat_54 (by decide) ?_
            exact h58 _ (by rw [bI_t ⟨c35, c50⟩]) (by omega)
  refine T_aload_n dX7_repeat_0 rfl ?_
  refine T_getR dX7_repeat_1 fX7_41 rfl hv (rV2 hv) ?_
  refine T_iload_n dX7_repeat_4 rfl ?_
  refine T_ialdv dX7_repeat_5 (kV2 hv) (lV2 hv) (by omega) (j := q) (by omega) (x := v (2 + 4 * q)) o2 ?_
  refine T_ist dX7_repeat_6 (by decide) rfl ?_
  refine T_aload_n dX7_repeat_8 rfl ?_
  refine T_getR dX7_repeat_9 fX7_44 rfl hv (rV3 hv) ?_
  refine T_iload_n dX7_repeat_12 rfl ?_
  refine T_ialdv dX7_repeat_13 (kV3 hv) (lV3 hv) (by omega) (j := q) (by omega) (x := v (3 + 4 * q)) o3 ?_
  refine T_ist dX7_repeat_14 (by decide) rfl ?_
  refine T_aload_n dX7_repeat_16 rfl ?_
  refine T_getR dX7_repeat_17 fX7_16 rfl k91 r91_1 ?_
  refine T_iload_n dX7_repeat_20 rfl ?_
  refine T_iconst dX7_repeat_21 (by decide) ?_
  refine T_iast dX7_repeat_22 k101 l101 (by omega) (j := q) (by omega) ?_
  refine T_iconst dX7_repeat_23 (by decide) ?_
  refine T_ist dX7_repeat_24 (by decide) rfl ?_
  refine T_nm (fun m2 hm2 => h26 _ _ _ rfl rfl rfl (0, m2) ?_ )
  subst hm2
  try dsimp only
  refine ⟨Nat.zero_le _, ⟨by rw [up_same]; rfl, fun i hi => absurd hi (Nat.not_lt_zero i)⟩, ⟨Fr.rf.up (by omega), fun j hj => up_nej hj, fun b j hb hj => up_nea (by omega)⟩⟩

def Ssd (d : sD) (src : List Int) : Prop := d 81 5 = (src.length : Int) ∧ ∀ i, i < src.length → d 85 i = src.getD i 0
abbrev tlQ (d : sD) (v : Nat → Int) (src : List Int) : Option sV → sD → Prop := fun r d' => r = none ∧ (∀ k, k < (v 0).toNat → Vc d' k (Vl v src (v 0).toNat k)) ∧ Fr 93 101 d d'
theorem t_tell (hv : kn S0 vo = 9) (hO : Vo d vo v) (hV : VV v) (hs : Ssd d src) (hsl : src.length ≤ 24) : tB G mX7_tell 0 [vR 91, vR vo, vR 81, vU 0, vU 0] [] d (tlQ d v src) := by
  have hat := at_V hv
  have h8 := hV.1
  have h2 : ∀ z : Nat × sD, ((z.1 : Int) ≤ v 0 ∧ (∀ k, k < z.1 → Vc z.2 k (Vl v src z.1 k)) ∧ Fr 93 101 d z.2) → tB G mX7_tell 2 [vR 91, vR vo, vR 81, vI z.1, vU 0] [] (z.2) (tlQ d v src) := by
    refine T_loop (α := Nat × sD) 2 (fun z => [vR 91, vR vo, vR 81, vI z.1, vU 0]) (fun z => z.2) (fun z => (z.1 : Int) ≤ v 0 ∧ (∀ k, k < z.1 → Vc z.2 k (Vl v src z.1 k)) ∧ Fr 93 101 d z.2) (fun z => 8 - z.1) ?_
    rintro ⟨q, b⟩ ⟨g1, g2, g3⟩ ih
    try dsimp only at g1 g2 g3 ih ⊢
    have hOb := Vo_fr hO g3 (by omega)
    have hsb : Ssd b src := ⟨by rw [g3 _ _ (by omega)]; exact hs.1, fun i hi => by rw [g3 _ _ (by omega)]; exact hs.2 i hi⟩
    have h66 : ∀ (c : Int) (m2 : sD), (q : Int) < v 0 → Vc m2 q (chL v q (lnV v src q)) → AdC q b m2 → tB G mX7_tell 66 [vR 91, vR vo, vR 81, vI q, vI c] [] m2 (tlQ d v src) := by
      intro c m2 hq q2 q3
      refine T_inc dX7_tell_66 rfl (by decide) rfl (by omega) ?_
      refine T_drop 4 ?_
      refine T_goto (tgt := 2) dX7_tell_69 (by decide) ?_
      refine ih (q + 1, m2) ⟨by dsimp only; omega, fun k hk => ?_, g3.trans q3.1⟩ (by dsimp only; omega)
      dsimp only at hk ⊢
      by_cases hkq : k = q
      · subst hkq; rw [show Vl v src (k + 1) k = chL v k (lnV v src k) from if_pos rfl]; exact q2
      · rw [show Vl v src (q + 1) k = Vl v src q k from if_neg hkq]; exact Vc_ad (g2 k (by omega)) q3 (by omega) hkq
    refine T_iload_n dX7_tell_2 rfl ?_
    refine T_aload_n dX7_tell_3 rfl ?_
    refine T_getIv dX7_tell_4 fX7_20 rfl hv (x := v 0) hOb.1 ?_
    refine T_icmp_ge (tgt := 72) dX7_tell_7 (by decide) (fun c7 => ?_) (fun c7 => ?_)
    · exact T_return dX7_tell_72 rfl ⟨rfl, fun k hk => by rw [show (v 0).toNat = q by omega] at hk ⊢; exact g2 k hk, g3⟩
    · refine T_aload_n dX7_tell_10 rfl ?_
      refine T_getR dX7_tell_11 fX7_26 rfl hv (rV1 hv) ?_
      refine T_iload_n dX7_tell_14 rfl ?_
      refine T_ialdv dX7_tell_15 (kV1 hv) (lV1 hv) (by omega) (j := q) (by omega) (x := v (1 + 4 * q)) (hOb.2 q (by omega)).1 ?_
      refine T_ist dX7_tell_16 (by decide) rfl ?_
      refine T_iload dX7_tell_18 rfl ?_
      refine T_if_lt (tgt := 52) dX7_tell_20 (by decide) (fun c20 => ?_) (fun c20 => ?_)
      · have hln : lnV v src q = src := by show (if _ then _ else _) = _; rw [if_pos (by have := hV.par (k := q) (by omega); omega)]
        refine T_aload_n dX7_tell_52 rfl ?_
        refine T_aload_n dX7_tell_53 rfl ?_
        refine T_iload_n dX7_tell_54 rfl ?_
        refine T_aload_n dX7_tell_55 rfl ?_
        refine T_getR dX7_tell_56 fX7_33 rfl k81 r81_3 ?_
        refine T_aload_n dX7_tell_59 rfl ?_
        refine T_getIv dX7_tell_60 fX7_38 rfl k81 (x := (src.length : Int)) hsb.1 ?_
        refine T_callV dX7_tell_63 lX7_29 (As := [_, _, _, _]) (rest := _) rfl rfl k91 (by decide) (Nat.le_of_ble_eq_true rfl) (Nat.le_of_ble_eq_true rfl) (t_repeat (L := src) (fo := 85) hv hOb hV (by omega) k85 l85 hsl (by omega) (by omega) hsb.2) ?_
        rintro _ d1 ⟨rfl, e1, f1⟩
        exact h66 _ d1 (by omega) (by rw [hln]; exact e1) f1
      · refine T_iload dX7_tell_23 rfl ?_
        refine T_iload_n dX7_tell_25 rfl ?_
        refine T_icmp_ge (tgt := 52) dX7_tell_26 (by decide) (fun c26 => ?_) (fun c26 => ?_)
        · have hln : lnV v src q = src := by show (if _ then _ else _) = _; rw [if_pos (by have := hV.par (k := q) (by omega); omega)]
          refine T_aload_n dX7_tell_52 rfl ?_
          refine T_aload_n dX7_tell_53 rfl ?_
          refine T_iload_n dX7_tell_54 rfl ?_
          refine T_aload_n dX7_tell_55 rfl ?_
          refine T_getR dX7_tell_56 fX7_33 rfl k81 r81_3 ?_
          refine T_aload_n dX7_tell_59 rfl ?_
          refine T_getIv dX7_tell_60 fX7_38 rfl k81 (x := (src.length : Int)) hsb.1 ?_
          refine T_callV dX7_tell_63 lX7_29 (As := [_, _, _, _]) (rest := _) rfl rfl k91 (by decide) (Nat.le_of_ble_eq_true rfl) (Nat.le_of_ble_eq_true rfl) (t_repeat (L := src) (fo := 85) hv hOb hV (by omega) k85 l85 hsl (by omega) (by omega) hsb.2) ?_
          rintro _ d1 ⟨rfl, e1, f1⟩
          exact h66 _ d1 (by omega) (by rw [hln]; exact e1) f1
        · obtain ⟨p, hp⟩ : ∃ p : Nat, v (1 + 4 * q) = (p : Int) := ⟨(v (1 + 4 * q)).toNat, by omega⟩
          rw [hp]
          have hln : lnV v src q = Vl v src q p := by show (if _ then _ else _) = _; rw [if_neg (by omega), hp, Int.toNat_natCast]
          refine T_aload_n dX7_tell_29 rfl ?_
          refine T_aload_n dX7_tell_30 rfl ?_
          refine T_iload_n dX7_tell_31 rfl ?_
          refine T_aload_n dX7_tell_32 rfl ?_
          refine T_getR dX7_tell_33 fX7_11 rfl k91 r91_0 ?_
          refine T_iload dX7_tell_36 rfl ?_
          refine T_aald dX7_tell_38 k92 (by decide) l92 (by omega) (kn_t p (by omega)).2.2 ?_
          refine T_aload_n dX7_tell_39 rfl ?_
          refine T_getR dX7_tell_40 fX7_16 rfl k91 r91_1 ?_
          refine T_iload dX7_tell_43 rfl ?_
          refine T_ialdv dX7_tell_45 k101 l101 (by omega) (j := p) (by omega) (x := ((Vl v src q p).length : Int)) (g2 p (by omega)).1 ?_
          refine T_callV dX7_tell_46 lX7_29 (As := [_, _, _, _]) (rest := _) rfl rfl k91 (by decide) (Nat.le_of_ble_eq_true rfl) (Nat.le_of_ble_eq_true rfl) (t_repeat (L := Vl v src q p) (fo := 93 + p) hv hOb hV (by omega) (kn_t p (by omega)).1 (kn_t p (by omega)).2.1 (Vl_len q p) (Vl_len q p) (by omega) (g2 p (by omega)).2) ?_
          rintro _ d1 ⟨rfl, e1, f1⟩
          refine T_goto (tgt := 66) dX7_tell_49 (by decide) ?_
          exact h66 _ d1 (by omega) (by rw [hln]; exact e1) f1
  refine T_iconst dX7_tell_0 (by decide) ?_
  refine T_ist_n dX7_tell_1 (by decide) rfl ?_
  exact h2 (0, d) ⟨by dsimp only; omega, fun k hk => absurd hk (Nat.not_lt_zero k), Fr.rf⟩

end C18
