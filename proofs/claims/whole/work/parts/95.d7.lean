/-! the class: how far rows are -/
section C16
variable {G : sG} {d d' : sD} {w x y : Nat → Int} {wo e n a fo q : Nat}
theorem kn_r : ∀ q, q < 2 → kn S0 (106 + q) = 13 ∧ ln S0 (106 + q) = 60 ∧ rf0 105 q = 106 + q := by decide +kernel
abbrev tkQ2 (d : sD) (q fo at' many : Nat) : Option sV → sD → Prop := fun r d' => r = none ∧ ((∀ i, i < many → d' (106 + q) i = d fo (at' + i)) ∧ d' 108 q = (many : Int)) ∧ (∀ j, d' (107 - q) j = d (107 - q) j) ∧ d' 108 (1 - q) = d 108 (1 - q) ∧ Fr 106 108 d d'
theorem t_take {at' many L : Nat} (hq : q < 2) (hf : kn S0 fo = 13) (hl : ln S0 fo = L) (hL : L < 1000) (h1 : at' + many ≤ L) (h2 : many ≤ 60) (hfo : ¬ (106 ≤ fo ∧ fo ≤ 108)) : tB G mX0_take 0 [vR 102, vI q, vR fo, vI at', vI many, vU 0, vU 0] [] d (tkQ2 d q fo at' many) := by
  obtain ⟨r1, r2, r3⟩ := kn_r q hq
  have hmin : min (many : Int) 60 = (many : Int) := by omega
  have h12 : ∀ z : Nat × sD, (z.1 ≤ many ∧ (∀ i, i < z.1 → z.2 (106 + q) i = d fo (at' + i)) ∧ (∀ j, z.2 (107 - q) j = d (107 - q) j) ∧ z.2 108 (1 - q) = d 108 (1 - q) ∧ Fr 106 108 d z.2) → tB G mX0_take 12 [vR 102, vI q, vR fo, vI at', vI many, vI many, vI z.1] [] (z.2) (tkQ2 d q fo at' many) := by
    refine T_loop (α := Nat × sD) 12 (fun z => [vR 102, vI q, vR fo, vI at', vI many, vI many, vI z.1]) (fun z => z.2) (fun z => z.1 ≤ many ∧ (∀ i, i < z.1 → z.2 (106 + q) i = d fo (at' + i)) ∧ (∀ j, z.2 (107 - q) j = d (107 - q) j) ∧ z.2 108 (1 - q) = d 108 (1 - q) ∧ Fr 106 108 d z.2) (fun z => many - z.1) ?_
    rintro ⟨k, b⟩ ⟨g1, g2, g3, g4, g5⟩ ih
    try dsimp only at g1 g2 g3 g4 g5 ih ⊢
    have h49 : k = many → tB G mX0_take 49 [vR 102, vI q, vR fo, vI at', vI many, vI many, vI k] [] b (tkQ2 d q fo at' many) := by
      rintro rfl
      refine T_aload_n dX0_take_49 rfl ?_
      refine T_getR dX0_take_50 fX0_24 rfl k102 r102_3 ?_
      refine T_iload_n dX0_take_53 rfl ?_
      refine T_iload dX0_take_54 rfl ?_
      refine T_iast dX0_take_56 k108 l108 (by omega) (j := q) (by omega) ?_
      exact T_return dX0_take_57 rfl ⟨rfl, ⟨fun i hi => by rw [up_nea (by omega)]; exact g2 i hi, up_same⟩, fun j => by rw [up_nea (by omega)]; exact g3 j, by rw [up_nej (by omega)]; exact g4, g5.up (by omega)⟩
    refine T_iload dX0_take_12 rfl ?_
    refine T_iload dX0_take_14 rfl ?_
    refine T_icmp_ge (tgt := 49) dX0_take_16 (by decide) (fun c16 => ?_) (fun c16 => ?_)
    · exact h49 (by omega)
    · refine T_iload_n dX0_take_19 rfl ?_
      refine T_iload dX0_take_20 rfl ?_
      refine T_add dX0_take_22 (by omega) ?_
      refine T_aload_n dX0_take_23 rfl ?_
      refine T_alen dX0_take_24 hf (by decide) hl (by omega) ?_
      refine T_icmp_ge (tgt := 49) dX0_take_25 (by decide) (fun c25 => ?_) (fun c25 => ?_)
      · exact h49 (by omega)
      · refine T_aload_n dX0_take_28 rfl ?_
        refine T_getR dX0_take_29 fX0_21 rfl k102 r102_2 ?_
        refine T_iload_n dX0_take_32 rfl ?_
        refine T_aald dX0_take_33 k105 (by decide) l105 (by omega) r3 ?_
        refine T_iload dX0_take_34 rfl ?_
        refine T_aload_n dX0_take_36 rfl ?_
        refine T_iload_n dX0_take_37 rfl ?_
        refine T_iload dX0_take_38 rfl ?_
        refine T_add dX0_take_40 (by omega) ?_
        refine T_ialdv dX0_take_41 hf hl (by omega) (j := at' + k) (by omega) (x := d fo (at' + k)) (g5 fo _ hfo) ?_
        refine T_iast dX0_take_42 r1 r2 (by omega) (j := k) (by omega) ?_
        refine T_inc dX0_take_43 rfl (by decide) rfl (by omega) ?_
        refine T_goto (tgt := 12) dX0_take_46 (by decide) ?_
        refine T_nm (fun m2 hm2 => ih (k + 1, m2) ?_ (by (try dsimp only); omega))
        subst hm2
        try dsimp only
        refine ⟨by (try dsimp only); omega, fun i hi => ?_, fun j => ?_, ?_, g5.up (by omega)⟩
        · try dsimp only at hi
          rcases (show i < k ∨ i = k by omega) with z | rfl
          · rw [up_nej (by omega)]; exact g2 i z
          · rw [up_same]
        · rw [up_nea (by omega)]; exact g3 j
        · rw [up_nea (by omega)]; exact g4
  refine T_iload dX0_take_0 rfl ?_
  refine T_bipush dX0_take_2 (by decide) ?_
  refine T_min dX0_take_4 lX0_38 (by decide) (Nat.le_of_ble_eq_true rfl) ?_
  rw [hmin]
  refine T_ist dX0_take_7 (by decide) rfl ?_
  refine T_iconst dX0_take_9 (by decide) ?_
  refine T_ist dX0_take_10 (by decide) rfl ?_
  exact h12 (0, d) ⟨Nat.zero_le _, fun i hi => absurd hi (Nat.not_lt_zero i), fun _ => rfl, rfl, Fr.rf⟩

abbrev fcR (d : sD) (m n : Nat) : Option sV → sD → Prop := fun r d' => r = some (vI (edS (d 106) (d 107) m n)) ∧ Fr 109 109 d d'
theorem t_fewestChanges {m n : Nat} (hm : m ≤ 60) (hn : n ≤ 60) (e0 : d 108 0 = (m : Int)) (e1 : d 108 1 = (n : Int)) : tB G mX0_fewestChanges 0 [vR 102, vU 0, vU 0, vU 0, vU 0] [] d (fcR d m n) := by
  have E0 : ∀ f, ups d 109 0 (n + 1) f 108 0 = (m : Int) := fun f => by rw [ups_nea (by decide)]; exact e0
  have E1 : ∀ f, ups d 109 0 (n + 1) f 108 1 = (n : Int) := fun f => by rw [ups_nea (by decide)]; exact e1
  have h27 : ∀ q : Nat, q ≤ m → tB G mX0_fewestChanges 27 [vR 102, vI (q + 1 : Nat), vU 0, vU 0, vU 0] [] (ups d 109 0 (n + 1) (edS (d 106) (d 107) q)) (fcR d m n) := by
    refine T_loop (α := Nat) 27 (fun q => [vR 102, vI (q + 1 : Nat), vU 0, vU 0, vU 0]) (fun q => ups d 109 0 (n + 1) (edS (d 106) (d 107) q)) (fun q => q ≤ m) (fun q => m - q) ?_
    intro q hq ih
    try dsimp only at ih ⊢
    have h53 : ∀ p : Nat, (p ≤ n ∧ q < m) → tB G mX0_fewestChanges 53 [vR 102, vI (q + 1 : Nat), vI (edS (d 106) (d 107) q p), vI (p + 1 : Nat), vU 0] [] (ups d 109 0 (n + 1) (edF (d 106) (d 107) q p)) (fcR d m n) := by
      refine T_loop (α := Nat) 53 (fun p => [vR 102, vI (q + 1 : Nat), vI (edS (d 106) (d 107) q p), vI (p + 1 : Nat), vU 0]) (fun p => ups d 109 0 (n + 1) (edF (d 106) (d 107) q p)) (fun p => p ≤ n ∧ q < m) (fun p => n - p) ?_
      rintro p ⟨hp, hqm⟩ ih2
      try dsimp only at ih2 ⊢
      have r1 := edS_rg (x := d 106) (y := d 107) q p
      have r2 := edS_rg (x := d 106) (y := d 107) q (p + 1)
      have r3 := edS_rg (x := d 106) (y := d 107) (q + 1) p
      have h92 : ∀ z : Int, z = (if d 106 q = d 107 p then 0 else 1) → p < n → tB G mX0_fewestChanges 92 [vR 102, vI (q + 1 : Nat), vI (edS (d 106) (d 107) q p), vI (p + 1 : Nat), vU 0] [vI z, vI (edS (d 106) (d 107) q p)] (ups d 109 0 (n + 1) (edF (d 106) (d 107) q p)) (fcR d m n) := by
        intro z hz hlt
        have hz2 : z = 0 ∨ z = 1 := by rw [hz]; split <;> simp
        refine T_add dX0_fewestChanges_92 (by omega) ?_
        refine T_ist dX0_fewestChanges_93 (by decide) rfl ?_
        refine T_aload_n dX0_fewestChanges_95 rfl ?_
        refine T_getR dX0_fewestChanges_96 fX0_27 rfl k102 r102_4 ?_
        refine T_iload_n dX0_fewestChanges_99 rfl ?_
        refine T_ialdv dX0_fewestChanges_100 k109 l109 (by omega) (j := p + 1) (by omega) (x := edS (d 106) (d 107) q (p + 1)) (by rw [ups_in (by omega)]; exact if_neg (by omega)) ?_
        refine T_ist_n dX0_fewestChanges_101 (by decide) rfl ?_
        refine T_aload_n dX0_fewestChanges_102 rfl ?_
        refine T_getR dX0_fewestChanges_103 fX0_27 rfl k102 r102_4 ?_
        refine T_iload_n dX0_fewestChanges_106 rfl ?_
        refine T_iload dX0_fewestChanges_107 rfl ?_
        refine T_iconst dX0_fewestChanges_109 (by decide) ?_
        refine T_aload_n dX0_fewestChanges_110 rfl ?_
        refine T_getR dX0_fewestChanges_111 fX0_27 rfl k102 r102_4 ?_
        refine T_iload_n dX0_fewestChanges_114 rfl ?_
        refine T_ialdv dX0_fewestChanges_115 k109 l109 (by omega) (j := p + 1) (by omega) (x := edS (d 106) (d 107) q (p + 1)) (by rw [ups_in (by omega)]; exact if_neg (by omega)) ?_
        refine T_aload_n dX0_fewestChanges_116 rfl ?_
        refine T_getR dX0_fewestChanges_117 fX0_27 rfl k102 r102_4 ?_
        refine T_iload_n dX0_fewestChanges_120 rfl ?_
        refine T_iconst dX0_fewestChanges_121 (by decide) ?_
        refine T_sub dX0_fewestChanges_122 (by omega) ?_
        refine T_ialdv dX0_fewestChanges_123 k109 l109 (by omega) (j := p) (by omega) (x := edS (d 106) (d 107) (q + 1) p) (by rw [ups_in (by omega)]; exact if_pos (by omega)) ?_
        refine T_min dX0_fewestChanges_124 lX0_38 (by decide) (Nat.le_of_ble_eq_true rfl) ?_
        refine T_add dX0_fewestChanges_127 (by omega) ?_
        refine T_min dX0_fewestChanges_128 lX0_38 (by decide) (Nat.le_of_ble_eq_true rfl) ?_
        refine T_iast dX0_fewestChanges_131 k109 l109 (by omega) (j := p + 1) (by omega) ?_
        refine T_inc dX0_fewestChanges_132 rfl (by decide) rfl (by omega) ?_
        refine T_goto (tgt := 53) dX0_fewestChanges_135 (by decide) ?_
        refine T_drop 4 (T_eq ?_ (ih2 (p + 1) ⟨by omega, hqm⟩ (by omega)))
        refine ups_st (by omega) ?_ ?_
        · show _ = if _ then _ else _
          rw [if_pos (by omega), hz, Int.add_comm 1]; rfl
        · intro j hj
          show (if _ then _ else _) = if _ then _ else _
          by_cases h1 : j < p + 1
          · rw [if_pos h1, if_pos (by omega)]
          · rw [if_neg h1, if_neg (by omega)]
      refine T_iload_n dX0_fewestChanges_53 rfl ?_
      refine T_aload_n dX0_fewestChanges_54 rfl ?_
      refine T_getR dX0_fewestChanges_55 fX0_24 rfl k102 r102_3 ?_
      refine T_iconst dX0_fewestChanges_58 (by decide) ?_
      refine T_ialdv dX0_fewestChanges_59 k108 l108 (by omega) (j := 1) rfl (x := (n : Int)) (E1 _) ?_
      refine T_icmp_gt (tgt := 138) dX0_fewestChanges_60 (by decide) (fun c60 => ?_) (fun c60 => ?_)
      · refine T_inc dX0_fewestChanges_138 rfl (by decide) rfl (by omega) ?_
        refine T_goto (tgt := 27) dX0_fewestChanges_141 (by decide) ?_
        refine T_drop 2 (T_drop 3 (T_eq ?_ (ih (q + 1) (by omega) (by omega))))
        exact ups_eq (fun j _ hj => if_pos (by omega))
      · refine T_iload_n dX0_fewestChanges_63 rfl ?_
        refine T_aload_n dX0_fewestChanges_64 rfl ?_
        refine T_getR dX0_fewestChanges_65 fX0_21 rfl k102 r102_2 ?_
        refine T_iconst dX0_fewestChanges_68 (by decide) ?_
        refine T_aald dX0_fewestChanges_69 k105 (by decide) l105 (by omega) (kn_r 0 (by decide)).2.2 ?_
        refine T_iload_n dX0_fewestChanges_70 rfl ?_
        refine T_iconst dX0_fewestChanges_71 (by decide) ?_
        refine T_sub dX0_fewestChanges_72 (by omega) ?_
        refine T_ialdv dX0_fewestChanges_73 k106 l106 (by omega) (j := q) (by omega) (x := d 106 q) (ups_nea (by decide)) ?_
        refine T_aload_n dX0_fewestChanges_74 rfl ?_
        refine T_getR dX0_fewestChanges_75 fX0_21 rfl k102 r102_2 ?_
        refine T_iconst dX0_fewestChanges_78 (by decide) ?_
        refine T_aald dX0_fewestChanges_79 k105 (by decide) l105 (by omega) (kn_r 1 (by decide)).2.2 ?_
        refine T_iload_n dX0_fewestChanges_80 rfl ?_
        refine T_iconst dX0_fewestChanges_81 (by decide) ?_
        refine T_sub dX0_fewestChanges_82 (by omega) ?_
        refine T_ialdv dX0_fewestChanges_83 k107 l107 (by omega) (j := p) (by omega) (x := d 107 p) (ups_nea (by decide)) ?_
        refine T_icmp_ne (tgt := 91) dX0_fewestChanges_84 (by decide) (fun c84 => ?_) (fun c84 => ?_)
        · refine T_iconst dX0_fewestChanges_91 (by decide) ?_
          exact h92 _ (by rw [if_neg c84]) (by omega)
        · refine T_iconst dX0_fewestChanges_87 (by decide) ?_
          refine T_goto (tgt := 92) dX0_fewestChanges_88 (by decide) ?_
          exact h92 _ (by rw [if_pos c84]) (by omega)
    refine T_iload_n dX0_fewestChanges_27 rfl ?_
    refine T_aload_n dX0_fewestChanges_28 rfl ?_
    refine T_getR dX0_fewestChanges_29 fX0_24 rfl k102 r102_3 ?_
    refine T_iconst dX0_fewestChanges_32 (by decide) ?_
    refine T_ialdv dX0_fewestChanges_33 k108 l108 (by omega) (j := 0) rfl (x := (m : Int)) (E0 _) ?_
    refine T_icmp_gt (tgt := 144) dX0_fewestChanges_34 (by decide) (fun c34 => ?_) (fun c34 => ?_)
    · refine T_aload_n dX0_fewestChanges_144 rfl ?_
      refine T_getR dX0_fewestChanges_145 fX0_27 rfl k102 r102_4 ?_
      refine T_aload_n dX0_fewestChanges_148 rfl ?_
      refine T_getR dX0_fewestChanges_149 fX0_24 rfl k102 r102_3 ?_
      refine T_iconst dX0_fewestChanges_152 (by decide) ?_
      refine T_ialdv dX0_fewestChanges_153 k108 l108 (by omega) (j := 1) rfl (x := (n : Int)) (E1 _) ?_
      refine T_ialdv dX0_fewestChanges_154 k109 l109 (by omega) (j := n) (by omega) (x := edS (d 106) (d 107) q n) (ups_in (by omega)) ?_
      exact T_ireturn dX0_fewestChanges_155 rfl ⟨by rw [show q = m by omega], Fr.rf.ups (by omega)⟩
    · refine T_aload_n dX0_fewestChanges_37 rfl ?_
      refine T_getR dX0_fewestChanges_38 fX0_27 rfl k102 r102_4 ?_
      refine T_iconst dX0_fewestChanges_41 (by decide) ?_
      refine T_ialdv dX0_fewestChanges_42 k109 l109 (by omega) (j := 0) rfl (x := (q : Int)) (by rw [ups_in (by omega)]; exact edS_0 q) ?_
      refine T_ist_n dX0_fewestChanges_43 (by decide) rfl ?_
      refine T_aload_n dX0_fewestChanges_44 rfl ?_
      refine T_getR dX0_fewestChanges_45 fX0_27 rfl k102 r102_4 ?_
      refine T_iconst dX0_fewestChanges_48 (by decide) ?_
      refine T_iload_n dX0_fewestChanges_49 rfl ?_
      refine T_iast dX0_fewestChanges_50 k109 l109 (by omega) (j := 0) rfl ?_
      refine T_iconst dX0_fewestChanges_51 (by decide) ?_
      refine T_ist_n dX0_fewestChanges_52 (by decide) rfl ?_
      refine T_eq ?_ (T_leq ?_ (h53 0 ⟨Nat.zero_le _, by omega⟩))
      · refine ups_st (by omega) ?_ ?_
        · show _ = if _ then _ else _
          rw [if_pos (by omega), edS_0]
        · intro j hj
          show _ = if _ then _ else _
          rw [if_neg (by omega)]
      · rw [edS_0]; rfl
  have h2 : ∀ k : Nat, k ≤ n + 1 → tB G mX0_fewestChanges 2 [vR 102, vI k, vU 0, vU 0, vU 0] [] (ups d 109 0 k (fun j => (j : Int))) (fcR d m n) := by
    refine T_loop (α := Nat) 2 (fun k => [vR 102, vI k, vU 0, vU 0, vU 0]) (fun k => ups d 109 0 k (fun j => (j : Int))) (fun k => k ≤ n + 1) (fun k => n + 1 - k) ?_
    intro k hk ih
    try dsimp only at ih ⊢
    refine T_iload_n dX0_fewestChanges_2 rfl ?_
    refine T_aload_n dX0_fewestChanges_3 rfl ?_
    refine T_getR dX0_fewestChanges_4 fX0_24 rfl k102 r102_3 ?_
    refine T_iconst dX0_fewestChanges_7 (by decide) ?_
    refine T_ialdv dX0_fewestChanges_8 k108 l108 (by omega) (j := 1) rfl (x := (n : Int)) (by rw [ups_nea (by decide)]; exact e1) ?_
    refine T_icmp_gt (tgt := 25) dX0_fewestChanges_9 (by decide) (fun c9 => ?_) (fun c9 => ?_)
    · refine T_iconst dX0_fewestChanges_25 (by decide) ?_
      refine T_ist_n dX0_fewestChanges_26 (by decide) rfl ?_
      refine T_eq ?_ (h27 0 (Nat.zero_le _))
      rw [show k = n + 1 by omega]; rfl
    · refine T_aload_n dX0_fewestChanges_12 rfl ?_
      refine T_getR dX0_fewestChanges_13 fX0_27 rfl k102 r102_4 ?_
      refine T_iload_n dX0_fewestChanges_16 rfl ?_
      refine T_iload_n dX0_fewestChanges_17 rfl ?_
      refine T_iast dX0_fewestChanges_18 k109 l109 (by omega) (j := k) (by omega) ?_
      refine T_inc dX0_fewestChanges_19 rfl (by decide) rfl (by omega) ?_
      refine T_goto (tgt := 2) dX0_fewestChanges_22 (by decide) ?_
      refine T_eq ?_ (ih (k + 1) (by omega) (by omega))
      exact ups_push (by omega) rfl
  refine T_iconst dX0_fewestChanges_0 (by decide) ?_
  refine T_ist_n dX0_fewestChanges_1 (by decide) rfl ?_
  refine T_eq ?_ (h2 0 (Nat.zero_le _))
  exact ups_nil.symm

theorem t_farness {o q : Nat} (hw : kn S0 wo = 10) (hO : Wo d wo w) (hV : WV w) (ha : a < 2) (ho : (o : Int) < w (15 + a)) (hq : (q : Int) < w (15 + a)) : tB G mX0_farness 0 [vR 102, vR wo, vI ((6 * a + o : Nat) : Int), vI ((6 * a + q : Nat) : Int)] [] d (fun r d' => r = some (vI (frS w a o q)) ∧ Fr 106 109 d d') := by
  have hat := at_W hw
  obtain ⟨l1, l2, l3, l4⟩ := hV.ln ha ho
  obtain ⟨p1, p2, p3, p4⟩ := hV.ln ha hq
  refine T_aload_n dX0_farness_0 rfl ?_
  refine T_iconst dX0_farness_1 (by decide) ?_
  refine T_aload_n dX0_farness_2 rfl ?_
  refine T_getR dX0_farness_3 fX0_44 rfl hw (rW11 hw) ?_
  refine T_iload_n dX0_farness_6 rfl ?_
  refine T_iconst dX0_farness_7 (by decide) ?_
  refine T_mul dX0_farness_8 (by omega) ?_
  refine T_aload_n dX0_farness_9 rfl ?_
  refine T_getR dX0_farness_10 fX0_49 rfl hw (rW10 hw) ?_
  refine T_iload_n dX0_farness_13 rfl ?_
  refine T_ialdv dX0_farness_14 (kW10 hw) (lW10 hw) (by omega) (j := 6 * a + o) (by omega) (x := (lnW w a o : Int)) (hO.ln hV ha ho) ?_
  refine T_callV dX0_farness_15 lX0_52 (As := [_, _, _, _]) (rest := _) rfl rfl k102 (by decide) (Nat.le_of_ble_eq_true rfl) (Nat.le_of_ble_eq_true rfl) (T_args3 (y := 24 * a + 4 * o) (by omega) (t_take (q := 0) (at' := 24 * a + 4 * o) (many := lnW w a o) (by decide) (kW11 hw) (lW11 hw) (by decide) (by omega) (by omega) (by omega))) ?_
  rintro _ d1 ⟨rfl, ⟨e1, e2⟩, e3, e4, f1⟩
  refine T_aload_n dX0_farness_18 rfl ?_
  refine T_iconst dX0_farness_19 (by decide) ?_
  refine T_aload_n dX0_farness_20 rfl ?_
  refine T_getR dX0_farness_21 fX0_44 rfl hw (rW11 hw) ?_
  refine T_iload_n dX0_farness_24 rfl ?_
  refine T_iconst dX0_farness_25 (by decide) ?_
  refine T_mul dX0_farness_26 (by omega) ?_
  refine T_aload_n dX0_farness_27 rfl ?_
  refine T_getR dX0_farness_28 fX0_49 rfl hw (rW10 hw) ?_
  refine T_iload_n dX0_farness_31 rfl ?_
  refine T_ialdv dX0_farness_32 (kW10 hw) (lW10 hw) (by omega) (j := 6 * a + q) (by omega) (x := (lnW w a q : Int)) (by rw [f1 _ _ (by omega)]; exact hO.ln hV ha hq) ?_
  refine T_callV dX0_farness_33 lX0_52 (As := [_, _, _, _]) (rest := _) rfl rfl k102 (by decide) (Nat.le_of_ble_eq_true rfl) (Nat.le_of_ble_eq_true rfl) (T_args3 (y := 24 * a + 4 * q) (by omega) (t_take (q := 1) (at' := 24 * a + 4 * q) (many := lnW w a q) (by decide) (kW11 hw) (lW11 hw) (by decide) (by omega) (by omega) (by omega))) ?_
  rintro _ d2 ⟨rfl, ⟨g1, g2⟩, g3, g4, f2⟩
  refine T_aload_n dX0_farness_36 rfl ?_
  refine T_callV dX0_farness_37 lX0_56 (As := []) (rest := _) rfl rfl k102 (by decide) (Nat.le_of_ble_eq_true rfl) (Nat.le_of_ble_eq_true rfl) (t_fewestChanges (m := lnW w a o) (n := lnW w a q) (by omega) (by omega) (g4.trans e2) g2) ?_
  rintro _ d3 ⟨rfl, f3⟩
  exact T_ireturn dX0_farness_40 rfl ⟨by rw [edS_congr (x' := btW w a o) (y' := btW w a q) (m := lnW w a o) (n := lnW w a q) (fun j hj => by rw [g3 j]; exact (e1 j hj).trans (hO.bt hV ha ho hj)) (fun j hj => by rw [g1 j hj, f1 _ _ (by omega)]; exact hO.bt hV ha hq hj) _ (Nat.le_refl _) _ (Nat.le_refl _)], ((f1.mono (by omega)).trans (f2.mono (by omega))).trans (f3.mono (by omega))⟩

theorem t_C_far {k a i q : Int} (hM : MS d) (hC : CS d) : tB G mX11_far 0 [vR 1, vI k, vI a, vI i, vI q, vU 0] [] d (cQ d (if Vd d 0 k then qFar (wvD d k.toNat) a i q else -1)) := by
  have hc0 := hM.1 0 (by decide)
  refine T_aload_n dX11_far_0 rfl ?_
  refine T_iload_n dX11_far_1 rfl ?_
  refine T_callV dX11_far_2 lX11_165 (As := [_]) (rest := _) rfl rfl k1 (by decide) (Nat.le_of_ble_eq_true rfl) (Nat.le_of_ble_eq_true rfl) (t_warAt hM hC) ?_
  rintro _ _ (⟨hv, rfl, rfl⟩ | ⟨hv, rfl, rfl⟩)
  ·
    refine T_ast dX11_far_5 (by decide) rfl ?_
    refine T_aload dX11_far_7 rfl ?_
    refine T_ifnull (tgt := 33) dX11_far_9 (by decide) (fun c9 => ?_) (fun c9 => absurd rfl c9)
    refine T_iconst dX11_far_33 (by decide) ?_
    exact T_ireturn dX11_far_34 rfl ⟨by rw [if_neg hv], Cf.rf⟩
  · have hw := (kn_w k.toNat (by omega)).1
    have hO := hC.2.1 k.toNat (by omega)
    have hV := hM.2.1 k.toNat (by omega)
    rw [if_pos hv]
    generalize wvD d k.toNat = w at *
    refine T_ast dX11_far_5 (by decide) rfl ?_
    refine T_aload dX11_far_7 rfl ?_
    refine T_ifnull (tgt := 33) dX11_far_9 (by decide) (fun c9 => absurd c9 (by omega)) (fun c9 => ?_)
    refine T_aload dX11_far_12 rfl ?_
    refine T_iload_n dX11_far_14 rfl ?_
    refine T_iload_n dX11_far_15 rfl ?_
    refine T_callS dX11_far_16 lX11_203 (As := [_, _, _]) (rest := _) rfl rfl (by decide) (Nat.le_of_ble_eq_true rfl) (Nat.le_of_ble_eq_true rfl) (t_cisOrder hw hO hV) ?_
    rintro _ _ ⟨rfl, rfl⟩
    refine T_if_eq (tgt := 33) dX11_far_19 (by decide) (fun c19 => ?_) (fun c19 => ?_)
    · have h19 := bI_0 c19
      refine T_iconst dX11_far_33 (by decide) ?_
      exact T_ireturn dX11_far_34 rfl ⟨by unfold qFar; rw [if_neg (fun z => h19 z.1)], Cf.rf⟩
    · have h19 := bI_1 c19
      refine T_aload dX11_far_22 rfl ?_
      refine T_iload_n dX11_far_24 rfl ?_
      refine T_iload dX11_far_25 rfl ?_
      refine T_callS dX11_far_27 lX11_203 (As := [_, _, _]) (rest := _) rfl rfl (by decide) (Nat.le_of_ble_eq_true rfl) (Nat.le_of_ble_eq_true rfl) (t_cisOrder hw hO hV) ?_
      rintro _ _ ⟨rfl, rfl⟩
      refine T_if_ne (tgt := 35) dX11_far_30 (by decide) (fun c30 => ?_) (fun c30 => ?_)
      · have h30 := bI_1 c30
        have hab := And.intro h19 h30
        obtain ⟨a, rfl⟩ : ∃ z : Nat, a = (z : Int) := ⟨a.toNat, by omega⟩
        obtain ⟨i, rfl⟩ : ∃ z : Nat, i = (z : Int) := ⟨i.toNat, by omega⟩
        obtain ⟨q, rfl⟩ : ∃ z : Nat, q = (z : Int) := ⟨q.toNat, by omega⟩
        rw [Int.toNat_natCast] at h19 h30
        have hac := (hV.a (a := a) (by omega)).2.2.2.2
        refine T_aload_n dX11_far_35 rfl ?_
        refine T_getR dX11_far_36 fX11_68 rfl k1 r1_9 ?_
        refine T_aload dX11_far_39 rfl ?_
        refine T_iload_n dX11_far_41 rfl ?_
        refine T_iload_n dX11_far_42 rfl ?_
        refine T_callS dX11_far_43 lX11_207 (As := [_, _]) (rest := _) rfl rfl (by decide) (Nat.le_of_ble_eq_true rfl) (Nat.le_of_ble_eq_true rfl) (t_slot (a := a) (k := i) (by omega) (by omega)) ?_
        rintro _ _ ⟨rfl, rfl⟩
        refine T_iload_n dX11_far_46 rfl ?_
        refine T_iload dX11_far_47 rfl ?_
        refine T_callS dX11_far_49 lX11_207 (As := [_, _]) (rest := _) rfl rfl (by decide) (Nat.le_of_ble_eq_true rfl) (Nat.le_of_ble_eq_true rfl) (t_slot (a := a) (k := q) (by omega) (by omega)) ?_
        rintro _ _ ⟨rfl, rfl⟩
        refine T_callV dX11_far_52 lX11_339 (As := [_, _, _]) (rest := _) rfl rfl k102 (by decide) (Nat.le_of_ble_eq_true rfl) (Nat.le_of_ble_eq_true rfl) (t_farness hw hO hV (by omega) (by omega) (by omega)) ?_
        rintro _ d1 ⟨rfl, f1⟩
        exact T_ireturn dX11_far_55 rfl ⟨by unfold qFar; rw [if_pos hab, Int.toNat_natCast, Int.toNat_natCast, Int.toNat_natCast], f1.cf (by omega)⟩
      · have h30 := bI_0 c30
        refine T_iconst dX11_far_33 (by decide) ?_
        exact T_ireturn dX11_far_34 rfl ⟨by unfold qFar; rw [if_neg (fun z => h30 z.2)], Cf.rf⟩

end C16
