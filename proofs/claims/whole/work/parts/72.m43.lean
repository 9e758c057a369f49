/-! the reference: the next token -/
section M43
variable {G : sG} {d : sD} {T : Nat → Int} {n B : Nat}
abbrev adQ (d : sD) (T : Nat → Int) (n B : Nat) : Option sV → sD → Prop := fun r d' => r = none ∧ TkA d d' T n B
theorem ad77 (hT : Tp d n T) (hl : ltP T B) (hB : B ≤ n) {c : Int} : ∀ z : Nat × sD, (Ag [] [3, 4] d z.2 ∧ (z.2 271 3 = ((B + z.1 : Nat) : Int) ∧ z.2 271 4 = (B : Int)) ∧ (∀ j, j < z.1 → ltP T (B + j)) ∧ B + z.1 ≤ n ∧ runE (ltP T) (n - (B + z.1)) (B + z.1) = enL T n B) → tB G mX12_advance 77 [vR 271, vI c, vL (coN T B (min z.1 8)), vU 0] [] z.2 (adQ d T n B) := by
  refine T_loop (α := Nat × sD) 77 (fun z => [vR 271, vI c, vL (coN T B (min z.1 8)), vU 0]) (fun z => z.2) (fun z => Ag [] [3, 4] d z.2 ∧ (z.2 271 3 = ((B + z.1 : Nat) : Int) ∧ z.2 271 4 = (B : Int)) ∧ (∀ j, j < z.1 → ltP T (B + j)) ∧ B + z.1 ≤ n ∧ runE (ltP T) (n - (B + z.1)) (B + z.1) = enL T n B) (fun z => n - z.1) ?_
  rintro ⟨k, e⟩ ⟨hA, ⟨h3, h4⟩, hrun, hkn, hen⟩ ih
  try dsimp only at hA h3 h4 hrun hkn hen ih ⊢
  have hTe := Tp_ag hT hA (by decide) (by decide)
  have hn6 := hT.2.1
  have h125 : ∀ x : Int, x = coN T B (min (k + 1) 8) → ltP T (B + k) → tB G mX12_advance 125 [vR 271, vI c, vL x, vU 0] [] e (adQ d T n B) := by
    rintro _ rfl hlk
    have hlt : B + k < n := by
      rcases Nat.lt_or_ge (B + k) n with q | q
      · exact q
      · have := hT.2.2.2.2 (B + k) q; omega
    refine T_aload_n dX12_advance_125 rfl ?_
    refine T_dup dX12_advance_126 rfl ?_
    refine T_getIv dX12_advance_127 fX12_105 rfl k271 (x := ((B + k : Nat) : Int)) h3 ?_
    refine T_iconst dX12_advance_130 (by decide) ?_
    refine T_add dX12_advance_131 (by omega) ?_
    refine T_putI dX12_advance_132 fX12_105 rfl k271 ?_
    refine T_goto (tgt := 77) dX12_advance_135 (by decide) ?_
    refine ih (k + 1, up e 271 3 (((B + k : Nat) : Int) + 1)) ⟨Ag_upf hA (by decide), ⟨by dsimp only; rw [up_same]; omega, by dsimp only; rw [up_nej (by decide)]; exact h4⟩, fun j hj => ?_, by dsimp only; omega, ?_⟩ (by dsimp only; omega)
    · dsimp only at hj
      rcases (show j < k ∨ j = k by omega) with z | rfl
      · exact hrun j z
      · exact hlk
    · dsimp only
      rw [← hen, runE_y hlk (by omega)]; rfl
  have h162 : ∀ x : Int, x = woT T n B → enL T n B = B + k → tB G mX12_advance 162 [vR 271, vI c, vL (coN T B (min k 8)), vU 0] [vI x, vR 271] e (adQ d T n B) := by
    rintro _ rfl hE
    have hneg : ¬ T B < 0 := by have := hl.1; omega
    have hfin : ∀ t : Int, t = kdT T n B → adQ d T n B none (up (up e 271 7 (woT T n B)) 271 5 t) := by
      rintro _ rfl
      refine ⟨rfl, ⟨by rw [up_nej (by decide), up_nej (by decide)]; exact h4, ?_, up_same⟩, ⟨?_, ?_⟩, Ag_upf (Ag_upf (hA.mono (by decide) (by decide)) (by decide)) (by decide)⟩
      · rw [up_nej (by decide), up_nej (by decide), h3]; unfold nxT; rw [if_neg hneg, if_pos hl, hE]
      · rw [up_nej (by decide), up_nej (by decide), hA.2 6 (by decide)]; unfold nuT; rw [if_neg (fun z => z.2.1 hl)]
      · rw [up_nej (by decide), up_same]; unfold wrT; rw [if_pos ⟨hneg, hl⟩]
    refine T_putI dX12_advance_162 fX12_129 rfl k271 ?_
    refine T_aload_n dX12_advance_165 rfl ?_
    refine T_aload_n dX12_advance_166 rfl ?_
    refine T_getIv dX12_advance_167 fX12_129 rfl k271 (x := woT T n B) up_same ?_
    refine T_bipush dX12_advance_170 (by decide) ?_
    refine T_icmp_ne (tgt := 179) dX12_advance_172 (by decide) (fun c172 => ?_) (fun c172 => ?_)
    · refine T_iconst dX12_advance_179 (by decide) ?_
      refine T_putI dX12_advance_180 fX12_115 rfl k271 ?_
      refine T_goto (tgt := 311) dX12_advance_183 (by decide) ?_
      exact T_return dX12_advance_311 rfl (hfin 3 (by unfold kdT; rw [if_neg hneg, if_pos hl, if_neg c172]))
    · refine T_iconst dX12_advance_175 (by decide) ?_
      refine T_goto (tgt := 180) dX12_advance_176 (by decide) ?_
      refine T_putI dX12_advance_180 fX12_115 rfl k271 ?_
      refine T_goto (tgt := 311) dX12_advance_183 (by decide) ?_
      exact T_return dX12_advance_311 rfl (hfin 4 (by unfold kdT; rw [if_neg hneg, if_pos hl, if_pos c172]))
  refine T_aload_n dX12_advance_77 rfl ?_
  refine T_aload_n dX12_advance_78 rfl ?_
  refine T_getIv dX12_advance_79 fX12_105 rfl k271 (x := ((B + k : Nat) : Int)) h3 ?_
  refine T_callV dX12_advance_82 lX12_108 (As := [_]) (rest := _) rfl rfl k271 (by decide) (Nat.le_of_ble_eq_true rfl) (Nat.le_of_ble_eq_true rfl) (t_byteT hTe) ?_
  rintro _ _ ⟨rfl, rfl⟩
  refine T_callS dX12_advance_85 lX12_118 (As := [_]) (rest := _) rfl rfl (by decide) (Nat.le_of_ble_eq_true rfl) (Nat.le_of_ble_eq_true rfl) t_X12_isLetter ?_
  rintro _ _ ⟨rfl, rfl⟩
  refine T_if_eq (tgt := 138) dX12_advance_88 (by decide) (fun c88 => ?_) (fun c88 => ?_)
  · have hnl : ¬ ltP T (B + k) := bI_0 c88
    have hE : enL T n B = B + k := by rw [← hen]; exact runE_n hnl
    have hEk : enL T n B - B = k := by omega
    refine T_aload_n dX12_advance_138 rfl ?_
    refine T_aload_n dX12_advance_139 rfl ?_
    refine T_getIv dX12_advance_140 fX12_105 rfl k271 (x := ((B + k : Nat) : Int)) h3 ?_
    refine T_aload_n dX12_advance_143 rfl ?_
    refine T_getIv dX12_advance_144 fX12_112 rfl k271 (x := (B : Int)) h4 ?_
    refine T_sub dX12_advance_147 (by omega) ?_
    refine T_bipush dX12_advance_148 (by decide) ?_
    refine T_icmp_le (tgt := 158) dX12_advance_150 (by decide) (fun c150 => ?_) (fun c150 => ?_)
    · refine T_lload_n dX12_advance_158 rfl ?_
      refine T_callS dX12_advance_159 lX12_126 (As := [_]) (rest := _) rfl rfl (by decide) (Nat.le_of_ble_eq_true rfl) (Nat.le_of_ble_eq_true rfl) t_wordOf ?_
      rintro _ _ ⟨rfl, rfl⟩
      exact h162 _ (by unfold woT; rw [hEk, if_neg (by omega), show min k 8 = k by omega]) hE
    · refine T_bipush dX12_advance_153 (by decide) ?_
      refine T_goto (tgt := 162) dX12_advance_155 (by decide) ?_
      exact h162 _ (by unfold woT; rw [hEk, if_pos (by omega)]) hE
  · have hlk := bI_1 c88
    refine T_aload_n dX12_advance_91 rfl ?_
    refine T_getIv dX12_advance_92 fX12_105 rfl k271 (x := ((B + k : Nat) : Int)) h3 ?_
    refine T_aload_n dX12_advance_95 rfl ?_
    refine T_getIv dX12_advance_96 fX12_112 rfl k271 (x := (B : Int)) h4 ?_
    refine T_sub dX12_advance_99 (by omega) ?_
    refine T_bipush dX12_advance_100 (by decide) ?_
    refine T_icmp_ge (tgt := 125) dX12_advance_102 (by decide) (fun c102 => ?_) (fun c102 => ?_)
    · exact h125 _ (by rw [show min (k + 1) 8 = 8 by omega, show min k 8 = 8 by omega]) hlk
    · have hco := coN_rg (T := T) (i := B) k hrun
      have hp32 : (32 : Int) ^ k ≤ 32 ^ 7 := by
        have : ∀ k : Nat, k < 8 → (32 : Int) ^ k ≤ 32 ^ 7 := by decide +kernel
        exact this k (by omega)
      rw [show (32 : Int) ^ 7 = 34359738368 by decide +kernel] at hp32
      have hcs : coN T B (min (k + 1) 8) = 32 * coN T B k + T (B + k) - 96 := by rw [show min (k + 1) 8 = k + 1 by omega]; rfl
      refine T_ldc2 dX12_advance_105 (by decide) kX12_122 ?_
      refine T_lload_n dX12_advance_108 rfl ?_
      refine T_lmul dX12_advance_109 ?_
      refine T_aload_n dX12_advance_110 rfl ?_
      refine T_aload_n dX12_advance_111 rfl ?_
      refine T_getIv dX12_advance_112 fX12_105 rfl k271 (x := ((B + k : Nat) : Int)) h3 ?_
      refine T_callV dX12_advance_115 lX12_108 (As := [_]) (rest := _) rfl rfl k271 (by decide) (Nat.le_of_ble_eq_true rfl) (Nat.le_of_ble_eq_true rfl) (t_byteT hTe) ?_
      rintro _ _ ⟨rfl, rfl⟩
      refine T_i2l dX12_advance_118 ?_
      refine T_ladd dX12_advance_119 ?_
      refine T_ldc2 dX12_advance_120 (by decide) kX12_124 ?_
      refine T_lsub dX12_advance_123 ?_
      refine T_lst_n dX12_advance_124 (by decide) ?_
      rw [show min k 8 = k by omega, w64_id (x := 32 * coN T B k) (by omega) (by omega), w64_id (x := 32 * coN T B k + T (B + k)) (by omega) (by omega), w64_id (x := 32 * coN T B k + T (B + k) - 96) (by omega) (by omega)]
      exact h125 _ hcs.symm hlk

end M43
