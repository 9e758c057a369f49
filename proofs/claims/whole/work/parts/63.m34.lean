/-! the reference: a row changed at one or two places -/
section M34
variable {G : sG} {d : sD} {w g r : Nat → Int} {n a i j : Nat} {m : Int}
def fxR (r : Nat → Int) (i j q : Nat) : Nat → Int := fun k => if k = j then ((q % 4 : Nat) : Int) else if k = i then ((q / 4 : Nat) : Int) else r k
abbrev snF (w r : Nat → Int) (n : Nat) : Nat → Int := fun k => if k < n then sndB w r k else 0
abbrev fxP (w r : Nat → Int) (n a : Nat) (m : Int) (i j q : Nat) : Prop := ((¬ ((q / 4 : Nat) : Int) = r i ∧ ¬ ((q % 4 : Nat) : Int) = r j) ∧ (¬ i = j ∨ q / 4 = q % 4)) ∧ isMadeS w (snF w (fxR r i j q) n) n a m = 1
abbrev fxO (w r : Nat → Int) (n a : Nat) (m : Int) (i j : Nat) : Nat → Int := orN (fun q => bI (fxP w r n a m i j q))
/-- may the row be mended at these places -/
abbrev fxS (w r : Nat → Int) (n a : Nat) (m : Int) (i j : Nat) : Int := fxO w r n a m i j 16
abbrev fxC : List Nat := [277, 279, 280, 281, 282, 283, 284, 285]
abbrev fxQ (d : sD) (w r : Nat → Int) (n a : Nat) (m : Int) (i j : Nat) : Option sV → sD → Prop := fun x d' => x = some (vI (fxS w r n a m i j)) ∧ (∀ k, k < n → d' 277 k = r k) ∧ Ag fxC [] d d'
theorem orN_s {f : Nat → Int} {k : Nat} : orN f (k + 1) = if orN f k = 0 then f k else 1 := rfl
theorem fxO_s {q : Nat} : fxO w r n a m i j (q + 1) = if fxO w r n a m i j q = 0 then bI (fxP w r n a m i j q) else 1 := rfl
theorem orN_mono {f : Nat → Int} {q : Nat} (h : orN f q = 1) : ∀ k, orN f (q + k) = 1
  | 0 => h
  | k + 1 => by
    have ih := orN_mono h k
    show orN f ((q + k) + 1) = 1
    rw [orN_s, if_neg (by omega)]
theorem t_isFixed (hW : Wd d w) (hV : WV w) (hn : d 271 18 = (n : Int)) (hn24 : n ≤ 24) (hr : ∀ k, k < n → d 277 k = r k) (hr3 : ∀ k, k < n → 0 ≤ r k ∧ r k ≤ 3) (ha : a < 2) (hi : i < n) (hj : j < n) : tB G mX12_isFixed 0 [vR 271, vI a, vI m, vI i, vI j, vU 0, vU 0, vU 0, vU 0] [] d (fxQ d w r n a m i j) := by
  have h23 : ∀ z : Nat × sD, (z.1 ≤ 16 ∧ Ag fxC [] d z.2 ∧ ∀ k, k < n → k ≠ i → k ≠ j → z.2 277 k = r k) → tB G mX12_isFixed 23 [vR 271, vI a, vI m, vI i, vI j, vI (r i), vI (r j), vI (fxO w r n a m i j z.1), vI z.1] [] z.2 (fxQ d w r n a m i j) := by
    refine T_loop (α := Nat × sD) 23 (fun z => [vR 271, vI a, vI m, vI i, vI j, vI (r i), vI (r j), vI (fxO w r n a m i j z.1), vI z.1]) (fun z => z.2) (fun z => z.1 ≤ 16 ∧ Ag fxC [] d z.2 ∧ ∀ k, k < n → k ≠ i → k ≠ j → z.2 277 k = r k) (fun z => 16 - z.1) ?_
    rintro ⟨q, e⟩ ⟨hq, hA, hk⟩ ih
    try dsimp only at hq hA hk ih ⊢
    have h01 : fxO w r n a m i j q = 0 ∨ fxO w r n a m i j q = 1 := orN_01 (fun _ _ => bI_01 _)
    have hWe := Wd_ag hW hA (by decide) (by decide)
    have hne : e 271 18 = (n : Int) := (hA.2 18 (by decide)).trans hn
    have h113 : fxO w r n a m i j q = fxS w r n a m i j → tB G mX12_isFixed 113 [vR 271, vI a, vI m, vI i, vI j, vI (r i), vI (r j), vI (fxO w r n a m i j q), vI q] [] e (fxQ d w r n a m i j) := by
      intro he
      refine T_aload_n dX12_isFixed_113 rfl ?_
      refine T_getR dX12_isFixed_114 fX12_26 rfl k271 r271_14 ?_
      refine T_iload_n dX12_isFixed_117 rfl ?_
      refine T_iload dX12_isFixed_118 rfl ?_
      refine T_iast dX12_isFixed_120 k277 l277 (by omega) (j := i) rfl ?_
      refine T_aload_n dX12_isFixed_121 rfl ?_
      refine T_getR dX12_isFixed_122 fX12_26 rfl k271 r271_14 ?_
      refine T_iload dX12_isFixed_125 rfl ?_
      refine T_iload dX12_isFixed_127 rfl ?_
      refine T_iast dX12_isFixed_129 k277 l277 (by omega) (j := j) rfl ?_
      refine T_iload dX12_isFixed_130 rfl ?_
      exact T_zreturn dX12_isFixed_132 rfl (by omega) ⟨by rw [he], fun k hkn => (by
        by_cases h1 : k = j
        · rw [h1, up_same]
        · rw [up_nej h1]
          by_cases h2 : k = i
          · rw [h2, up_same]
          · rw [up_nej h2]; exact hk k hkn h2 h1), Ag_up (Ag_up hA (by decide)) (by decide)⟩
    have hskip : ¬ fxP w r n a m i j q → fxO w r n a m i j q = 0 → q < 16 → tB G mX12_isFixed 107 [vR 271, vI a, vI m, vI i, vI j, vI (r i), vI (r j), vI (fxO w r n a m i j q), vI q] [] e (fxQ d w r n a m i j) := by
      intro hnp h0 hlt
      have hs : fxO w r n a m i j (q + 1) = fxO w r n a m i j q := by rw [fxO_s, if_pos h0, bI_f hnp]; exact h0.symm
      refine T_inc dX12_isFixed_107 rfl (by decide) rfl (by omega) ?_
      refine T_goto (tgt := 23) dX12_isFixed_110 (by decide) ?_
      have h := ih (q + 1, e) ⟨by omega, hA, hk⟩ (by omega)
      dsimp only at h
      rw [hs] at h
      exact h
    have h73 : ((¬ ((q / 4 : Nat) : Int) = r i ∧ ¬ ((q % 4 : Nat) : Int) = r j) ∧ (¬ i = j ∨ q / 4 = q % 4)) → fxO w r n a m i j q = 0 → q < 16 → tB G mX12_isFixed 73 [vR 271, vI a, vI m, vI i, vI j, vI (r i), vI (r j), vI (fxO w r n a m i j q), vI q] [] e (fxQ d w r n a m i j) := by
      intro hp h0 hlt
      have hrow : ∀ k, k < n → up (up e 277 i ((q / 4 : Nat) : Int)) 277 j ((q % 4 : Nat) : Int) 277 k = fxR r i j q k := fun k hkn => by
        unfold fxR
        by_cases h1 : k = j
        · rw [if_pos h1, h1, up_same]
        · rw [if_neg h1, up_nej h1]
          by_cases h2 : k = i
          · rw [if_pos h2, h2, up_same]
          · rw [if_neg h2, up_nej h2]; exact hk k hkn h2 h1
      have hrg : ∀ k, k < n → 0 ≤ fxR r i j q k ∧ fxR r i j q k ≤ 3 := fun k hkn => by
        have := hr3 k hkn
        unfold fxR; (repeat' split) <;> omega
      have hA1 : Ag fxC [] d (up (up e 277 i ((q / 4 : Nat) : Int)) 277 j ((q % 4 : Nat) : Int)) := Ag_up (Ag_up hA (by decide)) (by decide)
      have hW1 := Wd_ag hW hA1 (by decide) (by decide)
      have hn1 := (hA1.2 18 (by decide)).trans hn
      refine T_aload_n dX12_isFixed_73 rfl ?_
      refine T_getR dX12_isFixed_74 fX12_26 rfl k271 r271_14 ?_
      refine T_iload_n dX12_isFixed_77 rfl ?_
      refine T_iload dX12_isFixed_78 rfl ?_
      refine T_iconst dX12_isFixed_80 (by decide) ?_
      refine T_div dX12_isFixed_81 (by omega) (by omega) ?_
      rw [show (q : Int) / 4 = ((q / 4 : Nat) : Int) by omega]
      refine T_iast dX12_isFixed_82 k277 l277 (by omega) (j := i) rfl ?_
      refine T_aload_n dX12_isFixed_83 rfl ?_
      refine T_getR dX12_isFixed_84 fX12_26 rfl k271 r271_14 ?_
      refine T_iload dX12_isFixed_87 rfl ?_
      refine T_iload dX12_isFixed_89 rfl ?_
      refine T_iconst dX12_isFixed_91 (by decide) ?_
      refine T_rem dX12_isFixed_92 (by omega) (by omega) ?_
      rw [show (q : Int) % 4 = ((q % 4 : Nat) : Int) by omega]
      refine T_iast dX12_isFixed_93 k277 l277 (by omega) (j := j) rfl ?_
      refine T_aload_n dX12_isFixed_94 rfl ?_
      refine T_iconst dX12_isFixed_95 (by decide) ?_
      refine T_callV dX12_isFixed_96 lX12_252 (As := [_]) (rest := _) rfl rfl k271 (by decide) (Nat.le_of_ble_eq_true rfl) (Nat.le_of_ble_eq_true rfl) (t_playsS (t := fxR r i j q) hW1 hV hn1 hn24 (fun k hkn => by rw [hrow k hkn]; exact hrg k hkn) (fun k hkn => by unfold trM; rw [if_neg (bit0 k (by omega)), hrow k hkn])) ?_
      rintro _ e2 ⟨rfl, hS2, hA2⟩
      have hW2 := Wd_ag hW1 hA2 (by decide) (by decide)
      refine T_aload_n dX12_isFixed_99 rfl ?_
      refine T_iload_n dX12_isFixed_100 rfl ?_
      refine T_iload_n dX12_isFixed_101 rfl ?_
      refine T_callV dX12_isFixed_102 lX12_301 (As := [_, _]) (rest := _) rfl rfl k271 (by decide) (Nat.le_of_ble_eq_true rfl) (Nat.le_of_ble_eq_true rfl) (t_isMade hW2 hV ((hA2.2 18 (by decide)).trans hn1) hn24 ha) ?_
      rintro _ e3 ⟨rfl, hF⟩
      have hA3 : Ag fxC [] d e3 := (hA1.trans hA2 (cs := fxC) (fs := []) (by decide) (by decide) (by decide) (by decide)).trans hF.1 (by decide) (by decide) (by decide) (by decide)
      have hmd : isMadeS w (e2 279) n a m = isMadeS w (snF w (fxR r i j q) n) n a m := by
        unfold isMadeS
        rw [mkS_congr (s := e2 279) (s' := snF w (fxR r i j q) n) hV ha (fun k hkn => by rw [(hS2 k hkn).1]; show _ = if _ then _ else _; rw [if_pos hkn])]
      have hm01 : isMadeS w (snF w (fxR r i j q) n) n a m = 0 ∨ isMadeS w (snF w (fxR r i j q) n) n a m = 1 := orN_01 (fun _ _ => bI_01 _)
      have hs : fxO w r n a m i j (q + 1) = isMadeS w (e2 279) n a m := by
        rw [fxO_s, if_pos h0, hmd]
        rcases hm01 with z | z
        · rw [bI_f (fun y => by have := y.2; omega), z]
        · rw [bI_t ⟨hp, z⟩, z]
      have hk3 : ∀ k, k < n → k ≠ i → k ≠ j → e3 277 k = r k := fun k hkn h1 h2 => by
        rw [hF.1.1 277 k (by decide) (by decide), hA2.1 277 k (by decide) (by decide), up_nej h2, up_nej h1]; exact hk k hkn h1 h2
      refine T_ist dX12_isFixed_105 (by decide) rfl ?_
      refine T_inc dX12_isFixed_107 rfl (by decide) rfl (by omega) ?_
      refine T_goto (tgt := 23) dX12_isFixed_110 (by decide) ?_
      have h := ih (q + 1, e3) ⟨by omega, hA3, hk3⟩ (by omega)
      dsimp only at h
      rw [hs] at h
      exact h
    refine T_iload dX12_isFixed_23 rfl ?_
    refine T_bipush dX12_isFixed_25 (by decide) ?_
    refine T_icmp_ge (tgt := 113) dX12_isFixed_27 (by decide) (fun c27 => ?_) (fun c27 => ?_)
    · exact h113 (by rw [show q = 16 by omega])
    · refine T_iload dX12_isFixed_30 rfl ?_
      refine T_if_ne (tgt := 113) dX12_isFixed_32 (by decide) (fun c32 => ?_) (fun c32 => ?_)
      · have h1 := h01.resolve_left c32
        have h2 := orN_mono h1 (16 - q)
        rw [show q + (16 - q) = 16 by omega] at h2
        exact h113 (h1.trans h2.symm)
      · refine T_iload dX12_isFixed_35 rfl ?_
        refine T_iconst dX12_isFixed_37 (by decide) ?_
        refine T_div dX12_isFixed_38 (by omega) (by omega) ?_
        rw [show (q : Int) / 4 = ((q / 4 : Nat) : Int) by omega]
        refine T_iload dX12_isFixed_39 rfl ?_
        refine T_icmp_eq (tgt := 107) dX12_isFixed_41 (by decide) (fun c41 => ?_) (fun c41 => ?_)
        · exact hskip (fun z => z.1.1.1 c41) c32 (by omega)
        · refine T_iload dX12_isFixed_44 rfl ?_
          refine T_iconst dX12_isFixed_46 (by decide) ?_
          refine T_rem dX12_isFixed_47 (by omega) (by omega) ?_
          rw [show (q : Int) % 4 = ((q % 4 : Nat) : Int) by omega]
          refine T_iload dX12_isFixed_48 rfl ?_
          refine T_icmp_eq (tgt := 107) dX12_isFixed_50 (by decide) (fun c50 => ?_) (fun c50 => ?_)
          · exact hskip (fun z => z.1.1.2 c50) c32 (by omega)
          · refine T_iload_n dX12_isFixed_53 rfl ?_
            refine T_iload dX12_isFixed_54 rfl ?_
            refine T_icmp_ne (tgt := 73) dX12_isFixed_56 (by decide) (fun c56 => ?_) (fun c56 => ?_)
            · exact h73 ⟨⟨c41, c50⟩, Or.inl (by omega)⟩ c32 (by omega)
            · refine T_iload dX12_isFixed_59 rfl ?_
              refine T_iconst dX12_isFixed_61 (by decide) ?_
              refine T_div dX12_isFixed_62 (by omega) (by omega) ?_
              refine T_iload dX12_isFixed_63 rfl ?_
              refine T_iconst dX12_isFixed_65 (by decide) ?_
              refine T_rem dX12_isFixed_66 (by omega) (by omega) ?_
              refine T_icmp_eq (tgt := 73) dX12_isFixed_67 (by decide) (fun c67 => ?_) (fun c67 => ?_)
              · exact h73 ⟨⟨c41, c50⟩, Or.inr (by omega)⟩ c32 (by omega)
              · refine T_goto (tgt := 107) dX12_isFixed_70 (by decide) ?_
                exact hskip (fun z => z.1.2.elim (fun y => y (by omega)) (fun y => by omega)) c32 (by omega)
  refine T_aload_n dX12_isFixed_0 rfl ?_
  refine T_getR dX12_isFixed_1 fX12_26 rfl k271 r271_14 ?_
  refine T_iload_n dX12_isFixed_4 rfl ?_
  refine T_ialdv dX12_isFixed_5 k277 l277 (by omega) (j := i) rfl (x := r i) (hr i hi) ?_
  refine T_ist dX12_isFixed_6 (by decide) rfl ?_
  refine T_aload_n dX12_isFixed_8 rfl ?_
  refine T_getR dX12_isFixed_9 fX12_26 rfl k271 r271_14 ?_
  refine T_iload dX12_isFixed_12 rfl ?_
  refine T_ialdv dX12_isFixed_14 k277 l277 (by omega) (j := j) rfl (x := r j) (hr j hj) ?_
  refine T_ist dX12_isFixed_15 (by decide) rfl ?_
  refine T_iconst dX12_isFixed_17 (by decide) ?_
  refine T_ist dX12_isFixed_18 (by decide) rfl ?_
  refine T_iconst dX12_isFixed_20 (by decide) ?_
  refine T_ist dX12_isFixed_21 (by decide) rfl ?_
  exact h23 (0, d) ⟨Nat.zero_le _, Ag.rf, fun k hkn _ _ => hr k hkn⟩

end M34
