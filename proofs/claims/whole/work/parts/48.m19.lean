/-! the reference: bribes, what was meant, the truce -/
section M19
variable {G : sG} {d : sD} {w g h s : Nat → Int}
theorem and1 (a : Int) : i_and a 1 = 0 ∨ i_and a 1 = 1 := by
  unfold i_and
  have e : (Int32.ofInt a &&& Int32.ofInt 1).toInt = ((Int32.ofInt a).toBitVec &&& 1#32).toInt := rfl
  rw [e, BitVec.toInt_eq_toNat_cond, BitVec.toNat_and]
  have h1 : ((Int32.ofInt a).toBitVec.toNat &&& (1#32).toNat) = (Int32.ofInt a).toBitVec.toNat % 2 := Nat.and_one_is_mod _
  rw [h1]
  split <;> omega
def btS (x : Int) : Int := sumN (fun k => i_and (i_shr x k) 1) 24
theorem t_bitsOf {x : Int} : tB G mX12_bitsOf 0 [vI x, vU 0, vU 0] [] d (fun r d' => r = some (vI (btS x)) ∧ d = d') := by
  have h4 : ∀ k : Nat, k ≤ 24 → tB G mX12_bitsOf 4 [vI x, vI (sumN (fun k => i_and (i_shr x k) 1) k), vI k] [] d (fun r d' => r = some (vI (btS x)) ∧ d = d') := by
    refine T_loop (α := Nat) 4 (fun k => [vI x, vI (sumN (fun k => i_and (i_shr x k) 1) k), vI k]) (fun _ => d) (fun k => k ≤ 24) (fun k => 24 - k) ?_
    intro k hk ih
    try dsimp only at ih ⊢
    have hr := sumN_rg (f := fun k => i_and (i_shr x k) 1) (n := k) (fun _ _ => and1 _)
    have hr2 := and1 (i_shr x k)
    refine T_iload_n dX12_bitsOf_4 rfl ?_
    refine T_bipush dX12_bitsOf_5 (by decide) ?_
    refine T_icmp_ge (tgt := 24) dX12_bitsOf_7 (by decide) (fun c7 => ?_) (fun c7 => ?_)
    · refine T_iload_n dX12_bitsOf_24 rfl ?_
      exact T_ireturn dX12_bitsOf_25 rfl ⟨by rw [show k = 24 by omega]; rfl, rfl⟩
    · refine T_iload_n dX12_bitsOf_10 rfl ?_
      refine T_iload_n dX12_bitsOf_11 rfl ?_
      refine T_iload_n dX12_bitsOf_12 rfl ?_
      refine T_ishr dX12_bitsOf_13 ?_
      refine T_iconst dX12_bitsOf_14 (by decide) ?_
      refine T_iand dX12_bitsOf_15 ?_
      refine T_add dX12_bitsOf_16 (by omega) ?_
      refine T_ist_n dX12_bitsOf_17 (by decide) rfl ?_
      refine T_inc dX12_bitsOf_18 rfl (by decide) rfl (by omega) ?_
      refine T_goto (tgt := 4) dX12_bitsOf_21 (by decide) ?_
      exact ih (k + 1) (by omega) (by omega)
  refine T_iconst dX12_bitsOf_0 (by decide) ?_
  refine T_ist_n dX12_bitsOf_1 (by decide) rfl ?_
  refine T_iconst dX12_bitsOf_2 (by decide) ?_
  refine T_ist_n dX12_bitsOf_3 (by decide) rfl ?_
  exact h4 0 (Nat.zero_le _)

theorem shl2 : ∀ n : Nat, n < 13 → i_shl 1 (n : Int) = ((2 ^ n : Nat) : Int) := by decide +kernel
theorem pow2 : ∀ n : Nat, n < 13 → 2 ^ n ≤ 4096 := by decide +kernel
/-- the rests of a row as bits -/
def rsM (f : Nat → Int) : Nat → Int
  | 0 => 0
  | k + 1 => i_or (rsM f k) (if f k = 0 then i_shl 1 k else 0)
/-- a row, some places of it bribed to rests -/
def brB (w g : Nat → Int) (r : Int) (j : Nat) : Int := if bitP r j then 0 else rB w g j
abbrev bsS (w g : Nat → Int) (n : Nat) (r : Int) : Nat → Int := fun j => if j < n then sndB w (brB w g r) j else 0
theorem soK_congr (hV : WV w) {s s' : Nat → Int} {n : Nat} (e : ∀ j, j < n → s j = s' j) : soK w s n h 2 ↔ soK w s' n h 2 := by
  have q : ∀ b, b < 2 → (soM w s n h b ↔ soM w s' n h b) := fun b hb => by unfold soM; rw [mkS_congr hV hb e]
  exact ⟨fun z b hb => (q b hb).mp (z b hb), fun z b hb => (q b hb).mpr (z b hb)⟩
/-- do these bribes explain a hearing -/
abbrev okB (w g h : Nat → Int) (n x : Nat) : Prop := i_and (x : Int) (rsM (rB w g) n) = 0 ∧ soK w (bsS w g n x) n h 2
def bbN (f : Nat → Prop) [DecidablePred f] : Nat → Int
  | 0 => -1
  | x + 1 => if f x ∧ (bbN f x = -1 ∨ btS x < btS (bbN f x)) then (x : Int) else bbN f x
def qBr (w g h : Nat → Int) (n : Nat) (x : Int) : Int := if 12 < n then -1 else if ¬ (0 ≤ x ∧ x ≤ 2) then -1 else if x = 0 then cnN (okB w g h n) (2 ^ n) else if bbN (okB w g h n) (2 ^ n) = -1 ∨ x = 2 then bbN (okB w g h n) (2 ^ n) else btS (bbN (okB w g h n) (2 ^ n))
def qBribes (w g h : Nat → Int) (x : Int) : Int := qBr w g h (rowS w g).length x
abbrev Vph (d : sD) (k l t : Int) : Prop := Vp d k l ∧ 0 ≤ t ∧ t ≤ d 272 2 - 1
abbrev soF : List Nat := [10, 11, 18, 25]
theorem t_X12_bribes {k l t x : Int} (hM : MS d) : tB G mX12_bribes 0 [vR 271, vI k, vI l, vI t, vI x, vU 0, vU 0, vU 0, vU 0] [] d (qQ d (if Vph d k l t then qBribes (wvD d k.toNat) (gvD d l.toNat) (hvD d t.toNat) x else -1) mkC soF) := by
  have c2 := hM.1 2 (by decide)
  refine T_aload_n dX12_bribes_0 rfl ?_
  refine T_iload_n dX12_bribes_1 rfl ?_
  refine T_iload_n dX12_bribes_2 rfl ?_
  refine T_callV dX12_bribes_3 lX12_255 (As := [_, _]) (rest := _) rfl rfl k271 (by decide) (Nat.le_of_ble_eq_true rfl) (Nat.le_of_ble_eq_true rfl) (t_arePlayed hM) ?_
  rintro _ d1 (⟨hv, rfl, hA⟩ | ⟨hv, rfl, ⟨hW, hL, hS⟩, hA⟩)
  ·
    refine T_if_eq (tgt := 36) dX12_bribes_6 (by decide) (fun c6 => ?_) (fun c6 => absurd rfl c6)
    refine T_iconst dX12_bribes_36 (by decide) ?_
    exact T_ireturn dX12_bribes_37 rfl ⟨by rw [if_neg (fun q => hv q.1)], hA.mono (by decide) (by decide)⟩
  · have hV := hM.2.1 k.toNat (by omega)
    have hGV := hM.2.2.1 l.toNat (by omega)
    have g0 := (hGV 0 (by decide)).1
    have g1 := (hGV 1 (by decide)).1
    have hlen := rowS_len hV hGV
    have e2 : d1 272 2 = d 272 2 := hA.1 272 2 (by decide) (by decide)
    refine T_if_eq (tgt := 36) dX12_bribes_6 (by decide) (fun c6 => absurd c6 (by decide)) (fun c6 => ?_)
    refine T_aload_n dX12_bribes_9 rfl ?_
    refine T_iload_n dX12_bribes_10 rfl ?_
    refine T_callV dX12_bribes_11 lX12_311 (As := [_]) (rest := _) rfl rfl k271 (by decide) (Nat.le_of_ble_eq_true rfl) (Nat.le_of_ble_eq_true rfl) (t_X12_isHearing (by rw [e2]; exact c2)) ?_
    rintro _ _ (⟨hv2, rfl, rfl⟩ | ⟨hv2, rfl, rfl⟩)
    all_goals rw [e2] at hv2
    ·
      refine T_if_eq (tgt := 36) dX12_bribes_14 (by decide) (fun c14 => ?_) (fun c14 => absurd rfl c14)
      refine T_iconst dX12_bribes_36 (by decide) ?_
      exact T_ireturn dX12_bribes_37 rfl ⟨by rw [if_neg (fun q => hv2 q.2)], hA.mono (by decide) (by decide)⟩
    · rw [if_pos ⟨hv, hv2⟩]
      have hHV := hM.2.2.2.1 t.toNat (by omega)
      have hH := isHh (d := d1) (k := t.toNat) (by omega)
      rw [show (t.toNat : Int) = t by omega, show hvD d1 t.toNat = hvD d t.toNat from funext fun x => hA.1 272 _ (by decide) (by decide)] at hH
      have hA0 : Ag [] [25] d1 (up d1 271 25 (840 + 14 * t)) := Ag_upf Ag.rf (by decide)
      have hA2 : Ag mkC soF d (up d1 271 25 (840 + 14 * t)) := hA.trans hA0 (by decide) (by decide) (by decide) (by decide)
      have hW2 := Wd_ag hW hA0 (by decide) (by decide)
      have hn2 : up d1 271 25 (840 + 14 * t) 271 18 = ((rowS (wvD d k.toNat) (gvD d l.toNat)).length : Int) := (hA0.2 18 (by decide)).trans hL.1
      have hr2 : ∀ j, j < (rowS (wvD d k.toNat) (gvD d l.toNat)).length → up d1 271 25 (840 + 14 * t) 277 j = rB (wvD d k.toNat) (gvD d l.toNat) j := fun j hj => (hA0.1 277 j (by decide) (by decide)).trans (hL.2 j hj).1
      clear hA0 e2 hL hS hW hA
      generalize up d1 271 25 (840 + 14 * t) = d2 at *
      generalize wvD d k.toNat = w at *
      generalize gvD d l.toNat = g at *
      generalize hvD d t.toNat = h at *
      unfold qBribes
      generalize (rowS w g).length = n at *
      have hp2 : n ≤ 12 → 2 ^ n ≤ 4096 := fun q => pow2 n (by omega)
      refine T_if_eq (tgt := 36) dX12_bribes_14 (by decide) (fun c14 => absurd c14 (by decide)) (fun c14 => ?_)
      refine T_aload_n dX12_bribes_17 rfl ?_
      refine T_getIv dX12_bribes_18 fX12_243 rfl k271 (x := (n : Int)) hn2 ?_
      refine T_bipush dX12_bribes_21 (by decide) ?_
      refine T_icmp_gt (tgt := 36) dX12_bribes_23 (by decide) (fun c23 => ?_) (fun c23 => ?_)
      · refine T_iconst dX12_bribes_36 (by decide) ?_
        exact T_ireturn dX12_bribes_37 rfl ⟨by unfold qBr; rw [if_pos (by omega)], hA2⟩
      · refine T_iload dX12_bribes_26 rfl ?_
        refine T_iconst dX12_bribes_28 (by decide) ?_
        refine T_iconst dX12_bribes_29 (by decide) ?_
        refine T_callS dX12_bribes_30 lX12_145 (As := [_, _, _]) (rest := _) rfl rfl (by decide) (Nat.le_of_ble_eq_true rfl) (Nat.le_of_ble_eq_true rfl) t_X12_isIn ?_
        rintro _ _ ⟨rfl, rfl⟩
        refine T_if_ne (tgt := 38) dX12_bribes_33 (by decide) (fun c33 => ?_) (fun c33 => ?_)
        · have h33 := bI_1 c33
          refine T_iconst dX12_bribes_38 (by decide) ?_
          refine T_ist dX12_bribes_39 (by decide) rfl ?_
          refine T_iconst dX12_bribes_41 (by decide) ?_
          refine T_ist dX12_bribes_42 (by decide) rfl ?_
          have h44 : ∀ i : Nat, i ≤ n → tB G mX12_bribes 44 [vR 271, vI k, vI l, vI t, vI x, vI (rsM (rB w g) i), vI i, vU 0, vU 0] [] d2 (qQ d (qBr w g h n x) mkC soF) := by
            refine T_loop (α := Nat) 44 (fun i => [vR 271, vI k, vI l, vI t, vI x, vI (rsM (rB w g) i), vI i, vU 0, vU 0]) (fun _ => d2) (fun i => i ≤ n) (fun i => n - i) ?_
            intro i hi ih
            try dsimp only at ih ⊢
            have h73 : ∀ z : Int, z = (if rB w g i = 0 then i_shl 1 i else 0) → i < n → tB G mX12_bribes 73 [vR 271, vI k, vI l, vI t, vI x, vI (rsM (rB w g) i), vI i, vU 0, vU 0] [vI z, vI (rsM (rB w g) i)] d2 (qQ d (qBr w g h n x) mkC soF) := by
              rintro _ rfl hlt
              refine T_ior dX12_bribes_73 ?_
              refine T_ist dX12_bribes_74 (by decide) rfl ?_
              refine T_inc dX12_bribes_76 rfl (by decide) rfl (by omega) ?_
              refine T_goto (tgt := 44) dX12_bribes_79 (by decide) ?_
              exact ih (i + 1) (by omega) (by omega)
            refine T_iload dX12_bribes_44 rfl ?_
            refine T_aload_n dX12_bribes_46 rfl ?_
            refine T_getIv dX12_bribes_47 fX12_243 rfl k271 (x := (n : Int)) hn2 ?_
            refine T_icmp_ge (tgt := 82) dX12_bribes_50 (by decide) (fun c50 => ?_) (fun c50 => ?_)
            · refine T_iconst dX12_bribes_82 (by decide) ?_
              refine T_ist dX12_bribes_83 (by decide) rfl ?_
              refine T_iconst dX12_bribes_85 (by decide) ?_
              refine T_ist dX12_bribes_86 (by decide) rfl ?_
              refine T_iconst dX12_bribes_88 (by decide) ?_
              refine T_ist dX12_bribes_89 (by decide) rfl ?_
              obtain rfl : n = i := by omega
              have h91 : ∀ y : Nat × sD, (y.1 ≤ 2 ^ n ∧ Ag [279, 280, 281, 282, 283, 284, 285] [] d2 y.2) → tB G mX12_bribes 91 [vR 271, vI k, vI l, vI t, vI x, vI (rsM (rB w g) n), vI (cnN (okB w g h n) y.1), vI (bbN (okB w g h n) y.1), vI y.1] [] y.2 (qQ d (qBr w g h n x) mkC soF) := by
                refine T_loop (α := Nat × sD) 91 (fun y => [vR 271, vI k, vI l, vI t, vI x, vI (rsM (rB w g) n), vI (cnN (okB w g h n) y.1), vI (bbN (okB w g h n) y.1), vI y.1]) (fun y => y.2) (fun y => y.1 ≤ 2 ^ n ∧ Ag [279, 280, 281, 282, 283, 284, 285] [] d2 y.2) (fun y => 2 ^ n - y.1) ?_
                rintro ⟨c, e⟩ ⟨hc, hAe⟩ ih
                try dsimp only at hc hAe ih ⊢
                have hp := hp2 (by omega)
                have hrg := cnN_rg (okB w g h n) c
                have hWe := Wd_ag hW2 hAe (by decide) (by decide)
                have hHe := Hh_ag hH hAe (by decide) (by decide)
                have hne : e 271 18 = (n : Int) := (hAe.2 18 (by decide)).trans hn2
                have hre : ∀ j, j < n → e 277 j = rB w g j := fun j hj => (hAe.1 277 j (by decide) (by decide)).trans (hr2 j hj)
                refine T_iload dX12_bribes_91 rfl ?_
                refine T_iconst dX12_bribes_93 (by decide) ?_
                refine T_aload_n dX12_bribes_94 rfl ?_
                refine T_getIv dX12_bribes_95 fX12_243 rfl k271 (x := (n : Int)) hne ?_
                refine T_ishl dX12_bribes_98 ?_
                rw [shl2 n (by omega)]
                refine T_icmp_ge (tgt := 166) dX12_bribes_99 (by decide) (fun c99 => ?_) (fun c99 => ?_)
                · obtain rfl : c = 2 ^ n := by omega
                  have hAf : Ag mkC soF d e := hA2.trans hAe (by decide) (by decide) (by decide) (by decide)
                  refine T_iload dX12_bribes_166 rfl ?_
                  refine T_if_ne (tgt := 174) dX12_bribes_168 (by decide) (fun c168 => ?_) (fun c168 => ?_)
                  · refine T_iload dX12_bribes_174 rfl ?_
                    refine T_iconst dX12_bribes_176 (by decide) ?_
                    refine T_icmp_eq (tgt := 186) dX12_bribes_177 (by decide) (fun c177 => ?_) (fun c177 => ?_)
                    · refine T_iload dX12_bribes_186 rfl ?_
                      refine T_goto (tgt := 196) dX12_bribes_188 (by decide) ?_
                      exact T_ireturn dX12_bribes_196 rfl ⟨by unfold qBr; rw [if_neg (by omega), if_neg (fun q => q h33), if_neg c168, if_pos (Or.inl c177)], hAf⟩
                    · refine T_iload dX12_bribes_180 rfl ?_
                      refine T_iconst dX12_bribes_182 (by decide) ?_
                      refine T_icmp_ne (tgt := 191) dX12_bribes_183 (by decide) (fun c183 => ?_) (fun c183 => ?_)
                      · refine T_iload dX12_bribes_191 rfl ?_
                        refine T_callS dX12_bribes_193 lX12_317 (As := [_]) (rest := _) rfl rfl (by decide) (Nat.le_of_ble_eq_true rfl) (Nat.le_of_ble_eq_true rfl) t_bitsOf ?_
                        rintro _ _ ⟨rfl, rfl⟩
                        exact T_ireturn dX12_bribes_196 rfl ⟨by unfold qBr; rw [if_neg (by omega), if_neg (fun q => q h33), if_neg c168, if_neg (fun q => q.elim c177 c183)], hAf⟩
                      · refine T_iload dX12_bribes_186 rfl ?_
                        refine T_goto (tgt := 196) dX12_bribes_188 (by decide) ?_
                        exact T_ireturn dX12_bribes_196 rfl ⟨by unfold qBr; rw [if_neg (by omega), if_neg (fun q => q h33), if_neg c168, if_pos (Or.inr c183)], hAf⟩
                  · refine T_iload dX12_bribes_171 rfl ?_
                    exact T_ireturn dX12_bribes_173 rfl ⟨by unfold qBr; rw [if_neg (by omega), if_neg (fun q => q h33), if_pos c168], hAf⟩
                · refine T_iload dX12_bribes_102 rfl ?_
                  refine T_iload dX12_bribes_104 rfl ?_
                  refine T_iand dX12_bribes_106 ?_
                  refine T_if_eq (tgt := 113) dX12_bribes_107 (by decide) (fun c107 => ?_) (fun c107 => ?_)
                  · refine T_aload_n dX12_bribes_113 rfl ?_
                    refine T_iload dX12_bribes_114 rfl ?_
                    refine T_callV dX12_bribes_116 lX12_252 (As := [_]) (rest := _) rfl rfl k271 (by decide) (Nat.le_of_ble_eq_true rfl) (Nat.le_of_ble_eq_true rfl) (t_playsS (t := brB w g c) hWe hV hne (by omega) (fun j hj => by rw [hre j hj]; exact rB_rg hGV j) (fun j hj => by unfold trM brB; rw [hre j hj])) ?_
                    rintro _ d3 ⟨rfl, hS3, hA3⟩
                    have hW3 := Wd_ag hWe hA3 (by decide) (by decide)
                    have hH3 := Hh_ag hHe hA3 (by decide) (by decide)
                    have hn3 := (hA3.2 18 (by decide)).trans hne
                    refine T_aload_n dX12_bribes_119 rfl ?_
                    refine T_callV dX12_bribes_120 lX12_314 (As := []) (rest := _) rfl rfl k271 (by decide) (Nat.le_of_ble_eq_true rfl) (Nat.le_of_ble_eq_true rfl) (t_isSo hW3 hV hH3 hHV hn3 (by omega)) ?_
                    rintro _ d4 ⟨rfl, hA4⟩
                    have hA5 : Ag [279, 280, 281, 282, 283, 284, 285] [] d2 d4 := (hAe.trans hA3 (cs := [279, 280, 281, 282, 283, 284, 285]) (fs := []) (by decide) (by decide) (by decide) (by decide)).trans hA4 (by decide) (by decide) (by decide) (by decide)
                    have hso : soK w (d3 279) n h 2 ↔ soK w (bsS w g n c) n h 2 := soK_congr hV (fun j hj => by rw [(hS3 j hj).1]; show _ = if _ then _ else _; rw [if_pos hj])
                    have hok : okB w g h n c ↔ soK w (d3 279) n h 2 := ⟨fun q => hso.mpr q.2, fun q => ⟨c107, hso.mp q⟩⟩
                    refine T_if_ne (tgt := 129) dX12_bribes_123 (by decide) (fun c123 => ?_) (fun c123 => ?_)
                    · refine T_inc dX12_bribes_129 rfl (by decide) rfl (by omega) ?_
                      refine T_iload dX12_bribes_132 rfl ?_
                      refine T_iconst dX12_bribes_134 (by decide) ?_
                      refine T_icmp_eq (tgt := 151) dX12_bribes_135 (by decide) (fun c135 => ?_) (fun c135 => ?_)
                      · refine T_iload dX12_bribes_151 rfl ?_
                        refine T_goto (tgt := 158) dX12_bribes_153 (by decide) ?_
                        refine T_ist dX12_bribes_158 (by decide) rfl ?_
                        refine T_inc dX12_bribes_160 rfl (by decide) rfl (by omega) ?_
                        refine T_goto (tgt := 91) dX12_bribes_163 (by decide) ?_
                        have hk := hok.mpr (bI_1 c123)
                        refine T_leq ?_ (ih (c + 1, d4) ⟨by omega, hA5⟩ (by omega))
                        rw [cnN_t (f := (okB w g h n)) hk, show bbN (okB w g h n) (c + 1) = c from if_pos ⟨hk, Or.inl c135⟩]; rfl
                      · refine T_iload dX12_bribes_138 rfl ?_
                        refine T_callS dX12_bribes_140 lX12_317 (As := [_]) (rest := _) rfl rfl (by decide) (Nat.le_of_ble_eq_true rfl) (Nat.le_of_ble_eq_true rfl) t_bitsOf ?_
                        rintro _ _ ⟨rfl, rfl⟩
                        refine T_iload dX12_bribes_143 rfl ?_
                        refine T_callS dX12_bribes_145 lX12_317 (As := [_]) (rest := _) rfl rfl (by decide) (Nat.le_of_ble_eq_true rfl) (Nat.le_of_ble_eq_true rfl) t_bitsOf ?_
                        rintro _ _ ⟨rfl, rfl⟩
                        refine T_icmp_ge (tgt := 156) dX12_bribes_148 (by decide) (fun c148 => ?_) (fun c148 => ?_)
                        · refine T_iload dX12_bribes_156 rfl ?_
                          refine T_ist dX12_bribes_158 (by decide) rfl ?_
                          refine T_inc dX12_bribes_160 rfl (by decide) rfl (by omega) ?_
                          refine T_goto (tgt := 91) dX12_bribes_163 (by decide) ?_
                          have hk := hok.mpr (bI_1 c123)
                          refine T_leq ?_ (ih (c + 1, d4) ⟨by omega, hA5⟩ (by omega))
                          rw [cnN_t (f := (okB w g h n)) hk, show bbN (okB w g h n) (c + 1) = bbN (okB w g h n) c from if_neg (fun q => q.2.elim c135 (fun z => by omega))]; rfl
                        · refine T_iload dX12_bribes_151 rfl ?_
                          refine T_goto (tgt := 158) dX12_bribes_153 (by decide) ?_
                          refine T_ist dX12_bribes_158 (by decide) rfl ?_
                          refine T_inc dX12_bribes_160 rfl (by decide) rfl (by omega) ?_
                          refine T_goto (tgt := 91) dX12_bribes_163 (by decide) ?_
                          have hk := hok.mpr (bI_1 c123)
                          refine T_leq ?_ (ih (c + 1, d4) ⟨by omega, hA5⟩ (by omega))
                          rw [cnN_t (f := (okB w g h n)) hk, show bbN (okB w g h n) (c + 1) = c from if_pos ⟨hk, Or.inr (by omega)⟩]; rfl
                    · refine T_goto (tgt := 160) dX12_bribes_126 (by decide) ?_
                      refine T_inc dX12_bribes_160 rfl (by decide) rfl (by omega) ?_
                      refine T_goto (tgt := 91) dX12_bribes_163 (by decide) ?_
                      have hk : ¬ okB w g h n c := fun q => bI_0 c123 (hok.mp q)
                      refine T_leq ?_ (ih (c + 1, d4) ⟨by omega, hA5⟩ (by omega))
                      rw [cnN_f (f := (okB w g h n)) hk, show bbN (okB w g h n) (c + 1) = bbN (okB w g h n) c from if_neg (fun q => hk q.1)]; rfl
                  · refine T_goto (tgt := 160) dX12_bribes_110 (by decide) ?_
                    refine T_inc dX12_bribes_160 rfl (by decide) rfl (by omega) ?_
                    refine T_goto (tgt := 91) dX12_bribes_163 (by decide) ?_
                    have hk : ¬ okB w g h n c := fun q => c107 q.1
                    refine T_leq ?_ (ih (c + 1, e) ⟨by omega, hAe⟩ (by omega))
                    rw [cnN_f (f := (okB w g h n)) hk, show bbN (okB w g h n) (c + 1) = bbN (okB w g h n) c from if_neg (fun q => hk q.1)]; rfl
              exact h91 (0, d2) ⟨Nat.zero_le _, Ag.rf⟩
            · refine T_iload dX12_bribes_53 rfl ?_
              refine T_aload_n dX12_bribes_55 rfl ?_
              refine T_getR dX12_bribes_56 fX12_26 rfl k271 r271_14 ?_
              refine T_iload dX12_bribes_59 rfl ?_
              refine T_ialdv dX12_bribes_61 k277 l277 (by omega) (j := i) rfl (x := rB w g i) (hr2 i (by omega)) ?_
              refine T_if_ne (tgt := 72) dX12_bribes_62 (by decide) (fun c62 => ?_) (fun c62 => ?_)
              · refine T_iconst dX12_bribes_72 (by decide) ?_
                exact h73 _ (by rw [if_neg c62]) (by omega)
              · refine T_iconst dX12_bribes_65 (by decide) ?_
                refine T_iload dX12_bribes_66 rfl ?_
                refine T_ishl dX12_bribes_68 ?_
                refine T_goto (tgt := 73) dX12_bribes_69 (by decide) ?_
                exact h73 _ (by rw [if_pos c62]) (by omega)
          exact h44 0 (Nat.zero_le _)
        · refine T_iconst dX12_bribes_36 (by decide) ?_
          exact T_ireturn dX12_bribes_37 rfl ⟨by unfold qBr; rw [if_neg (by omega), if_pos (bI_0 c33)], hA2⟩

end M19
