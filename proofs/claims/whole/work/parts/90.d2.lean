/-! the class: force, meant, truce -/
section C11
variable {G : sG} {d d' : sD} {w g s t h x y : Nat → Int} {wo ho so e n a : Nat}
theorem Hs_fr {m : Int} {x : Nat → Int} {lo hi : Nat} (H : Hs d so a m x) (hF : Fr lo hi d d') (hn : so + 2 < lo ∨ hi < so + 1) : Hs d' so a m x := ⟨by rw [hF _ _ (by omega)]; exact H.1, fun i hi => by rw [hF _ _ (by omega)]; exact H.2 i hi⟩
theorem Hs_lf {m : Int} {x : Nat → Int} (H : Hs d 78 a m x) (hF : Lf d d') : Hs d' 78 a m x := ⟨by rw [hF _ _ (by omega)]; exact H.1, fun i hi => by rw [hF _ _ (by omega)]; exact H.2 i hi⟩
theorem So_fc {n c j : Nat} (hn : n ≤ 12) (ha : a < 2) (h1 : Hs d so a n (dgN c n)) (h2 : Hs d so (1 - a) n (dgN j n)) : So d so (fcS a n c j) := by
  match a, ha with
  | 0, _ => exact So_sc h1 h2 (by omega)
  | 1, _ => exact So_sc h2 h1 (by omega)
theorem md_lets (w g : Nat → Int) (a : Nat) (m : Int) : isMadeS w (snF w (rB w g) (rowS w g).length) (rowS w g).length a m = mdS w g a m := rfl
/-- the row of a guess is laid, and what is made of it -/
theorem t_holdsAgainstAll {c n : Nat} {m : Int} (hw : kn S0 wo = 10) (hO : Wo d wo w) (hV : WV w) (ha : a < 2) (hn : n ≤ 5) (hH : Hs d 78 a n (dgN c n)) : tB G mX11_holdsAgainstAll 0 [vR 1, vR wo, vI a, vI m, vI n, vU 0, vU 0] [] d (fun r d' => r = some (vI (bI (foK w a m n c (4 ^ n)))) ∧ Cf d d') := by
  have hat := at_W hw
  have hp := pow4 n (by omega)
  have hv := hV.1
  have h11 : ∀ z : Nat × sD, (z.1 ≤ 4 ^ n ∧ foK w a m n c z.1 ∧ Hs z.2 78 a n (dgN c n) ∧ Cf d z.2) → tB G mX11_holdsAgainstAll 11 [vR 1, vR wo, vI a, vI m, vI n, vI ((4 ^ n : Nat) : Int), vI z.1] [] (z.2) (fun r d' => r = some (vI (bI (foK w a m n c (4 ^ n)))) ∧ Cf d d') := by
    refine T_loop (α := Nat × sD) 11 (fun z => [vR 1, vR wo, vI a, vI m, vI n, vI ((4 ^ n : Nat) : Int), vI z.1]) (fun z => z.2) (fun z => z.1 ≤ 4 ^ n ∧ foK w a m n c z.1 ∧ Hs z.2 78 a n (dgN c n) ∧ Cf d z.2) (fun z => 4 ^ n - z.1) ?_
    rintro ⟨j, b⟩ ⟨h1, h2, h3, h4⟩ ih
    try dsimp only at h1 h2 h3 h4 ih ⊢
    have hOb := Wo_cf hw hO h4
    have hGV : GV (fcS a n c j) := GV_fc (by omega)
    refine T_iload dX11_holdsAgainstAll_11 rfl ?_
    refine T_iload dX11_holdsAgainstAll_13 rfl ?_
    refine T_icmp_ge (tgt := 65) dX11_holdsAgainstAll_15 (by decide) (fun c15 => ?_) (fun c15 => ?_)
    · refine T_iconst dX11_holdsAgainstAll_65 (by decide) ?_
      exact T_zreturn dX11_holdsAgainstAll_66 rfl (by omega) ⟨by rw [bI_t (show foK w a m n c (4 ^ n) by rw [show 4 ^ n = j by omega]; exact h2)], h4⟩
    · refine T_aload_n dX11_holdsAgainstAll_18 rfl ?_
      refine T_getR dX11_holdsAgainstAll_19 fX11_34 rfl k1 r1_4 ?_
      refine T_iconst dX11_holdsAgainstAll_22 (by decide) ?_
      refine T_iload_n dX11_holdsAgainstAll_23 rfl ?_
      refine T_sub dX11_holdsAgainstAll_24 (by omega) ?_
      refine T_iload dX11_holdsAgainstAll_25 rfl ?_
      refine T_iload dX11_holdsAgainstAll_27 rfl ?_
      refine T_callV dX11_holdsAgainstAll_29 lX11_295 (As := [_, _, _]) (rest := _) rfl rfl k78 (by decide) (Nat.le_of_ble_eq_true rfl) (Nat.le_of_ble_eq_true rfl) (T_args1 (y := 1 - a) (by omega) (t_giveNumber (a := 1 - a) k78 (by omega) hn (by omega))) ?_
      rintro _ d1 ⟨rfl, e1, e2, f1⟩
      refine T_aload_n dX11_holdsAgainstAll_32 rfl ?_
      refine T_getR dX11_holdsAgainstAll_33 fX11_41 rfl k1 r1_5 ?_
      refine T_aload_n dX11_holdsAgainstAll_36 rfl ?_
      refine T_getIv dX11_holdsAgainstAll_37 fX11_169 rfl hw (x := ((w 0).toNat : Int)) (by rw [f1 _ _ (by omega), hOb.1.1]; omega) ?_
      refine T_aload_n dX11_holdsAgainstAll_40 rfl ?_
      refine T_getR dX11_holdsAgainstAll_41 fX11_34 rfl k1 r1_4 ?_
      refine T_callV dX11_holdsAgainstAll_44 lX11_303 (As := [_, _]) (rest := _) rfl rfl k81 (by decide) (Nat.le_of_ble_eq_true rfl) (Nat.le_of_ble_eq_true rfl) (t_clay (w := w) (t := (w 0).toNat) k78 (So_fc (by omega) ha (e2 a _ _ ha (by omega) (by omega) h3) e1) hGV (by omega) (by omega)) ?_
      rintro _ d2 ⟨rfl, e3, f2⟩
      refine T_aload_n dX11_holdsAgainstAll_47 rfl ?_
      refine T_aload_n dX11_holdsAgainstAll_48 rfl ?_
      refine T_iload_n dX11_holdsAgainstAll_49 rfl ?_
      refine T_iload_n dX11_holdsAgainstAll_50 rfl ?_
      refine T_callV dX11_holdsAgainstAll_51 lX11_307 (As := [_, _, _]) (rest := _) rfl rfl k1 (by decide) (Nat.le_of_ble_eq_true rfl) (Nat.le_of_ble_eq_true rfl) (t_letsMake (t := rB w (fcS a n c j)) hw (Wo_fr (Wo_fr hOb f1 (by omega)) f2 (by omega)) hV e3.1 (rowS_24 hV hGV) (fun i hi => ⟨(e3.2 i hi).2.2, rB_rg hGV i⟩) ha) ?_
      rintro _ d3 ⟨rfl, f3⟩
      rw [md_lets]
      have hcf : Cf d d3 := ((h4.trans (f1.cf (by omega))).trans (f2.cf (by omega))).trans f3.cf
      have h01 := mdS_01 w (fcS a n c j) a m
      refine T_if_ne (tgt := 59) dX11_holdsAgainstAll_54 (by decide) (fun c54 => ?_) (fun c54 => ?_)
      · refine T_inc dX11_holdsAgainstAll_59 rfl (by decide) rfl (by omega) ?_
        refine T_goto (tgt := 11) dX11_holdsAgainstAll_62 (by decide) ?_
        refine ih (j + 1, d3) ⟨by dsimp only; omega, fun i hi => ?_, Hs_lf (Hs_fr (e2 a _ _ ha (by omega) (by omega) h3) f2 (by omega)) f3, hcf⟩ (by dsimp only; omega)
        dsimp only at hi
        rcases (show i < j ∨ i = j by omega) with z | rfl
        · exact h2 i z
        · omega
      · refine T_iconst dX11_holdsAgainstAll_57 (by decide) ?_
        exact T_zreturn dX11_holdsAgainstAll_58 rfl (by omega) ⟨by rw [bI_f (fun q => by have := q j (by omega); omega)], hcf⟩
  refine T_iconst dX11_holdsAgainstAll_0 (by decide) ?_
  refine T_iconst dX11_holdsAgainstAll_1 (by decide) ?_
  refine T_iload dX11_holdsAgainstAll_2 rfl ?_
  refine T_mul dX11_holdsAgainstAll_4 (by omega) ?_
  refine T_ishl dX11_holdsAgainstAll_5 ?_
  refine T_top (y := ((4 ^ n : Nat) : Int)) (shl4 n (by omega)) ?_
  refine T_ist dX11_holdsAgainstAll_6 (by decide) rfl ?_
  refine T_iconst dX11_holdsAgainstAll_8 (by decide) ?_
  refine T_ist dX11_holdsAgainstAll_9 (by decide) rfl ?_
  exact h11 (0, d) ⟨Nat.zero_le _, fun i hi => absurd hi (Nat.not_lt_zero i), hH, Cf.rf⟩

theorem fsN_keep {f : Nat → Prop} [DecidablePred f] {k : Nat} (hk : ¬ fsN f k = -1) : ∀ j, fsN f (k + j) = fsN f k
  | 0 => rfl
  | j + 1 => by
    have ih := fsN_keep hk j
    show (if f (k + j) ∧ fsN f (k + j) = -1 then ((k + j : Nat) : Int) else fsN f (k + j)) = _
    rw [ih, if_neg (fun q => hk q.2)]
theorem fsN_hit {f : Nat → Prop} [DecidablePred f] {c N : Nat} (h : f c) (h0 : fsN f c = -1) (hN : c < N) : fsN f N = (c : Int) := by
  have e : fsN f (c + 1) = (c : Int) := by show (if f c ∧ fsN f c = -1 then (c : Int) else fsN f c) = _; rw [if_pos ⟨h, h0⟩]
  have := fsN_keep (f := f) (k := c + 1) (by rw [e]; omega) (N - (c + 1))
  rw [show c + 1 + (N - (c + 1)) = N by omega, e] at this
  exact this
theorem fsN_no {f : Nat → Prop} [DecidablePred f] {c : Nat} (h : ¬ f c) : fsN f (c + 1) = fsN f c := by show (if f c ∧ fsN f c = -1 then (c : Int) else fsN f c) = _; rw [if_neg (fun q => h q.1)]
theorem fsN_yes {f : Nat → Prop} [DecidablePred f] {c : Nat} (h : ¬ fsN f c = -1) : fsN f (c + 1) = fsN f c := by show (if f c ∧ fsN f c = -1 then (c : Int) else fsN f c) = _; rw [if_neg (fun q => h q.2)]
theorem t_C_force {k a m n x : Int} (hM : MS d) (hC : CS d) : tB G mX11_force 0 [vR 1, vI k, vI a, vI m, vI n, vI x, vU 0, vU 0, vU 0, vU 0] [] d (cQ d (if Vd d 0 k then qForce (wvD d k.toNat) a m n x else -2)) := by
  have hc0 := hM.1 0 (by decide)
  refine T_aload_n dX11_force_0 rfl ?_
  refine T_iload_n dX11_force_1 rfl ?_
  refine T_callV dX11_force_2 lX11_165 (As := [_]) (rest := _) rfl rfl k1 (by decide) (Nat.le_of_ble_eq_true rfl) (Nat.le_of_ble_eq_true rfl) (t_warAt hM hC) ?_
  rintro _ _ (⟨hv, rfl, rfl⟩ | ⟨hv, rfl, rfl⟩)
  ·
    refine T_ast dX11_force_5 (by decide) rfl ?_
    refine T_aload dX11_force_7 rfl ?_
    refine T_ifnull (tgt := 37) dX11_force_9 (by decide) (fun c9 => ?_) (fun c9 => absurd rfl c9)
    refine T_bipush dX11_force_37 (by decide) ?_
    exact T_ireturn dX11_force_39 rfl ⟨by rw [if_neg hv], Cf.rf⟩
  · have hw := (kn_w k.toNat (by omega)).1
    have hO := hC.2.1 k.toNat (by omega)
    have hV := hM.2.1 k.toNat (by omega)
    rw [if_pos hv]
    generalize wvD d k.toNat = w at *
    have h40 : ∀ a n : Nat, a < 2 → n ≤ 3 → (0 ≤ m ∧ m ≤ 4) → tB G mX11_force 40 [vR 1, vI k, vI a, vI m, vI n, vI x, vR (9 + 21 * k.toNat), vU 0, vU 0, vU 0] [] d (cQ d (qForce w a m n x)) := by
      intro a n ha hn hm
      have hp := pow4 n (by omega)
      have hq : qForce w a m n x = if x = 0 then fsN (fun c => foK w a m n c (4 ^ n)) (4 ^ n) else cnN (fun c => foK w a m n c (4 ^ n)) (4 ^ n) := by
        unfold qForce
        rw [if_neg (by omega), if_neg (by omega), if_neg (by omega), Int.toNat_natCast, Int.toNat_natCast]
      rw [hq]
      have h54 : ∀ z : Nat × sD, (z.1 ≤ 4 ^ n ∧ (x = 0 → fsN (fun c => foK w a m n c (4 ^ n)) z.1 = -1) ∧ Cf d z.2) → tB G mX11_force 54 [vR 1, vI k, vI a, vI m, vI n, vI x, vR (9 + 21 * k.toNat), vI ((4 ^ n : Nat) : Int), vI (cnN (fun c => foK w a m n c (4 ^ n)) z.1), vI z.1] [] (z.2) (cQ d (if x = 0 then fsN (fun c => foK w a m n c (4 ^ n)) (4 ^ n) else cnN (fun c => foK w a m n c (4 ^ n)) (4 ^ n))) := by
        refine T_loop (α := Nat × sD) 54 (fun z => [vR 1, vI k, vI a, vI m, vI n, vI x, vR (9 + 21 * k.toNat), vI ((4 ^ n : Nat) : Int), vI (cnN (fun c => foK w a m n c (4 ^ n)) z.1), vI z.1]) (fun z => z.2) (fun z => z.1 ≤ 4 ^ n ∧ (x = 0 → fsN (fun c => foK w a m n c (4 ^ n)) z.1 = -1) ∧ Cf d z.2) (fun z => 4 ^ n - z.1) ?_
        rintro ⟨c, b⟩ ⟨h1, h2, h3⟩ ih
        try dsimp only at h1 h2 h3 ih ⊢
        have hrg := cnN_rg (fun c => foK w a m n c (4 ^ n)) c
        refine T_iload dX11_force_54 rfl ?_
        refine T_iload dX11_force_56 rfl ?_
        refine T_icmp_ge (tgt := 103) dX11_force_58 (by decide) (fun c58 => ?_) (fun c58 => ?_)
        · refine T_iload dX11_force_103 rfl ?_
          refine T_if_eq (tgt := 113) dX11_force_105 (by decide) (fun c105 => ?_) (fun c105 => ?_)
          · refine T_iconst dX11_force_113 (by decide) ?_
            exact T_ireturn dX11_force_114 rfl ⟨by rw [if_pos c105, ← h2 c105, show c = 4 ^ n by omega], h3⟩
          · refine T_iload dX11_force_108 rfl ?_
            refine T_goto (tgt := 114) dX11_force_110 (by decide) ?_
            exact T_ireturn dX11_force_114 rfl ⟨by rw [if_neg c105, show c = 4 ^ n by omega], h3⟩
        · refine T_aload_n dX11_force_61 rfl ?_
          refine T_getR dX11_force_62 fX11_34 rfl k1 r1_4 ?_
          refine T_iload_n dX11_force_65 rfl ?_
          refine T_iload dX11_force_66 rfl ?_
          refine T_iload dX11_force_68 rfl ?_
          refine T_callV dX11_force_70 lX11_295 (As := [_, _, _]) (rest := _) rfl rfl k78 (by decide) (Nat.le_of_ble_eq_true rfl) (Nat.le_of_ble_eq_true rfl) (t_giveNumber (a := a) k78 ha (by omega) (by omega)) ?_
          rintro _ d1 ⟨rfl, e1, e2, f1⟩
          refine T_aload_n dX11_force_73 rfl ?_
          refine T_aload dX11_force_74 rfl ?_
          refine T_iload_n dX11_force_76 rfl ?_
          refine T_iload_n dX11_force_77 rfl ?_
          refine T_iload dX11_force_78 rfl ?_
          refine T_callV dX11_force_80 lX11_299 (As := [_, _, _, _]) (rest := _) rfl rfl k1 (by decide) (Nat.le_of_ble_eq_true rfl) (Nat.le_of_ble_eq_true rfl) (t_holdsAgainstAll hw (Wo_cf hw hO (h3.trans (f1.cf (by omega)))) hV ha (by omega) e1) ?_
          rintro _ d2 ⟨rfl, f2⟩
          have hcf : Cf d d2 := (h3.trans (f1.cf (by omega))).trans f2
          refine T_if_eq (tgt := 97) dX11_force_83 (by decide) (fun c83 => ?_) (fun c83 => ?_)
          · have h83 := bI_0 c83
            refine T_inc dX11_force_97 rfl (by decide) rfl (by omega) ?_
            refine T_goto (tgt := 54) dX11_force_100 (by decide) ?_
            refine T_leq (ls' := [vR 1, vI k, vI a, vI m, vI n, vI x, vR (9 + 21 * k.toNat), vI ((4 ^ n : Nat) : Int), vI (cnN (fun c => foK w a m n c (4 ^ n)) (c + 1)), vI ((c + 1 : Nat) : Int)]) (by rw [cnN_f (f := (fun c => foK w a m n c (4 ^ n))) (k := c) h83]; rfl) ?_
            exact ih (c + 1, d2) ⟨by dsimp only; omega, fun q => by dsimp only; rw [fsN_no (f := (fun c => foK w a m n c (4 ^ n))) (c := c) h83]; exact h2 q, hcf⟩ (by dsimp only; omega)
          · have h83 := bI_1 c83
            refine T_iload dX11_force_86 rfl ?_
            refine T_if_ne (tgt := 94) dX11_force_88 (by decide) (fun c88 => ?_) (fun c88 => ?_)
            · refine T_inc dX11_force_94 rfl (by decide) rfl (by omega) ?_
              refine T_inc dX11_force_97 rfl (by decide) rfl (by omega) ?_
              refine T_goto (tgt := 54) dX11_force_100 (by decide) ?_
              refine T_leq (ls' := [vR 1, vI k, vI a, vI m, vI n, vI x, vR (9 + 21 * k.toNat), vI ((4 ^ n : Nat) : Int), vI (cnN (fun c => foK w a m n c (4 ^ n)) (c + 1)), vI ((c + 1 : Nat) : Int)]) (by rw [cnN_t (f := (fun c => foK w a m n c (4 ^ n))) (k := c) h83]; rfl) ?_
              exact ih (c + 1, d2) ⟨by dsimp only; omega, fun q => absurd q c88, hcf⟩ (by dsimp only; omega)
            · refine T_iload dX11_force_91 rfl ?_
              exact T_ireturn dX11_force_93 rfl ⟨by rw [if_pos c88, fsN_hit (f := (fun c => foK w a m n c (4 ^ n))) (c := c) (N := 4 ^ n) h83 (h2 c88) (by omega)], hcf⟩
      refine T_iconst dX11_force_40 (by decide) ?_
      refine T_iconst dX11_force_41 (by decide) ?_
      refine T_iload dX11_force_42 rfl ?_
      refine T_mul dX11_force_44 (by omega) ?_
      refine T_ishl dX11_force_45 ?_
      refine T_top (y := ((4 ^ n : Nat) : Int)) (shl4 n (by omega)) ?_
      refine T_ist dX11_force_46 (by decide) rfl ?_
      refine T_iconst dX11_force_48 (by decide) ?_
      refine T_ist dX11_force_49 (by decide) rfl ?_
      refine T_iconst dX11_force_51 (by decide) ?_
      refine T_ist dX11_force_52 (by decide) rfl ?_
      exact h54 (0, d) ⟨Nat.zero_le _, fun _ => rfl, Cf.rf⟩
    refine T_ast dX11_force_5 (by decide) rfl ?_
    refine T_aload dX11_force_7 rfl ?_
    refine T_ifnull (tgt := 37) dX11_force_9 (by decide) (fun c9 => absurd c9 (by omega)) (fun c9 => ?_)
    refine T_iload_n dX11_force_12 rfl ?_
    refine T_callS dX11_force_13 lX11_181 (As := [_]) (rest := _) rfl rfl (by decide) (Nat.le_of_ble_eq_true rfl) (Nat.le_of_ble_eq_true rfl) t_isArmy ?_
    rintro _ _ ⟨rfl, rfl⟩
    refine T_if_eq (tgt := 37) dX11_force_16 (by decide) (fun c16 => ?_) (fun c16 => ?_)
    · have h16 := bI_0 c16
      refine T_bipush dX11_force_37 (by decide) ?_
      exact T_ireturn dX11_force_39 rfl ⟨by unfold qForce; rw [if_pos h16], Cf.rf⟩
    · have h16 := bI_1 c16
      refine T_iload_n dX11_force_19 rfl ?_
      refine T_callS dX11_force_20 lX11_292 (As := [_]) (rest := _) rfl rfl (by decide) (Nat.le_of_ble_eq_true rfl) (Nat.le_of_ble_eq_true rfl) t_isMv ?_
      rintro _ _ ⟨rfl, rfl⟩
      refine T_if_eq (tgt := 37) dX11_force_23 (by decide) (fun c23 => ?_) (fun c23 => ?_)
      · have h23 := bI_0 c23
        refine T_bipush dX11_force_37 (by decide) ?_
        exact T_ireturn dX11_force_39 rfl ⟨by unfold qForce; rw [if_neg (by omega), if_pos h23], Cf.rf⟩
      · have h23 := bI_1 c23
        refine T_iload dX11_force_26 rfl ?_
        refine T_if_lt (tgt := 37) dX11_force_28 (by decide) (fun c28 => ?_) (fun c28 => ?_)
        · refine T_bipush dX11_force_37 (by decide) ?_
          exact T_ireturn dX11_force_39 rfl ⟨by unfold qForce; rw [if_neg (by omega), if_neg (by omega), if_pos (by omega)], Cf.rf⟩
        · refine T_iload dX11_force_31 rfl ?_
          refine T_iconst dX11_force_33 (by decide) ?_
          refine T_icmp_le (tgt := 40) dX11_force_34 (by decide) (fun c34 => ?_) (fun c34 => ?_)
          · obtain ⟨a, rfl⟩ : ∃ q : Nat, a = (q : Int) := ⟨a.toNat, by omega⟩
            obtain ⟨n, rfl⟩ : ∃ q : Nat, n = (q : Int) := ⟨n.toNat, by omega⟩
            exact h40 a n (by omega) (by omega) h23
          · refine T_bipush dX11_force_37 (by decide) ?_
            exact T_ireturn dX11_force_39 rfl ⟨by unfold qForce; rw [if_neg (by omega), if_neg (by omega), if_pos (by omega)], Cf.rf⟩

end C11
