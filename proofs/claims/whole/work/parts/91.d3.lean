/-! the class: a score is copied; meant, truce -/
section C12
variable {G : sG} {d d' : sD} {w g s t h x y : Nat → Int} {wo ho so se e n a : Nat}
theorem cpy_in {b m : Nat} {p q k : Int} (hp : p = 0) (hq : q = 0) (hk : k = (m : Int)) {j : Nat} (hj : j < m) : cpyD d a b p.toNat q.toNat k.toNat b j = d a j := by
  subst hp; subst hq; subst hk
  unfold cpyD upA
  rw [if_pos rfl, if_pos (by rw [Int.toNat_natCast]; exact ⟨Nat.zero_le _, by rw [show Int.toNat 0 = 0 from rfl]; omega⟩)]
  congr 1
  rw [show Int.toNat 0 = 0 from rfl]; omega
theorem cpy_ne {b p q k c j : Nat} (h : c ≠ b) : cpyD d a b p q k c j = d c j := by
  unfold cpyD upA
  rw [if_neg h]
theorem Fr.cpy {lo hi : Nat} {d1 : sD} {b p q k : Nat} (h1 : Fr lo hi d d1) (h : lo ≤ b ∧ b ≤ hi) : Fr lo hi d (cpyD d1 a b p q k) := fun c i hb => by rw [cpy_ne (by rintro rfl; exact hb h)]; exact h1 c i hb
theorem t_scopy (hs : kn S0 so = 6) (ht : kn S0 se = 6) (hd : so + 2 < se ∨ se + 2 < so) : tB G mX6_copyFrom 0 [vR so, vR se] [] d (fun r d' => r = none ∧ (∀ j, j < 2 → d' (so + 1) j = d (se + 1) j) ∧ (∀ j, j < 24 → d' (so + 2) j = d (se + 2) j) ∧ Fr (so + 1) (so + 2) d d') := by
  refine T_aload_n dX6_copyFrom_0 rfl ?_
  refine T_getR dX6_copyFrom_1 fX6_9 rfl ht (rS0 ht) ?_
  refine T_iconst dX6_copyFrom_4 (by decide) ?_
  refine T_aload_n dX6_copyFrom_5 rfl ?_
  refine T_getR dX6_copyFrom_6 fX6_9 rfl hs (rS0 hs) ?_
  refine T_iconst dX6_copyFrom_9 (by decide) ?_
  refine T_iconst dX6_copyFrom_10 (by decide) ?_
  refine T_copy dX6_copyFrom_11 lX6_18 (by decide) (Nat.le_of_ble_eq_true rfl) (by decide) (kS0 ht) (kS0 hs) (lS0 ht) (lS0 hs) (by omega) ?_
  refine T_aload_n dX6_copyFrom_14 rfl ?_
  refine T_getR dX6_copyFrom_15 fX6_15 rfl ht (rS1 ht) ?_
  refine T_iconst dX6_copyFrom_18 (by decide) ?_
  refine T_aload_n dX6_copyFrom_19 rfl ?_
  refine T_getR dX6_copyFrom_20 fX6_15 rfl hs (rS1 hs) ?_
  refine T_iconst dX6_copyFrom_23 (by decide) ?_
  refine T_aload_n dX6_copyFrom_24 rfl ?_
  refine T_getR dX6_copyFrom_25 fX6_15 rfl hs (rS1 hs) ?_
  refine T_alen dX6_copyFrom_28 (kS1 hs) (by decide) (lS1 hs) (by decide) ?_
  refine T_copy dX6_copyFrom_29 lX6_18 (by decide) (Nat.le_of_ble_eq_true rfl) (by decide) (kS1 ht) (kS1 hs) (lS1 ht) (lS1 hs) (by omega) ?_
  exact T_return dX6_copyFrom_32 rfl ⟨rfl, fun j hj => by rw [cpy_ne (by omega)]; exact cpy_in rfl rfl (m := 2) rfl hj, fun j hj => by rw [cpy_in (m := 24) rfl rfl rfl hj, cpy_ne (by omega)], (Fr.rf.cpy (by omega)).cpy (by omega)⟩

theorem So_copy (hO : So d se g) (hG : GV g) (h1 : ∀ j, j < 2 → d' (so + 1) j = d (se + 1) j) (h2 : ∀ j, j < 24 → d' (so + 2) j = d (se + 2) j) : So d' so g := fun a ha => ⟨by rw [h1 a ha]; exact (hO a ha).1, fun k hk => by have := (hG a ha).1; rw [h2 _ (by omega)]; exact (hO a ha).2 k hk⟩
theorem if0 {p : Prop} [Decidable p] {r x : Nat} (h : r = if p then x else 0) (hr : ¬ r = 0) : p := by
  by_cases q : p
  · exact q
  · rw [if_neg q] at h; exact absurd h hr
theorem t_warAtI {k : Int} (hM : MS d) (hC : CS d) : tB G mX11_warAt 0 [vR 1, vI k] [] d (fun r d' => r = some (vR (if Vd d 0 k then 9 + 21 * k.toNat else 0)) ∧ d = d') := (t_warAt hM hC).mono (by
  rintro _ _ (⟨hv, rfl, rfl⟩ | ⟨hv, rfl, rfl⟩)
  · rw [if_neg hv]; exact ⟨rfl, rfl⟩
  · rw [if_pos hv]; exact ⟨rfl, rfl⟩)
theorem t_scoreAtI {k : Int} (hM : MS d) (hC : CS d) : tB G mX11_scoreAt 0 [vR 1, vI k] [] d (fun r d' => r = some (vR (if Vd d 1 k then 19 + 21 * k.toNat else 0)) ∧ d = d') := (t_scoreAt hM hC).mono (by
  rintro _ _ (⟨hv, rfl, rfl⟩ | ⟨hv, rfl, rfl⟩)
  · rw [if_neg hv]; exact ⟨rfl, rfl⟩
  · rw [if_pos hv]; exact ⟨rfl, rfl⟩)
theorem t_hearingAtI {k : Int} (hM : MS d) (hC : CS d) : tB G mX11_hearingAt 0 [vR 1, vI k] [] d (fun r d' => r = some (vR (if Vd d 2 k then 22 + 21 * k.toNat else 0)) ∧ d = d') := (t_hearingAt hM hC).mono (by
  rintro _ _ (⟨hv, rfl, rfl⟩ | ⟨hv, rfl, rfl⟩)
  · rw [if_neg hv]; exact ⟨rfl, rfl⟩
  · rw [if_pos hv]; exact ⟨rfl, rfl⟩)
theorem t_C_meant {k l t n x : Int} (hM : MS d) (hC : CS d) : tB G mX11_meant 0 [vR 1, vI k, vI l, vI t, vI n, vI x, vU 0, vU 0, vU 0, vU 0, vU 0] [] d (cQ d (if Vph d k l t then qMeant (wvD d k.toNat) (gvD d l.toNat) (hvD d t.toNat) n x else -2)) := by
  have hc0 := hM.1 0 (by decide)
  have hc1 := hM.1 1 (by decide)
  have hc2 := hM.1 2 (by decide)
  have h21 : ∀ r6 r7 r8 : Nat, r6 = (if Vd d 0 k then 9 + 21 * k.toNat else 0) → r7 = (if Vd d 1 l then 19 + 21 * l.toNat else 0) → r8 = (if Vd d 2 t then 22 + 21 * t.toNat else 0) → tB G mX11_meant 21 [vR 1, vI k, vI l, vI t, vI n, vI x, vR r6, vR r7, vR r8, vU 0, vU 0] [] d (cQ d (if Vph d k l t then qMeant (wvD d k.toNat) (gvD d l.toNat) (hvD d t.toNat) n x else -2)) := by
    intro r6 r7 r8 e6 e7 e8
    have h50 : Vph d k l t → (0 ≤ n ∧ n ≤ 5) → tB G mX11_meant 50 [vR 1, vI k, vI l, vI t, vI n, vI x, vR r6, vR r7, vR r8, vU 0, vU 0] [] d (cQ d (if Vph d k l t then qMeant (wvD d k.toNat) (gvD d l.toNat) (hvD d t.toNat) n x else -2)) := by
      intro hv hn
      rw [if_pos hv.1.1] at e6
      rw [if_pos hv.1.2] at e7
      rw [if_pos hv.2] at e8
      subst e6; subst e7; subst e8
      have hw := (kn_w k.toNat (by omega)).1
      have hs := (kn_s l.toNat (by omega)).1
      have hh := (kn_h t.toNat (by omega)).1
      have hO := hC.2.1 k.toNat (by omega)
      have hS := hC.2.2.1 l.toNat (by omega)
      have hH := hC.2.2.2.1 t.toNat (by omega)
      have hV := hM.2.1 k.toNat (by omega)
      have hG := hM.2.2.1 l.toNat (by omega)
      have hHV := hM.2.2.2.1 t.toNat (by omega)
      rw [if_pos hv]
      have hat := at_W hw
      have hah := at_H hh
      generalize wvD d k.toNat = w at *
      generalize gvD d l.toNat = g at *
      generalize hvD d t.toNat = h at *
      obtain ⟨n, rfl⟩ : ∃ q : Nat, n = (q : Int) := ⟨n.toNat, by omega⟩
      have hp := pow4 n (by omega)
      have hwv := hV.1
      have hq : qMeant w g h n x = if x = 0 then cnN (okM w g h n) (4 ^ n) else fsN (okM w g h n) (4 ^ n) := by
        unfold qMeant qMe
        rw [if_neg (by omega), Int.toNat_natCast]
      rw [hq]
      have h65 : ∀ z : Nat × sD, (z.1 ≤ 4 ^ n ∧ (¬ x = 0 → fsN (okM w g h n) z.1 = -1) ∧ Hs z.2 78 0 (g 0) (fun k => g (2 + k)) ∧ Cf d z.2) → tB G mX11_meant 65 [vR 1, vI k, vI l, vI t, vI n, vI x, vR (9 + 21 * k.toNat), vR (19 + 21 * l.toNat), vR (22 + 21 * t.toNat), vI (cnN (okM w g h n) z.1), vI z.1] [] (z.2) (cQ d (if x = 0 then cnN (okM w g h n) (4 ^ n) else fsN (okM w g h n) (4 ^ n))) := by
        refine T_loop (α := Nat × sD) 65 (fun z => [vR 1, vI k, vI l, vI t, vI n, vI x, vR (9 + 21 * k.toNat), vR (19 + 21 * l.toNat), vR (22 + 21 * t.toNat), vI (cnN (okM w g h n) z.1), vI z.1]) (fun z => z.2) (fun z => z.1 ≤ 4 ^ n ∧ (¬ x = 0 → fsN (okM w g h n) z.1 = -1) ∧ Hs z.2 78 0 (g 0) (fun k => g (2 + k)) ∧ Cf d z.2) (fun z => 4 ^ n - z.1) ?_
        rintro ⟨c, b⟩ ⟨h1, h2, h3, h4⟩ ih
        try dsimp only at h1 h2 h3 h4 ih ⊢
        have hrg := cnN_rg (okM w g h n) c
        have hg0 := (hG 0 (by decide)).1
        have hOb := Wo_cf hw hO h4
        have hHb := Ho_cf hh hH h4
        have hGV : GV (mtG g n c) := GV_mt hG (by omega)
        refine T_iload dX11_meant_65 rfl ?_
        refine T_iconst dX11_meant_67 (by decide) ?_
        refine T_iconst dX11_meant_68 (by decide) ?_
        refine T_iload dX11_meant_69 rfl ?_
        refine T_mul dX11_meant_71 (by omega) ?_
        refine T_ishl dX11_meant_72 ?_
        refine T_top (y := ((4 ^ n : Nat) : Int)) (shl4 n (by omega)) ?_
        refine T_icmp_ge (tgt := 132) dX11_meant_73 (by decide) (fun c73 => ?_) (fun c73 => ?_)
        · refine T_iload dX11_meant_132 rfl ?_
          refine T_if_eq (tgt := 141) dX11_meant_134 (by decide) (fun c134 => ?_) (fun c134 => ?_)
          · refine T_iload dX11_meant_141 rfl ?_
            exact T_ireturn dX11_meant_143 rfl ⟨by rw [if_pos c134, show c = 4 ^ n by omega], h4⟩
          · refine T_iconst dX11_meant_137 (by decide) ?_
            refine T_goto (tgt := 143) dX11_meant_138 (by decide) ?_
            exact T_ireturn dX11_meant_143 rfl ⟨by rw [if_neg c134]; exact congrArg (fun z => some (vI z)) ((show c = 4 ^ n by omega) ▸ h2 c134).symm, h4⟩
        · refine T_aload_n dX11_meant_76 rfl ?_
          refine T_getR dX11_meant_77 fX11_34 rfl k1 r1_4 ?_
          refine T_iconst dX11_meant_80 (by decide) ?_
          refine T_iload dX11_meant_81 rfl ?_
          refine T_iload dX11_meant_83 rfl ?_
          refine T_callV dX11_meant_85 lX11_295 (As := [_, _, _]) (rest := _) rfl rfl k78 (by decide) (Nat.le_of_ble_eq_true rfl) (Nat.le_of_ble_eq_true rfl) (t_giveNumber (a := 1) k78 (by decide) (by omega) (by omega)) ?_
          rintro _ d1 ⟨rfl, e1, e2, f1⟩
          refine T_aload_n dX11_meant_88 rfl ?_
          refine T_getR dX11_meant_89 fX11_41 rfl k1 r1_5 ?_
          refine T_aload dX11_meant_92 rfl ?_
          refine T_getIv dX11_meant_94 fX11_169 rfl hw (x := ((w 0).toNat : Int)) (by rw [f1 _ _ (by omega), hOb.1.1]; omega) ?_
          refine T_aload_n dX11_meant_97 rfl ?_
          refine T_getR dX11_meant_98 fX11_34 rfl k1 r1_4 ?_
          refine T_callV dX11_meant_101 lX11_303 (As := [_, _]) (rest := _) rfl rfl k81 (by decide) (Nat.le_of_ble_eq_true rfl) (Nat.le_of_ble_eq_true rfl) (t_clay (w := w) (t := (w 0).toNat) (g := mtG g n c) k78 (So_sc (e2 0 _ _ (by decide) (by decide) (by omega) h3) e1 (by omega)) hGV (by omega) (by omega)) ?_
          rintro _ d2 ⟨rfl, e3, f2⟩
          refine T_aload_n dX11_meant_104 rfl ?_
          refine T_aload dX11_meant_105 rfl ?_
          refine T_aload dX11_meant_107 rfl ?_
          refine T_callV dX11_meant_109 lX11_332 (As := [_, _]) (rest := _) rfl rfl k1 (by decide) (Nat.le_of_ble_eq_true rfl) (Nat.le_of_ble_eq_true rfl) (t_soundsAsTold (t := rB w (mtG g n c)) hw hh (Wo_fr (Wo_fr hOb f1 (by omega)) f2 (by omega)) hV (Ho_fr (Ho_fr hHb f1 (by omega)) f2 (by omega)) hHV e3.1 (rowS_24 hV hGV) (fun i hi => ⟨(e3.2 i hi).2.2, rB_rg hGV i⟩)) ?_
          rintro _ d3 ⟨rfl, f3⟩
          have hcf : Cf d d3 := ((h4.trans (f1.cf (by omega))).trans (f2.cf (by omega))).trans f3.cf
          have hH3 : Hs d3 78 0 (g 0) (fun k => g (2 + k)) := Hs_lf (Hs_fr (e2 0 _ _ (by decide) (by decide) (by omega) h3) f2 (by omega)) f3
          refine T_if_eq (tgt := 126) dX11_meant_112 (by decide) (fun c112 => ?_) (fun c112 => ?_)
          · have h112 := bI_0 c112
            refine T_inc dX11_meant_126 rfl (by decide) rfl (by omega) ?_
            refine T_goto (tgt := 65) dX11_meant_129 (by decide) ?_
            refine T_leq (ls' := [vR 1, vI k, vI l, vI t, vI n, vI x, vR (9 + 21 * k.toNat), vR (19 + 21 * l.toNat), vR (22 + 21 * t.toNat), vI (cnN (okM w g h n) (c + 1)), vI ((c + 1 : Nat) : Int)]) (by rw [cnN_f (f := okM w g h n) (k := c) h112]; rfl) ?_
            exact ih (c + 1, d3) ⟨by dsimp only; omega, fun q => by dsimp only; rw [fsN_no (f := okM w g h n) (c := c) h112]; exact h2 q, hH3, hcf⟩ (by dsimp only; omega)
          · have h112 := bI_1 c112
            refine T_iload dX11_meant_115 rfl ?_
            refine T_if_eq (tgt := 123) dX11_meant_117 (by decide) (fun c117 => ?_) (fun c117 => ?_)
            · refine T_inc dX11_meant_123 rfl (by decide) rfl (by omega) ?_
              refine T_inc dX11_meant_126 rfl (by decide) rfl (by omega) ?_
              refine T_goto (tgt := 65) dX11_meant_129 (by decide) ?_
              refine T_leq (ls' := [vR 1, vI k, vI l, vI t, vI n, vI x, vR (9 + 21 * k.toNat), vR (19 + 21 * l.toNat), vR (22 + 21 * t.toNat), vI (cnN (okM w g h n) (c + 1)), vI ((c + 1 : Nat) : Int)]) (by rw [cnN_t (f := okM w g h n) (k := c) h112]; rfl) ?_
              exact ih (c + 1, d3) ⟨by dsimp only; omega, fun q => absurd c117 q, hH3, hcf⟩ (by dsimp only; omega)
            · refine T_iload dX11_meant_120 rfl ?_
              exact T_ireturn dX11_meant_122 rfl ⟨by rw [if_neg c117, fsN_hit (f := okM w g h n) (c := c) (N := 4 ^ n) h112 (h2 c117) (by omega)], hcf⟩
      refine T_aload_n dX11_meant_50 rfl ?_
      refine T_getR dX11_meant_51 fX11_34 rfl k1 r1_4 ?_
      refine T_aload dX11_meant_54 rfl ?_
      refine T_callV dX11_meant_56 lX11_137 (As := [_]) (rest := _) rfl rfl k78 (by decide) (Nat.le_of_ble_eq_true rfl) (Nat.le_of_ble_eq_true rfl) (t_scopy k78 hs (by have := at_S hs; omega)) ?_
      rintro _ d1 ⟨rfl, e1, e2, f1⟩
      have hS1 := So_copy (so := 78) hS hG e1 e2
      refine T_iconst dX11_meant_59 (by decide) ?_
      refine T_ist dX11_meant_60 (by decide) rfl ?_
      refine T_iconst dX11_meant_62 (by decide) ?_
      refine T_ist dX11_meant_63 (by decide) rfl ?_
      exact h65 (0, d1) ⟨Nat.zero_le _, fun _ => rfl, So_Hs hS1 (a := 0) (by decide), f1.cf (by omega)⟩
    refine T_aload dX11_meant_21 rfl ?_
    refine T_ifnull (tgt := 47) dX11_meant_23 (by decide) (fun c23 => ?_) (fun c23 => ?_)
    · refine T_bipush dX11_meant_47 (by decide) ?_
      exact T_ireturn dX11_meant_49 rfl ⟨by rw [if_neg (fun q : Vph d k l t => by rw [if_pos q.1.1] at e6; omega)], Cf.rf⟩
    · refine T_aload dX11_meant_26 rfl ?_
      refine T_ifnull (tgt := 47) dX11_meant_28 (by decide) (fun c28 => ?_) (fun c28 => ?_)
      · refine T_bipush dX11_meant_47 (by decide) ?_
        exact T_ireturn dX11_meant_49 rfl ⟨by rw [if_neg (fun q : Vph d k l t => by rw [if_pos q.1.2] at e7; omega)], Cf.rf⟩
      · refine T_aload dX11_meant_31 rfl ?_
        refine T_ifnull (tgt := 47) dX11_meant_33 (by decide) (fun c33 => ?_) (fun c33 => ?_)
        · refine T_bipush dX11_meant_47 (by decide) ?_
          exact T_ireturn dX11_meant_49 rfl ⟨by rw [if_neg (fun q : Vph d k l t => by rw [if_pos q.2] at e8; omega)], Cf.rf⟩
        · refine T_iload dX11_meant_36 rfl ?_
          refine T_if_lt (tgt := 47) dX11_meant_38 (by decide) (fun c38 => ?_) (fun c38 => ?_)
          · refine T_bipush dX11_meant_47 (by decide) ?_
            exact T_ireturn dX11_meant_49 rfl ⟨by unfold qMeant; rw [if_pos (show ¬ (0 ≤ n ∧ n ≤ 5) by omega), ite_self], Cf.rf⟩
          · refine T_iload dX11_meant_41 rfl ?_
            refine T_iconst dX11_meant_43 (by decide) ?_
            refine T_icmp_le (tgt := 50) dX11_meant_44 (by decide) (fun c44 => ?_) (fun c44 => ?_)
            · exact h50 ⟨⟨if0 e6 c23, if0 e7 c28⟩, if0 e8 c33⟩ (by omega)
            · refine T_bipush dX11_meant_47 (by decide) ?_
              exact T_ireturn dX11_meant_49 rfl ⟨by unfold qMeant; rw [if_pos (show ¬ (0 ≤ n ∧ n ≤ 5) by omega), ite_self], Cf.rf⟩
  refine T_aload_n dX11_meant_0 rfl ?_
  refine T_iload_n dX11_meant_1 rfl ?_
  refine T_callV dX11_meant_2 lX11_165 (As := [_]) (rest := _) rfl rfl k1 (by decide) (Nat.le_of_ble_eq_true rfl) (Nat.le_of_ble_eq_true rfl) (t_warAtI hM hC) ?_
  rintro _ _ ⟨rfl, rfl⟩
  refine T_ast dX11_meant_5 (by decide) rfl ?_
  refine T_aload_n dX11_meant_7 rfl ?_
  refine T_iload_n dX11_meant_8 rfl ?_
  refine T_callV dX11_meant_9 lX11_219 (As := [_]) (rest := _) rfl rfl k1 (by decide) (Nat.le_of_ble_eq_true rfl) (Nat.le_of_ble_eq_true rfl) (t_scoreAtI hM hC) ?_
  rintro _ _ ⟨rfl, rfl⟩
  refine T_ast dX11_meant_12 (by decide) rfl ?_
  refine T_aload_n dX11_meant_14 rfl ?_
  refine T_iload_n dX11_meant_15 rfl ?_
  refine T_callV dX11_meant_16 lX11_310 (As := [_]) (rest := _) rfl rfl k1 (by decide) (Nat.le_of_ble_eq_true rfl) (Nat.le_of_ble_eq_true rfl) (t_hearingAtI hM hC) ?_
  rintro _ _ ⟨rfl, rfl⟩
  refine T_ast dX11_meant_19 (by decide) rfl ?_
  exact h21 _ _ _ rfl rfl rfl

theorem pk0 : ∀ n : Nat, n < 6 → ∀ p : Nat, p < 32 → ∀ q : Nat, q < 32 → (i_and (i_or (i_shl (n : Int) 10) ((32 * p + q : Nat) : Int)) 1023 = ((32 * p + q : Nat) : Int) ∧ i_shr (i_or (i_shl (n : Int) 10) ((32 * p + q : Nat) : Int)) 10 = (n : Int)) ∧ ¬ i_or (i_shl (n : Int) 10) ((32 * p + q : Nat) : Int) = -1 := by decide +kernel
theorem pk {n c : Nat} (hn : n < 6) (hc : c < 1024) : (i_and (i_or (i_shl (n : Int) 10) (c : Int)) 1023 = (c : Int) ∧ i_shr (i_or (i_shl (n : Int) 10) (c : Int)) 10 = (n : Int)) ∧ ¬ i_or (i_shl (n : Int) 10) (c : Int) = -1 := by
  have := pk0 n hn (c / 32) (by omega) (c % 32) (by omega)
  rw [show 32 * (c / 32) + c % 32 = c by omega] at this
  exact this
theorem fstN_rg {f : Nat → Prop} [DecidablePred f] : ∀ n k : Nat, fstN f n k = -1 ∨ ∃ c : Nat, fstN f n k = (c : Int) ∧ k ≤ c ∧ c < k + n
  | 0, _ => Or.inl rfl
  | n + 1, k => by
    show (if f k then (k : Int) else fstN f n (k + 1)) = -1 ∨ ∃ c : Nat, (if f k then (k : Int) else fstN f n (k + 1)) = (c : Int) ∧ _
    by_cases q : f k
    · rw [if_pos q]; exact Or.inr ⟨k, rfl, Nat.le_refl _, by omega⟩
    · rw [if_neg q]
      rcases fstN_rg n (k + 1) (f := f) with z | ⟨c, z, z1, z2⟩
      · exact Or.inl z
      · exact Or.inr ⟨c, z, by omega, by omega⟩
theorem trL_rg {m0 m1 : Int} : ∀ f n : Nat, f + n = 6 → trL w m0 m1 f n = (-1, -1) ∨ ∃ p c : Nat, trL w m0 m1 f n = ((p : Int), (c : Int)) ∧ p < 6 ∧ c < 1024
  | 0, _, _ => Or.inl rfl
  | f + 1, n, h => by
    show (if fstN (okT w m0 m1 n) (4 ^ n) 0 = -1 then trL w m0 m1 f (n + 1) else ((n : Int), fstN (okT w m0 m1 n) (4 ^ n) 0)) = _ ∨ ∃ p c : Nat, (if fstN (okT w m0 m1 n) (4 ^ n) 0 = -1 then trL w m0 m1 f (n + 1) else ((n : Int), fstN (okT w m0 m1 n) (4 ^ n) 0)) = _ ∧ _
    by_cases q : fstN (okT w m0 m1 n) (4 ^ n) 0 = -1
    · rw [if_pos q]; exact trL_rg f (n + 1) (by omega)
    · rw [if_neg q]
      have hp := pow4 n (by omega)
      rcases fstN_rg (f := okT w m0 m1 n) (4 ^ n) 0 with z | ⟨c, z, z1, z2⟩
      · exact absurd z q
      · exact Or.inr ⟨n, c, by rw [z], by omega, by omega⟩
def trP (w : Nat → Int) (m0 m1 : Int) : Int := if (trL w m0 m1 6 0).1 = -1 then -1 else i_or (i_shl (trL w m0 m1 6 0).1 10) (trL w m0 m1 6 0).2
theorem t_shortestTruce {m0 m1 : Int} (hw : kn S0 wo = 10) (hO : Wo d wo w) (hV : WV w) : tB G mX11_shortestTruce 0 [vR 1, vR wo, vI m0, vI m1, vU 0, vU 0] [] d (fun r d' => r = some (vI (trP w m0 m1)) ∧ Cf d d') := by
  have hat := at_W hw
  have hwv := hV.1
  have h13 : ∀ z : Nat × sD, (z.1 ≤ 6 ∧ trL w m0 m1 (6 - z.1) z.1 = trL w m0 m1 6 0 ∧ Hs z.2 78 1 0 (fun _ => 0) ∧ Cf d z.2) → tB G mX11_shortestTruce 13 [vR 1, vR wo, vI m0, vI m1, vI z.1, vU 0] [] (z.2) (fun r d' => r = some (vI (trP w m0 m1)) ∧ Cf d d') := by
    refine T_loop (α := Nat × sD) 13 (fun z => [vR 1, vR wo, vI m0, vI m1, vI z.1, vU 0]) (fun z => z.2) (fun z => z.1 ≤ 6 ∧ trL w m0 m1 (6 - z.1) z.1 = trL w m0 m1 6 0 ∧ Hs z.2 78 1 0 (fun _ => 0) ∧ Cf d z.2) (fun z => 6 - z.1) ?_
    rintro ⟨n, b⟩ ⟨h1, h2, h3, h4⟩ ih
    try dsimp only at h1 h2 h3 h4 ih ⊢
    have h22 : n ≤ 5 → ∀ z : Nat × sD, (z.1 ≤ 4 ^ n ∧ fstN (okT w m0 m1 n) (4 ^ n - z.1) z.1 = fstN (okT w m0 m1 n) (4 ^ n) 0 ∧ Hs z.2 78 1 0 (fun _ => 0) ∧ Cf d z.2) → tB G mX11_shortestTruce 22 [vR 1, vR wo, vI m0, vI m1, vI n, vI z.1] [] z.2 (fun r d' => r = some (vI (trP w m0 m1)) ∧ Cf d d') := by
      intro hn
      have hp := pow4 n (by omega)
      have h2s : trL w m0 m1 6 0 = if fstN (okT w m0 m1 n) (4 ^ n) 0 = -1 then trL w m0 m1 (6 - (n + 1)) (n + 1) else ((n : Int), fstN (okT w m0 m1 n) (4 ^ n) 0) := by
        rw [← h2, show 6 - n = (6 - (n + 1)) + 1 by omega]; rfl
      refine T_loop (α := Nat × sD) 22 (fun z => [vR 1, vR wo, vI m0, vI m1, vI n, vI z.1]) (fun z => z.2) (fun z => z.1 ≤ 4 ^ n ∧ fstN (okT w m0 m1 n) (4 ^ n - z.1) z.1 = fstN (okT w m0 m1 n) (4 ^ n) 0 ∧ Hs z.2 78 1 0 (fun _ => 0) ∧ Cf d z.2) (fun z => 4 ^ n - z.1) ?_
      rintro ⟨c, b2⟩ ⟨g1, g2, g3, g4⟩ ih2
      try dsimp only at g1 g2 g3 g4 ih2 ⊢
      have hOb := Wo_cf hw hO g4
      have hGV : GV (trG n c) := GV_tr (by omega)
      have h89 : ∀ b3, ¬ okT w m0 m1 n c → c < 4 ^ n → Hs b3 78 1 0 (fun _ => 0) → Cf d b3 → tB G mX11_shortestTruce 89 [vR 1, vR wo, vI m0, vI m1, vI n, vI c] [] b3 (fun r d' => r = some (vI (trP w m0 m1)) ∧ Cf d d') := by
        intro b3 hno hc q3 q4
        refine T_inc dX11_shortestTruce_89 rfl (by decide) rfl (by omega) ?_
        refine T_goto (tgt := 22) dX11_shortestTruce_92 (by decide) ?_
        exact ih2 (c + 1, b3) ⟨by dsimp only; omega, by dsimp only; rw [← g2, fstN_f hno (by omega), show 4 ^ n - (c + 1) = 4 ^ n - c - 1 by omega], q3, q4⟩ (by dsimp only; omega)
      refine T_iload dX11_shortestTruce_22 rfl ?_
      refine T_iconst dX11_shortestTruce_24 (by decide) ?_
      refine T_iconst dX11_shortestTruce_25 (by decide) ?_
      refine T_iload dX11_shortestTruce_26 rfl ?_
      refine T_mul dX11_shortestTruce_28 (by omega) ?_
      refine T_ishl dX11_shortestTruce_29 ?_
      refine T_top (y := ((4 ^ n : Nat) : Int)) (shl4 n (by omega)) ?_
      refine T_icmp_ge (tgt := 95) dX11_shortestTruce_30 (by decide) (fun c30 => ?_) (fun c30 => ?_)
      · refine T_inc dX11_shortestTruce_95 rfl (by decide) rfl (by omega) ?_
        refine T_goto (tgt := 13) dX11_shortestTruce_98 (by decide) ?_
        refine T_drop 5 ?_
        exact ih (n + 1, b2) ⟨by dsimp only; omega, by dsimp only; rw [h2s, if_pos (by rw [← g2, show 4 ^ n - c = 0 by omega]; rfl)], g3, g4⟩ (by dsimp only; omega)
      · refine T_aload_n dX11_shortestTruce_33 rfl ?_
        refine T_getR dX11_shortestTruce_34 fX11_34 rfl k1 r1_4 ?_
        refine T_iconst dX11_shortestTruce_37 (by decide) ?_
        refine T_iload dX11_shortestTruce_38 rfl ?_
        refine T_iload dX11_shortestTruce_40 rfl ?_
        refine T_callV dX11_shortestTruce_42 lX11_295 (As := [_, _, _]) (rest := _) rfl rfl k78 (by decide) (Nat.le_of_ble_eq_true rfl) (Nat.le_of_ble_eq_true rfl) (t_giveNumber (a := 0) k78 (by decide) (by omega) (by omega)) ?_
        rintro _ d1 ⟨rfl, e1, e2, f1⟩
        refine T_aload_n dX11_shortestTruce_45 rfl ?_
        refine T_getR dX11_shortestTruce_46 fX11_41 rfl k1 r1_5 ?_
        refine T_aload_n dX11_shortestTruce_49 rfl ?_
        refine T_getIv dX11_shortestTruce_50 fX11_169 rfl hw (x := ((w 0).toNat : Int)) (by rw [f1 _ _ (by omega), hOb.1.1]; omega) ?_
        refine T_aload_n dX11_shortestTruce_53 rfl ?_
        refine T_getR dX11_shortestTruce_54 fX11_34 rfl k1 r1_4 ?_
        refine T_callV dX11_shortestTruce_57 lX11_303 (As := [_, _]) (rest := _) rfl rfl k81 (by decide) (Nat.le_of_ble_eq_true rfl) (Nat.le_of_ble_eq_true rfl) (t_clay (w := w) (t := (w 0).toNat) (g := trG n c) k78 (So_sc e1 (e2 1 _ _ (by decide) (by decide) (by omega) g3) (by omega)) hGV (by omega) (by omega)) ?_
        rintro _ d2 ⟨rfl, e3, f2⟩
        refine T_aload_n dX11_shortestTruce_60 rfl ?_
        refine T_aload_n dX11_shortestTruce_61 rfl ?_
        refine T_iconst dX11_shortestTruce_62 (by decide) ?_
        refine T_iload_n dX11_shortestTruce_63 rfl ?_
        refine T_callV dX11_shortestTruce_64 lX11_307 (As := [_, _, _]) (rest := _) rfl rfl k1 (by decide) (Nat.le_of_ble_eq_true rfl) (Nat.le_of_ble_eq_true rfl) (t_letsMake (a := 0) (t := rB w (trG n c)) hw (Wo_fr (Wo_fr hOb f1 (by omega)) f2 (by omega)) hV e3.1 (rowS_24 hV hGV) (fun i hi => ⟨(e3.2 i hi).2.2, rB_rg hGV i⟩) (by decide)) ?_
        rintro _ d3 ⟨rfl, f3⟩
        rw [md_lets]
        have hcf : Cf d d3 := ((g4.trans (f1.cf (by omega))).trans (f2.cf (by omega))).trans f3.cf
        have e4 := Dl_lf e3 f3
        have hH3 : Hs d3 78 1 0 (fun _ => 0) := Hs_lf (Hs_fr (e2 1 _ _ (by decide) (by decide) (by omega) g3) f2 (by omega)) f3
        have h01 := mdS_01 w (trG n c) 0 m0
        refine T_if_eq (tgt := 89) dX11_shortestTruce_67 (by decide) (fun c67 => ?_) (fun c67 => ?_)
        · exact h89 d3 (fun q => by have := q.1; omega) (by omega) hH3 hcf
        · refine T_aload_n dX11_shortestTruce_70 rfl ?_
          refine T_aload_n dX11_shortestTruce_71 rfl ?_
          refine T_iconst dX11_shortestTruce_72 (by decide) ?_
          refine T_iload_n dX11_shortestTruce_73 rfl ?_
          refine T_callV dX11_shortestTruce_74 lX11_307 (As := [_, _, _]) (rest := _) rfl rfl k1 (by decide) (Nat.le_of_ble_eq_true rfl) (Nat.le_of_ble_eq_true rfl) (t_letsMake (a := 1) (t := rB w (trG n c)) hw (Wo_eq (Wo_fr (Wo_fr hOb f1 (by omega)) f2 (by omega)) (fun x j hx => f3 _ _ (by omega))) hV e4.1 (rowS_24 hV hGV) (fun i hi => ⟨(e4.2 i hi).2.2, rB_rg hGV i⟩) (by decide)) ?_
          rintro _ d4 ⟨rfl, f4⟩
          rw [md_lets]
          have h02 := mdS_01 w (trG n c) 1 m1
          have hcf4 : Cf d d4 := hcf.trans f4.cf
          refine T_if_eq (tgt := 89) dX11_shortestTruce_77 (by decide) (fun c77 => ?_) (fun c77 => ?_)
          · exact h89 d4 (fun q => by have := q.2; omega) (by omega) (Hs_lf hH3 f4) hcf4
          · refine T_iload dX11_shortestTruce_80 rfl ?_
            refine T_bipush dX11_shortestTruce_82 (by decide) ?_
            refine T_ishl dX11_shortestTruce_84 ?_
            refine T_iload dX11_shortestTruce_85 rfl ?_
            refine T_ior dX11_shortestTruce_87 ?_
            exact T_ireturn dX11_shortestTruce_88 rfl ⟨by unfold trP; rw [h2s, ← g2, fstN_t (show okT w m0 m1 n c from ⟨by omega, by omega⟩) (by omega), if_neg (show ¬ (c : Int) = -1 by omega), if_neg (show ¬ (n : Int) = -1 by omega)], hcf4⟩
    refine T_iload dX11_shortestTruce_13 rfl ?_
    refine T_iconst dX11_shortestTruce_15 (by decide) ?_
    refine T_icmp_gt (tgt := 101) dX11_shortestTruce_16 (by decide) (fun c16 => ?_) (fun c16 => ?_)
    · refine T_iconst dX11_shortestTruce_101 (by decide) ?_
      exact T_ireturn dX11_shortestTruce_102 rfl ⟨by rw [show n = 6 by omega] at h2; unfold trP; rw [← h2]; rfl, h4⟩
    · refine T_iconst dX11_shortestTruce_19 (by decide) ?_
      refine T_ist dX11_shortestTruce_20 (by decide) rfl ?_
      exact h22 (by omega) (0, b) ⟨Nat.zero_le _, rfl, h3, h4⟩
  refine T_aload_n dX11_shortestTruce_0 rfl ?_
  refine T_getR dX11_shortestTruce_1 fX11_34 rfl k1 r1_4 ?_
  refine T_iconst dX11_shortestTruce_4 (by decide) ?_
  refine T_iconst dX11_shortestTruce_5 (by decide) ?_
  refine T_iconst dX11_shortestTruce_6 (by decide) ?_
  refine T_callV dX11_shortestTruce_7 lX11_295 (As := [_, _, _]) (rest := _) rfl rfl k78 (by decide) (Nat.le_of_ble_eq_true rfl) (Nat.le_of_ble_eq_true rfl) (t_giveNumber (a := 1) (c := 0) (n := 0) k78 (by decide) (by omega) (by decide)) ?_
  rintro _ d1 ⟨rfl, e1, e2, f1⟩
  refine T_iconst dX11_shortestTruce_10 (by decide) ?_
  refine T_ist dX11_shortestTruce_11 (by decide) rfl ?_
  exact h13 (0, d1) ⟨Nat.zero_le _, rfl, ⟨e1.1, fun i hi => absurd hi (by omega)⟩, f1.cf (by omega)⟩

theorem t_C_truce {k m0 m1 x : Int} (hM : MS d) (hC : CS d) : tB G mX11_truce 0 [vR 1, vI k, vI m0, vI m1, vI x, vU 0, vU 0] [] d (cQ d (if Vd d 0 k then qTruce (wvD d k.toNat) m0 m1 x else -1)) := by
  have hc0 := hM.1 0 (by decide)
  refine T_aload_n dX11_truce_0 rfl ?_
  refine T_iload_n dX11_truce_1 rfl ?_
  refine T_callV dX11_truce_2 lX11_165 (As := [_]) (rest := _) rfl rfl k1 (by decide) (Nat.le_of_ble_eq_true rfl) (Nat.le_of_ble_eq_true rfl) (t_warAt hM hC) ?_
  rintro _ _ (⟨hv, rfl, rfl⟩ | ⟨hv, rfl, rfl⟩)
  ·
    refine T_ast dX11_truce_5 (by decide) rfl ?_
    refine T_aload dX11_truce_7 rfl ?_
    refine T_ifnull (tgt := 26) dX11_truce_9 (by decide) (fun c9 => ?_) (fun c9 => absurd rfl c9)
    refine T_iconst dX11_truce_26 (by decide) ?_
    exact T_ireturn dX11_truce_27 rfl ⟨by rw [if_neg hv], Cf.rf⟩
  · have hw := (kn_w k.toNat (by omega)).1
    have hO := hC.2.1 k.toNat (by omega)
    have hV := hM.2.1 k.toNat (by omega)
    rw [if_pos hv]
    generalize wvD d k.toNat = w at *
    refine T_ast dX11_truce_5 (by decide) rfl ?_
    refine T_aload dX11_truce_7 rfl ?_
    refine T_ifnull (tgt := 26) dX11_truce_9 (by decide) (fun c9 => absurd c9 (by omega)) (fun c9 => ?_)
    refine T_iload_n dX11_truce_12 rfl ?_
    refine T_callS dX11_truce_13 lX11_292 (As := [_]) (rest := _) rfl rfl (by decide) (Nat.le_of_ble_eq_true rfl) (Nat.le_of_ble_eq_true rfl) t_isMv ?_
    rintro _ _ ⟨rfl, rfl⟩
    refine T_if_eq (tgt := 26) dX11_truce_16 (by decide) (fun c16 => ?_) (fun c16 => ?_)
    · have h16 := bI_0 c16
      refine T_iconst dX11_truce_26 (by decide) ?_
      exact T_ireturn dX11_truce_27 rfl ⟨by unfold qTruce; rw [if_pos h16], Cf.rf⟩
    · have h16 := bI_1 c16
      refine T_iload_n dX11_truce_19 rfl ?_
      refine T_callS dX11_truce_20 lX11_292 (As := [_]) (rest := _) rfl rfl (by decide) (Nat.le_of_ble_eq_true rfl) (Nat.le_of_ble_eq_true rfl) t_isMv ?_
      rintro _ _ ⟨rfl, rfl⟩
      refine T_if_ne (tgt := 28) dX11_truce_23 (by decide) (fun c23 => ?_) (fun c23 => ?_)
      · have h23 := bI_1 c23
        refine T_aload_n dX11_truce_28 rfl ?_
        refine T_aload dX11_truce_29 rfl ?_
        refine T_iload_n dX11_truce_31 rfl ?_
        refine T_iload_n dX11_truce_32 rfl ?_
        refine T_callV dX11_truce_33 lX11_336 (As := [_, _, _]) (rest := _) rfl rfl k1 (by decide) (Nat.le_of_ble_eq_true rfl) (Nat.le_of_ble_eq_true rfl) (t_shortestTruce hw hO hV) ?_
        rintro _ d1 ⟨rfl, f1⟩
        have hq : qTruce w m0 m1 x = qTr w m0 m1 x := by unfold qTruce; rw [if_neg (by omega), if_neg (by omega)]
        rw [hq]
        rcases trL_rg (w := w) (m0 := m0) (m1 := m1) 6 0 rfl with z | ⟨p, c, z, hp6, hc⟩
        · have e1 : trP w m0 m1 = -1 := by unfold trP; rw [z]; rfl
          have e2 : qTr w m0 m1 x = -1 := by unfold qTr; rw [z]; exact ite_self _
          rw [e2]
          refine T_top e1 ?_
          refine T_ist dX11_truce_36 (by decide) rfl ?_
          refine T_iload dX11_truce_38 rfl ?_
          refine T_iconst dX11_truce_40 (by decide) ?_
          refine T_icmp_ne (tgt := 46) dX11_truce_41 (by decide) (fun c41 => absurd rfl c41) (fun c41 => ?_)
          refine T_iconst dX11_truce_44 (by decide) ?_
          exact T_ireturn dX11_truce_45 rfl ⟨rfl, f1⟩
        · have e1 : trP w m0 m1 = i_or (i_shl (p : Int) 10) (c : Int) := by unfold trP; rw [z, if_neg (show ¬ (p : Int) = -1 by omega)]
          have e2 : qTr w m0 m1 x = if x = 0 then (p : Int) else (c : Int) := by unfold qTr; rw [z]
          obtain ⟨⟨b1, b2⟩, b3⟩ := pk hp6 hc
          rw [e2]
          refine T_top e1 ?_
          refine T_ist dX11_truce_36 (by decide) rfl ?_
          refine T_iload dX11_truce_38 rfl ?_
          refine T_iconst dX11_truce_40 (by decide) ?_
          refine T_icmp_ne (tgt := 46) dX11_truce_41 (by decide) (fun c41 => ?_) (fun c41 => absurd c41 b3)
          refine T_iload dX11_truce_46 rfl ?_
          refine T_if_eq (tgt := 60) dX11_truce_48 (by decide) (fun c48 => ?_) (fun c48 => ?_)
          · refine T_iload dX11_truce_60 rfl ?_
            refine T_bipush dX11_truce_62 (by decide) ?_
            refine T_ishr dX11_truce_64 ?_
            exact T_ireturn dX11_truce_65 rfl ⟨by rw [b2, if_pos c48], f1⟩
          · refine T_iload dX11_truce_51 rfl ?_
            refine T_sipush dX11_truce_53 (by decide) ?_
            refine T_iand dX11_truce_56 ?_
            refine T_goto (tgt := 65) dX11_truce_57 (by decide) ?_
            exact T_ireturn dX11_truce_65 rfl ⟨by rw [b1, if_neg c48], f1⟩
      · have h23 := bI_0 c23
        refine T_iconst dX11_truce_26 (by decide) ?_
        exact T_ireturn dX11_truce_27 rfl ⟨by unfold qTruce; rw [if_neg (by omega), if_pos h23], Cf.rf⟩

end C12
