/-! the class: a tape is scanned -/
section C62
variable {G : sG} {d d' d0 e : sD} {T U : Nat → Int} {n p q : Nat}
theorem c_scan (h : TpC d n T) : tB G mX5_scan 0 [vR 53, vR 3, vI n, vU 0, vU 0] [] d (fun r d' => r = none ∧ (∃ N, SCk d' T n (bgT T n 0) N) ∧ (∀ b j, b ≠ 53 → ¬ (75 ≤ b ∧ b ≤ 77) → d' b j = d b j) ∧ ∀ j, j ≠ 9 → d' 53 j = d 53 j) := by
  have hT := h.1
  have hn := hT.1
  have h7 : ∀ z : Nat × Nat × sD, (SI d z.2.2 T n z.1 z.2.1) → tB G mX5_scan 7 [vR 53, vR 3, vI n, vI z.1, vU 0] [] z.2.2 (fun r d' => r = none ∧ (∃ N, SCk d' T n (bgT T n 0) N) ∧ (∀ b j, b ≠ 53 → ¬ (75 ≤ b ∧ b ≤ 77) → d' b j = d b j) ∧ ∀ j, j ≠ 9 → d' 53 j = d 53 j) := by
    refine T_loop (α := Nat × Nat × sD) 7 (fun z => [vR 53, vR 3, vI n, vI z.1, vU 0]) (fun z => z.2.2) (fun z => SI d z.2.2 T n z.1 z.2.1) (fun z => n + 1 - z.1) ?_
    rintro ⟨f, N, e⟩ hS ih
    try dsimp only at hS ih ⊢
    obtain ⟨⟨hfn, hNf⟩, h9, -⟩ := id hS
    have hTe : TpC e n T := TpC_eq h (fun i => hS.2.2.2.2.1 3 i (by decide) (by decide))
    have h138 : ∀ (to f2 N2 : Nat) (e1 : sD), max (f + 1) to = f2 → SI d e1 T n f2 N2 → tB G mX5_scan 138 [vR 53, vR 3, vI n, vI f, vI to] [] e1 (fun r d' => r = none ∧ (∃ N, SCk d' T n (bgT T n 0) N) ∧ (∀ b j, b ≠ 53 → ¬ (75 ≤ b ∧ b ≤ 77) → d' b j = d b j) ∧ ∀ j, j ≠ 9 → d' 53 j = d 53 j) := by
      intro to f2 N2 e1 hm hS2
      have hf2 := hS2.1.1
      refine T_iload_n dX5_scan_138 rfl ?_
      refine T_iconst dX5_scan_139 (by decide) ?_
      refine T_add dX5_scan_140 (by omega) ?_
      refine T_iload dX5_scan_141 rfl ?_
      refine T_max dX5_scan_143 lX5_247 (by decide) (Nat.le_of_ble_eq_true rfl) ?_
      refine T_ist_n dX5_scan_146 (by decide) rfl ?_
      refine T_goto (tgt := 7) dX5_scan_147 (by decide) ?_
      rw [show max ((f : Int) + 1) (to : Int) = (f2 : Int) by omega]
      exact T_drop 4 (ih (f2, N2, e1) hS2 (by (try dsimp only); omega))
    have hfin : n ≤ f → (fun r d' => r = none ∧ (∃ N, SCk d' T n (bgT T n 0) N) ∧ (∀ b j, b ≠ 53 → ¬ (75 ≤ b ∧ b ≤ 77) → d' b j = d b j) ∧ ∀ j, j ≠ 9 → d' 53 j = d 53 j) (none : Option sV) (ktD e N 0 (n : Int) (-1)) := by
      intro hf
      have hfn2 : f = n := by omega
      obtain ⟨s1, s2, s3, s4, s5, s6⟩ := hS
      have en : tkI T n N (bgT T n 0) = n := by
        rw [s3, hfn2]; unfold bgT; rw [Nat.sub_self]; rfl
      have kn0 : kdT T n n = 0 := (hT.k0 (Nat.le_refl _)).mpr rfl
      refine ⟨rfl, ⟨N + 1, ⟨by omega, by omega, (bgT_rg (T := T) (Nat.zero_le n)).2⟩, ?_, fun j hj => kt_at s4 (by rw [en]) (by rw [en]; exact Or.inl ⟨kn0, rfl⟩) hj, by rw [Nat.add_sub_cancel, en]; exact kn0⟩, fun b j hb hb2 => ?_, fun j hj => ?_⟩
      · unfold ktD; rw [up_same]; omega
      · unfold ktD; rw [up_nea hb, up_nea (by omega), up_nea (by omega), up_nea (by omega)]; exact s5 b j hb hb2
      · unfold ktD; rw [up_nej hj, up_nea (by decide), up_nea (by decide), up_nea (by decide)]; exact s6 j hj
    have hg : f < n → 0 ≤ T f := fun hf => (hT.2.1 f hf).1
    refine T_iload_n dX5_scan_7 rfl ?_
    refine T_iload_n dX5_scan_8 rfl ?_
    refine T_icmp_ge (tgt := 150) dX5_scan_9 (by decide) (fun c9 => ?_) (fun c9 => ?_)
    · refine T_aload_n dX5_scan_150 rfl ?_
      refine T_iconst dX5_scan_151 (by decide) ?_
      refine T_iload_n dX5_scan_152 rfl ?_
      refine T_iconst dX5_scan_153 (by decide) ?_
      refine T_callV dX5_scan_154 lX5_234 (As := [_, _, _]) (rest := _) rfl rfl k53 (by decide) (Nat.le_of_ble_eq_true rfl) (Nat.le_of_ble_eq_true rfl) (c_keepToken (N := N) (by omega) h9) ?_
      rintro _ _ ⟨rfl, rfl⟩
      exact T_return dX5_scan_157 rfl (hfin (by omega))
    · refine T_iload_n dX5_scan_12 rfl ?_
      refine T_iconst dX5_scan_13 (by decide) ?_
      refine T_add dX5_scan_14 (by omega) ?_
      refine T_ist dX5_scan_15 (by decide) rfl ?_
      refine T_aload_n dX5_scan_17 rfl ?_
      refine T_iload_n dX5_scan_18 rfl ?_
      refine T_bald dX5_scan_19 k3 l3 (by omega) (j := f) (by omega) ?_
      refine T_callS dX5_scan_20 lX5_224 (As := [_]) (rest := _) rfl rfl (by decide) (Nat.le_of_ble_eq_true rfl) (Nat.le_of_ble_eq_true rfl) (c_isLetter) ?_
      rintro _ _ ⟨rfl, rfl⟩
      refine T_if_eq (tgt := 51) dX5_scan_23 (by decide) (fun c23 => ?_) (fun c23 => ?_)
      · refine T_aload_n dX5_scan_51 rfl ?_
        refine T_iload_n dX5_scan_52 rfl ?_
        refine T_bald dX5_scan_53 k3 l3 (by omega) (j := f) (by omega) ?_
        refine T_callS dX5_scan_54 lX5_238 (As := [_]) (rest := _) rfl rfl (by decide) (Nat.le_of_ble_eq_true rfl) (Nat.le_of_ble_eq_true rfl) (c_isDigit) ?_
        rintro _ _ ⟨rfl, rfl⟩
        refine T_if_eq (tgt := 97) dX5_scan_57 (by decide) (fun c57 => ?_) (fun c57 => ?_)
        · refine T_aload_n dX5_scan_97 rfl ?_
          refine T_iload_n dX5_scan_98 rfl ?_
          refine T_bald dX5_scan_99 k3 l3 (by omega) (j := f) (by omega) ?_
          refine T_bipush dX5_scan_100 (by decide) ?_
          refine T_icmp_ne (tgt := 115) dX5_scan_102 (by decide) (fun c102 => ?_) (fun c102 => ?_)
          · refine T_aload_n dX5_scan_115 rfl ?_
            refine T_iload_n dX5_scan_116 rfl ?_
            refine T_bald dX5_scan_117 k3 l3 (by omega) (j := f) (by omega) ?_
            refine T_bipush dX5_scan_118 (by decide) ?_
            refine T_icmp_eq (tgt := 138) dX5_scan_120 (by decide) (fun c120 => ?_) (fun c120 => ?_)
            · have hbl : blP T f := Or.inr ((hTe.eq (by omega) (by decide)).mp c120)
              exact h138 (f + 1) (f + 1) N e (by omega) (SI_bl hS (by omega) hbl)
            · refine T_aload_n dX5_scan_123 rfl ?_
              refine T_iload_n dX5_scan_124 rfl ?_
              refine T_bald dX5_scan_125 k3 l3 (by omega) (j := f) (by omega) ?_
              refine T_bipush dX5_scan_126 (by decide) ?_
              refine T_icmp_eq (tgt := 138) dX5_scan_128 (by decide) (fun c128 => ?_) (fun c128 => ?_)
              · have hbl : blP T f := Or.inl ((hTe.eq (by omega) (by decide)).mp c128)
                exact h138 (f + 1) (f + 1) N e (by omega) (SI_bl hS (by omega) hbl)
              · refine T_aload_n dX5_scan_131 rfl ?_
                refine T_iconst dX5_scan_132 (by decide) ?_
                refine T_iload_n dX5_scan_133 rfl ?_
                refine T_iconst dX5_scan_134 (by decide) ?_
                refine T_callV dX5_scan_135 lX5_234 (As := [_, _, _]) (rest := _) rfl rfl k53 (by decide) (Nat.le_of_ble_eq_true rfl) (Nat.le_of_ble_eq_true rfl) (c_keepToken (N := N) (by omega) h9) ?_
                rintro _ _ ⟨rfl, rfl⟩
                have hg0 := hg (by omega)
                have hnl : ¬ ltP T f := fun y => bI_0 c23 ((hTe.lt (by omega)).mpr y)
                have hnd : ¬ dtP T f := fun y => bI_0 c57 ((hTe.dt (by omega)).mpr y)
                have h59 : ¬ T f = 59 := fun y => c102 ((hTe.eq (by omega) (by decide)).mpr y)
                have hnb : ¬ blP T f := fun y => y.elim (fun z => c128 ((hTe.eq (by omega) (by decide)).mpr z)) (fun z => c120 ((hTe.eq (by omega) (by decide)).mpr z))
                have hck : CK T n f 4 (-1) := Or.inr (Or.inr (Or.inr (Or.inr ⟨by unfold kdT; rw [if_neg (by omega), if_neg hnl, if_neg hnd, if_neg h59], Or.inl rfl⟩)))
                exact h138 (f + 1) (f + 1) (N + 1) _ (by omega) (SI_kt hT hS (bg_no hnb) (by omega) (nx_o hg0 hnl hnd) (by omega) rfl hck)
          · refine T_aload_n dX5_scan_105 rfl ?_
            refine T_iconst dX5_scan_106 (by decide) ?_
            refine T_iload_n dX5_scan_107 rfl ?_
            refine T_iconst dX5_scan_108 (by decide) ?_
            refine T_callV dX5_scan_109 lX5_234 (As := [_, _, _]) (rest := _) rfl rfl k53 (by decide) (Nat.le_of_ble_eq_true rfl) (Nat.le_of_ble_eq_true rfl) (c_keepToken (N := N) (by omega) h9) ?_
            rintro _ _ ⟨rfl, rfl⟩
            refine T_goto (tgt := 138) dX5_scan_112 (by decide) ?_
            have hg0 := hg (by omega)
            have hnl : ¬ ltP T f := fun y => bI_0 c23 ((hTe.lt (by omega)).mpr y)
            have hnd : ¬ dtP T f := fun y => bI_0 c57 ((hTe.dt (by omega)).mpr y)
            have h59 : T f = 59 := (hTe.eq (by omega) (by decide)).mp (by omega)
            have hnb : ¬ blP T f := fun y => by rcases y with y | y <;> omega
            have hck : CK T n f 3 (-1) := Or.inr (Or.inr (Or.inl ⟨by unfold kdT; rw [if_neg (by omega), if_neg hnl, if_neg hnd, if_pos h59], rfl⟩))
            exact h138 (f + 1) (f + 1) (N + 1) _ (by omega) (SI_kt hT hS (bg_no hnb) (by omega) (nx_o hg0 hnl hnd) (by omega) rfl hck)
        · refine T_aload_n dX5_scan_60 rfl ?_
          refine T_iload dX5_scan_61 rfl ?_
          refine T_iload_n dX5_scan_63 rfl ?_
          refine T_callS dX5_scan_64 lX5_241 (As := [_, _, _]) (rest := _) rfl rfl (by decide) (Nat.le_of_ble_eq_true rfl) (Nat.le_of_ble_eq_true rfl) (c_behindDigits hTe (f := f + 1) (by omega)) ?_
          rintro _ _ ⟨rfl, rfl⟩
          have hdt := (hTe.dt (by omega)).mp (bI_1 c57)
          obtain ⟨n1, n2, n3⟩ := en_d (n := n) (by omega) hdt
          rw [n1]
          refine T_ist dX5_scan_67 (by decide) rfl ?_
          refine T_aload_n dX5_scan_69 rfl ?_
          refine T_iload dX5_scan_70 rfl ?_
          refine T_iload_n dX5_scan_72 rfl ?_
          refine T_sub dX5_scan_73 (by omega) ?_
          refine T_iconst dX5_scan_74 (by decide) ?_
          refine T_icmp_le (tgt := 82) dX5_scan_75 (by decide) (fun c75 => ?_) (fun c75 => ?_)
          · refine T_iconst dX5_scan_82 (by decide) ?_
            refine T_iload_n dX5_scan_83 rfl ?_
            refine T_aload_n dX5_scan_84 rfl ?_
            refine T_iload_n dX5_scan_85 rfl ?_
            refine T_iload dX5_scan_86 rfl ?_
            refine T_callS dX5_scan_88 lX5_244 (As := [_, _, _]) (rest := _) rfl rfl (by decide) (Nat.le_of_ble_eq_true rfl) (Nat.le_of_ble_eq_true rfl) (c_number (f := f) (t := enG T n f) hTe (by omega) (by omega) (fun i h1 h2 => runE_all (q := dtP T) (n - f) f i h1 h2)) ?_
            rintro _ _ ⟨⟨zz, rfl, hz⟩, rfl⟩
            refine T_callV dX5_scan_91 lX5_234 (As := [_, _, _]) (rest := _) rfl rfl k53 (by decide) (Nat.le_of_ble_eq_true rfl) (Nat.le_of_ble_eq_true rfl) (c_keepToken (N := N) (by omega) h9) ?_
            rintro _ _ ⟨rfl, rfl⟩
            refine T_goto (tgt := 138) dX5_scan_94 (by decide) ?_
            have hck := CK_num (n := n) hdt hz
            rw [if_pos (by omega)] at hck
            have hnb : ¬ blP T f := fun y => by rcases y with y | y <;> (have := hdt.1; omega)
            exact h138 _ (enG T n f) (N + 1) _ (by omega) (SI_kt hT hS (bg_no hnb) (by omega) (nx_d hdt) n3 rfl hck)
          · refine T_iconst dX5_scan_78 (by decide) ?_
            refine T_goto (tgt := 83) dX5_scan_79 (by decide) ?_
            refine T_iload_n dX5_scan_83 rfl ?_
            refine T_aload_n dX5_scan_84 rfl ?_
            refine T_iload_n dX5_scan_85 rfl ?_
            refine T_iload dX5_scan_86 rfl ?_
            refine T_callS dX5_scan_88 lX5_244 (As := [_, _, _]) (rest := _) rfl rfl (by decide) (Nat.le_of_ble_eq_true rfl) (Nat.le_of_ble_eq_true rfl) (c_number (f := f) (t := enG T n f) hTe (by omega) (by omega) (fun i h1 h2 => runE_all (q := dtP T) (n - f) f i h1 h2)) ?_
            rintro _ _ ⟨⟨zz, rfl, hz⟩, rfl⟩
            refine T_callV dX5_scan_91 lX5_234 (As := [_, _, _]) (rest := _) rfl rfl k53 (by decide) (Nat.le_of_ble_eq_true rfl) (Nat.le_of_ble_eq_true rfl) (c_keepToken (N := N) (by omega) h9) ?_
            rintro _ _ ⟨rfl, rfl⟩
            refine T_goto (tgt := 138) dX5_scan_94 (by decide) ?_
            have hck := CK_num (n := n) hdt hz
            rw [if_neg (by omega)] at hck
            have hnb : ¬ blP T f := fun y => by rcases y with y | y <;> (have := hdt.1; omega)
            exact h138 _ (enG T n f) (N + 1) _ (by omega) (SI_kt hT hS (bg_no hnb) (by omega) (nx_d hdt) n3 rfl hck)
      · refine T_aload_n dX5_scan_26 rfl ?_
        refine T_iload dX5_scan_27 rfl ?_
        refine T_iload_n dX5_scan_29 rfl ?_
        refine T_callS dX5_scan_30 lX5_227 (As := [_, _, _]) (rest := _) rfl rfl (by decide) (Nat.le_of_ble_eq_true rfl) (Nat.le_of_ble_eq_true rfl) (c_behindLetters hTe (f := f + 1) (by omega)) ?_
        rintro _ _ ⟨rfl, rfl⟩
        have hlt := (hTe.lt (by omega)).mp (bI_1 c23)
        obtain ⟨n1, n2, n3⟩ := en_l (n := n) (by omega) hlt
        rw [n1]
        refine T_ist dX5_scan_33 (by decide) rfl ?_
        refine T_aload_n dX5_scan_35 rfl ?_
        refine T_iconst dX5_scan_36 (by decide) ?_
        refine T_iload_n dX5_scan_37 rfl ?_
        refine T_aload_n dX5_scan_38 rfl ?_
        refine T_iload_n dX5_scan_39 rfl ?_
        refine T_iload dX5_scan_40 rfl ?_
        refine T_callS dX5_scan_42 lX5_231 (As := [_, _, _]) (rest := _) rfl rfl (by decide) (Nat.le_of_ble_eq_true rfl) (Nat.le_of_ble_eq_true rfl) (c_wordNumber (f := f) (t := enL T n f) hTe (by omega) (by omega)) ?_
        rintro r _ ⟨hr, rfl⟩
        obtain ⟨zz, rfl⟩ : ∃ z : Int, r = some (vI z) := by rcases hr with ⟨k, _, _, z⟩ | ⟨_, z⟩; exact ⟨_, z⟩; exact ⟨_, z⟩
        have hck := CK_word (n := n) (z := zz) hlt (by rcases hr with ⟨k, y1, y2, y3⟩ | ⟨y1, y3⟩; exact Or.inl ⟨k, y1, y2, by injection y3 with y4; injection y4⟩; exact Or.inr ⟨y1, by injection y3 with y4; injection y4⟩)
        refine T_callV dX5_scan_45 lX5_234 (As := [_, _, _]) (rest := _) rfl rfl k53 (by decide) (Nat.le_of_ble_eq_true rfl) (Nat.le_of_ble_eq_true rfl) (c_keepToken (N := N) (by omega) h9) ?_
        rintro _ _ ⟨rfl, rfl⟩
        refine T_goto (tgt := 138) dX5_scan_48 (by decide) ?_
        have hnb : ¬ blP T f := fun y => by rcases y with y | y <;> (have := hlt.1; omega)
        exact h138 _ (enL T n f) (N + 1) _ (by omega) (SI_kt hT hS (bg_no hnb) (by omega) (nx_l hlt) n3 rfl hck)
  refine T_aload_n dX5_scan_0 rfl ?_
  refine T_iconst dX5_scan_1 (by decide) ?_
  refine T_putI dX5_scan_2 fX5_56 rfl k53 ?_
  refine T_iconst dX5_scan_5 (by decide) ?_
  refine T_ist_n dX5_scan_6 (by decide) rfl ?_
  refine h7 (0, 0, up d 53 9 0) ⟨⟨Nat.zero_le _, Nat.le_refl _⟩, by (try dsimp only); rw [up_same]; rfl, rfl, fun j hj => absurd hj (Nat.not_lt_zero j), fun b j hb _ => by (try dsimp only); rw [up_nea hb], fun j hj => by (try dsimp only); rw [up_nej hj]⟩

end C62
