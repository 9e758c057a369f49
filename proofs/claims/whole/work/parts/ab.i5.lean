/-! the class: a line of a war -/
section C57
variable {G : sG} {d d' d0 d1 e : sD} {T : Nat → Int} {n p q : Nat} {x : Int × Int} {dr : Nat → Int}
theorem upF_o {i j : Nat} {v : Int} (h : j ≠ i) : upF dr i v j = dr j := if_neg h
theorem upF_s {i : Nat} {v : Int} : upF dr i v i = v := if_pos rfl
theorem Wo_hi {dr' : Nat → Int} (hO : Wo d 54 dr) (h0 : ∀ i, i < 3 → e 54 i = dr' i) (h1 : ∀ b, b < 4 → e 55 b = dr' (3 + b)) (h2 : ∀ a, a < 2 → e 56 a = dr' (7 + a) ∧ e 57 a = dr' (9 + a) ∧ e 58 a = dr' (11 + a) ∧ e 59 a = dr' (13 + a)) (h3 : ∀ i, 15 ≤ i → dr' i = dr i) (h4 : ∀ b i, 60 ≤ b ∧ b ≤ 63 → e b i = d b i) : Wo e 54 dr' := by
  obtain ⟨_, _, o5, o6⟩ := hO
  refine ⟨⟨h0 0 (by decide), h0 1 (by decide), h0 2 (by decide)⟩, h1, fun a ha => ?_, fun a k ha hk => ?_⟩
  · obtain ⟨w1, w2, w3, w4⟩ := h2 a ha
    exact ⟨w1, w2, w3, w4, by rw [h3 _ (by omega), h4 (54 + 6) a (by omega)]; exact (o5 a ha).2.2.2.2⟩
  · rw [h3 _ (by omega)] at hk
    obtain ⟨w1, w2, w3⟩ := o6 a k ha hk
    refine ⟨by rw [h3 _ (by omega), h4 (54 + 7) _ (by omega)]; exact w1, by rw [h3 _ (by omega), h4 (54 + 8) _ (by omega)]; exact w2, fun i hi => ?_⟩
    rw [h3 _ (by omega)] at hi
    rw [h3 _ (by omega), h4 (54 + 9) _ (by omega)]; exact w3 i hi
theorem Wo_lo (hO : Wo d 54 dr) : (∀ i, i < 3 → d 54 i = dr i) ∧ (∀ b, b < 4 → d 55 b = dr (3 + b)) ∧ (∀ a, a < 2 → d 56 a = dr (7 + a) ∧ d 57 a = dr (9 + a) ∧ d 58 a = dr (11 + a) ∧ d 59 a = dr (13 + a)) := by
  obtain ⟨⟨o1, o2, o3⟩, o4, o5, o6⟩ := hO
  refine ⟨fun i hi => ?_, o4, fun a ha => ?_⟩
  · rcases (show i = 0 ∨ i = 1 ∨ i = 2 by omega) with rfl | rfl | rfl
    · exact o1
    · exact o2
    · exact o3
  · obtain ⟨w1, w2, w3, w4, _⟩ := o5 a ha
    exact ⟨w1, w2, w3, w4⟩
theorem Wo_u0 {i : Nat} {v : Int} (hO : Wo d 54 dr) (hi : i < 3) : Wo (up d 54 i v) 54 (upF dr i v) := by
  obtain ⟨l1, l2, l3⟩ := Wo_lo hO
  refine Wo_hi hO (fun j hj => ?_) (fun b hb => by rw [up_nea (by decide), upF_o (by omega)]; exact l2 b hb) (fun a ha => ?_) (fun j hj => upF_o (by omega)) (fun b j hb => up_nea (by omega))
  · by_cases z : j = i
    · rw [z, up_same, upF_s]
    · rw [up_nej z, upF_o z]; exact l1 j hj
  · rw [up_nea (by decide), up_nea (by decide), up_nea (by decide), up_nea (by decide), upF_o (by omega), upF_o (by omega), upF_o (by omega), upF_o (by omega)]; exact l3 a ha
theorem Wo_u1 {i : Nat} {v : Int} (hO : Wo d 54 dr) (hi : i < 4) : Wo (up d 55 i v) 54 (upF dr (3 + i) v) := by
  obtain ⟨l1, l2, l3⟩ := Wo_lo hO
  refine Wo_hi hO (fun j hj => by rw [up_nea (by decide), upF_o (by omega)]; exact l1 j hj) (fun b hb => ?_) (fun a ha => ?_) (fun j hj => upF_o (by omega)) (fun b j hb => up_nea (by omega))
  · by_cases z : b = i
    · rw [z, up_same, upF_s]
    · rw [up_nej z, upF_o (by omega)]; exact l2 b hb
  · rw [up_nea (by decide), up_nea (by decide), up_nea (by decide), up_nea (by decide), upF_o (by omega), upF_o (by omega), upF_o (by omega), upF_o (by omega)]; exact l3 a ha
theorem Wo_u2 {f a : Nat} {v : Int} (hO : Wo d 54 dr) (hf : f < 4) (ha : a < 2) : Wo (up d (56 + f) a v) 54 (upF dr (7 + 2 * f + a) v) := by
  obtain ⟨l1, l2, l3⟩ := Wo_lo hO
  refine Wo_hi hO (fun j hj => by rw [up_nea (by omega), upF_o (by omega)]; exact l1 j hj) (fun b hb => by rw [up_nea (by omega), upF_o (by omega)]; exact l2 b hb) (fun b hb => ?_) (fun j hj => upF_o (by omega)) (fun b j hb => up_nea (by omega))
  obtain ⟨w1, w2, w3, w4⟩ := l3 b hb
  have key : ∀ g, g < 4 → d (56 + g) b = dr (7 + 2 * g + b) → up d (56 + f) a v (56 + g) b = upF dr (7 + 2 * f + a) v (7 + 2 * g + b) := fun g hg hd => by
    by_cases z : g = f ∧ b = a
    · obtain ⟨rfl, rfl⟩ := z; rw [up_same, upF_s]
    · by_cases y : g = f
      · rw [y, up_nej (fun u => z ⟨y, u⟩), upF_o (fun u => z ⟨y, by omega⟩), ← y]; exact hd
      · rw [up_nea (by omega), upF_o (by omega)]; exact hd
  exact ⟨key 0 (by decide) w1, key 1 (by decide) w2, key 2 (by decide) w3, key 3 (by decide) w4⟩
theorem BC0_df {b j : Nat} {v : Int} (h : BC0 d) (hb : b ≠ 60) : BC0 (up d b j v) := fun a ha => by rw [up_nea (by omega)]; exact h a ha

theorem c_readOfDrum {v wv : Int} (h : CR d0 d T n q x) (hx : NL x q) (hv : v = 1 ∨ v = 2 ∨ v = 3) (hw : wv = v + 8) (hB : BC0 d) (hd : x.1 = 0 → Wo d 54 dr) : tB G mX5_readOfDrum 0 [vR 53, vI wv, vU 0] [] d (LnC d0 T n (gNum T n q (gSem T n)) (xNum T n x q (loW v) (hiW v)) (fun d => BC0 d ∧ ((xNum T n x q (loW v) (hiW v)).1 = 0 → Wo d 54 (upF dr (v - 1).toNat (nmT T n q))))) := by
  have hT := h.tv
  have hq := h.le
  subst hw
  rcases hv with rfl | rfl | rfl
  ·
    refine T_iload_n dX5_readOfDrum_0 rfl ?_
    refine T_bipush dX5_readOfDrum_1 (by decide) ?_
    refine T_icmp_ne (tgt := 10) dX5_readOfDrum_3 (by decide) (fun c3 => absurd rfl c3) (fun c3 => ?_)
    refine T_iconst dX5_readOfDrum_6 (by decide) ?_
    refine T_goto (tgt := 11) dX5_readOfDrum_7 (by decide) ?_
    refine T_ist_n dX5_readOfDrum_11 (by decide) rfl ?_
    refine T_aload_n dX5_readOfDrum_12 rfl ?_
    refine T_iload_n dX5_readOfDrum_13 rfl ?_
    refine T_if_eq (tgt := 21) dX5_readOfDrum_14 (by decide) (fun c14 => absurd c14 (by decide)) (fun c14 => ?_)
    refine T_iconst dX5_readOfDrum_17 (by decide) ?_
    refine T_goto (tgt := 22) dX5_readOfDrum_18 (by decide) ?_
    refine T_iload_n dX5_readOfDrum_22 rfl ?_
    refine T_if_eq (tgt := 30) dX5_readOfDrum_23 (by decide) (fun c23 => absurd c23 (by decide)) (fun c23 => ?_)
    refine T_iconst dX5_readOfDrum_26 (by decide) ?_
    refine T_goto (tgt := 32) dX5_readOfDrum_27 (by decide) ?_
    refine T_callV dX5_readOfDrum_32 lX5_131 (As := [_, _]) (rest := _) rfl rfl k53 (by decide) (Nat.le_of_ble_eq_true rfl) (Nat.le_of_ble_eq_true rfl) (c_takeNumber (lo := 1) (hi := 4) h hx) ?_
    rintro _ e2 (⟨hk, rfl, hR2, hN2, h14b⟩ | ⟨hk, rfl, rfl⟩)
    ·
      have hlt := hT.lt hq (show ¬ kdT T n q = 0 by omega)
      have hg : gNum T n q (gSem T n) = gSem T n (avT T n q) := if_pos hk
      by_cases hin : inR (nmT T n q) 1 4
      · rw [if_pos hin] at h14b
        have hnm := hin.1
        refine T_if_ne (tgt := 40) dX5_readOfDrum_35 (by decide) (fun c35 => ?_) (fun c35 => absurd c35 (by decide))
        refine T_aload_n dX5_readOfDrum_40 rfl ?_
        refine T_getIv dX5_readOfDrum_41 fX5_71 rfl k53 (x := nmT T n q) h14b ?_
        refine T_iconst dX5_readOfDrum_44 (by decide) ?_
        refine T_icmp_ne (tgt := 50) dX5_readOfDrum_45 (by decide) (fun c45 => ?_) (fun c45 => absurd c45 (by omega))
        refine T_iload_n dX5_readOfDrum_50 rfl ?_
        refine T_if_eq (tgt := 68) dX5_readOfDrum_51 (by decide) (fun c51 => absurd c51 (by decide)) (fun c51 => ?_)
        refine T_aload_n dX5_readOfDrum_54 rfl ?_
        refine T_getR dX5_readOfDrum_55 fX5_12 rfl k53 r53_0 ?_
        refine T_aload_n dX5_readOfDrum_58 rfl ?_
        refine T_getIv dX5_readOfDrum_59 fX5_71 rfl k53 (x := nmT T n q) h14b ?_
        refine T_putI dX5_readOfDrum_62 fX5_134 rfl k54 ?_
        refine T_goto (tgt := 99) dX5_readOfDrum_65 (by decide) ?_
        refine T_iconst dX5_readOfDrum_99 (by decide) ?_
        exact T_zreturn dX5_readOfDrum_100 rfl (by omega) (LnC_t hg (CR_df hR2 (by decide)) (NL_num hx (by omega)) ⟨BC0_df (BC0_nf hB hN2) (by decide), fun z => Wo_u0 (i := 0) (Wo_nf (hd (xNum_0 z).1) hN2) (by decide)⟩)
      · rw [if_neg hin] at h14b
        refine T_if_ne (tgt := 40) dX5_readOfDrum_35 (by decide) (fun c35 => ?_) (fun c35 => absurd c35 (by decide))
        refine T_aload_n dX5_readOfDrum_40 rfl ?_
        refine T_getIv dX5_readOfDrum_41 fX5_71 rfl k53 (x := (-1 : Int)) h14b ?_
        refine T_iconst dX5_readOfDrum_44 (by decide) ?_
        refine T_icmp_ne (tgt := 50) dX5_readOfDrum_45 (by decide) (fun c45 => absurd rfl c45) (fun c45 => ?_)
        refine T_iconst dX5_readOfDrum_48 (by decide) ?_
        exact T_zreturn dX5_readOfDrum_49 rfl (by omega) (LnC_t hg hR2 (NL_num hx (by omega)) ⟨BC0_nf hB hN2, fun z => absurd (xNum_0 z).2 hin⟩)
    ·
      refine T_if_ne (tgt := 40) dX5_readOfDrum_35 (by decide) (fun c35 => absurd rfl c35) (fun c35 => ?_)
      refine T_iconst dX5_readOfDrum_38 (by decide) ?_
      exact T_zreturn dX5_readOfDrum_39 rfl (by omega) (LnC_f (if_neg hk) h.ce)
  ·
    refine T_iload_n dX5_readOfDrum_0 rfl ?_
    refine T_bipush dX5_readOfDrum_1 (by decide) ?_
    refine T_icmp_ne (tgt := 10) dX5_readOfDrum_3 (by decide) (fun c3 => ?_) (fun c3 => absurd c3 (by decide))
    refine T_iconst dX5_readOfDrum_10 (by decide) ?_
    refine T_ist_n dX5_readOfDrum_11 (by decide) rfl ?_
    refine T_aload_n dX5_readOfDrum_12 rfl ?_
    refine T_iload_n dX5_readOfDrum_13 rfl ?_
    refine T_if_eq (tgt := 21) dX5_readOfDrum_14 (by decide) (fun c14 => ?_) (fun c14 => absurd rfl c14)
    refine T_iconst dX5_readOfDrum_21 (by decide) ?_
    refine T_iload_n dX5_readOfDrum_22 rfl ?_
    refine T_if_eq (tgt := 30) dX5_readOfDrum_23 (by decide) (fun c23 => ?_) (fun c23 => absurd rfl c23)
    refine T_bipush dX5_readOfDrum_30 (by decide) ?_
    refine T_callV dX5_readOfDrum_32 lX5_131 (As := [_, _]) (rest := _) rfl rfl k53 (by decide) (Nat.le_of_ble_eq_true rfl) (Nat.le_of_ble_eq_true rfl) (c_takeNumber (lo := 0) (hi := 9) h hx) ?_
    rintro _ e2 (⟨hk, rfl, hR2, hN2, h14b⟩ | ⟨hk, rfl, rfl⟩)
    ·
      have hlt := hT.lt hq (show ¬ kdT T n q = 0 by omega)
      have hg : gNum T n q (gSem T n) = gSem T n (avT T n q) := if_pos hk
      by_cases hin : inR (nmT T n q) 0 9
      · rw [if_pos hin] at h14b
        have hnm := hin.1
        refine T_if_ne (tgt := 40) dX5_readOfDrum_35 (by decide) (fun c35 => ?_) (fun c35 => absurd c35 (by decide))
        refine T_aload_n dX5_readOfDrum_40 rfl ?_
        refine T_getIv dX5_readOfDrum_41 fX5_71 rfl k53 (x := nmT T n q) h14b ?_
        refine T_iconst dX5_readOfDrum_44 (by decide) ?_
        refine T_icmp_ne (tgt := 50) dX5_readOfDrum_45 (by decide) (fun c45 => ?_) (fun c45 => absurd c45 (by omega))
        refine T_iload_n dX5_readOfDrum_50 rfl ?_
        refine T_if_eq (tgt := 68) dX5_readOfDrum_51 (by decide) (fun c51 => ?_) (fun c51 => absurd rfl c51)
        refine T_iload_n dX5_readOfDrum_68 rfl ?_
        refine T_bipush dX5_readOfDrum_69 (by decide) ?_
        refine T_icmp_ne (tgt := 88) dX5_readOfDrum_71 (by decide) (fun c71 => absurd rfl c71) (fun c71 => ?_)
        refine T_aload_n dX5_readOfDrum_74 rfl ?_
        refine T_getR dX5_readOfDrum_75 fX5_12 rfl k53 r53_0 ?_
        refine T_aload_n dX5_readOfDrum_78 rfl ?_
        refine T_getIv dX5_readOfDrum_79 fX5_71 rfl k53 (x := nmT T n q) h14b ?_
        refine T_putI dX5_readOfDrum_82 fX5_137 rfl k54 ?_
        refine T_goto (tgt := 99) dX5_readOfDrum_85 (by decide) ?_
        refine T_iconst dX5_readOfDrum_99 (by decide) ?_
        exact T_zreturn dX5_readOfDrum_100 rfl (by omega) (LnC_t hg (CR_df hR2 (by decide)) (NL_num hx (by omega)) ⟨BC0_df (BC0_nf hB hN2) (by decide), fun z => Wo_u0 (i := 1) (Wo_nf (hd (xNum_0 z).1) hN2) (by decide)⟩)
      · rw [if_neg hin] at h14b
        refine T_if_ne (tgt := 40) dX5_readOfDrum_35 (by decide) (fun c35 => ?_) (fun c35 => absurd c35 (by decide))
        refine T_aload_n dX5_readOfDrum_40 rfl ?_
        refine T_getIv dX5_readOfDrum_41 fX5_71 rfl k53 (x := (-1 : Int)) h14b ?_
        refine T_iconst dX5_readOfDrum_44 (by decide) ?_
        refine T_icmp_ne (tgt := 50) dX5_readOfDrum_45 (by decide) (fun c45 => absurd rfl c45) (fun c45 => ?_)
        refine T_iconst dX5_readOfDrum_48 (by decide) ?_
        exact T_zreturn dX5_readOfDrum_49 rfl (by omega) (LnC_t hg hR2 (NL_num hx (by omega)) ⟨BC0_nf hB hN2, fun z => absurd (xNum_0 z).2 hin⟩)
    ·
      refine T_if_ne (tgt := 40) dX5_readOfDrum_35 (by decide) (fun c35 => absurd rfl c35) (fun c35 => ?_)
      refine T_iconst dX5_readOfDrum_38 (by decide) ?_
      exact T_zreturn dX5_readOfDrum_39 rfl (by omega) (LnC_f (if_neg hk) h.ce)
  ·
    refine T_iload_n dX5_readOfDrum_0 rfl ?_
    refine T_bipush dX5_readOfDrum_1 (by decide) ?_
    refine T_icmp_ne (tgt := 10) dX5_readOfDrum_3 (by decide) (fun c3 => ?_) (fun c3 => absurd c3 (by decide))
    refine T_iconst dX5_readOfDrum_10 (by decide) ?_
    refine T_ist_n dX5_readOfDrum_11 (by decide) rfl ?_
    refine T_aload_n dX5_readOfDrum_12 rfl ?_
    refine T_iload_n dX5_readOfDrum_13 rfl ?_
    refine T_if_eq (tgt := 21) dX5_readOfDrum_14 (by decide) (fun c14 => ?_) (fun c14 => absurd rfl c14)
    refine T_iconst dX5_readOfDrum_21 (by decide) ?_
    refine T_iload_n dX5_readOfDrum_22 rfl ?_
    refine T_if_eq (tgt := 30) dX5_readOfDrum_23 (by decide) (fun c23 => ?_) (fun c23 => absurd rfl c23)
    refine T_bipush dX5_readOfDrum_30 (by decide) ?_
    refine T_callV dX5_readOfDrum_32 lX5_131 (As := [_, _]) (rest := _) rfl rfl k53 (by decide) (Nat.le_of_ble_eq_true rfl) (Nat.le_of_ble_eq_true rfl) (c_takeNumber (lo := 0) (hi := 9) h hx) ?_
    rintro _ e2 (⟨hk, rfl, hR2, hN2, h14b⟩ | ⟨hk, rfl, rfl⟩)
    ·
      have hlt := hT.lt hq (show ¬ kdT T n q = 0 by omega)
      have hg : gNum T n q (gSem T n) = gSem T n (avT T n q) := if_pos hk
      by_cases hin : inR (nmT T n q) 0 9
      · rw [if_pos hin] at h14b
        have hnm := hin.1
        refine T_if_ne (tgt := 40) dX5_readOfDrum_35 (by decide) (fun c35 => ?_) (fun c35 => absurd c35 (by decide))
        refine T_aload_n dX5_readOfDrum_40 rfl ?_
        refine T_getIv dX5_readOfDrum_41 fX5_71 rfl k53 (x := nmT T n q) h14b ?_
        refine T_iconst dX5_readOfDrum_44 (by decide) ?_
        refine T_icmp_ne (tgt := 50) dX5_readOfDrum_45 (by decide) (fun c45 => ?_) (fun c45 => absurd c45 (by omega))
        refine T_iload_n dX5_readOfDrum_50 rfl ?_
        refine T_if_eq (tgt := 68) dX5_readOfDrum_51 (by decide) (fun c51 => ?_) (fun c51 => absurd rfl c51)
        refine T_iload_n dX5_readOfDrum_68 rfl ?_
        refine T_bipush dX5_readOfDrum_69 (by decide) ?_
        refine T_icmp_ne (tgt := 88) dX5_readOfDrum_71 (by decide) (fun c71 => ?_) (fun c71 => absurd c71 (by decide))
        refine T_aload_n dX5_readOfDrum_88 rfl ?_
        refine T_getR dX5_readOfDrum_89 fX5_12 rfl k53 r53_0 ?_
        refine T_aload_n dX5_readOfDrum_92 rfl ?_
        refine T_getIv dX5_readOfDrum_93 fX5_71 rfl k53 (x := nmT T n q) h14b ?_
        refine T_putI dX5_readOfDrum_96 fX5_140 rfl k54 ?_
        refine T_iconst dX5_readOfDrum_99 (by decide) ?_
        exact T_zreturn dX5_readOfDrum_100 rfl (by omega) (LnC_t hg (CR_df hR2 (by decide)) (NL_num hx (by omega)) ⟨BC0_df (BC0_nf hB hN2) (by decide), fun z => Wo_u0 (i := 2) (Wo_nf (hd (xNum_0 z).1) hN2) (by decide)⟩)
      · rw [if_neg hin] at h14b
        refine T_if_ne (tgt := 40) dX5_readOfDrum_35 (by decide) (fun c35 => ?_) (fun c35 => absurd c35 (by decide))
        refine T_aload_n dX5_readOfDrum_40 rfl ?_
        refine T_getIv dX5_readOfDrum_41 fX5_71 rfl k53 (x := (-1 : Int)) h14b ?_
        refine T_iconst dX5_readOfDrum_44 (by decide) ?_
        refine T_icmp_ne (tgt := 50) dX5_readOfDrum_45 (by decide) (fun c45 => absurd rfl c45) (fun c45 => ?_)
        refine T_iconst dX5_readOfDrum_48 (by decide) ?_
        exact T_zreturn dX5_readOfDrum_49 rfl (by omega) (LnC_t hg hR2 (NL_num hx (by omega)) ⟨BC0_nf hB hN2, fun z => absurd (xNum_0 z).2 hin⟩)
    ·
      refine T_if_ne (tgt := 40) dX5_readOfDrum_35 (by decide) (fun c35 => absurd rfl c35) (fun c35 => ?_)
      refine T_iconst dX5_readOfDrum_38 (by decide) ?_
      exact T_zreturn dX5_readOfDrum_39 rfl (by omega) (LnC_f (if_neg hk) h.ce)

theorem c_readWet (h : CR d0 d T n q x) (hx : NL x q) (hB : BC0 d) (hd : x.1 = 0 → Wo d 54 dr) : tB G mX5_readWet 0 [vR 53, vU 0] [] d (LnC d0 T n (gWd T n 10 13 q (fun q2 => gWd T n 10 13 q2 (gSem T n))) (x) (fun d => BC0 d ∧ ((x).1 = 0 → Wo d 54 (upF dr (3 + (woT T n q - 10).toNat) (woT T n (avT T n q) - 10))))) := by
  have hT := h.tv
  have hq := h.le
  have hq1 := hT.av hq
  refine T_aload_n dX5_readWet_0 rfl ?_
  refine T_callV dX5_readWet_1 lX5_143 (As := []) (rest := _) rfl rfl k53 (by decide) (Nat.le_of_ble_eq_true rfl) (Nat.le_of_ble_eq_true rfl) (c_takeBeat h) ?_
  rintro _ e2 (⟨hw, rfl, hR2, hN2, h14b⟩ | ⟨hw, rfl, rfl⟩)
  ·
    have hlt := tk_lt hT hq hw
    have hw1 := hw.2
    refine T_if_ne (tgt := 9) dX5_readWet_4 (by decide) (fun c4 => ?_) (fun c4 => absurd c4 (by decide))
    refine T_aload_n dX5_readWet_9 rfl ?_
    refine T_getIv dX5_readWet_10 fX5_71 rfl k53 (x := woT T n q - 10) h14b ?_
    refine T_ist_n dX5_readWet_13 (by decide) rfl ?_
    refine T_aload_n dX5_readWet_14 rfl ?_
    refine T_callV dX5_readWet_15 lX5_143 (As := []) (rest := _) rfl rfl k53 (by decide) (Nat.le_of_ble_eq_true rfl) (Nat.le_of_ble_eq_true rfl) (c_takeBeat hR2) ?_
    rintro _ e3 (⟨hw2, rfl, hR3, hN3, h14c⟩ | ⟨hw2, rfl, rfl⟩)
    ·
      have hlt2 := tk_lt hT hq1.2 hw2
      refine T_if_ne (tgt := 23) dX5_readWet_18 (by decide) (fun c18 => ?_) (fun c18 => absurd c18 (by decide))
      refine T_aload_n dX5_readWet_23 rfl ?_
      refine T_getR dX5_readWet_24 fX5_12 rfl k53 r53_0 ?_
      refine T_getR dX5_readWet_27 fX5_146 rfl k54 r54_3 ?_
      refine T_iload_n dX5_readWet_30 rfl ?_
      refine T_aload_n dX5_readWet_31 rfl ?_
      refine T_getIv dX5_readWet_32 fX5_71 rfl k53 (x := woT T n (avT T n q) - 10) h14c ?_
      refine T_iast dX5_readWet_35 k55 l55 (by omega) (j := (woT T n q - 10).toNat) (by omega) ?_
      refine T_iconst dX5_readWet_36 (by decide) ?_
      exact T_zreturn dX5_readWet_37 rfl (by omega) (LnC_t ((if_pos hw).trans (if_pos hw2)) (CR_df hR3 (by decide)) (hx.mono (by omega)) ⟨BC0_df (BC0_nf hB (hN2.trans hN3)) (by decide), fun z => Wo_u1 (Wo_nf (hd z) (hN2.trans hN3)) (by omega)⟩)
    ·
      refine T_if_ne (tgt := 23) dX5_readWet_18 (by decide) (fun c18 => absurd rfl c18) (fun c18 => ?_)
      refine T_iconst dX5_readWet_21 (by decide) ?_
      exact T_zreturn dX5_readWet_22 rfl (by omega) (LnC_f ((if_pos hw).trans (if_neg hw2)) hR2.ce)
  ·
    refine T_if_ne (tgt := 9) dX5_readWet_4 (by decide) (fun c4 => absurd rfl c4) (fun c4 => ?_)
    refine T_iconst dX5_readWet_7 (by decide) ?_
    exact T_zreturn dX5_readWet_8 rfl (by omega) (LnC_f (if_neg hw) h.ce)

theorem c_mostOfArmy {v : Int} (hv : v = 5 ∨ v = 6 ∨ v = 7 ∨ v = 8) : tB G mX5_mostOfArmy 0 [vI (v + 8)] [] d (fun r d' => r = some (vI (hiW v)) ∧ d = d') := by
  rcases hv with rfl | rfl | rfl | rfl
  ·
    refine T_iload_n dX5_mostOfArmy_0 rfl ?_
    refine T_bipush dX5_mostOfArmy_1 (by decide) ?_
    refine T_icmp_ne (tgt := 8) dX5_mostOfArmy_3 (by decide) (fun c3 => ?_) (fun c3 => absurd c3 (by decide))
    refine T_iload_n dX5_mostOfArmy_8 rfl ?_
    refine T_bipush dX5_mostOfArmy_9 (by decide) ?_
    refine T_icmp_eq (tgt := 20) dX5_mostOfArmy_11 (by decide) (fun c11 => ?_) (fun c11 => absurd rfl c11)
    refine T_iconst dX5_mostOfArmy_20 (by decide) ?_
    refine T_goto (tgt := 26) dX5_mostOfArmy_21 (by decide) ?_
    exact T_ireturn dX5_mostOfArmy_26 rfl ⟨rfl, rfl⟩
  ·
    refine T_iload_n dX5_mostOfArmy_0 rfl ?_
    refine T_bipush dX5_mostOfArmy_1 (by decide) ?_
    refine T_icmp_ne (tgt := 8) dX5_mostOfArmy_3 (by decide) (fun c3 => absurd rfl c3) (fun c3 => ?_)
    refine T_iconst dX5_mostOfArmy_6 (by decide) ?_
    exact T_ireturn dX5_mostOfArmy_7 rfl ⟨rfl, rfl⟩
  ·
    refine T_iload_n dX5_mostOfArmy_0 rfl ?_
    refine T_bipush dX5_mostOfArmy_1 (by decide) ?_
    refine T_icmp_ne (tgt := 8) dX5_mostOfArmy_3 (by decide) (fun c3 => ?_) (fun c3 => absurd c3 (by decide))
    refine T_iload_n dX5_mostOfArmy_8 rfl ?_
    refine T_bipush dX5_mostOfArmy_9 (by decide) ?_
    refine T_icmp_eq (tgt := 20) dX5_mostOfArmy_11 (by decide) (fun c11 => absurd c11 (by decide)) (fun c11 => ?_)
    refine T_iload_n dX5_mostOfArmy_14 rfl ?_
    refine T_bipush dX5_mostOfArmy_15 (by decide) ?_
    refine T_icmp_ne (tgt := 24) dX5_mostOfArmy_17 (by decide) (fun c17 => absurd rfl c17) (fun c17 => ?_)
    refine T_iconst dX5_mostOfArmy_20 (by decide) ?_
    refine T_goto (tgt := 26) dX5_mostOfArmy_21 (by decide) ?_
    exact T_ireturn dX5_mostOfArmy_26 rfl ⟨rfl, rfl⟩
  ·
    refine T_iload_n dX5_mostOfArmy_0 rfl ?_
    refine T_bipush dX5_mostOfArmy_1 (by decide) ?_
    refine T_icmp_ne (tgt := 8) dX5_mostOfArmy_3 (by decide) (fun c3 => ?_) (fun c3 => absurd c3 (by decide))
    refine T_iload_n dX5_mostOfArmy_8 rfl ?_
    refine T_bipush dX5_mostOfArmy_9 (by decide) ?_
    refine T_icmp_eq (tgt := 20) dX5_mostOfArmy_11 (by decide) (fun c11 => absurd c11 (by decide)) (fun c11 => ?_)
    refine T_iload_n dX5_mostOfArmy_14 rfl ?_
    refine T_bipush dX5_mostOfArmy_15 (by decide) ?_
    refine T_icmp_ne (tgt := 24) dX5_mostOfArmy_17 (by decide) (fun c17 => ?_) (fun c17 => absurd c17 (by decide))
    refine T_bipush dX5_mostOfArmy_24 (by decide) ?_
    exact T_ireturn dX5_mostOfArmy_26 rfl ⟨rfl, rfl⟩

theorem c_readOfArmy {v wv : Int} (h : CR d0 d T n q x) (hx : NL x q) (hv : v = 5 ∨ v = 6 ∨ v = 7 ∨ v = 8) (hw : wv = v + 8) (hB : BC0 d) (hd : x.1 = 0 → Wo d 54 dr) : tB G mX5_readOfArmy 0 [vR 53, vI wv, vU 0] [] d (LnC d0 T n (gNum T n q (fun q2 => gNum T n q2 (gSem T n))) (xNum T n (xNum T n x q 0 1) (avT T n q) (loW v) (hiW v)) (fun d => BC0 d ∧ ((xNum T n (xNum T n x q 0 1) (avT T n q) (loW v) (hiW v)).1 = 0 → Wo d 54 (upF dr (7 + 2 * (v - 5).toNat + gvT T n q) (nmT T n (avT T n q)))))) := by
  have hT := h.tv
  have hq := h.le
  have hq1 := hT.av hq
  have hlh : (0 ≤ loW v ∧ loW v ≤ 1) ∧ loW v = if v = 6 then 1 else 0 := by rcases hv with rfl | rfl | rfl | rfl <;> decide
  subst hw
  have h28 : ∀ (e2 : sD) (av lo : Int), lo = loW v → kdT T n q = 1 → CR d0 e2 T n (avT T n q) (xNum T n x q 0 1) → NF d e2 → ((av = -1 ∧ ¬ inR (nmT T n q) 0 1) ∨ (av = (gvT T n q : Int) ∧ inR (nmT T n q) 0 1)) → tB G mX5_readOfArmy 28 [vR 53, vI (v + 8), vI av] [vI lo, vR 53] e2 (LnC d0 T n (gNum T n q (fun q2 => gNum T n q2 (gSem T n))) (xNum T n (xNum T n x q 0 1) (avT T n q) (loW v) (hiW v)) (fun d => BC0 d ∧ ((xNum T n (xNum T n x q 0 1) (avT T n q) (loW v) (hiW v)).1 = 0 → Wo d 54 (upF dr (7 + 2 * (v - 5).toNat + gvT T n q) (nmT T n (avT T n q)))))) := by
    intro e2 av lo hlo hk hR2 hN2 hav
    subst hlo
    have hlt := hT.lt hq (show ¬ kdT T n q = 0 by omega)
    have hg2 := gvT_2 (T := T) (n := n) (p := q)
    have hxx : NL (xNum T n x q 0 1) (avT T n q : Nat) := NL_num hx (by omega)
    refine T_iload_n dX5_readOfArmy_28 rfl ?_
    refine T_callS dX5_readOfArmy_29 lX5_149 (As := [_]) (rest := _) rfl rfl (by decide) (Nat.le_of_ble_eq_true rfl) (Nat.le_of_ble_eq_true rfl) (c_mostOfArmy hv) ?_
    rintro _ _ ⟨rfl, rfl⟩
    refine T_callV dX5_readOfArmy_32 lX5_131 (As := [_, _]) (rest := _) rfl rfl k53 (by decide) (Nat.le_of_ble_eq_true rfl) (Nat.le_of_ble_eq_true rfl) (c_takeNumber hR2 hxx) ?_
    rintro _ e3 (⟨hk2, rfl, hR3, hN3, h14c⟩ | ⟨hk2, rfl, rfl⟩)
    ·
      have hlt2 := hT.lt hq1.2 (show ¬ kdT T n (avT T n q) = 0 by omega)
      have hg : gNum T n q (fun q2 => gNum T n q2 (gSem T n)) = gSem T n (avT T n (avT T n q)) := (if_pos hk).trans (if_pos hk2)
      have hN4 := hN2.trans hN3
      have hxy : NL (xNum T n (xNum T n x q 0 1) (avT T n q) (loW v) (hiW v)) (avT T n (avT T n q) : Nat) := NL_num hxx (by omega)
      have hno : ¬ (inR (nmT T n q) 0 1 ∧ inR (nmT T n (avT T n q)) (loW v) (hiW v)) → LnC d0 T n (gNum T n q (fun q2 => gNum T n q2 (gSem T n))) (xNum T n (xNum T n x q 0 1) (avT T n q) (loW v) (hiW v)) (fun d => BC0 d ∧ ((xNum T n (xNum T n x q 0 1) (avT T n q) (loW v) (hiW v)).1 = 0 → Wo d 54 (upF dr (7 + 2 * (v - 5).toNat + gvT T n q) (nmT T n (avT T n q))))) (some (vI 1)) e3 := fun hn => LnC_t hg hR3 hxy ⟨BC0_nf hB hN4, fun z => absurd ⟨(xNum_0 (xNum_0 z).1).2, (xNum_0 z).2⟩ hn⟩
      by_cases ha1 : av = -1
      · have hn1 : ¬ inR (nmT T n q) 0 1 := by rcases hav with y | y; exact y.2; omega
        refine T_if_ne (tgt := 40) dX5_readOfArmy_35 (by decide) (fun c35 => ?_) (fun c35 => absurd c35 (by decide))
        refine T_iload_n dX5_readOfArmy_40 rfl ?_
        refine T_iconst dX5_readOfArmy_41 (by decide) ?_
        refine T_icmp_eq (tgt := 53) dX5_readOfArmy_42 (by decide) (fun c42 => ?_) (fun c42 => absurd ha1 c42)
        refine T_iconst dX5_readOfArmy_53 (by decide) ?_
        exact T_zreturn dX5_readOfArmy_54 rfl (by omega) (hno (fun z => hn1 z.1))
      · obtain ⟨hgv, hin1⟩ := hav.resolve_left (fun z => ha1 z.1)
        by_cases hin2 : inR (nmT T n (avT T n q)) (loW v) (hiW v)
        · rw [if_pos hin2] at h14c
          have hnn := nmT_rg (T := T) (n := n) (p := avT T n q)
          have hfin : ∀ f : Nat, f < 4 → v = 5 + (f : Int) → LnC d0 T n (gNum T n q (fun q2 => gNum T n q2 (gSem T n))) (xNum T n (xNum T n x q 0 1) (avT T n q) (loW v) (hiW v)) (fun d => BC0 d ∧ ((xNum T n (xNum T n x q 0 1) (avT T n q) (loW v) (hiW v)).1 = 0 → Wo d 54 (upF dr (7 + 2 * (v - 5).toNat + gvT T n q) (nmT T n (avT T n q))))) (some (vI 1)) (up e3 (56 + f) (gvT T n q) (nmT T n (avT T n q))) := fun f hf hvf => LnC_t hg (CR_df hR3 (by omega)) hxy ⟨BC0_df (BC0_nf hB hN4) (by omega), fun z => by
            rw [show (v - 5).toNat = f by omega]
            exact Wo_u2 (Wo_nf (hd (xNum_0 (xNum_0 z).1).1) hN4) hf hg2⟩
          refine T_if_ne (tgt := 40) dX5_readOfArmy_35 (by decide) (fun c35 => ?_) (fun c35 => absurd c35 (by decide))
          refine T_iload_n dX5_readOfArmy_40 rfl ?_
          refine T_iconst dX5_readOfArmy_41 (by decide) ?_
          refine T_icmp_eq (tgt := 53) dX5_readOfArmy_42 (by decide) (fun c42 => absurd c42 ha1) (fun c42 => ?_)
          refine T_aload_n dX5_readOfArmy_45 rfl ?_
          refine T_getIv dX5_readOfArmy_46 fX5_71 rfl k53 (x := nmT T n (avT T n q)) h14c ?_
          refine T_iconst dX5_readOfArmy_49 (by decide) ?_
          refine T_icmp_ne (tgt := 55) dX5_readOfArmy_50 (by decide) (fun c50 => ?_) (fun c50 => absurd c50 (by omega))
          refine T_iload_n dX5_readOfArmy_55 rfl ?_
          refine T_bipush dX5_readOfArmy_56 (by decide) ?_
          refine T_icmp_ne (tgt := 77) dX5_readOfArmy_58 (by decide) (fun c58 => ?_) (fun c58 => ?_)
          · refine T_iload_n dX5_readOfArmy_77 rfl ?_
            refine T_bipush dX5_readOfArmy_78 (by decide) ?_
            refine T_icmp_ne (tgt := 99) dX5_readOfArmy_80 (by decide) (fun c80 => ?_) (fun c80 => ?_)
            · refine T_iload_n dX5_readOfArmy_99 rfl ?_
              refine T_bipush dX5_readOfArmy_100 (by decide) ?_
              refine T_icmp_ne (tgt := 121) dX5_readOfArmy_102 (by decide) (fun c102 => ?_) (fun c102 => ?_)
              · refine T_aload_n dX5_readOfArmy_121 rfl ?_
                refine T_getR dX5_readOfArmy_122 fX5_12 rfl k53 r53_0 ?_
                refine T_getR dX5_readOfArmy_125 fX5_162 rfl k54 r54_7 ?_
                refine T_iload_n dX5_readOfArmy_128 rfl ?_
                refine T_aload_n dX5_readOfArmy_129 rfl ?_
                refine T_getIv dX5_readOfArmy_130 fX5_71 rfl k53 (x := nmT T n (avT T n q)) h14c ?_
                refine T_iast dX5_readOfArmy_133 k59 l59 (by omega) (j := gvT T n q) (by omega) ?_
                refine T_iconst dX5_readOfArmy_134 (by decide) ?_
                exact T_zreturn dX5_readOfArmy_135 rfl (by omega) (hfin 3 (by decide) (by omega))
              · refine T_aload_n dX5_readOfArmy_105 rfl ?_
                refine T_getR dX5_readOfArmy_106 fX5_12 rfl k53 r53_0 ?_
                refine T_getR dX5_readOfArmy_109 fX5_159 rfl k54 r54_6 ?_
                refine T_iload_n dX5_readOfArmy_112 rfl ?_
                refine T_aload_n dX5_readOfArmy_113 rfl ?_
                refine T_getIv dX5_readOfArmy_114 fX5_71 rfl k53 (x := nmT T n (avT T n q)) h14c ?_
                refine T_iast dX5_readOfArmy_117 k58 l58 (by omega) (j := gvT T n q) (by omega) ?_
                refine T_goto (tgt := 134) dX5_readOfArmy_118 (by decide) ?_
                refine T_iconst dX5_readOfArmy_134 (by decide) ?_
                exact T_zreturn dX5_readOfArmy_135 rfl (by omega) (hfin 2 (by decide) (by omega))
            · refine T_aload_n dX5_readOfArmy_83 rfl ?_
              refine T_getR dX5_readOfArmy_84 fX5_12 rfl k53 r53_0 ?_
              refine T_getR dX5_readOfArmy_87 fX5_156 rfl k54 r54_5 ?_
              refine T_iload_n dX5_readOfArmy_90 rfl ?_
              refine T_aload_n dX5_readOfArmy_91 rfl ?_
              refine T_getIv dX5_readOfArmy_92 fX5_71 rfl k53 (x := nmT T n (avT T n q)) h14c ?_
              refine T_iast dX5_readOfArmy_95 k57 l57 (by omega) (j := gvT T n q) (by omega) ?_
              refine T_goto (tgt := 134) dX5_readOfArmy_96 (by decide) ?_
              refine T_iconst dX5_readOfArmy_134 (by decide) ?_
              exact T_zreturn dX5_readOfArmy_135 rfl (by omega) (hfin 1 (by decide) (by omega))
          · refine T_aload_n dX5_readOfArmy_61 rfl ?_
            refine T_getR dX5_readOfArmy_62 fX5_12 rfl k53 r53_0 ?_
            refine T_getR dX5_readOfArmy_65 fX5_153 rfl k54 r54_4 ?_
            refine T_iload_n dX5_readOfArmy_68 rfl ?_
            refine T_aload_n dX5_readOfArmy_69 rfl ?_
            refine T_getIv dX5_readOfArmy_70 fX5_71 rfl k53 (x := nmT T n (avT T n q)) h14c ?_
            refine T_iast dX5_readOfArmy_73 k56 l56 (by omega) (j := gvT T n q) (by omega) ?_
            refine T_goto (tgt := 134) dX5_readOfArmy_74 (by decide) ?_
            refine T_iconst dX5_readOfArmy_134 (by decide) ?_
            exact T_zreturn dX5_readOfArmy_135 rfl (by omega) (hfin 0 (by decide) (by omega))
        · rw [if_neg hin2] at h14c
          refine T_if_ne (tgt := 40) dX5_readOfArmy_35 (by decide) (fun c35 => ?_) (fun c35 => absurd c35 (by decide))
          refine T_iload_n dX5_readOfArmy_40 rfl ?_
          refine T_iconst dX5_readOfArmy_41 (by decide) ?_
          refine T_icmp_eq (tgt := 53) dX5_readOfArmy_42 (by decide) (fun c42 => absurd c42 ha1) (fun c42 => ?_)
          refine T_aload_n dX5_readOfArmy_45 rfl ?_
          refine T_getIv dX5_readOfArmy_46 fX5_71 rfl k53 (x := (-1 : Int)) h14c ?_
          refine T_iconst dX5_readOfArmy_49 (by decide) ?_
          refine T_icmp_ne (tgt := 55) dX5_readOfArmy_50 (by decide) (fun c50 => absurd rfl c50) (fun c50 => ?_)
          refine T_iconst dX5_readOfArmy_53 (by decide) ?_
          exact T_zreturn dX5_readOfArmy_54 rfl (by omega) (hno (fun z => hin2 z.2))
    ·
      refine T_if_ne (tgt := 40) dX5_readOfArmy_35 (by decide) (fun c35 => absurd rfl c35) (fun c35 => ?_)
      refine T_iconst dX5_readOfArmy_38 (by decide) ?_
      exact T_zreturn dX5_readOfArmy_39 rfl (by omega) (LnC_f ((if_pos hk).trans (if_neg hk2)) hR2.ce)
  refine T_aload_n dX5_readOfArmy_0 rfl ?_
  refine T_iconst dX5_readOfArmy_1 (by decide) ?_
  refine T_iconst dX5_readOfArmy_2 (by decide) ?_
  refine T_callV dX5_readOfArmy_3 lX5_131 (As := [_, _]) (rest := _) rfl rfl k53 (by decide) (Nat.le_of_ble_eq_true rfl) (Nat.le_of_ble_eq_true rfl) (c_takeNumber h hx) ?_
  rintro _ e2 (⟨hk, rfl, hR2, hN2, h14b⟩ | ⟨hk, rfl, rfl⟩)
  ·
    have hav : ((if inR (nmT T n q) 0 1 then nmT T n q else -1) = -1 ∧ ¬ inR (nmT T n q) 0 1) ∨ ((if inR (nmT T n q) 0 1 then nmT T n q else -1) = (gvT T n q : Int) ∧ inR (nmT T n q) 0 1) := by
      by_cases y : inR (nmT T n q) 0 1
      · right; exact ⟨by unfold gvT; rw [if_pos y, if_pos y]; omega, y⟩
      · left; exact ⟨if_neg y, y⟩
    refine T_if_ne (tgt := 11) dX5_readOfArmy_6 (by decide) (fun c6 => ?_) (fun c6 => absurd c6 (by decide))
    refine T_aload_n dX5_readOfArmy_11 rfl ?_
    refine T_getIv dX5_readOfArmy_12 fX5_71 rfl k53 (x := if inR (nmT T n q) 0 1 then nmT T n q else -1) h14b ?_
    refine T_ist_n dX5_readOfArmy_15 (by decide) rfl ?_
    refine T_aload_n dX5_readOfArmy_16 rfl ?_
    refine T_iload_n dX5_readOfArmy_17 rfl ?_
    refine T_bipush dX5_readOfArmy_18 (by decide) ?_
    refine T_icmp_ne (tgt := 27) dX5_readOfArmy_20 (by decide) (fun c20 => ?_) (fun c20 => ?_)
    · refine T_iconst dX5_readOfArmy_27 (by decide) ?_
      have hl : loW v = 0 := by rw [hlh.2, if_neg (by omega)]
      exact h28 e2 _ _ hl.symm hk hR2 hN2 hav
    · refine T_iconst dX5_readOfArmy_23 (by decide) ?_
      refine T_goto (tgt := 28) dX5_readOfArmy_24 (by decide) ?_
      have hl : loW v = 1 := by rw [hlh.2, if_pos (by omega)]
      exact h28 e2 _ _ hl.symm hk hR2 hN2 hav
  ·
    refine T_if_ne (tgt := 11) dX5_readOfArmy_6 (by decide) (fun c6 => absurd rfl c6) (fun c6 => ?_)
    refine T_iconst dX5_readOfArmy_9 (by decide) ?_
    exact T_zreturn dX5_readOfArmy_10 rfl (by omega) (LnC_f (if_neg hk) h.ce)

theorem LnC_cg {g g' : Bool × Nat} {x x' : Int × Int} {t t' : sD → Prop} {r : Option sV} (h : LnC d0 T n g x t r d) (hg : g' = g) (hx : x' = x) (ht : t d → t' d) : LnC d0 T n g' x' t' r d := by
  subst hg hx
  rcases h with h | ⟨q, h1, h2, h3, h4, h5⟩
  · exact Or.inl h
  · exact Or.inr ⟨q, h1, h2, h3, h4, ht h5⟩
theorem c_readWarLine {wv : Int} (h : CR d0 d T n p x) (hx : NL x p) (hW : CW T n p wv) (hB : BC0 d) (hd : x.1 = 0 → WV dr ∧ Wo d 54 dr) : tB G mX5_readWarLine 0 [vR 53, vI wv, vI (p : Int)] [] d (LnC d0 T n (gWar T n p) (xWar T n x dr p) (fun d => BC0 d ∧ ((xWar T n x dr p).1 = 0 → Wo d 54 (dWar T n dr p)))) := by
  have hT := h.tv
  have hp := h.le
  have hp1 := hT.av hp
  obtain ⟨hWi, hWv⟩ := CW_lo hW
  have hno : ¬ isW T n p 1 9 → gWar T n p = (false, p) := fun z => (if_neg (fun y => z ⟨y.1, by have := y.2; omega, by have := y.2; omega⟩)).trans (if_neg (fun y => z ⟨y.1, by have := y.2; omega, by have := y.2; omega⟩))
  refine T_iload_n dX5_readWarLine_0 rfl ?_
  refine T_bipush dX5_readWarLine_1 (by decide) ?_
  refine T_icmp_lt (tgt := 12) dX5_readWarLine_3 (by decide) (fun c3 => ?_) (fun c3 => ?_)
  · refine T_iconst dX5_readWarLine_12 (by decide) ?_
    exact T_zreturn dX5_readWarLine_13 rfl (by omega) (LnC_f (hno (fun z => by have := hWi.mpr z; omega)) h.ce)
  · refine T_iload_n dX5_readWarLine_6 rfl ?_
    refine T_bipush dX5_readWarLine_7 (by decide) ?_
    refine T_icmp_le (tgt := 14) dX5_readWarLine_9 (by decide) (fun c9 => ?_) (fun c9 => ?_)
    · refine T_aload_n dX5_readWarLine_14 rfl ?_
      refine T_callV dX5_readWarLine_15 lX5_87 (As := []) (rest := _) rfl rfl k53 (by decide) (Nat.le_of_ble_eq_true rfl) (Nat.le_of_ble_eq_true rfl) (c_nextR h) ?_
      rintro _ e1 ⟨rfl, hR, hN, h14⟩
      have hw := hWi.mp (by omega)
      have hv := hWv (by omega)
      have hlt := tk_lt hT hp hw
      have hw2 := hw.2
      have hx1 : NL x (avT T n p : Nat) := hx.mono (by omega)
      have hB1 := BC0_nf hB hN
      have hd1 : x.1 = 0 → WV dr ∧ Wo e1 54 dr := fun z => ⟨(hd z).1, Wo_nf (hd z).2 hN⟩
      have hg8 : ¬ woT T n p = 9 → gWar T n p = gWa2 T n (woT T n p) (avT T n p) ∧ xWar T n x dr p = xWa2 T n x (woT T n p) (avT T n p) ∧ dWar T n dr p = dWa2 T n dr (woT T n p) (avT T n p) := fun z => by
        have y : ¬ isW T n p 9 9 := fun u => z (by have := u.2; omega)
        exact ⟨(if_neg y).trans (if_pos ⟨hw.1, by omega, by omega⟩), if_neg y, if_neg y⟩
      refine T_iload_n dX5_readWarLine_18 rfl ?_
      refine T_bipush dX5_readWarLine_19 (by decide) ?_
      refine T_icmp_ne (tgt := 30) dX5_readWarLine_21 (by decide) (fun c21 => ?_) (fun c21 => ?_)
      · refine T_iload_n dX5_readWarLine_30 rfl ?_
        refine T_bipush dX5_readWarLine_31 (by decide) ?_
        refine T_icmp_ne (tgt := 41) dX5_readWarLine_33 (by decide) (fun c33 => ?_) (fun c33 => ?_)
        · refine T_iload_n dX5_readWarLine_41 rfl ?_
          refine T_bipush dX5_readWarLine_42 (by decide) ?_
          refine T_icmp_ge (tgt := 55) dX5_readWarLine_44 (by decide) (fun c44 => ?_) (fun c44 => ?_)
          · refine T_aload_n dX5_readWarLine_55 rfl ?_
            refine T_iload_n dX5_readWarLine_56 rfl ?_
            refine T_callV dX5_readWarLine_57 lX5_128 (As := [_]) (rest := _) rfl rfl k53 (by decide) (Nat.le_of_ble_eq_true rfl) (Nat.le_of_ble_eq_true rfl) (c_readOfArmy (v := woT T n p) hR hx1 (by omega) (by omega) hB1 (fun z => (hd1 z).2)) ?_
            have g8 := hg8 (by omega)
            rintro r e2 hL
            have hr : ∃ b : Int, (b = 0 ∨ b = 1) ∧ r = some (vI b) := by
              rcases hL with z | ⟨_, z, _⟩
              · exact ⟨0, Or.inl rfl, z.1⟩
              · exact ⟨1, Or.inr rfl, z⟩
            obtain ⟨b, hb, rfl⟩ := hr
            exact T_zreturn dX5_readWarLine_60 rfl (by omega) (LnC_cg hL (g8.1.trans ((if_neg (by omega)).trans (if_neg (by omega)))) (g8.2.1.trans ((if_neg (by omega)).trans (if_neg (by omega)))) (fun z => ⟨z.1, fun y => by rw [g8.2.2, show dWa2 T n dr (woT T n p) (avT T n p) = _ from (if_neg (by omega)).trans (if_neg (by omega))]; rw [g8.2.1, show xWa2 T n x (woT T n p) (avT T n p) = _ from (if_neg (by omega)).trans (if_neg (by omega))] at y; exact z.2 y⟩))
          · refine T_aload_n dX5_readWarLine_47 rfl ?_
            refine T_iload_n dX5_readWarLine_48 rfl ?_
            refine T_callV dX5_readWarLine_49 lX5_125 (As := [_]) (rest := _) rfl rfl k53 (by decide) (Nat.le_of_ble_eq_true rfl) (Nat.le_of_ble_eq_true rfl) (c_readOfDrum (v := woT T n p) hR hx1 (by omega) (by omega) hB1 (fun z => (hd1 z).2)) ?_
            have g8 := hg8 (by omega)
            rintro r e2 hL
            have hr : ∃ b : Int, (b = 0 ∨ b = 1) ∧ r = some (vI b) := by
              rcases hL with z | ⟨_, z, _⟩
              · exact ⟨0, Or.inl rfl, z.1⟩
              · exact ⟨1, Or.inr rfl, z⟩
            obtain ⟨b, hb, rfl⟩ := hr
            refine T_goto (tgt := 60) dX5_readWarLine_52 (by decide) ?_
            exact T_zreturn dX5_readWarLine_60 rfl (by omega) (LnC_cg hL (g8.1.trans (if_pos (by omega))) (g8.2.1.trans (if_pos (by omega))) (fun z => ⟨z.1, fun y => by rw [g8.2.2, show dWa2 T n dr (woT T n p) (avT T n p) = _ from if_pos (by omega)]; rw [g8.2.1, show xWa2 T n x (woT T n p) (avT T n p) = _ from if_pos (by omega)] at y; exact z.2 y⟩))
        · refine T_aload_n dX5_readWarLine_36 rfl ?_
          refine T_callV dX5_readWarLine_37 lX5_122 (As := []) (rest := _) rfl rfl k53 (by decide) (Nat.le_of_ble_eq_true rfl) (Nat.le_of_ble_eq_true rfl) (c_readWet hR hx1 hB1 (fun z => (hd1 z).2)) ?_
          have g8 := hg8 (by omega)
          rintro r e2 hL
          have hr : ∃ b : Int, (b = 0 ∨ b = 1) ∧ r = some (vI b) := by
            rcases hL with z | ⟨_, z, _⟩
            · exact ⟨0, Or.inl rfl, z.1⟩
            · exact ⟨1, Or.inr rfl, z⟩
          obtain ⟨b, hb, rfl⟩ := hr
          exact T_zreturn dX5_readWarLine_40 rfl (by omega) (LnC_cg hL (g8.1.trans ((if_neg (by omega)).trans (if_pos (by omega)))) (g8.2.1.trans ((if_neg (by omega)).trans (if_pos (by omega)))) (fun z => ⟨z.1, fun y => by rw [g8.2.2, show dWa2 T n dr (woT T n p) (avT T n p) = _ from (if_neg (by omega)).trans (if_pos (by omega))]; rw [g8.2.1, show xWa2 T n x (woT T n p) (avT T n p) = _ from (if_neg (by omega)).trans (if_pos (by omega))] at y; exact z.2 y⟩))
      · refine T_aload_n dX5_readWarLine_24 rfl ?_
        refine T_iload_n dX5_readWarLine_25 rfl ?_
        refine T_callV dX5_readWarLine_26 lX5_119 (As := [_]) (rest := _) rfl rfl k53 (by decide) (Nat.le_of_ble_eq_true rfl) (Nat.le_of_ble_eq_true rfl) (c_readOrder hR hp hx ⟨hw.1, by omega, by omega⟩ hB1 hd1) ?_
        have h99 : isW T n p 9 9 := ⟨hw.1, by omega, by omega⟩
        rintro r e2 hL
        have hr : ∃ b : Int, (b = 0 ∨ b = 1) ∧ r = some (vI b) := by
          rcases hL with z | ⟨_, z, _⟩
          · exact ⟨0, Or.inl rfl, z.1⟩
          · exact ⟨1, Or.inr rfl, z⟩
        obtain ⟨b, hb, rfl⟩ := hr
        exact T_zreturn dX5_readWarLine_29 rfl (by omega) (LnC_cg hL (if_pos h99) (if_pos h99) (fun z => ⟨z.1, fun y => by rw [show dWar T n dr p = dOrd T n dr p from if_pos h99]; rw [show xWar T n x dr p = xOrd T n x dr p from if_pos h99] at y; exact z.2 y⟩))
    · refine T_iconst dX5_readWarLine_12 (by decide) ?_
      exact T_zreturn dX5_readWarLine_13 rfl (by omega) (LnC_f (hno (fun z => by have := hWi.mpr z; omega)) h.ce)

end C57
