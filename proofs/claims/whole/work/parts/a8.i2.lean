/-! the class: a line of villages -/
section C54
variable {G : sG} {d d' d0 d1 e : sD} {T : Nat → Int} {n p q : Nat} {x : Int × Int} {dr : Nat → Int}
theorem Vo_nf (h : Vo d 70 dr) (hN : NF d d') : Vo d' 70 dr := Vo_eq h (fun x j hx => hN _ _ (by omega))
def BC3 (d : sD) : Prop := 0 ≤ d 70 0 ∧ d 70 0 ≤ 8
theorem BC3_nf (h : BC3 d) (hN : NF d d') : BC3 d' := by unfold BC3; rw [hN 70 0 (by decide)]; exact h
theorem xV0_c {m : Int} (h : x.1 = 0 → m = dr 0) : xV0 x dr p = if m < 8 then x else ntA x 3 p := by
  by_cases z : x.1 = 0
  · rw [h z]; rfl
  · unfold xV0; rw [ntA_n z, ite_self, ite_self]
def vuD (e : sD) (a b c f : Int) : sD := up (up (up (up (up e 71 (e 70 0).toNat a) 72 (e 70 0).toNat b) 73 (e 70 0).toNat c) 74 (e 70 0).toNat f) 70 0 (e 70 0 + 1)
theorem Vo_add {a b c f : Int} (hO : Vo e 70 dr) (h0 : 0 ≤ dr 0) : Vo (vuD e a b c f) 70 (vlD dr a b c f) := by
  have q0 : e 70 0 = dr 0 := hO.1
  refine ⟨?_, fun k hk => ?_⟩
  · show vuD e a b c f 70 0 = _
    unfold vuD; rw [up_same, q0]; exact (if_pos rfl).symm
  · have hk' : (k : Int) < dr 0 + 1 := hk
    show vuD e a b c f 71 k = _ ∧ vuD e a b c f 72 k = _ ∧ vuD e a b c f 73 k = _ ∧ vuD e a b c f 74 k = _
    unfold vuD vlD
    try dsimp only
    rw [q0]
    by_cases z : k = (dr 0).toNat
    · rw [z]
      refine ⟨?_, ?_, ?_, ?_⟩
      · rw [up_nea (by decide), up_nea (by decide), up_nea (by decide), up_nea (by decide), up_same, if_neg (by omega), if_pos rfl]
      · rw [up_nea (by decide), up_nea (by decide), up_nea (by decide), up_same, if_neg (by omega), if_neg (by omega), if_pos rfl]
      · rw [up_nea (by decide), up_nea (by decide), up_same, if_neg (by omega), if_neg (by omega), if_neg (by omega), if_pos rfl]
      · rw [up_nea (by decide), up_same, if_neg (by omega), if_neg (by omega), if_neg (by omega), if_neg (by omega), if_pos rfl]
    · obtain ⟨s1, s2, s3, s4⟩ := hO.2 k (by omega)
      refine ⟨?_, ?_, ?_, ?_⟩
      · rw [up_nea (by decide), up_nea (by decide), up_nea (by decide), up_nea (by decide), up_nej z, if_neg (by omega), if_neg (by omega), if_neg (by omega), if_neg (by omega), if_neg (by omega)]; exact s1
      · rw [up_nea (by decide), up_nea (by decide), up_nea (by decide), up_nej z, up_nea (by decide), if_neg (by omega), if_neg (by omega), if_neg (by omega), if_neg (by omega), if_neg (by omega)]; exact s2
      · rw [up_nea (by decide), up_nea (by decide), up_nej z, up_nea (by decide), up_nea (by decide), if_neg (by omega), if_neg (by omega), if_neg (by omega), if_neg (by omega), if_neg (by omega)]; exact s3
      · rw [up_nea (by decide), up_nej z, up_nea (by decide), up_nea (by decide), up_nea (by decide), if_neg (by omega), if_neg (by omega), if_neg (by omega), if_neg (by omega), if_neg (by omega)]; exact s4
theorem CR_vu {a b c f : Int} (h : CR d0 e T n p x) : CR d0 (vuD e a b c f) T n p x := CR_df (CR_df (CR_df (CR_df (CR_df h (by decide)) (by decide)) (by decide)) (by decide)) (by decide)

theorem c_addVillage {a b c f : Int} (hB : BC3 e) : tB G mX5_addVillage 0 [vR 53, vI a, vI b, vI c, vI f, vU 0] [] e (fun r d' => r = none ∧ ((e 70 0 < 8 ∧ d' = vuD e a b c f) ∨ (¬ e 70 0 < 8 ∧ e = d'))) := by
  have hB1 := hB.1
  have hB2 := hB.2
  refine T_aload_n dX5_addVillage_0 rfl ?_
  refine T_getR dX5_addVillage_1 fX5_35 rfl k53 r53_3 ?_
  refine T_getIv dX5_addVillage_4 fX5_99 rfl k70 (x := e 70 0) rfl ?_
  refine T_ist dX5_addVillage_7 (by decide) rfl ?_
  refine T_iload dX5_addVillage_9 rfl ?_
  refine T_bipush dX5_addVillage_11 (by decide) ?_
  refine T_icmp_ge (tgt := 72) dX5_addVillage_13 (by decide) (fun c13 => ?_) (fun c13 => ?_)
  · exact T_return dX5_addVillage_72 rfl ⟨rfl, Or.inr ⟨by omega, rfl⟩⟩
  · refine T_aload_n dX5_addVillage_16 rfl ?_
    refine T_getR dX5_addVillage_17 fX5_35 rfl k53 r53_3 ?_
    refine T_getR dX5_addVillage_20 fX5_212 rfl k70 r70_1 ?_
    refine T_iload dX5_addVillage_23 rfl ?_
    refine T_iload_n dX5_addVillage_25 rfl ?_
    refine T_iast dX5_addVillage_26 k71 l71 (by omega) (j := (e 70 0).toNat) (by omega) ?_
    refine T_aload_n dX5_addVillage_27 rfl ?_
    refine T_getR dX5_addVillage_28 fX5_35 rfl k53 r53_3 ?_
    refine T_getR dX5_addVillage_31 fX5_215 rfl k70 r70_2 ?_
    refine T_iload dX5_addVillage_34 rfl ?_
    refine T_iload_n dX5_addVillage_36 rfl ?_
    refine T_iast dX5_addVillage_37 k72 l72 (by omega) (j := (e 70 0).toNat) (by omega) ?_
    refine T_aload_n dX5_addVillage_38 rfl ?_
    refine T_getR dX5_addVillage_39 fX5_35 rfl k53 r53_3 ?_
    refine T_getR dX5_addVillage_42 fX5_218 rfl k70 r70_3 ?_
    refine T_iload dX5_addVillage_45 rfl ?_
    refine T_iload_n dX5_addVillage_47 rfl ?_
    refine T_iast dX5_addVillage_48 k73 l73 (by omega) (j := (e 70 0).toNat) (by omega) ?_
    refine T_aload_n dX5_addVillage_49 rfl ?_
    refine T_getR dX5_addVillage_50 fX5_35 rfl k53 r53_3 ?_
    refine T_getR dX5_addVillage_53 fX5_221 rfl k70 r70_4 ?_
    refine T_iload dX5_addVillage_56 rfl ?_
    refine T_iload dX5_addVillage_58 rfl ?_
    refine T_iast dX5_addVillage_60 k74 l74 (by omega) (j := (e 70 0).toNat) (by omega) ?_
    refine T_aload_n dX5_addVillage_61 rfl ?_
    refine T_getR dX5_addVillage_62 fX5_35 rfl k53 r53_3 ?_
    refine T_iload dX5_addVillage_65 rfl ?_
    refine T_iconst dX5_addVillage_67 (by decide) ?_
    refine T_add dX5_addVillage_68 (by omega) ?_
    refine T_putI dX5_addVillage_69 fX5_99 rfl k70 ?_
    exact T_return dX5_addVillage_72 rfl ⟨rfl, Or.inl ⟨by omega, rfl⟩⟩

theorem c_takeParent (h : CR d0 d T n p x) (hx : NL x p) (hm : x.1 = 0 → d 70 0 = dr 0) (hB : BC3 d) : tB G mX5_takeParent 0 [vR 53] [] d (fun r d' => (kdT T n p = 1 ∧ r = some (vI 1) ∧ CR d0 d' T n (avT T n p) (xV1 T n x dr p) ∧ NF d d' ∧ ((xV1 T n x dr p).1 = 0 → d' 53 14 = nmT T n p)) ∨ (¬ kdT T n p = 1 ∧ r = some (vI 0) ∧ d = d')) := by
  obtain ⟨n1, n2, n3, n4⟩ := CK_n h.ck
  have hnm := nmT_rg (T := T) (n := n) (p := p)
  have hB1 := hB.1
  have hB2 := hB.2
  have hV : (¬ nmT T n p = 8 → xNum T n x p 0 (d 70 0 - 1) = xV1 T n x dr p) ∧ (nmT T n p = 8 → xNum T n x p 8 8 = xV1 T n x dr p) := by
    refine ⟨fun z => ?_, fun z => ?_⟩
    · by_cases y : x.1 = 0
      · have := hm y
        unfold xNum xV1
        by_cases u : nmT T n p < dr 0
        · rw [if_pos ⟨hnm.1, by omega⟩, if_pos (Or.inr u)]
        · rw [if_neg (fun w => u (by have := w.2; omega)), if_neg (fun w => w.elim z u)]
      · unfold xNum xV1; rw [ntA_n y, ite_self, ite_self]
    · unfold xNum xV1; rw [if_pos ⟨by omega, by omega⟩, if_pos (Or.inl z)]
  have hE : ∀ (lo hi : Int) (r : Option sV) (d' : sD), xNum T n x p lo hi = xV1 T n x dr p → ((kdT T n p = 1 ∧ r = some (vI 1) ∧ CR d0 d' T n (avT T n p) (xNum T n x p lo hi) ∧ NF d d' ∧ d' 53 14 = (if inR (nmT T n p) lo hi then nmT T n p else -1)) ∨ (¬ kdT T n p = 1 ∧ r = some (vI 0) ∧ d = d')) → (fun r d' => (kdT T n p = 1 ∧ r = some (vI 1) ∧ CR d0 d' T n (avT T n p) (xV1 T n x dr p) ∧ NF d d' ∧ ((xV1 T n x dr p).1 = 0 → d' 53 14 = nmT T n p)) ∨ (¬ kdT T n p = 1 ∧ r = some (vI 0) ∧ d = d')) r d' := by
    rintro lo hi r d' hxx (⟨q1, q2, q3, q4, q5⟩ | q)
    · refine Or.inl ⟨q1, q2, by rw [← hxx]; exact q3, q4, fun z => ?_⟩
      rw [← hxx] at z
      rw [q5, if_pos (xNum_0 z).2]
    · exact Or.inr q
  have h26 : (kdT T n p = 1 → ¬ nmT T n p = 8) → tB G mX5_takeParent 26 [vR 53] [] d (fun r d' => (kdT T n p = 1 ∧ r = some (vI 1) ∧ CR d0 d' T n (avT T n p) (xV1 T n x dr p) ∧ NF d d' ∧ ((xV1 T n x dr p).1 = 0 → d' 53 14 = nmT T n p)) ∨ (¬ kdT T n p = 1 ∧ r = some (vI 0) ∧ d = d')) := by
    intro h8
    refine T_aload_n dX5_takeParent_26 rfl ?_
    refine T_iconst dX5_takeParent_27 (by decide) ?_
    refine T_aload_n dX5_takeParent_28 rfl ?_
    refine T_getR dX5_takeParent_29 fX5_35 rfl k53 r53_3 ?_
    refine T_getIv dX5_takeParent_32 fX5_99 rfl k70 (x := d 70 0) rfl ?_
    refine T_iconst dX5_takeParent_35 (by decide) ?_
    refine T_sub dX5_takeParent_36 (by omega) ?_
    refine T_callV dX5_takeParent_37 lX5_131 (As := [_, _]) (rest := _) rfl rfl k53 (by decide) (Nat.le_of_ble_eq_true rfl) (Nat.le_of_ble_eq_true rfl) (c_takeNumber h hx) ?_
    rintro _ e2 (⟨hk, rfl, hR2, hN2, h14⟩ | ⟨hk, rfl, rfl⟩)
    ·
      exact T_zreturn dX5_takeParent_40 rfl (by omega) (hE _ _ _ _ (hV.1 (h8 hk)) (Or.inl ⟨hk, rfl, hR2, hN2, h14⟩))
    ·
      exact T_zreturn dX5_takeParent_40 rfl (by omega) (Or.inr ⟨hk, rfl, rfl⟩)
  refine T_aload_n dX5_takeParent_0 rfl ?_
  refine T_getIv dX5_takeParent_1 fX5_62 rfl k53 (x := d 53 11) rfl ?_
  refine T_iconst dX5_takeParent_4 (by decide) ?_
  refine T_icmp_ne (tgt := 26) dX5_takeParent_5 (by decide) (fun c5 => ?_) (fun c5 => ?_)
  · exact h26 (fun z => absurd (n1.mpr z) c5)
  · refine T_aload_n dX5_takeParent_8 rfl ?_
    refine T_getIv dX5_takeParent_9 fX5_68 rfl k53 (x := nmT T n p) (n2 c5) ?_
    refine T_bipush dX5_takeParent_12 (by decide) ?_
    refine T_icmp_ne (tgt := 26) dX5_takeParent_14 (by decide) (fun c14 => ?_) (fun c14 => ?_)
    · exact h26 (fun _ => c14)
    · refine T_aload_n dX5_takeParent_17 rfl ?_
      refine T_bipush dX5_takeParent_18 (by decide) ?_
      refine T_bipush dX5_takeParent_20 (by decide) ?_
      refine T_callV dX5_takeParent_22 lX5_131 (As := [_, _]) (rest := _) rfl rfl k53 (by decide) (Nat.le_of_ble_eq_true rfl) (Nat.le_of_ble_eq_true rfl) (c_takeNumber h hx) ?_
      rintro _ e2 (⟨hk, rfl, hR2, hN2, h14⟩ | ⟨hk, rfl, rfl⟩)
      ·
        exact T_zreturn dX5_takeParent_25 rfl (by omega) (hE _ _ _ _ (hV.2 c14) (Or.inl ⟨hk, rfl, hR2, hN2, h14⟩))
      ·
        exact T_zreturn dX5_takeParent_25 rfl (by omega) (Or.inr ⟨hk, rfl, rfl⟩)

theorem c_v146 {wv lv v a c f : Int} {y : Int × Int} (hB : BC3 e) (h : CR d0 e T n q y) (hy : NL y q) (hxy : xVil T n x dr p = y) (hg : gVil T n p = gSem T n q) (hd : y.1 = 0 → (e 70 0 < 8 ∧ 0 ≤ dr 0 ∧ Vo e 70 dr) ∧ dVil T n dr p = vlD dr a v c f) : tB G mX5_readVillageLine 146 [vR 53, vI wv, vI lv, vI v, vI a, vI c, vI f] [] e (LnC d0 T n (gVil T n p) (xVil T n x dr p) (fun d => BC3 d ∧ ((xVil T n x dr p).1 = 0 → Vo d 70 (dVil T n dr p)))) := by
  rw [hxy]
  have hB1 := hB.1
  have hB2 := hB.2
  refine T_aload_n dX5_readVillageLine_146 rfl ?_
  refine T_iload dX5_readVillageLine_147 rfl ?_
  refine T_iload_n dX5_readVillageLine_149 rfl ?_
  refine T_iload dX5_readVillageLine_150 rfl ?_
  refine T_iload dX5_readVillageLine_152 rfl ?_
  refine T_callV dX5_readVillageLine_154 lX5_208 (As := [_, _, _, _]) (rest := _) rfl rfl k53 (by decide) (Nat.le_of_ble_eq_true rfl) (Nat.le_of_ble_eq_true rfl) (c_addVillage hB) ?_
  rintro _ e1 ⟨rfl, (⟨hc, rfl⟩ | ⟨hc, rfl⟩)⟩
  ·
    refine T_iconst dX5_readVillageLine_157 (by decide) ?_
    exact T_zreturn dX5_readVillageLine_158 rfl (by omega) (LnC_t hg (CR_vu h) hy ⟨⟨by unfold vuD; rw [up_same]; omega, by unfold vuD; rw [up_same]; omega⟩, fun z => by rw [(hd z).2]; exact Vo_add (hd z).1.2.2 (hd z).1.2.1⟩)
  ·
    refine T_iconst dX5_readVillageLine_157 (by decide) ?_
    exact T_zreturn dX5_readVillageLine_158 rfl (by omega) (LnC_t hg h hy ⟨hB, fun z => absurd (hd z).1.1 hc⟩)

theorem c_v56 {wv lv v a : Int} {p2 : Nat} {y : Int × Int} (hv : v = 0 ∨ v = 1 ∨ v = 2 ∨ v = 3) (hB : BC3 e) (h : CR d0 e T n p2 y) (hy : NL y p2) (hxy : xVil T n x dr p = xV2 T n y v p2) (hg : gVil T n p = gVi2 T n v p2) (hd : y.1 = 0 → (e 70 0 < 8 ∧ 0 ≤ dr 0 ∧ Vo e 70 dr) ∧ dVil T n dr p = vlD dr a v (if v = 0 then nmT T n p2 else if v = 3 then -1 else woT T n p2 - 10) (if v = 1 then woT T n (avT T n p2) - 10 else -1)) : tB G mX5_readVillageLine 56 [vR 53, vI wv, vI lv, vI v, vI a, vI (-1), vI (-1)] [] e (LnC d0 T n (gVil T n p) (xVil T n x dr p) (fun d => BC3 d ∧ ((xVil T n x dr p).1 = 0 → Vo d 70 (dVil T n dr p)))) := by
  have hT := h.tv
  have hp := h.le
  have hp1 := hT.av hp
  rcases hv with rfl | rfl | rfl | rfl
  · have g0 : gVi2 T n 0 p2 = gNum T n p2 (gSem T n) := if_pos rfl
    have x0 : xV2 T n y 0 p2 = xNum T n y p2 1 9 := if_pos rfl
    rw [x0] at hxy
    rw [g0] at hg
    refine T_iload_n dX5_readVillageLine_56 rfl ?_
    refine T_if_ne (tgt := 81) dX5_readVillageLine_57 (by decide) (fun c57 => absurd rfl c57) (fun c57 => ?_)
    refine T_aload_n dX5_readVillageLine_60 rfl ?_
    refine T_iconst dX5_readVillageLine_61 (by decide) ?_
    refine T_bipush dX5_readVillageLine_62 (by decide) ?_
    refine T_callV dX5_readVillageLine_64 lX5_131 (As := [_, _]) (rest := _) rfl rfl k53 (by decide) (Nat.le_of_ble_eq_true rfl) (Nat.le_of_ble_eq_true rfl) (c_takeNumber h hy) ?_
    rintro _ e2 (⟨hk, rfl, hR2, hN2, h14b⟩ | ⟨hk, rfl, rfl⟩)
    ·
      have hlt := hT.lt hp (show ¬ kdT T n p2 = 0 by omega)
      refine T_if_ne (tgt := 72) dX5_readVillageLine_67 (by decide) (fun c67 => ?_) (fun c67 => absurd c67 (by decide))
      refine T_aload_n dX5_readVillageLine_72 rfl ?_
      refine T_getIv dX5_readVillageLine_73 fX5_71 rfl k53 (x := if inR (nmT T n p2) 1 9 then nmT T n p2 else -1) h14b ?_
      refine T_ist dX5_readVillageLine_76 (by decide) rfl ?_
      refine T_goto (tgt := 101) dX5_readVillageLine_78 (by decide) ?_
      refine T_iload_n dX5_readVillageLine_101 rfl ?_
      refine T_iconst dX5_readVillageLine_102 (by decide) ?_
      refine T_icmp_ne (tgt := 146) dX5_readVillageLine_103 (by decide) (fun c103 => ?_) (fun c103 => absurd c103 (by decide))
      rw [show gNum T n p2 (gSem T n) = gSem T n (avT T n p2) from if_pos hk] at hg
      refine c_v146 (BC3_nf hB hN2) hR2 (NL_num hy (by omega)) hxy hg (fun z => ?_)
      have z2 := xNum_0 z
      obtain ⟨⟨q1, q2, q3⟩, q4⟩ := hd z2.1
      rw [if_pos rfl, if_neg (by decide)] at q4
      exact ⟨⟨by rw [hN2 70 0 (by decide)]; exact q1, q2, Vo_nf q3 hN2⟩, by rw [if_pos z2.2]; exact q4⟩
    ·
      refine T_if_ne (tgt := 72) dX5_readVillageLine_67 (by decide) (fun c67 => absurd rfl c67) (fun c67 => ?_)
      refine T_iconst dX5_readVillageLine_70 (by decide) ?_
      exact T_zreturn dX5_readVillageLine_71 rfl (by omega) (LnC_f (hg.trans (if_neg hk)) h.ce)
  · have g0 : gVi2 T n 1 p2 = gWd T n 10 13 p2 (fun q => gWd T n 10 13 q (gSem T n)) := (if_neg (by decide)).trans (if_pos rfl)
    have x0 : xV2 T n y 1 p2 = if woT T n (avT T n p2) = woT T n p2 then ntA y 4 (avT T n p2 : Nat) else y := by
      show (if _ then _ else if _ then _ else _) = _
      rw [if_neg (by decide)]
      by_cases z : woT T n (avT T n p2) = woT T n p2
      · rw [if_pos ⟨rfl, z⟩, if_pos z]
      · rw [if_neg (fun u => z u.2), if_neg z]
    rw [x0] at hxy
    rw [g0] at hg
    have hd1 : y.1 = 0 → (e 70 0 < 8 ∧ 0 ≤ dr 0 ∧ Vo e 70 dr) ∧ dVil T n dr p = vlD dr a 1 (woT T n p2 - 10) (woT T n (avT T n p2) - 10) := fun z => by
      have q := hd z
      rw [if_neg (by decide), if_neg (by decide), if_pos rfl] at q
      exact q
    have h131 : ∀ (e1 : sD) (y2 : Int × Int), isW T n p2 10 13 → p2 < avT T n p2 → CR d0 e1 T n (avT T n p2) y2 → NF e e1 → (isW T n (avT T n p2) 10 13 → xVil T n x dr p = y2 ∧ NL y2 (avT T n (avT T n p2) : Nat) ∧ (y2.1 = 0 → y.1 = 0)) → tB G mX5_readVillageLine 131 [vR 53, vI wv, vI lv, vI 1, vI a, vI (woT T n p2 - 10), vI (-1)] [] e1 (LnC d0 T n (gVil T n p) (xVil T n x dr p) (fun d => BC3 d ∧ ((xVil T n x dr p).1 = 0 → Vo d 70 (dVil T n dr p)))) := by
      intro e1 y2 hw hlt k1 k2 k3
      refine T_aload_n dX5_readVillageLine_131 rfl ?_
      refine T_callV dX5_readVillageLine_132 lX5_143 (As := []) (rest := _) rfl rfl k53 (by decide) (Nat.le_of_ble_eq_true rfl) (Nat.le_of_ble_eq_true rfl) (c_takeBeat k1) ?_
      rintro _ e3 (⟨hw2, rfl, hR3, hN3, h14c⟩ | ⟨hw2, rfl, rfl⟩)
      ·
        refine T_if_ne (tgt := 140) dX5_readVillageLine_135 (by decide) (fun c135 => ?_) (fun c135 => absurd c135 (by decide))
        refine T_aload_n dX5_readVillageLine_140 rfl ?_
        refine T_getIv dX5_readVillageLine_141 fX5_71 rfl k53 (x := woT T n (avT T n p2) - 10) h14c ?_
        refine T_ist dX5_readVillageLine_144 (by decide) rfl ?_
        obtain ⟨r1, r2, r3⟩ := k3 hw2
        have hN3 := k2.trans hN3
        refine c_v146 (BC3_nf hB hN3) hR3 r2 r1 (hg.trans ((if_pos hw).trans (if_pos hw2))) (fun z => ?_)
        obtain ⟨⟨q1, q2, q3⟩, q4⟩ := hd1 (r3 z)
        exact ⟨⟨by rw [hN3 70 0 (by decide)]; exact q1, q2, Vo_nf q3 hN3⟩, q4⟩
      ·
        refine T_if_ne (tgt := 140) dX5_readVillageLine_135 (by decide) (fun c135 => absurd rfl c135) (fun c135 => ?_)
        refine T_iconst dX5_readVillageLine_138 (by decide) ?_
        exact T_zreturn dX5_readVillageLine_139 rfl (by omega) (LnC_f (hg.trans ((if_pos hw).trans (if_neg hw2))) k1.ce)
    refine T_iload_n dX5_readVillageLine_56 rfl ?_
    refine T_if_ne (tgt := 81) dX5_readVillageLine_57 (by decide) (fun c57 => ?_) (fun c57 => absurd c57 (by decide))
    refine T_iload_n dX5_readVillageLine_81 rfl ?_
    refine T_iconst dX5_readVillageLine_82 (by decide) ?_
    refine T_icmp_eq (tgt := 101) dX5_readVillageLine_83 (by decide) (fun c83 => absurd c83 (by decide)) (fun c83 => ?_)
    refine T_aload_n dX5_readVillageLine_86 rfl ?_
    refine T_callV dX5_readVillageLine_87 lX5_143 (As := []) (rest := _) rfl rfl k53 (by decide) (Nat.le_of_ble_eq_true rfl) (Nat.le_of_ble_eq_true rfl) (c_takeBeat h) ?_
    rintro _ e2 (⟨hw, rfl, hR2, hN2, h14b⟩ | ⟨hw, rfl, rfl⟩)
    ·
      have hlt := tk_lt hT hp hw
      have hp2 := hT.av hp1.2
      refine T_if_ne (tgt := 95) dX5_readVillageLine_90 (by decide) (fun c90 => ?_) (fun c90 => absurd c90 (by decide))
      refine T_aload_n dX5_readVillageLine_95 rfl ?_
      refine T_getIv dX5_readVillageLine_96 fX5_71 rfl k53 (x := woT T n p2 - 10) h14b ?_
      refine T_ist dX5_readVillageLine_99 (by decide) rfl ?_
      refine T_iload_n dX5_readVillageLine_101 rfl ?_
      refine T_iconst dX5_readVillageLine_102 (by decide) ?_
      refine T_icmp_ne (tgt := 146) dX5_readVillageLine_103 (by decide) (fun c103 => absurd rfl c103) (fun c103 => ?_)
      refine T_aload_n dX5_readVillageLine_106 rfl ?_
      refine T_callV dX5_readVillageLine_107 lX5_177 (As := []) (rest := _) rfl rfl k53 (by decide) (Nat.le_of_ble_eq_true rfl) (Nat.le_of_ble_eq_true rfl) (c_beatR hR2) ?_
      rintro _ _ ⟨rfl, rfl⟩
      refine T_if_eq (tgt := 131) dX5_readVillageLine_110 (by decide) (fun c110 => ?_) (fun c110 => ?_)
      · exact h131 e2 y hw hlt hR2 hN2 (fun z => absurd z (bI_0 c110))
      · refine T_aload_n dX5_readVillageLine_113 rfl ?_
        refine T_getIv dX5_readVillageLine_114 fX5_68 rfl k53 (x := woT T n (avT T n p2) - 10) (CK_bv hR2.ck ⟨(bI_1 c110).1, by have := (bI_1 c110).2; omega, by have := (bI_1 c110).2; omega⟩).2 ?_
        refine T_iload dX5_readVillageLine_117 rfl ?_
        refine T_icmp_ne (tgt := 131) dX5_readVillageLine_119 (by decide) (fun c119 => ?_) (fun c119 => ?_)
        · refine h131 e2 y hw hlt hR2 hN2 (fun z => ⟨by rw [hxy, if_neg (by omega)], hy.mono (by have := tk_lt hT hp1.2 z; omega), id⟩)
        · refine T_aload_n dX5_readVillageLine_122 rfl ?_
          refine T_iconst dX5_readVillageLine_123 (by decide) ?_
          refine T_aload_n dX5_readVillageLine_124 rfl ?_
          refine T_getIv dX5_readVillageLine_125 fX5_65 rfl k53 (x := (avT T n p2 : Nat)) hR2.pl ?_
          refine T_callV dX5_readVillageLine_128 lX5_170 (As := [_, _]) (rest := _) rfl rfl k53 (by decide) (Nat.le_of_ble_eq_true rfl) (Nat.le_of_ble_eq_true rfl) (c_noteR hR2 (hy.mono (by omega))) ?_
          rintro _ e3 ⟨rfl, hR3, hN3, h14c⟩
          refine h131 e3 _ hw hlt hR3 (hN2.trans hN3) (fun z => ⟨by rw [hxy, if_pos (by omega)], NL_a (hy.mono (by have := tk_lt hT hp1.2 z; omega)) (by have := tk_lt hT hp1.2 z; omega), fun u => absurd u (fun w => (ntA_0 (by decide)).mp w)⟩)
    ·
      refine T_if_ne (tgt := 95) dX5_readVillageLine_90 (by decide) (fun c90 => absurd rfl c90) (fun c90 => ?_)
      refine T_iconst dX5_readVillageLine_93 (by decide) ?_
      exact T_zreturn dX5_readVillageLine_94 rfl (by omega) (LnC_f (hg.trans (if_neg hw)) h.ce)
  · have g0 : gVi2 T n 2 p2 = gWd T n 10 13 p2 (gSem T n) := (if_neg (by decide)).trans ((if_neg (by decide)).trans (if_pos rfl))
    have x0 : xV2 T n y 2 p2 = y := (if_neg (by decide)).trans (if_neg (fun u => absurd u.1 (by decide)))
    rw [x0] at hxy
    rw [g0] at hg
    refine T_iload_n dX5_readVillageLine_56 rfl ?_
    refine T_if_ne (tgt := 81) dX5_readVillageLine_57 (by decide) (fun c57 => ?_) (fun c57 => absurd c57 (by decide))
    refine T_iload_n dX5_readVillageLine_81 rfl ?_
    refine T_iconst dX5_readVillageLine_82 (by decide) ?_
    refine T_icmp_eq (tgt := 101) dX5_readVillageLine_83 (by decide) (fun c83 => absurd c83 (by decide)) (fun c83 => ?_)
    refine T_aload_n dX5_readVillageLine_86 rfl ?_
    refine T_callV dX5_readVillageLine_87 lX5_143 (As := []) (rest := _) rfl rfl k53 (by decide) (Nat.le_of_ble_eq_true rfl) (Nat.le_of_ble_eq_true rfl) (c_takeBeat h) ?_
    rintro _ e2 (⟨hw, rfl, hR2, hN2, h14b⟩ | ⟨hw, rfl, rfl⟩)
    ·
      have hlt := tk_lt hT hp hw
      refine T_if_ne (tgt := 95) dX5_readVillageLine_90 (by decide) (fun c90 => ?_) (fun c90 => absurd c90 (by decide))
      refine T_aload_n dX5_readVillageLine_95 rfl ?_
      refine T_getIv dX5_readVillageLine_96 fX5_71 rfl k53 (x := woT T n p2 - 10) h14b ?_
      refine T_ist dX5_readVillageLine_99 (by decide) rfl ?_
      refine T_iload_n dX5_readVillageLine_101 rfl ?_
      refine T_iconst dX5_readVillageLine_102 (by decide) ?_
      refine T_icmp_ne (tgt := 146) dX5_readVillageLine_103 (by decide) (fun c103 => ?_) (fun c103 => absurd c103 (by decide))
      refine c_v146 (BC3_nf hB hN2) hR2 (hy.mono (by omega)) hxy (hg.trans (if_pos hw)) (fun z => ?_)
      obtain ⟨⟨q1, q2, q3⟩, q4⟩ := hd z
      rw [if_neg (by decide), if_neg (by decide), if_neg (by decide)] at q4
      exact ⟨⟨by rw [hN2 70 0 (by decide)]; exact q1, q2, Vo_nf q3 hN2⟩, q4⟩
    ·
      refine T_if_ne (tgt := 95) dX5_readVillageLine_90 (by decide) (fun c90 => absurd rfl c90) (fun c90 => ?_)
      refine T_iconst dX5_readVillageLine_93 (by decide) ?_
      exact T_zreturn dX5_readVillageLine_94 rfl (by omega) (LnC_f (hg.trans (if_neg hw)) h.ce)
  · have g0 : gVi2 T n 3 p2 = gSem T n p2 := (if_neg (by decide)).trans ((if_neg (by decide)).trans (if_neg (by decide)))
    have x0 : xV2 T n y 3 p2 = y := (if_neg (by decide)).trans (if_neg (fun u => absurd u.1 (by decide)))
    rw [x0] at hxy
    rw [g0] at hg
    refine T_iload_n dX5_readVillageLine_56 rfl ?_
    refine T_if_ne (tgt := 81) dX5_readVillageLine_57 (by decide) (fun c57 => ?_) (fun c57 => absurd c57 (by decide))
    refine T_iload_n dX5_readVillageLine_81 rfl ?_
    refine T_iconst dX5_readVillageLine_82 (by decide) ?_
    refine T_icmp_eq (tgt := 101) dX5_readVillageLine_83 (by decide) (fun c83 => ?_) (fun c83 => absurd rfl c83)
    refine T_iload_n dX5_readVillageLine_101 rfl ?_
    refine T_iconst dX5_readVillageLine_102 (by decide) ?_
    refine T_icmp_ne (tgt := 146) dX5_readVillageLine_103 (by decide) (fun c103 => ?_) (fun c103 => absurd c103 (by decide))
    refine c_v146 hB h hy hxy hg (fun z => ?_)
    obtain ⟨q1, q4⟩ := hd z
    rw [if_neg (by decide), if_pos rfl, if_neg (by decide)] at q4
    exact ⟨q1, q4⟩

theorem c_readVillageLine {wv : Int} (h : CR d0 d T n p x) (hx : NL x p) (hW : CW T n p wv) (hB : BC3 d) (hd : x.1 = 0 → VV dr ∧ Vo d 70 dr) : tB G mX5_readVillageLine 0 [vR 53, vI wv, vI (p : Int), vU 0, vU 0, vU 0, vU 0] [] d (LnC d0 T n (gVil T n p) (xVil T n x dr p) (fun d => BC3 d ∧ ((xVil T n x dr p).1 = 0 → Vo d 70 (dVil T n dr p)))) := by
  have hT := h.tv
  have hp := h.le
  have hp1 := hT.av hp
  have hB1 := hB.1
  have hB2 := hB.2
  obtain ⟨_, _, hWi, hWv⟩ := CW_hi hW
  have hm : x.1 = 0 → d 70 0 = dr 0 := fun z => (hd z).2.1
  have hx0 := xV0_c (x := x) (dr := dr) (p := p) hm
  have h35 : ∀ (e1 : sD) (v : Int), v = woT T n p - 21 → isW T n p 21 24 → p < avT T n p → CR d0 e1 T n (avT T n p) (xV0 x dr p) → NF d e1 → tB G mX5_readVillageLine 35 [vR 53, vI wv, vI (p : Int), vI v, vU 0, vU 0, vU 0] [] e1 (LnC d0 T n (gVil T n p) (xVil T n x dr p) (fun d => BC3 d ∧ ((xVil T n x dr p).1 = 0 → Vo d 70 (dVil T n dr p)))) := by
    intro e1 v hv hw hlt hR hN
    refine T_aload_n dX5_readVillageLine_35 rfl ?_
    refine T_callV dX5_readVillageLine_36 lX5_205 (As := []) (rest := _) rfl rfl k53 (by decide) (Nat.le_of_ble_eq_true rfl) (Nat.le_of_ble_eq_true rfl) (c_takeParent (dr := dr) hR (NL_V0 hx (by omega)) (fun z => by rw [hN 70 0 (by decide)]; exact hm (xV0_0 z).1) (BC3_nf hB hN)) ?_
    rintro _ e2 (⟨hk, rfl, hR2, hN2, h14b⟩ | ⟨hk, rfl, rfl⟩)
    ·
      have hlt2 := hT.lt hp1.2 (show ¬ kdT T n (avT T n p) = 0 by omega)
      refine T_if_ne (tgt := 44) dX5_readVillageLine_39 (by decide) (fun c39 => ?_) (fun c39 => absurd c39 (by decide))
      refine T_aload_n dX5_readVillageLine_44 rfl ?_
      refine T_getIv dX5_readVillageLine_45 fX5_71 rfl k53 (x := e2 53 14) rfl ?_
      refine T_ist dX5_readVillageLine_48 (by decide) rfl ?_
      refine T_iconst dX5_readVillageLine_50 (by decide) ?_
      refine T_ist dX5_readVillageLine_51 (by decide) rfl ?_
      refine T_iconst dX5_readVillageLine_53 (by decide) ?_
      refine T_ist dX5_readVillageLine_54 (by decide) rfl ?_
      have hN3 := hN.trans hN2
      have hw2 := hw.2
      refine c_v56 (by omega) (BC3_nf hB hN3) hR2 (NL_V1 (NL_V0 hx (by omega)) (by omega)) (by rw [hv]; rfl) (by rw [hv]; exact (if_pos hw).trans (if_pos hk)) (fun z => ?_)
      have z1 := xV1_0 z
      have z0 := xV0_0 z1.1
      have hdz := hd z0.1
      have hm0 := hm z0.1
      refine ⟨⟨by rw [hN3 70 0 (by decide)]; omega, by omega, Vo_nf hdz.2 hN3⟩, ?_⟩
      rw [h14b z, hv]
      rfl
    ·
      refine T_if_ne (tgt := 44) dX5_readVillageLine_39 (by decide) (fun c39 => absurd rfl c39) (fun c39 => ?_)
      refine T_iconst dX5_readVillageLine_42 (by decide) ?_
      exact T_zreturn dX5_readVillageLine_43 rfl (by omega) (LnC_f ((if_pos hw).trans (if_neg hk)) hR.ce)
  refine T_iload_n dX5_readVillageLine_0 rfl ?_
  refine T_bipush dX5_readVillageLine_1 (by decide) ?_
  refine T_icmp_ge (tgt := 8) dX5_readVillageLine_3 (by decide) (fun c3 => ?_) (fun c3 => ?_)
  · refine T_iload_n dX5_readVillageLine_8 rfl ?_
    refine T_bipush dX5_readVillageLine_9 (by decide) ?_
    refine T_sub dX5_readVillageLine_11 (by omega) ?_
    refine T_ist_n dX5_readVillageLine_12 (by decide) rfl ?_
    refine T_aload_n dX5_readVillageLine_13 rfl ?_
    refine T_callV dX5_readVillageLine_14 lX5_87 (As := []) (rest := _) rfl rfl k53 (by decide) (Nat.le_of_ble_eq_true rfl) (Nat.le_of_ble_eq_true rfl) (c_nextR h) ?_
    rintro _ e1 ⟨rfl, hR, hN, h14⟩
    have hw := hWi.mp (by omega)
    have hlt := tk_lt hT hp hw
    refine T_aload_n dX5_readVillageLine_17 rfl ?_
    refine T_getR dX5_readVillageLine_18 fX5_35 rfl k53 r53_3 ?_
    refine T_getIv dX5_readVillageLine_21 fX5_99 rfl k70 (x := d 70 0) (hN 70 0 (by decide)) ?_
    refine T_bipush dX5_readVillageLine_24 (by decide) ?_
    refine T_icmp_lt (tgt := 35) dX5_readVillageLine_26 (by decide) (fun c26 => ?_) (fun c26 => ?_)
    · exact h35 e1 _ (by have := hWv (by omega); omega) hw hlt (by rw [hx0, if_pos (by omega)]; exact hR) hN
    · refine T_aload_n dX5_readVillageLine_29 rfl ?_
      refine T_iconst dX5_readVillageLine_30 (by decide) ?_
      refine T_iload_n dX5_readVillageLine_31 rfl ?_
      refine T_callV dX5_readVillageLine_32 lX5_170 (As := [_, _]) (rest := _) rfl rfl k53 (by decide) (Nat.le_of_ble_eq_true rfl) (Nat.le_of_ble_eq_true rfl) (c_noteR hR hx) ?_
      rintro _ e2 ⟨rfl, hR2, hN2, h14b⟩
      exact h35 e2 _ (by have := hWv (by omega); omega) hw hlt (by rw [hx0, if_neg (by omega)]; exact hR2) (hN.trans hN2)
  · refine T_iconst dX5_readVillageLine_6 (by decide) ?_
    exact T_zreturn dX5_readVillageLine_7 rfl (by omega) (LnC_f (if_neg (fun z => by have := hWi.mpr z; omega)) h.ce)

end C54
