/-! the class: text -/
section C65
variable {G : sG} {d d' d0 e : sD} {T : Nat → Int} {n p q : Nat} {x : Int × Int} {dr : Nat → Int}
theorem c_next0 {N : Nat} (hT : TV n T) (hS : SCk d T n p N) (h10 : d 53 10 = 0) : tB G mX5_next 0 [vR 53] [] d (fun r d' => r = none ∧ CTk d' T n p ∧ Rf5 [10, 11, 12, 13] d d') := by
  have hN := hS.1
  have h9 := hS.2.1
  obtain ⟨q1, q2⟩ := hS.2.2.1 0 (by omega)
  have hgo : CTk (up (up (up (up d 53 11 (d 75 0)) 53 12 (d 76 0)) 53 13 (d 77 0)) 53 10 (0 + 1)) T n p := by
    refine ⟨hT, p, N, 0, ⟨hN, by rw [up_nej (by decide), up_nej (by decide), up_nej (by decide), up_nej (by decide)]; exact h9, fun i hi => ?_, hS.2.2.2⟩, by omega, rfl, by rw [up_same]; rfl, ?_, ?_⟩
    · rw [up_nea (by decide), up_nea (by decide), up_nea (by decide), up_nea (by decide), up_nea (by decide), up_nea (by decide), up_nea (by decide), up_nea (by decide), up_nea (by decide), up_nea (by decide), up_nea (by decide), up_nea (by decide)]; exact hS.2.2.1 i hi
    · rw [up_nej (by decide), up_nej (by decide), up_same, q1]; rfl
    · rw [up_nej (by decide), up_nej (by decide), up_nej (by decide), up_same, up_nej (by decide), up_same]; exact q2
  refine T_aload_n dX5_next_0 rfl ?_
  refine T_getIv dX5_next_1 fX5_59 rfl k53 (x := (0 : Int)) h10 ?_
  refine T_aload_n dX5_next_4 rfl ?_
  refine T_getIv dX5_next_5 fX5_56 rfl k53 (x := (N : Int)) h9 ?_
  refine T_icmp_ge (tgt := 60) dX5_next_8 (by decide) (fun c8 => absurd c8 (by omega)) (fun c8 => ?_)
  refine T_aload_n dX5_next_11 rfl ?_
  refine T_aload_n dX5_next_12 rfl ?_
  refine T_getR dX5_next_13 fX5_46 rfl k53 r53_6 ?_
  refine T_aload_n dX5_next_16 rfl ?_
  refine T_getIv dX5_next_17 fX5_59 rfl k53 (x := (0 : Int)) h10 ?_
  refine T_ialdv dX5_next_20 k75 l75 (by omega) (j := 0) rfl (x := d 75 0) rfl ?_
  refine T_putI dX5_next_21 fX5_62 rfl k53 ?_
  refine T_aload_n dX5_next_24 rfl ?_
  refine T_aload_n dX5_next_25 rfl ?_
  refine T_getR dX5_next_26 fX5_50 rfl k53 r53_7 ?_
  refine T_aload_n dX5_next_29 rfl ?_
  refine T_getIv dX5_next_30 fX5_59 rfl k53 (x := (0 : Int)) (by rw [up_nej (by decide)]; exact h10) ?_
  refine T_ialdv dX5_next_33 k76 l76 (by omega) (j := 0) rfl (x := d 76 0) (up_nea (by decide)) ?_
  refine T_putI dX5_next_34 fX5_65 rfl k53 ?_
  refine T_aload_n dX5_next_37 rfl ?_
  refine T_aload_n dX5_next_38 rfl ?_
  refine T_getR dX5_next_39 fX5_53 rfl k53 r53_8 ?_
  refine T_aload_n dX5_next_42 rfl ?_
  refine T_getIv dX5_next_43 fX5_59 rfl k53 (x := (0 : Int)) (by rw [up_nej (by decide), up_nej (by decide)]; exact h10) ?_
  refine T_ialdv dX5_next_46 k77 l77 (by omega) (j := 0) rfl (x := d 77 0) (by rw [up_nea (by decide), up_nea (by decide)]) ?_
  refine T_putI dX5_next_47 fX5_68 rfl k53 ?_
  refine T_aload_n dX5_next_50 rfl ?_
  refine T_dup dX5_next_51 rfl ?_
  refine T_getIv dX5_next_52 fX5_59 rfl k53 (x := (0 : Int)) (by rw [up_nej (by decide), up_nej (by decide), up_nej (by decide)]; exact h10) ?_
  refine T_iconst dX5_next_55 (by decide) ?_
  refine T_add dX5_next_56 (by omega) ?_
  refine T_putI dX5_next_57 fX5_59 rfl k53 ?_
  exact T_return dX5_next_60 rfl ⟨rfl, hgo, Rf5_up (Rf5_up (Rf5_up (Rf5_up Rf5.rf (by decide)) (by decide)) (by decide)) (by decide)⟩

theorem c_read {s : Nat} {R : (Int × Int) × (Nat → Int)} (hs : s < 4) (h : TpC d n T) (hR : psT T n s (n + 1 - bgT T n 0) (bgT T n 0) (0, -1) (clS (s : Int)) = R) : tB G mX5_read 0 [vR 53, vR 3, vI n, vI (s : Int), vU 0] [] d (fun r d' => r = none ∧ Fr 53 77 d d' ∧ d' 53 4 = R.1.1 ∧ d' 53 5 = R.1.2 ∧ (R.1.1 = 0 → SV s R.2 ∧ Dt s d' R.2)) := by
  have hT := h.1
  have hn := hT.1
  have hb0 := bgT_rg (T := T) (Nat.zero_le n)
  refine T_aload_n dX5_read_0 rfl ?_
  refine T_aload_n dX5_read_1 rfl ?_
  refine T_iload_n dX5_read_2 rfl ?_
  refine T_aload_n dX5_read_3 rfl ?_
  refine T_alen dX5_read_4 k3 (by decide) l3 (by decide) ?_
  refine T_min dX5_read_5 lX5_74 (by decide) (Nat.le_of_ble_eq_true rfl) ?_
  rw [show min (n : Int) ((600 : Nat) : Int) = (n : Int) by omega]
  refine T_callV dX5_read_8 lX5_80 (As := [_, _]) (rest := _) rfl rfl k53 (by decide) (Nat.le_of_ble_eq_true rfl) (Nat.le_of_ble_eq_true rfl) (c_scan h) ?_
  rintro _ e1 ⟨rfl, ⟨N, hSk⟩, f1, f2⟩
  refine T_aload_n dX5_read_11 rfl ?_
  refine T_iconst dX5_read_12 (by decide) ?_
  refine T_putI dX5_read_13 fX5_59 rfl k53 ?_
  refine T_aload_n dX5_read_16 rfl ?_
  refine T_iconst dX5_read_17 (by decide) ?_
  refine T_putI dX5_read_18 fX5_39 rfl k53 ?_
  refine T_aload_n dX5_read_21 rfl ?_
  refine T_iconst dX5_read_22 (by decide) ?_
  refine T_putI dX5_read_23 fX5_43 rfl k53 ?_
  refine T_aload_n dX5_read_26 rfl ?_
  refine T_callV dX5_read_27 lX5_84 (As := []) (rest := _) rfl rfl k53 (by decide) (Nat.le_of_ble_eq_true rfl) (Nat.le_of_ble_eq_true rfl) (c_resetDrafts hs) ?_
  rintro _ e3 ⟨rfl, hD, hB, hF⟩
  have e3f : ∀ j, e3 53 j = up (up (up e1 53 10 0) 53 4 0) 53 5 (-1) 53 j := fun j => hF 53 j (by decide)
  have e310 : e3 53 10 = 0 := by rw [e3f, up_nej (by decide), up_nej (by decide), up_same]
  have hSk2 : SCk e3 T n (bgT T n 0) N := by
    refine ⟨hSk.1, by rw [e3f, up_nej (by decide), up_nej (by decide), up_nej (by decide)]; exact hSk.2.1, fun j hj => ?_, hSk.2.2.2⟩
    rw [hF 76 j (by decide), hF 75 j (by decide), hF 77 j (by decide), up_nea (by decide), up_nea (by decide), up_nea (by decide), up_nea (by decide), up_nea (by decide), up_nea (by decide), up_nea (by decide), up_nea (by decide), up_nea (by decide)]
    exact hSk.2.2.1 j hj
  have hFr : Fr 53 77 d e3 := fun b j hb => by rw [hF b j (by omega), up_nea (by omega), up_nea (by omega), up_nea (by omega)]; exact f1 b j (by omega) (by omega)
  refine T_aload_n dX5_read_30 rfl ?_
  refine T_callV dX5_read_31 lX5_87 (As := []) (rest := _) rfl rfl k53 (by decide) (Nat.le_of_ble_eq_true rfl) (Nat.le_of_ble_eq_true rfl) (c_next0 hT hSk2 e310) ?_
  rintro _ e4 ⟨rfl, hC, h5⟩
  have hN4 : NF e3 e4 := h5.1
  have hBD := BDn hs True _ _ _ ⟨hB, fun _ => hD⟩ hN4
  refine T_iconst dX5_read_34 (by decide) ?_
  refine T_ist dX5_read_35 (by decide) rfl ?_
  refine c_r37 hs (((bgT T n 0, n + 1 - bgT T n 0), (0, -1), clS (s : Int)), 0, e4) ⟨Nat.zero_le _, Nat.le_refl _, ⟨hC, ?_, ?_, hFr.trans hN4.fr⟩, Or.inl rfl, hBD.1, fun _ => ⟨SV_cl hs, hBD.2 trivial⟩, hR⟩
  · show e4 53 4 = 0
    rw [h5.2 4 (by decide), e3f, up_nej (by decide), up_same]
  · show e4 53 5 = -1
    rw [h5.2 5 (by decide), e3f, up_same]

theorem c_isSort {s : Int} : tB G mX11_isSort 0 [vI s] [] d (fun r d' => r = some (vI (bI (0 ≤ s ∧ s ≤ 3))) ∧ d = d') := by
  refine T_iload_n dX11_isSort_0 rfl ?_
  refine T_if_lt (tgt := 13) dX11_isSort_1 (by decide) (fun c1 => ?_) (fun c1 => ?_)
  · refine T_iconst dX11_isSort_13 (by decide) ?_
    exact T_zreturn dX11_isSort_14 rfl (by omega) (by refine ⟨?_, rfl⟩; first | rfl | (refine congrArg (fun z => some (vI z)) ?_; first | omega | (simp only [bI]; (repeat' split) <;> omega)))
  · refine T_iload_n dX11_isSort_4 rfl ?_
    refine T_iconst dX11_isSort_5 (by decide) ?_
    refine T_icmp_ge (tgt := 13) dX11_isSort_6 (by decide) (fun c6 => ?_) (fun c6 => ?_)
    · refine T_iconst dX11_isSort_13 (by decide) ?_
      exact T_zreturn dX11_isSort_14 rfl (by omega) (by refine ⟨?_, rfl⟩; first | rfl | (refine congrArg (fun z => some (vI z)) ?_; first | omega | (simp only [bI]; (repeat' split) <;> omega)))
    · refine T_iconst dX11_isSort_9 (by decide) ?_
      refine T_goto (tgt := 14) dX11_isSort_10 (by decide) ?_
      exact T_zreturn dX11_isSort_14 rfl (by omega) (by refine ⟨?_, rfl⟩; first | rfl | (refine congrArg (fun z => some (vI z)) ?_; first | omega | (simp only [bI]; (repeat' split) <;> omega)))

theorem c_mayStandAt {s at1 : Int} (hs : 0 ≤ s ∧ s ≤ 3) : tB G mX11_mayStandAt 0 [vR 1, vI s, vI at1, vU 0] [] d (fun r d' => r = some (vI (bI ((at1 = -1 ∧ d 4 s.toNat < 2) ∨ (¬ at1 = -1 ∧ 0 ≤ at1 ∧ at1 ≤ d 4 s.toNat - 1)))) ∧ d = d') := by
  refine T_aload_n dX11_mayStandAt_0 rfl ?_
  refine T_getR dX11_mayStandAt_1 fX11_10 rfl k1 r1_0 ?_
  refine T_getR dX11_mayStandAt_4 fX11_113 rfl k2 r2_4 ?_
  refine T_iload_n dX11_mayStandAt_7 rfl ?_
  refine T_ialdv dX11_mayStandAt_8 k4 l4 (by omega) (j := s.toNat) rfl (x := d 4 s.toNat) rfl ?_
  refine T_ist_n dX11_mayStandAt_9 (by decide) rfl ?_
  refine T_iload_n dX11_mayStandAt_10 rfl ?_
  refine T_iconst dX11_mayStandAt_11 (by decide) ?_
  refine T_icmp_ne (tgt := 28) dX11_mayStandAt_12 (by decide) (fun c12 => ?_) (fun c12 => ?_)
  · refine T_iload_n dX11_mayStandAt_28 rfl ?_
    refine T_if_lt (tgt := 41) dX11_mayStandAt_29 (by decide) (fun c29 => ?_) (fun c29 => ?_)
    · refine T_iconst dX11_mayStandAt_41 (by decide) ?_
      exact T_zreturn dX11_mayStandAt_42 rfl (by omega) (by refine ⟨?_, rfl⟩; first | rfl | (refine congrArg (fun z => some (vI z)) ?_; first | omega | (simp only [bI]; (repeat' split) <;> omega)))
    · refine T_iload_n dX11_mayStandAt_32 rfl ?_
      refine T_iload_n dX11_mayStandAt_33 rfl ?_
      refine T_icmp_ge (tgt := 41) dX11_mayStandAt_34 (by decide) (fun c34 => ?_) (fun c34 => ?_)
      · refine T_iconst dX11_mayStandAt_41 (by decide) ?_
        exact T_zreturn dX11_mayStandAt_42 rfl (by omega) (by refine ⟨?_, rfl⟩; first | rfl | (refine congrArg (fun z => some (vI z)) ?_; first | omega | (simp only [bI]; (repeat' split) <;> omega)))
      · refine T_iconst dX11_mayStandAt_37 (by decide) ?_
        refine T_goto (tgt := 42) dX11_mayStandAt_38 (by decide) ?_
        exact T_zreturn dX11_mayStandAt_42 rfl (by omega) (by refine ⟨?_, rfl⟩; first | rfl | (refine congrArg (fun z => some (vI z)) ?_; first | omega | (simp only [bI]; (repeat' split) <;> omega)))
  · refine T_iload_n dX11_mayStandAt_15 rfl ?_
    refine T_iconst dX11_mayStandAt_16 (by decide) ?_
    refine T_icmp_ge (tgt := 24) dX11_mayStandAt_17 (by decide) (fun c17 => ?_) (fun c17 => ?_)
    · refine T_iconst dX11_mayStandAt_24 (by decide) ?_
      refine T_goto (tgt := 42) dX11_mayStandAt_25 (by decide) ?_
      exact T_zreturn dX11_mayStandAt_42 rfl (by omega) (by refine ⟨?_, rfl⟩; first | rfl | (refine congrArg (fun z => some (vI z)) ?_; first | omega | (simp only [bI]; (repeat' split) <;> omega)))
    · refine T_iconst dX11_mayStandAt_20 (by decide) ?_
      refine T_goto (tgt := 42) dX11_mayStandAt_21 (by decide) ?_
      exact T_zreturn dX11_mayStandAt_42 rfl (by omega) (by refine ⟨?_, rfl⟩; first | rfl | (refine congrArg (fun z => some (vI z)) ?_; first | omega | (simp only [bI]; (repeat' split) <;> omega)))

/-- where the class keeps the k-th thing of a sort -/
def slO (s k : Nat) : Nat := if s = 0 then 9 + 21 * k else if s = 1 then 19 + 21 * k else if s = 2 then 22 + 21 * k else 25 + 21 * k
def slL (s : Nat) : Nat := if s = 0 then 9 else if s = 1 then 2 else if s = 2 then 2 else 4
def DO (s : Nat) (d : sD) (o : Nat) (w : Nat → Int) : Prop := if s = 0 then Wo d o w else if s = 1 then So d o w else if s = 2 then Ho d o w else Vo d o w
/-- a text is kept -/
def KpC (d d' : sD) (s k : Nat) (new : Prop) [Decidable new] (w : Nat → Int) : Prop := DO s d' (slO s k) w ∧ (∀ j, d' 4 j = if new ∧ j = s then (k : Int) + 1 else d 4 j) ∧ ∀ b j, b ≠ 4 → ¬ (slO s k ≤ b ∧ b ≤ slO s k + slL s) → d' b j = d b j
theorem So_SE {o : Nat} {g : Nat → Int} (hV : GV g) (h : So d p g) (e : SE d p d' o) : So d' o g := fun a ha => by
  have hk := (hV a ha).1
  exact ⟨by rw [e 1 a (by omega) (by omega) ha]; exact (h a ha).1, fun k hk2 => by rw [e 2 (12 * a + k) (by omega) (by omega) (show 12 * a + k < 24 by omega)]; exact (h a ha).2 k hk2⟩
theorem Ho_HE {o : Nat} {g : Nat → Int} (hV : HV g) (h : Ho d p g) (e : HE d p d' o) : Ho d' o g := fun a ha => by
  have hk := (hV a ha).1
  exact ⟨by rw [e 1 a (by omega) (by omega) ha]; exact (h a ha).1, fun k hk2 => by rw [e 2 (6 * a + k) (by omega) (by omega) (show 6 * a + k < 12 by omega)]; exact (h a ha).2 k hk2⟩
theorem Vo_VE {o : Nat} {g : Nat → Int} (hV : VV g) (h : Vo d p g) (e : VE d p d' o) : Vo d' o g := by
  have h8 := hV.1
  refine ⟨by rw [e.1]; exact h.1, fun k hk => ?_⟩
  rw [e.2 1 k (by omega) (by omega) (show k < 8 by omega), e.2 2 k (by omega) (by omega) (show k < 8 by omega), e.2 3 k (by omega) (by omega) (show k < 8 by omega), e.2 4 k (by omega) (by omega) (show k < 8 by omega)]
  exact h.2 k hk
theorem c_k29 {s k : Nat} {sv at1 : Int} {w : Nat → Int} (hs : s < 4) (hsv : sv = (s : Int)) (hk : k < 2) (hV : SV s w) (hD : Dt s d w) (h4 : ∀ j, e 4 j = if at1 = -1 ∧ j = s then (k : Int) + 1 else d 4 j) (he : ∀ b j, b ≠ 4 → e b j = d b j) : tB G mX11_keepText 29 [vR 1, vI sv, vI at1, vI (k : Int)] [] e (fun r d' => r = some (vI (k : Int)) ∧ KpC d d' s k (at1 = -1) w) := by
  have kk := kn_o (o := 2) (k := k) (by decide) hk
  refine T_iload_n dX11_keepText_29 rfl ?_
  by_cases hs0 : sv = 0
  · subst hs0
    refine T_tabIn (tgt := 56) (off := 26) dX11_keepText_30 (by decide) (by decide) (by decide) (by decide) ?_
    have hs0 : s = 0 := by omega
    subst hs0
    have hw := kk.1.1
    have hOe : Wo e 54 w := Wo_eq hD (fun x j hx => he _ _ (by omega))
    refine T_aload_n dX11_keepText_56 rfl ?_
    refine T_getR dX11_keepText_57 fX11_10 rfl k1 r1_0 ?_
    refine T_getR dX11_keepText_60 fX11_116 rfl k2 r2_5 ?_
    refine T_iload_n dX11_keepText_63 rfl ?_
    refine T_aald dX11_keepText_64 k5 (by decide) l5 (by omega) (show rf0 5 (k : Int).toNat = 9 + 21 * k from by rw [Int.toNat_natCast]; exact kk.1.2.trans (by omega)) ?_
    refine T_aload_n dX11_keepText_65 rfl ?_
    refine T_getR dX11_keepText_66 fX11_27 rfl k1 r1_3 ?_
    refine T_getR dX11_keepText_69 fX11_120 rfl k53 r53_0 ?_
    refine T_callV dX11_keepText_72 lX11_124 (As := [_]) (rest := _) rfl rfl hw (by decide) (Nat.le_of_ble_eq_true rfl) (Nat.le_of_ble_eq_true rfl) (t_wcopy (p := 54) kk.1.1 k54 (by omega)) ?_
    rintro _ e2 ⟨rfl, hE, hF⟩
    refine T_goto (tgt := 141) dX11_keepText_75 (by decide) ?_
    refine T_iload_n dX11_keepText_141 rfl ?_
    exact T_ireturn dX11_keepText_142 rfl ⟨rfl, Wo_WE hV hOe hE, fun j => by rw [hF 4 j (by omega)]; exact h4 j, fun b j hb hb2 => by rw [hF b j hb2]; exact he b j hb⟩
  by_cases hs1 : sv = 1
  · subst hs1
    refine T_tabIn (tgt := 78) (off := 48) dX11_keepText_30 (by decide) (by decide) (by decide) (by decide) ?_
    have hs1 : s = 1 := by omega
    subst hs1
    have hs := kk.2.1.1
    have hOe : So e 64 w := So_eq hD (fun x j hx => he _ _ (by omega))
    refine T_aload_n dX11_keepText_78 rfl ?_
    refine T_getR dX11_keepText_79 fX11_10 rfl k1 r1_0 ?_
    refine T_getR dX11_keepText_82 fX11_130 rfl k2 r2_6 ?_
    refine T_iload_n dX11_keepText_85 rfl ?_
    refine T_aald dX11_keepText_86 k6 (by decide) l6 (by omega) (show rf0 6 (k : Int).toNat = 19 + 21 * k from by rw [Int.toNat_natCast]; exact kk.2.1.2.trans (by omega)) ?_
    refine T_aload_n dX11_keepText_87 rfl ?_
    refine T_getR dX11_keepText_88 fX11_27 rfl k1 r1_3 ?_
    refine T_getR dX11_keepText_91 fX11_134 rfl k53 r53_1 ?_
    refine T_callV dX11_keepText_94 lX11_137 (As := [_]) (rest := _) rfl rfl hs (by decide) (Nat.le_of_ble_eq_true rfl) (Nat.le_of_ble_eq_true rfl) (t_scopyE (p := 64) kk.2.1.1 k64 (by omega)) ?_
    rintro _ e2 ⟨rfl, hE, hF⟩
    refine T_goto (tgt := 141) dX11_keepText_97 (by decide) ?_
    refine T_iload_n dX11_keepText_141 rfl ?_
    exact T_ireturn dX11_keepText_142 rfl ⟨rfl, So_SE hV hOe hE, fun j => by rw [hF 4 j (by omega)]; exact h4 j, fun b j hb hb2 => by rw [hF b j hb2]; exact he b j hb⟩
  by_cases hs2 : sv = 2
  · subst hs2
    refine T_tabIn (tgt := 100) (off := 70) dX11_keepText_30 (by decide) (by decide) (by decide) (by decide) ?_
    have hs2 : s = 2 := by omega
    subst hs2
    have hh := kk.2.2.1.1
    have hOe : Ho e 67 w := Ho_eq hD (fun x j hx => he _ _ (by omega))
    refine T_aload_n dX11_keepText_100 rfl ?_
    refine T_getR dX11_keepText_101 fX11_10 rfl k1 r1_0 ?_
    refine T_getR dX11_keepText_104 fX11_140 rfl k2 r2_7 ?_
    refine T_iload_n dX11_keepText_107 rfl ?_
    refine T_aald dX11_keepText_108 k7 (by decide) l7 (by omega) (show rf0 7 (k : Int).toNat = 22 + 21 * k from by rw [Int.toNat_natCast]; exact kk.2.2.1.2.trans (by omega)) ?_
    refine T_aload_n dX11_keepText_109 rfl ?_
    refine T_getR dX11_keepText_110 fX11_27 rfl k1 r1_3 ?_
    refine T_getR dX11_keepText_113 fX11_144 rfl k53 r53_2 ?_
    refine T_callV dX11_keepText_116 lX11_148 (As := [_]) (rest := _) rfl rfl hh (by decide) (Nat.le_of_ble_eq_true rfl) (Nat.le_of_ble_eq_true rfl) (t_hcopy (p := 67) kk.2.2.1.1 k67 (by omega)) ?_
    rintro _ e2 ⟨rfl, hE, hF⟩
    refine T_goto (tgt := 141) dX11_keepText_119 (by decide) ?_
    refine T_iload_n dX11_keepText_141 rfl ?_
    exact T_ireturn dX11_keepText_142 rfl ⟨rfl, Ho_HE hV hOe hE, fun j => by rw [hF 4 j (by omega)]; exact h4 j, fun b j hb hb2 => by rw [hF b j hb2]; exact he b j hb⟩
  refine T_tabOut (tgt := 122) dX11_keepText_30 (by omega) (by decide) ?_
  have hs3 : s = 3 := by omega
  subst hs3
  have hv := kk.2.2.2.1
  have hOe : Vo e 70 w := Vo_eq hD (fun x j hx => he _ _ (by omega))
  refine T_aload_n dX11_keepText_122 rfl ?_
  refine T_getR dX11_keepText_123 fX11_10 rfl k1 r1_0 ?_
  refine T_getR dX11_keepText_126 fX11_153 rfl k2 r2_8 ?_
  refine T_iload_n dX11_keepText_129 rfl ?_
  refine T_aald dX11_keepText_130 k8 (by decide) l8 (by omega) (show rf0 8 (k : Int).toNat = 25 + 21 * k from by rw [Int.toNat_natCast]; exact kk.2.2.2.2.trans (by omega)) ?_
  refine T_aload_n dX11_keepText_131 rfl ?_
  refine T_getR dX11_keepText_132 fX11_27 rfl k1 r1_3 ?_
  refine T_getR dX11_keepText_135 fX11_157 rfl k53 r53_3 ?_
  refine T_callV dX11_keepText_138 lX11_160 (As := [_]) (rest := _) rfl rfl hv (by decide) (Nat.le_of_ble_eq_true rfl) (Nat.le_of_ble_eq_true rfl) (t_vcopy (p := 70) kk.2.2.2.1 k70 (by omega)) ?_
  rintro _ e2 ⟨rfl, hE, hF⟩
  refine T_iload_n dX11_keepText_141 rfl ?_
  exact T_ireturn dX11_keepText_142 rfl ⟨rfl, Vo_VE hV hOe hE, fun j => by rw [hF 4 j (by omega)]; exact h4 j, fun b j hb hb2 => by rw [hF b j hb2]; exact he b j hb⟩

theorem c_keepText {s k : Nat} {at1 : Int} {w : Nat → Int} (hs : s < 4) (hk : k < 2) (hat : (at1 = -1 ∧ d 4 s = (k : Int)) ∨ (¬ at1 = -1 ∧ at1 = (k : Int))) (hV : SV s w) (hD : Dt s d w) : tB G mX11_keepText 0 [vR 1, vI (s : Int), vI at1, vU 0] [] d (fun r d' => r = some (vI (k : Int)) ∧ KpC d d' s k (at1 = -1) w) := by
  refine T_iload_n dX11_keepText_0 rfl ?_
  refine T_ist_n dX11_keepText_1 (by decide) rfl ?_
  refine T_iload_n dX11_keepText_2 rfl ?_
  refine T_iconst dX11_keepText_3 (by decide) ?_
  refine T_icmp_ne (tgt := 29) dX11_keepText_4 (by decide) (fun c4 => ?_) (fun c4 => ?_)
  · have ha := (hat.resolve_left (fun z => c4 z.1)).2
    have hh := c_k29 (G := G) (d := d) (e := d) (at1 := at1) hs rfl hk hV hD (fun j => by rw [if_neg (fun z => c4 z.1)]) (fun _ _ _ => rfl)
    rw [← ha] at hh
    rw [← ha]
    exact hh
  · refine T_aload_n dX11_keepText_7 rfl ?_
    refine T_getR dX11_keepText_8 fX11_10 rfl k1 r1_0 ?_
    refine T_getR dX11_keepText_11 fX11_113 rfl k2 r2_4 ?_
    refine T_iload_n dX11_keepText_14 rfl ?_
    refine T_ialdv dX11_keepText_15 k4 l4 (by omega) (j := s) (by omega) (x := (k : Int)) ((hat.resolve_right (fun z => z.1 (by omega))).2) ?_
    refine T_ist_n dX11_keepText_16 (by decide) rfl ?_
    refine T_aload_n dX11_keepText_17 rfl ?_
    refine T_getR dX11_keepText_18 fX11_10 rfl k1 r1_0 ?_
    refine T_getR dX11_keepText_21 fX11_113 rfl k2 r2_4 ?_
    refine T_iload_n dX11_keepText_24 rfl ?_
    refine T_iload_n dX11_keepText_25 rfl ?_
    refine T_iconst dX11_keepText_26 (by decide) ?_
    refine T_add dX11_keepText_27 (by omega) ?_
    refine T_iast dX11_keepText_28 k4 l4 (by omega) (j := s) (by omega) ?_
    refine c_k29 hs rfl hk hV hD (fun j => ?_) (fun b j hb => up_nea hb)
    by_cases y : j = s
    · rw [y, up_same, if_pos ⟨by omega, rfl⟩]
    · rw [up_nej y, if_neg (fun z => y z.2)]

/-- what a text does to the class -/
def TxQ (d : sD) (n : Nat) (s at1 : Int) (r : Option sV) (d' : sD) : Prop := (¬ okTx (d 4) s at1 ∧ r = some (vI (-2)) ∧ d' = up (up (up d 2 1 0) 2 2 0) 2 3 (-1)) ∨ (okTx (d 4) s at1 ∧ ((r = some (vI (-1)) ∧ ¬ (psS (d 272) n s.toNat).1.1 = 0 ∧ d' 2 1 = 0 ∧ d' 2 2 = (psS (d 272) n s.toNat).1.1 ∧ d' 2 3 = (psS (d 272) n s.toNat).1.2 ∧ ∀ b j, b ≠ 2 → ¬ (53 ≤ b ∧ b ≤ 77) → d' b j = d b j) ∨ ((psS (d 272) n s.toNat).1.1 = 0 ∧ r = some (vI (kTx (d 4) s at1)) ∧ SV s.toNat (psS (d 272) n s.toNat).2 ∧ d' 2 1 = 0 ∧ d' 2 2 = 0 ∧ d' 2 3 = -1 ∧ ∃ e, (∀ b j, b ≠ 2 → ¬ (53 ≤ b ∧ b ≤ 77) → e b j = d b j) ∧ KpC e d' s.toNat (kTx (d 4) s at1) (at1 = -1) (psS (d 272) n s.toNat).2)))
theorem okTx_iff {s at1 : Int} {f : Nat → Int} : okTx f s at1 ↔ (0 ≤ s ∧ s ≤ 3) ∧ ((at1 = -1 ∧ f s.toNat < 2) ∨ (¬ at1 = -1 ∧ 0 ≤ at1 ∧ at1 ≤ f s.toNat - 1)) := Iff.rfl
theorem t_C_text {s at1 : Int} (hM : ∀ s, s < 4 → 0 ≤ d 4 s ∧ d 4 s ≤ 2) (hn : d 2 1 = (n : Int)) (h : TpC d n (tpS (d 272) n)) : tB G mX11_text 0 [vR 1, vI s, vI at1, vU 0] [] d (TxQ d n s at1) := by
  have c4 : ∀ j, up (up (up d 2 1 0) 2 2 0) 2 3 (-1) 4 j = d 4 j := fun j => by rw [up_nea (by decide), up_nea (by decide), up_nea (by decide)]
  have h51 : okTx (d 4) s at1 → tB G mX11_text 51 [vR 1, vI s, vI at1, vI (n : Int)] [] (up (up (up d 2 1 0) 2 2 0) 2 3 (-1)) (TxQ d n s at1) := by
    intro hok
    obtain ⟨hs, hat⟩ := id hok
    obtain ⟨s, rfl⟩ : ∃ z : Nat, s = (z : Int) := ⟨s.toNat, by omega⟩
    rw [Int.toNat_natCast] at hat
    have hs4 : s < 4 := by omega
    have hcs := hM s hs4
    have hTe : TpC (up (up (up d 2 1 0) 2 2 0) 2 3 (-1)) n (tpS (d 272) n) := TpC_eq h (fun i => by rw [up_nea (by decide), up_nea (by decide), up_nea (by decide)])
    have hk0 : kTx (d 4) (s : Int) at1 < 2 ∧ ((at1 = -1 ∧ d 4 s = (kTx (d 4) (s : Int) at1 : Int)) ∨ (¬ at1 = -1 ∧ at1 = (kTx (d 4) (s : Int) at1 : Int))) := by
      unfold kTx
      rw [Int.toNat_natCast]
      rcases hat with ⟨z, y⟩ | ⟨z, y⟩
      · rw [if_pos z]; omega
      · rw [if_neg z]; omega
    refine T_aload_n dX11_text_51 rfl ?_
    refine T_getR dX11_text_52 fX11_27 rfl k1 r1_3 ?_
    refine T_aload_n dX11_text_55 rfl ?_
    refine T_getR dX11_text_56 fX11_10 rfl k1 r1_0 ?_
    refine T_getR dX11_text_59 fX11_99 rfl k2 r2_0 ?_
    refine T_iload_n dX11_text_62 rfl ?_
    refine T_iload_n dX11_text_63 rfl ?_
    refine T_callV dX11_text_64 lX11_103 (As := [_, _, _]) (rest := _) rfl rfl k53 (by decide) (Nat.le_of_ble_eq_true rfl) (Nat.le_of_ble_eq_true rfl) (c_read (R := psS (d 272) n s) hs4 hTe rfl) ?_
    rintro _ e1 ⟨rfl, hF, hk, hp, hz⟩
    have g : ∀ j, e1 2 j = up (up (up d 2 1 0) 2 2 0) 2 3 (-1) 2 j := fun j => hF 2 j (by decide)
    have gF : ∀ b j, b ≠ 2 → ¬ (53 ≤ b ∧ b ≤ 77) → e1 b j = d b j := fun b j h1 h2 => by rw [hF b j h2, up_nea h1, up_nea h1, up_nea h1]
    refine T_aload_n dX11_text_67 rfl ?_
    refine T_getR dX11_text_68 fX11_27 rfl k1 r1_3 ?_
    refine T_getIv dX11_text_71 fX11_107 rfl k53 (x := (psS (d 272) n s).1.1) hk ?_
    refine T_if_eq (tgt := 107) dX11_text_74 (by decide) (fun c74 => ?_) (fun c74 => ?_)
    · refine T_aload_n dX11_text_107 rfl ?_
      refine T_iload_n dX11_text_108 rfl ?_
      refine T_iload_n dX11_text_109 rfl ?_
      refine T_callV dX11_text_110 lX11_109 (As := [_, _]) (rest := _) rfl rfl k1 (by decide) (Nat.le_of_ble_eq_true rfl) (Nat.le_of_ble_eq_true rfl) (c_keepText hs4 hk0.1 (by rw [gF 4 s (by decide) (by decide)]; exact hk0.2) (hz c74).1 (hz c74).2) ?_
      rintro _ e2 ⟨rfl, hKp⟩
      have g2 : ∀ j, e2 2 j = e1 2 j := fun j => hKp.2.2 2 j (by decide) (by unfold slO; (repeat' split) <;> omega)
      exact T_ireturn dX11_text_113 rfl (Or.inr ⟨hok, Or.inr ⟨by rw [Int.toNat_natCast]; exact c74, rfl, by rw [Int.toNat_natCast]; exact (hz c74).1, by rw [g2, g, up_nej (by decide), up_nej (by decide), up_same], by rw [g2, g, up_nej (by decide), up_same], by rw [g2, g, up_same], e1, gF, by rw [Int.toNat_natCast]; exact hKp⟩⟩)
    · refine T_aload_n dX11_text_77 rfl ?_
      refine T_getR dX11_text_78 fX11_10 rfl k1 r1_0 ?_
      refine T_aload_n dX11_text_81 rfl ?_
      refine T_getR dX11_text_82 fX11_27 rfl k1 r1_3 ?_
      refine T_getIv dX11_text_85 fX11_107 rfl k53 (x := (psS (d 272) n s).1.1) hk ?_
      refine T_putI dX11_text_88 fX11_85 rfl k2 ?_
      refine T_aload_n dX11_text_91 rfl ?_
      refine T_getR dX11_text_92 fX11_10 rfl k1 r1_0 ?_
      refine T_aload_n dX11_text_95 rfl ?_
      refine T_getR dX11_text_96 fX11_27 rfl k1 r1_3 ?_
      refine T_getIv dX11_text_99 fX11_108 rfl k53 (x := (psS (d 272) n s).1.2) (by rw [up_nea (by decide)]; exact hp) ?_
      refine T_putI dX11_text_102 fX11_88 rfl k2 ?_
      refine T_iconst dX11_text_105 (by decide) ?_
      exact T_ireturn dX11_text_106 rfl (Or.inr ⟨hok, Or.inl ⟨rfl, by rw [Int.toNat_natCast]; exact c74, by rw [up_nej (by decide), up_nej (by decide), g, up_nej (by decide), up_nej (by decide), up_same], by rw [Int.toNat_natCast, up_nej (by decide), up_same], by rw [Int.toNat_natCast, up_same], fun b j h1 h2 => by rw [up_nea h1, up_nea h1]; exact gF b j h1 h2⟩⟩)
  refine T_aload_n dX11_text_0 rfl ?_
  refine T_getR dX11_text_1 fX11_10 rfl k1 r1_0 ?_
  refine T_getIv dX11_text_4 fX11_77 rfl k2 (x := (n : Int)) hn ?_
  refine T_ist_n dX11_text_7 (by decide) rfl ?_
  refine T_aload_n dX11_text_8 rfl ?_
  refine T_getR dX11_text_9 fX11_10 rfl k1 r1_0 ?_
  refine T_iconst dX11_text_12 (by decide) ?_
  refine T_putI dX11_text_13 fX11_77 rfl k2 ?_
  refine T_aload_n dX11_text_16 rfl ?_
  refine T_getR dX11_text_17 fX11_10 rfl k1 r1_0 ?_
  refine T_iconst dX11_text_20 (by decide) ?_
  refine T_putI dX11_text_21 fX11_85 rfl k2 ?_
  refine T_aload_n dX11_text_24 rfl ?_
  refine T_getR dX11_text_25 fX11_10 rfl k1 r1_0 ?_
  refine T_iconst dX11_text_28 (by decide) ?_
  refine T_putI dX11_text_29 fX11_88 rfl k2 ?_
  refine T_iload_n dX11_text_32 rfl ?_
  refine T_callS dX11_text_33 lX11_91 (As := [_]) (rest := _) rfl rfl (by decide) (Nat.le_of_ble_eq_true rfl) (Nat.le_of_ble_eq_true rfl) (c_isSort) ?_
  rintro _ _ ⟨rfl, rfl⟩
  refine T_if_eq (tgt := 48) dX11_text_36 (by decide) (fun c36 => ?_) (fun c36 => ?_)
  · refine T_bipush dX11_text_48 (by decide) ?_
    exact T_ireturn dX11_text_50 rfl (Or.inl ⟨fun z => bI_0 c36 z.1, rfl, rfl⟩)
  · refine T_aload_n dX11_text_39 rfl ?_
    refine T_iload_n dX11_text_40 rfl ?_
    refine T_iload_n dX11_text_41 rfl ?_
    refine T_callV dX11_text_42 lX11_95 (As := [_, _]) (rest := _) rfl rfl k1 (by decide) (Nat.le_of_ble_eq_true rfl) (Nat.le_of_ble_eq_true rfl) (c_mayStandAt (bI_1 c36)) ?_
    rintro _ _ ⟨rfl, rfl⟩
    refine T_if_ne (tgt := 51) dX11_text_45 (by decide) (fun c45 => ?_) (fun c45 => ?_)
    · exact h51 ⟨bI_1 c36, by have := bI_1 c45; rw [c4] at this; exact this⟩
    · refine T_bipush dX11_text_48 (by decide) ?_
      exact T_ireturn dX11_text_50 rfl (Or.inl ⟨fun z => bI_0 c45 (by rw [c4]; exact z.2), rfl, rfl⟩)

end C65
