/-! the reference: a line of villages, its head -/
section C41
variable {G : sG} {d d' d0 : sD} {T : Nat → Int} {n p q : Nat} {x : Int × Int} {dr : Nat → Int}
theorem runE_all {q : Nat → Prop} [DecidablePred q] : ∀ (f i : Nat), ∀ j, i ≤ j → j < runE q f i → q j
  | 0, i, j, h1, h2 => by have : runE q 0 i = i := rfl; omega
  | f + 1, i, j, h1, h2 => by
    by_cases z : q i
    · rw [runE_y z (by omega), Nat.add_sub_cancel] at h2
      rcases (show j = i ∨ i + 1 ≤ j by omega) with rfl | y
      · exact z
      · exact runE_all f (i + 1) j y h2
    · rw [runE_n z] at h2; omega
theorem nmT_rg : 0 ≤ nmT T n p ∧ nmT T n p ≤ 99 := nuN_rg _ (fun j hj => runE_all (q := dtP T) (n - p) p (p + j) (by omega) (by
  have : (enG T n p) = runE (dtP T) (n - p) p := rfl
  omega)) (by omega)
theorem xV0_0 (h : (xV0 x dr p).1 = 0) : x.1 = 0 ∧ dr 0 < 8 := by
  unfold xV0 at h
  by_cases z : dr 0 < 8
  · rw [if_pos z] at h; exact ⟨h, z⟩
  · rw [if_neg z] at h; exact absurd h (fun u => (ntA_0 (by decide)).mp u)
theorem xV1_0 (h : (xV1 T n x dr p).1 = 0) : x.1 = 0 ∧ (nmT T n p = 8 ∨ nmT T n p < dr 0) := by
  unfold xV1 at h
  by_cases z : nmT T n p = 8 ∨ nmT T n p < dr 0
  · rw [if_pos z] at h; exact ⟨h, z⟩
  · rw [if_neg z] at h; exact absurd h (fun u => (ntA_0 (by decide)).mp u)
theorem NL_V1 (hx : NL x p) (h : (p : Int) < q) : NL (xV1 T n x dr p) q := by
  unfold xV1
  by_cases z : nmT T n p = 8 ∨ nmT T n p < dr 0
  · rw [if_pos z]; exact hx.mono (by omega)
  · rw [if_neg z]; exact NL_a (hx.mono (by omega)) h
theorem NL_V0 (hx : NL x p) (h : (p : Int) < q) : NL (xV0 x dr p) q := by
  unfold xV0
  by_cases z : dr 0 < 8
  · rw [if_pos z]; exact hx.mono (by omega)
  · rw [if_neg z]; exact NL_a (hx.mono (by omega)) h
theorem r_villageLine (h : RS d0 d T n p x) (hx : NL x p) (hB : BVl (d 274)) (hd : ti dr x (d 274)) : tB G mX12_villageLine 0 [vR 271, vU 0, vU 0, vU 0, vU 0, vU 0, vU 0, vU 0] [] d (viQ d0 T n p x dr) := by
  have hT := h.1.tv
  have hp := h.2.1.1
  have hB1 := hB.1
  have e4 : d 271 4 = (p : Int) := h.2.1.2.1.1
  refine T_aload_n dX12_villageLine_0 rfl ?_
  refine T_getIv dX12_villageLine_1 fX12_112 rfl k271 (x := (p : Int)) e4 ?_
  refine T_ist_n dX12_villageLine_4 (by decide) rfl ?_
  refine T_aload_n dX12_villageLine_5 rfl ?_
  refine T_bipush dX12_villageLine_6 (by decide) ?_
  refine T_bipush dX12_villageLine_8 (by decide) ?_
  refine T_callV dX12_villageLine_10 lX12_156 (As := [_, _]) (rest := _) rfl rfl k271 (by decide) (Nat.le_of_ble_eq_true rfl) (Nat.le_of_ble_eq_true rfl) (r_takes h) ?_
  rintro _ e1 (⟨hw, rfl, hR, h274⟩ | ⟨hw, rfl, hW, h274⟩)
  · have hp1 := hT.av hp
    have hlt := tk_lt hT hp hw
    have hwr := hw.2
    have hrg := nmT_rg (T := T) (n := n) (p := avT T n p)
    have h93 : ∀ (m : Int) (e : sD) (x' : Int × Int), RS d0 e T n (avT T n p) x' → (¬ inR (nmT T n (avT T n p)) 0 8 → NL x' (avT T n p : Nat)) → e 274 = d 274 → ((m = 0 ∧ ¬ d 274 0 < 8) ∨ (m = 1 ∧ d 274 0 < 8)) → (kdT T n (avT T n p) = 1 → (if inR (nmT T n (avT T n p)) 0 8 then x' else ntA x' 2 (avT T n p : Nat)) = xV1 T n (xV0 x dr p) dr (avT T n p)) → tB G mX12_villageLine 93 [vR 271, vI p, vI (woT T n p - 21), vI m, vU 0, vU 0, vU 0, vU 0] [] e (viQ d0 T n p x dr) := by
      intro m e x' hR' hN' he hm hxe
      refine T_aload_n dX12_villageLine_93 rfl ?_
      refine T_iconst dX12_villageLine_94 (by decide) ?_
      refine T_bipush dX12_villageLine_95 (by decide) ?_
      refine T_callV dX12_villageLine_97 lX12_160 (As := [_, _]) (rest := _) rfl rfl k271 (by decide) (Nat.le_of_ble_eq_true rfl) (Nat.le_of_ble_eq_true rfl) (r_numberedX hR' hN') ?_
      rintro _ e2 (⟨hk, rfl, hR2, h2⟩ | ⟨hk, rfl, hW, h2⟩)
      · have hlt2 := hT.lt hp1.2 (show ¬ kdT T n (avT T n p) = 0 by omega)
        have hp2 := hT.av hp1.2
        have e2 : e2 274 = d 274 := h2.trans he
        rw [hxe hk] at hR2
        refine T_ist dX12_villageLine_100 (by decide) rfl ?_
        refine T_iconst dX12_villageLine_102 (by decide) ?_
        refine T_ist dX12_villageLine_103 (by decide) rfl ?_
        refine T_iconst dX12_villageLine_105 (by decide) ?_
        refine T_ist dX12_villageLine_106 (by decide) rfl ?_
        refine r_v108 (by omega) ((if_pos hw).trans (if_pos hk)) rfl hR2 (NL_V1 (NL_V0 hx (by omega)) (by omega)) (by rw [e2]; exact hB) (by rw [e2]; exact hm) (fun z => by rw [e2]; exact hd (xV0_0 (xV1_0 z).1).1) (fun z => ?_)
        have z1 := xV1_0 z
        have z0 := xV0_0 z1.1
        refine ⟨z0.2, ?_⟩
        rw [if_pos (show inR (nmT T n (avT T n p)) 0 8 by omega)]
        rfl
      · have e2 : e2 274 = d 274 := h2.trans he
        refine T_ist dX12_villageLine_100 (by decide) rfl ?_
        refine T_iconst dX12_villageLine_102 (by decide) ?_
        refine T_ist dX12_villageLine_103 (by decide) rfl ?_
        refine T_iconst dX12_villageLine_105 (by decide) ?_
        refine T_ist dX12_villageLine_106 (by decide) rfl ?_
        exact w_v108 ((if_pos hw).trans (if_neg hk)) hW (by rw [e2]; exact hB) (by rw [e2]; omega)
    have h51 : ∀ (m : Int) (e : sD), RS d0 e T n (avT T n p) (xV0 x dr p) → e 274 = d 274 → ((m = 0 ∧ ¬ d 274 0 < 8) ∨ (m = 1 ∧ d 274 0 < 8)) → tB G mX12_villageLine 51 [vR 271, vI p, vI (woT T n p - 21), vI m, vU 0, vU 0, vU 0, vU 0] [] e (viQ d0 T n p x dr) := by
      intro m e hR' he hm
      have hw0 := hR'.2.2.1
      have ek := hR'.2.1.2.1.2.2
      have ew : e 271 4 = ((avT T n p : Nat) : Int) := hR'.2.1.2.1.1
      have hN0 : NL (xV0 x dr p) (avT T n p : Nat) := NL_V0 hx (by omega)
      have hal := RS_al (k := 2) hR' hN0
      have e0 : e 274 0 = d 274 0 := by rw [he]
      have hno : ∀ (y z : Int × Int), ¬ y.1 = 0 → (if inR (nmT T n (avT T n p)) 0 8 then y else ntA y 2 (avT T n p : Nat)) = xV1 T n y dr (avT T n p) := fun y z hy => by
        unfold xV1; rw [ntA_n hy, ite_self, ite_self]
      refine T_aload_n dX12_villageLine_51 rfl ?_
      refine T_getIv dX12_villageLine_52 fX12_138 rfl k271 (x := (0 : Int)) hw0 ?_
      refine T_if_ne (tgt := 93) dX12_villageLine_55 (by decide) (fun c55 => absurd rfl c55) (fun c55 => ?_)
      refine T_aload_n dX12_villageLine_58 rfl ?_
      refine T_getIv dX12_villageLine_59 fX12_115 rfl k271 (x := kdT T n (avT T n p)) ek ?_
      refine T_iconst dX12_villageLine_62 (by decide) ?_
      refine T_icmp_ne (tgt := 93) dX12_villageLine_63 (by decide) (fun c63 => ?_) (fun c63 => ?_)
      · exact h93 m e _ hR' (fun _ => hN0) he hm (fun z => absurd z c63)
      · refine T_aload_n dX12_villageLine_66 rfl ?_
        refine T_getIv dX12_villageLine_67 fX12_135 rfl k271 (x := nmT T n (avT T n p)) (hR'.2.1.2.2.1 c63) ?_
        refine T_aload_n dX12_villageLine_70 rfl ?_
        refine T_getR dX12_villageLine_71 fX12_17 rfl k271 r271_9 ?_
        refine T_iconst dX12_villageLine_74 (by decide) ?_
        refine T_ialdv dX12_villageLine_75 k274 l274 (by omega) (j := 0) rfl (x := d 274 0) e0 ?_
        refine T_bipush dX12_villageLine_76 (by decide) ?_
        refine T_callS dX12_villageLine_78 lX12_145 (As := [_, _, _]) (rest := _) rfl rfl (by decide) (Nat.le_of_ble_eq_true rfl) (Nat.le_of_ble_eq_true rfl) t_X12_isIn ?_
        rintro _ _ ⟨rfl, rfl⟩
        refine T_if_eq (tgt := 93) dX12_villageLine_81 (by decide) (fun c81 => ?_) (fun c81 => ?_)
        · refine h93 m e _ hR' (fun _ => hN0) he hm (fun z => ?_)
          have h81 := bI_0 c81
          by_cases y : (xV0 x dr p).1 = 0
          · have y0 := xV0_0 y
            have := hd y0.1 0 (by decide)
            unfold xV1
            by_cases u : inR (nmT T n (avT T n p)) 0 8
            · rw [if_pos u, if_pos (by omega)]
            · rw [if_neg u, if_neg (by omega)]
          · exact hno _ x y
        · refine T_aload_n dX12_villageLine_84 rfl ?_
          refine T_iconst dX12_villageLine_85 (by decide) ?_
          refine T_aload_n dX12_villageLine_86 rfl ?_
          refine T_getIv dX12_villageLine_87 fX12_112 rfl k271 (x := ((avT T n p : Nat) : Int)) ew ?_
          refine T_callV dX12_villageLine_90 lX12_149 (As := [_, _]) (rest := _) rfl rfl k271 (by decide) (Nat.le_of_ble_eq_true rfl) (Nat.le_of_ble_eq_true rfl) t_also ?_
          rintro _ _ ⟨rfl, rfl⟩
          have h81 := bI_1 c81
          refine h93 m _ _ hal.1 (fun z => absurd (show inR (nmT T n (avT T n p)) 0 8 by omega) z) (hal.2.trans he) hm (fun z => ?_)
          rw [if_pos (show inR (nmT T n (avT T n p)) 0 8 by omega)]
          by_cases y : (xV0 x dr p).1 = 0
          · have y0 := xV0_0 y
            have := hd y0.1 0 (by decide)
            unfold xV1
            rw [if_neg (by omega)]
          · unfold xV1; rw [ntA_n y, ite_self]
    have hw0 := hR.2.2.1
    have e0 : e1 274 0 = d 274 0 := by rw [h274]
    have hN1 : NL x (p : Nat) := hx
    have hal := RS_al (k := 3) hR hN1
    have hx0y : d 274 0 < 8 → xV0 x dr p = x := fun hlt8 => by
      unfold xV0
      by_cases z : x.1 = 0
      · rw [if_pos (by rw [← hd z 0 (by decide)]; exact hlt8)]
      · rw [ntA_n z, ite_self]
    have hx0n : ¬ d 274 0 < 8 → xV0 x dr p = ntA x 3 p := fun hlt8 => by
      unfold xV0
      by_cases z : x.1 = 0
      · rw [if_neg (by rw [← hd z 0 (by decide)]; exact hlt8)]
      · rw [ntA_n z, ite_self]
    refine T_bipush dX12_villageLine_13 (by decide) ?_
    refine T_sub dX12_villageLine_15 (by omega) ?_
    refine T_ist_n dX12_villageLine_16 (by decide) rfl ?_
    refine T_aload_n dX12_villageLine_17 rfl ?_
    refine T_getR dX12_villageLine_18 fX12_17 rfl k271 r271_9 ?_
    refine T_iconst dX12_villageLine_21 (by decide) ?_
    refine T_ialdv dX12_villageLine_22 k274 l274 (by omega) (j := 0) rfl (x := d 274 0) e0 ?_
    refine T_bipush dX12_villageLine_23 (by decide) ?_
    refine T_icmp_ge (tgt := 32) dX12_villageLine_25 (by decide) (fun c25 => ?_) (fun c25 => ?_)
    · refine T_iconst dX12_villageLine_32 (by decide) ?_
      refine T_ist_n dX12_villageLine_33 (by decide) rfl ?_
      refine T_aload_n dX12_villageLine_34 rfl ?_
      refine T_getIv dX12_villageLine_35 fX12_138 rfl k271 (x := (0 : Int)) hw0 ?_
      refine T_if_ne (tgt := 51) dX12_villageLine_38 (by decide) (fun c38 => absurd rfl c38) (fun c38 => ?_)
      refine T_iload_n dX12_villageLine_41 rfl ?_
      refine T_if_ne (tgt := 51) dX12_villageLine_42 (by decide) (fun c42 => ?_) (fun c42 => ?_)
      · exact absurd rfl c42
      · refine T_aload_n dX12_villageLine_45 rfl ?_
        refine T_iconst dX12_villageLine_46 (by decide) ?_
        refine T_iload_n dX12_villageLine_47 rfl ?_
        refine T_callV dX12_villageLine_48 lX12_149 (As := [_, _]) (rest := _) rfl rfl k271 (by decide) (Nat.le_of_ble_eq_true rfl) (Nat.le_of_ble_eq_true rfl) t_also ?_
        rintro _ _ ⟨rfl, rfl⟩
        exact h51 0 _ (by rw [hx0n (by omega)]; exact hal.1) (hal.2.trans h274) (by omega)
    · refine T_iconst dX12_villageLine_28 (by decide) ?_
      refine T_goto (tgt := 33) dX12_villageLine_29 (by decide) ?_
      refine T_ist_n dX12_villageLine_33 (by decide) rfl ?_
      refine T_aload_n dX12_villageLine_34 rfl ?_
      refine T_getIv dX12_villageLine_35 fX12_138 rfl k271 (x := (0 : Int)) hw0 ?_
      refine T_if_ne (tgt := 51) dX12_villageLine_38 (by decide) (fun c38 => absurd rfl c38) (fun c38 => ?_)
      refine T_iload_n dX12_villageLine_41 rfl ?_
      refine T_if_ne (tgt := 51) dX12_villageLine_42 (by decide) (fun c42 => ?_) (fun c42 => ?_)
      · exact h51 1 e1 (by rw [hx0y (by omega)]; exact hR) h274 (by omega)
      · refine T_aload_n dX12_villageLine_45 rfl ?_
        refine T_iconst dX12_villageLine_46 (by decide) ?_
        refine T_iload_n dX12_villageLine_47 rfl ?_
        refine T_callV dX12_villageLine_48 lX12_149 (As := [_, _]) (rest := _) rfl rfl k271 (by decide) (Nat.le_of_ble_eq_true rfl) (Nat.le_of_ble_eq_true rfl) t_also ?_
        rintro _ _ ⟨rfl, rfl⟩
        exact absurd c42 (by decide)
  · have e0 : e1 274 0 = d 274 0 := by rw [h274]
    refine T_bipush dX12_villageLine_13 (by decide) ?_
    refine T_sub dX12_villageLine_15 (by omega) ?_
    refine T_ist_n dX12_villageLine_16 (by decide) rfl ?_
    refine T_aload_n dX12_villageLine_17 rfl ?_
    refine T_getR dX12_villageLine_18 fX12_17 rfl k271 r271_9 ?_
    refine T_iconst dX12_villageLine_21 (by decide) ?_
    refine T_ialdv dX12_villageLine_22 k274 l274 (by omega) (j := 0) rfl (x := d 274 0) e0 ?_
    refine T_bipush dX12_villageLine_23 (by decide) ?_
    refine T_icmp_ge (tgt := 32) dX12_villageLine_25 (by decide) (fun c25 => ?_) (fun c25 => ?_)
    · refine T_iconst dX12_villageLine_32 (by decide) ?_
      refine T_ist_n dX12_villageLine_33 (by decide) rfl ?_
      refine T_aload_n dX12_villageLine_34 rfl ?_
      refine T_getIv dX12_villageLine_35 fX12_138 rfl k271 (x := (1 : Int)) hW.1 ?_
      refine T_if_ne (tgt := 51) dX12_villageLine_38 (by decide) (fun c38 => ?_) (fun c38 => absurd c38 (by decide))
      refine T_aload_n dX12_villageLine_51 rfl ?_
      refine T_getIv dX12_villageLine_52 fX12_138 rfl k271 (x := (1 : Int)) hW.1 ?_
      refine T_if_ne (tgt := 93) dX12_villageLine_55 (by decide) (fun c55 => ?_) (fun c55 => absurd c55 (by decide))
      refine T_aload_n dX12_villageLine_93 rfl ?_
      refine T_iconst dX12_villageLine_94 (by decide) ?_
      refine T_bipush dX12_villageLine_95 (by decide) ?_
      refine T_callV dX12_villageLine_97 lX12_160 (As := [_, _]) (rest := _) rfl rfl k271 (by decide) (Nat.le_of_ble_eq_true rfl) (Nat.le_of_ble_eq_true rfl) (w_numbered hW) ?_
      rintro _ _ ⟨rfl, rfl⟩
      refine T_ist dX12_villageLine_100 (by decide) rfl ?_
      refine T_iconst dX12_villageLine_102 (by decide) ?_
      refine T_ist dX12_villageLine_103 (by decide) rfl ?_
      refine T_iconst dX12_villageLine_105 (by decide) ?_
      refine T_ist dX12_villageLine_106 (by decide) rfl ?_
      exact w_v108 (if_neg hw) hW (by rw [h274]; exact hB) (by rw [h274]; omega)
    · refine T_iconst dX12_villageLine_28 (by decide) ?_
      refine T_goto (tgt := 33) dX12_villageLine_29 (by decide) ?_
      refine T_ist_n dX12_villageLine_33 (by decide) rfl ?_
      refine T_aload_n dX12_villageLine_34 rfl ?_
      refine T_getIv dX12_villageLine_35 fX12_138 rfl k271 (x := (1 : Int)) hW.1 ?_
      refine T_if_ne (tgt := 51) dX12_villageLine_38 (by decide) (fun c38 => ?_) (fun c38 => absurd c38 (by decide))
      refine T_aload_n dX12_villageLine_51 rfl ?_
      refine T_getIv dX12_villageLine_52 fX12_138 rfl k271 (x := (1 : Int)) hW.1 ?_
      refine T_if_ne (tgt := 93) dX12_villageLine_55 (by decide) (fun c55 => ?_) (fun c55 => absurd c55 (by decide))
      refine T_aload_n dX12_villageLine_93 rfl ?_
      refine T_iconst dX12_villageLine_94 (by decide) ?_
      refine T_bipush dX12_villageLine_95 (by decide) ?_
      refine T_callV dX12_villageLine_97 lX12_160 (As := [_, _]) (rest := _) rfl rfl k271 (by decide) (Nat.le_of_ble_eq_true rfl) (Nat.le_of_ble_eq_true rfl) (w_numbered hW) ?_
      rintro _ _ ⟨rfl, rfl⟩
      refine T_ist dX12_villageLine_100 (by decide) rfl ?_
      refine T_iconst dX12_villageLine_102 (by decide) ?_
      refine T_ist dX12_villageLine_103 (by decide) rfl ?_
      refine T_iconst dX12_villageLine_105 (by decide) ?_
      refine T_ist dX12_villageLine_106 (by decide) rfl ?_
      exact w_v108 (if_neg hw) hW (by rw [h274]; exact hB) (by rw [h274]; omega)

end C41
