/-! the reference: a line of villages, whole -/
section C40
variable {G : sG} {d d' d0 : sD} {T : Nat → Int} {n p q : Nat} {x : Int × Int} {dr : Nat → Int}
theorem r_v108 {e : sD} {p2 : Nat} {x1 : Int × Int} {at1 v m pa : Int} (hv : v = 0 ∨ v = 1 ∨ v = 2 ∨ v = 3) (hg : gVil T n p = gVi2 T n v p2) (hxv : xVil T n x dr p = xV2 T n x1 v p2) (hR : RS d0 e T n p2 x1) (hN : NL x1 p2) (hB : BVl (e 274)) (hm : (m = 0 ∧ ¬ e 274 0 < 8) ∨ (m = 1 ∧ e 274 0 < 8)) (ht : ti dr x1 (e 274)) (h8 : x1.1 = 0 → dr 0 < 8 ∧ dVil T n dr p = vlD dr pa v (if v = 0 then nmT T n p2 else if v = 3 then -1 else woT T n p2 - 10) (if v = 1 then woT T n (avT T n p2) - 10 else -1)) : tB G mX12_villageLine 108 [vR 271, vI at1, vI v, vI m, vI pa, vI (-1), vI (-1), vU 0] [] e (viQ d0 T n p x dr) := by
  have hT := hR.1.tv
  have hp := hR.2.1.1
  have hp1 := hT.av hp
  have hm2 : m = 0 ∨ e 274 0 < 8 := by omega
  rcases hv with rfl | rfl | rfl | rfl
  · have g0 : gVi2 T n 0 p2 = gNum T n p2 (gSem T n) := if_pos rfl
    have x0 : xV2 T n x1 0 p2 = xNum T n x1 p2 1 9 := if_pos rfl
    rw [x0] at hxv
    rw [g0] at hg
    refine T_iload_n dX12_villageLine_108 rfl ?_
    refine T_if_ne (tgt := 121) dX12_villageLine_109 (by decide) (fun c109 => absurd rfl c109) (fun c109 => ?_)
    refine T_aload_n dX12_villageLine_112 rfl ?_
    refine T_iconst dX12_villageLine_113 (by decide) ?_
    refine T_bipush dX12_villageLine_114 (by decide) ?_
    refine T_callV dX12_villageLine_116 lX12_160 (As := [_, _]) (rest := _) rfl rfl k271 (by decide) (Nat.le_of_ble_eq_true rfl) (Nat.le_of_ble_eq_true rfl) (r_numbered hR hN) ?_
    rintro _ e2 (⟨hk, rfl, hR2, h274⟩ | ⟨hk, rfl, hW, h274⟩)
    · have hlt := hT.lt hp (show ¬ kdT T n p2 = 0 by omega)
      rw [show gNum T n p2 (gSem T n) = gSem T n (avT T n p2) from if_pos hk] at hg
      refine T_ist dX12_villageLine_119 (by decide) rfl ?_
      refine T_iload_n dX12_villageLine_121 rfl ?_
      refine T_iconst dX12_villageLine_122 (by decide) ?_
      refine T_icmp_eq (tgt := 131) dX12_villageLine_123 (by decide) (fun c123 => absurd c123 (by decide)) (fun c123 => ?_)
      refine T_iload_n dX12_villageLine_126 rfl ?_
      refine T_iconst dX12_villageLine_127 (by decide) ?_
      refine T_icmp_ne (tgt := 137) dX12_villageLine_128 (by decide) (fun c128 => ?_) (fun c128 => absurd c128 (by decide))
      refine T_iload_n dX12_villageLine_137 rfl ?_
      refine T_iconst dX12_villageLine_138 (by decide) ?_
      refine T_icmp_ne (tgt := 176) dX12_villageLine_139 (by decide) (fun c139 => ?_) (fun c139 => absurd c139 (by decide))
      refine r_v176 hg hxv hR2 (NL_num hN (by omega)) (by rw [h274]; exact hB) (by rw [h274]; exact hm) (fun z => by rw [h274]; exact ht (xNum_0 z).1) (fun z => ?_)
      have z2 := xNum_0 z
      refine ⟨(h8 z2.1).1, ?_⟩
      rw [(h8 z2.1).2, if_pos rfl, if_neg (by decide), if_pos z2.2]
    · rw [show gNum T n p2 (gSem T n) = (false, p2) from if_neg hk] at hg
      refine T_ist dX12_villageLine_119 (by decide) rfl ?_
      exact w_v121 hg hW (by rw [h274]; exact hB) (by rw [h274]; exact hm2)
  · have g0 : gVi2 T n 1 p2 = gWd T n 10 13 p2 (fun q => gWd T n 10 13 q (gSem T n)) := (if_neg (by decide)).trans (if_pos rfl)
    have x0 : xV2 T n x1 1 p2 = if woT T n (avT T n p2) = woT T n p2 then ntA x1 4 (avT T n p2) else x1 := by
      unfold xV2
      rw [if_neg (by decide)]
      by_cases z : woT T n (avT T n p2) = woT T n p2
      · rw [if_pos ⟨rfl, z⟩, if_pos z]
      · rw [if_neg (fun y => z y.2), if_neg z]
    rw [x0] at hxv
    rw [g0] at hg
    refine T_iload_n dX12_villageLine_108 rfl ?_
    refine T_if_ne (tgt := 121) dX12_villageLine_109 (by decide) (fun c109 => ?_) (fun c109 => absurd c109 (by decide))
    refine T_iload_n dX12_villageLine_121 rfl ?_
    refine T_iconst dX12_villageLine_122 (by decide) ?_
    refine T_icmp_eq (tgt := 131) dX12_villageLine_123 (by decide) (fun c123 => ?_) (fun c123 => absurd rfl c123)
    refine T_aload_n dX12_villageLine_131 rfl ?_
    refine T_callV dX12_villageLine_132 lX12_171 (As := []) (rest := _) rfl rfl k271 (by decide) (Nat.le_of_ble_eq_true rfl) (Nat.le_of_ble_eq_true rfl) (r_beatTold hR) ?_
    rintro _ e2 (⟨hk, rfl, hR2, h274⟩ | ⟨hk, rfl, hW, h274⟩)
    · have hlt := tk_lt hT hp hk
      rw [show gWd T n 10 13 p2 (fun q => gWd T n 10 13 q (gSem T n)) = gWd T n 10 13 (avT T n p2) (gSem T n) from if_pos hk] at hg
      have e4 : e2 271 4 = ((avT T n p2 : Nat) : Int) := hR2.2.1.2.1.1
      have hN2 : NL x1 (avT T n p2 : Nat) := hN.mono (by omega)
      have hal := RS_al (k := 4) hR2 hN2
      have h170 : ∀ (e3 : sD), RS d0 e3 T n (avT T n p2) (if isW T n (avT T n p2) 10 13 ∧ woT T n (avT T n p2) = woT T n p2 then ntA x1 4 (avT T n p2 : Nat) else x1) → e3 274 = e 274 → tB G mX12_villageLine 170 [vR 271, vI at1, vI 1, vI m, vI pa, vI (woT T n p2 - 10), vI (-1), vU 0] [] e3 (viQ d0 T n p x dr) := by
        intro e3 hR3 h3
        refine T_aload_n dX12_villageLine_170 rfl ?_
        refine T_callV dX12_villageLine_171 lX12_171 (As := []) (rest := _) rfl rfl k271 (by decide) (Nat.le_of_ble_eq_true rfl) (Nat.le_of_ble_eq_true rfl) (r_beatTold hR3) ?_
        rintro _ e5 (⟨hk2, rfl, hR5, h5⟩ | ⟨hk2, rfl, hW, h5⟩)
        · have hlt2 := tk_lt hT hp1.2 hk2
          rw [show gWd T n 10 13 (avT T n p2) (gSem T n) = gSem T n (avT T n (avT T n p2)) from if_pos hk2] at hg
          have ex : (if isW T n (avT T n p2) 10 13 ∧ woT T n (avT T n p2) = woT T n p2 then ntA x1 4 (avT T n p2 : Nat) else x1) = if woT T n (avT T n p2) = woT T n p2 then ntA x1 4 (avT T n p2) else x1 := by
            by_cases z : woT T n (avT T n p2) = woT T n p2
            · rw [if_pos ⟨hk2, z⟩, if_pos z]
            · rw [if_neg (fun y => z y.2), if_neg z]
          rw [ex] at hR5
          have e5 : e5 274 = e 274 := h5.trans h3
          refine T_ist dX12_villageLine_174 (by decide) rfl ?_
          refine r_v176 hg hxv hR5 ?_ (by rw [e5]; exact hB) (by rw [e5]; exact hm) (fun z => ?_) (fun z => ?_)
          · by_cases z : woT T n (avT T n p2) = woT T n p2
            · rw [if_pos z]; exact NL_a (hN2.mono (by omega)) (by omega)
            · rw [if_neg z]; exact hN2.mono (by omega)
          · by_cases y : woT T n (avT T n p2) = woT T n p2
            · rw [if_pos y] at z; exact absurd z (fun u => (ntA_0 (by decide)).mp u)
            · rw [if_neg y] at z; rw [e5]; exact ht z
          · by_cases y : woT T n (avT T n p2) = woT T n p2
            · rw [if_pos y] at z; exact absurd z (fun u => (ntA_0 (by decide)).mp u)
            · rw [if_neg y] at z
              refine ⟨(h8 z).1, ?_⟩
              rw [(h8 z).2, if_neg (by decide), if_neg (by decide), if_pos rfl]
        · rw [show gWd T n 10 13 (avT T n p2) (gSem T n) = (false, avT T n p2) from if_neg hk2] at hg
          have e5 : e5 274 = e 274 := h5.trans h3
          refine T_ist dX12_villageLine_174 (by decide) rfl ?_
          exact w_v176 hg hW (by rw [e5]; exact hB) (by rw [e5]; exact hm2)
      have e7 : isW T n (avT T n p2) 10 13 → e2 271 7 = woT T n (avT T n p2) := fun z => hR2.2.1.2.2.2 z.1
      refine T_ist dX12_villageLine_135 (by decide) rfl ?_
      refine T_iload_n dX12_villageLine_137 rfl ?_
      refine T_iconst dX12_villageLine_138 (by decide) ?_
      refine T_icmp_ne (tgt := 176) dX12_villageLine_139 (by decide) (fun c139 => absurd rfl c139) (fun c139 => ?_)
      refine T_aload_n dX12_villageLine_142 rfl ?_
      refine T_callV dX12_villageLine_143 lX12_167 (As := []) (rest := _) rfl rfl k271 (by decide) (Nat.le_of_ble_eq_true rfl) (Nat.le_of_ble_eq_true rfl) (r_isBeat hR2) ?_
      rintro _ _ ⟨rfl, rfl⟩
      refine T_if_eq (tgt := 170) dX12_villageLine_146 (by decide) (fun c146 => ?_) (fun c146 => ?_)
      · exact h170 e2 (by rw [if_neg (fun z => bI_0 c146 z.1)]; exact hR2) h274
      · have h146 := bI_1 c146
        have hrg := h146.2
        refine T_aload_n dX12_villageLine_149 rfl ?_
        refine T_getIv dX12_villageLine_150 fX12_129 rfl k271 (x := woT T n (avT T n p2)) (e7 h146) ?_
        refine T_bipush dX12_villageLine_153 (by decide) ?_
        refine T_sub dX12_villageLine_155 (by omega) ?_
        refine T_iload dX12_villageLine_156 rfl ?_
        refine T_icmp_ne (tgt := 170) dX12_villageLine_158 (by decide) (fun c158 => ?_) (fun c158 => ?_)
        · exact h170 e2 (by rw [if_neg (fun z => by have := z.2; omega)]; exact hR2) h274
        · refine T_aload_n dX12_villageLine_161 rfl ?_
          refine T_iconst dX12_villageLine_162 (by decide) ?_
          refine T_aload_n dX12_villageLine_163 rfl ?_
          refine T_getIv dX12_villageLine_164 fX12_112 rfl k271 (x := ((avT T n p2 : Nat) : Int)) e4 ?_
          refine T_callV dX12_villageLine_167 lX12_149 (As := [_, _]) (rest := _) rfl rfl k271 (by decide) (Nat.le_of_ble_eq_true rfl) (Nat.le_of_ble_eq_true rfl) t_also ?_
          rintro _ _ ⟨rfl, rfl⟩
          exact h170 _ (by rw [if_pos ⟨h146, by omega⟩]; exact hal.1) (hal.2.trans h274)
    · rw [show gWd T n 10 13 p2 (fun q => gWd T n 10 13 q (gSem T n)) = (false, p2) from if_neg hk] at hg
      refine T_ist dX12_villageLine_135 (by decide) rfl ?_
      exact w_v137 hg hW (by rw [h274]; exact hB) (by rw [h274]; exact hm2)
  · have g0 : gVi2 T n 2 p2 = gWd T n 10 13 p2 (gSem T n) := ((if_neg (by decide)).trans (if_neg (by decide))).trans (if_pos rfl)
    have x0 : xV2 T n x1 2 p2 = x1 := by
      unfold xV2
      rw [if_neg (by decide), if_neg (fun y => absurd y.1 (by decide))]
    rw [x0] at hxv
    rw [g0] at hg
    refine T_iload_n dX12_villageLine_108 rfl ?_
    refine T_if_ne (tgt := 121) dX12_villageLine_109 (by decide) (fun c109 => ?_) (fun c109 => absurd c109 (by decide))
    refine T_iload_n dX12_villageLine_121 rfl ?_
    refine T_iconst dX12_villageLine_122 (by decide) ?_
    refine T_icmp_eq (tgt := 131) dX12_villageLine_123 (by decide) (fun c123 => absurd c123 (by decide)) (fun c123 => ?_)
    refine T_iload_n dX12_villageLine_126 rfl ?_
    refine T_iconst dX12_villageLine_127 (by decide) ?_
    refine T_icmp_ne (tgt := 137) dX12_villageLine_128 (by decide) (fun c128 => absurd rfl c128) (fun c128 => ?_)
    refine T_aload_n dX12_villageLine_131 rfl ?_
    refine T_callV dX12_villageLine_132 lX12_171 (As := []) (rest := _) rfl rfl k271 (by decide) (Nat.le_of_ble_eq_true rfl) (Nat.le_of_ble_eq_true rfl) (r_beatTold hR) ?_
    rintro _ e2 (⟨hk, rfl, hR2, h274⟩ | ⟨hk, rfl, hW, h274⟩)
    · have hlt := tk_lt hT hp hk
      rw [show gWd T n 10 13 p2 (gSem T n) = gSem T n (avT T n p2) from if_pos hk] at hg
      refine T_ist dX12_villageLine_135 (by decide) rfl ?_
      refine T_iload_n dX12_villageLine_137 rfl ?_
      refine T_iconst dX12_villageLine_138 (by decide) ?_
      refine T_icmp_ne (tgt := 176) dX12_villageLine_139 (by decide) (fun c139 => ?_) (fun c139 => absurd c139 (by decide))
      refine r_v176 hg hxv hR2 (hN.mono (by omega)) (by rw [h274]; exact hB) (by rw [h274]; exact hm) (fun z => by rw [h274]; exact ht z) (fun z => ?_)
      refine ⟨(h8 z).1, ?_⟩
      rw [(h8 z).2, if_neg (by decide), if_neg (by decide), if_neg (by decide)]
    · rw [show gWd T n 10 13 p2 (gSem T n) = (false, p2) from if_neg hk] at hg
      refine T_ist dX12_villageLine_135 (by decide) rfl ?_
      exact w_v137 hg hW (by rw [h274]; exact hB) (by rw [h274]; exact hm2)
  · have g0 : gVi2 T n 3 p2 = gSem T n p2 := ((if_neg (by decide)).trans (if_neg (by decide))).trans (if_neg (by decide))
    have x0 : xV2 T n x1 3 p2 = x1 := by
      unfold xV2
      rw [if_neg (by decide), if_neg (fun y => absurd y.1 (by decide))]
    rw [x0] at hxv
    rw [g0] at hg
    refine T_iload_n dX12_villageLine_108 rfl ?_
    refine T_if_ne (tgt := 121) dX12_villageLine_109 (by decide) (fun c109 => ?_) (fun c109 => absurd c109 (by decide))
    refine T_iload_n dX12_villageLine_121 rfl ?_
    refine T_iconst dX12_villageLine_122 (by decide) ?_
    refine T_icmp_eq (tgt := 131) dX12_villageLine_123 (by decide) (fun c123 => absurd c123 (by decide)) (fun c123 => ?_)
    refine T_iload_n dX12_villageLine_126 rfl ?_
    refine T_iconst dX12_villageLine_127 (by decide) ?_
    refine T_icmp_ne (tgt := 137) dX12_villageLine_128 (by decide) (fun c128 => ?_) (fun c128 => absurd c128 (by decide))
    refine T_iload_n dX12_villageLine_137 rfl ?_
    refine T_iconst dX12_villageLine_138 (by decide) ?_
    refine T_icmp_ne (tgt := 176) dX12_villageLine_139 (by decide) (fun c139 => ?_) (fun c139 => absurd c139 (by decide))
    refine r_v176 hg hxv hR hN hB hm ht (fun z => ?_)
    refine ⟨(h8 z).1, ?_⟩
    rw [(h8 z).2, if_neg (by decide), if_pos rfl, if_neg (by decide)]

end C40
