/-! the reference: one step over the rests of orders -/
section M41
variable {G : sG} {d : sD} {w : Nat → Int} {a : Nat}
/-- a place is made less -/
def lsD (d : sD) (i : Nat) (v : Int) : sD := if v < d 296 i then up d 296 i v else d
theorem t_hangsL {i : Nat} {v : Int} (hi : i < 30) : tB G mX12_hangsLess 0 [vR 271, vI i, vI v] [] d (fun r d' => r = some (vI (bI (v < d 296 i))) ∧ d' = lsD d i v) := (t_hangsLess (v := v) hi).mono (by
  rintro r d' (⟨h, rfl, rfl⟩ | ⟨h, rfl, rfl⟩)
  · exact ⟨by rw [bI_t h], by unfold lsD; rw [if_pos h]⟩
  · exact ⟨by rw [bI_f h], by unfold lsD; rw [if_neg h]⟩)
/-- the rest of order o from beat f, order p laid at it -/
def hoT (w : Nat → Int) (a o f p : Nat) : Nat := if giP w a o f p 0 then 5 * p + (lnW w a o - f) else 5 * o + (f + lnW w a p)
def hoV (w : Nat → Int) (a o f p : Nat) (v : Int) : Int := if giP w a o f p 0 then v + lnW w a p - (lnW w a o - f : Nat) else v
def hoP (w : Nat → Int) (a o f p : Nat) (v : Int) : Prop := (v < 9999 ∧ ¬ f = lnW w a o) ∧ (giP w a o f p 0 ∨ giP w a p 0 o f)
theorem t_hangsOn {o f p : Nat} {v : Int} (hW : Wd d w) (hV : WV w) (ha : a < 2) (ho : (o : Int) < w (15 + a)) (hp : (p : Int) < w (15 + a)) (hf : f < 5) (hv : d 296 (5 * o + f) = v) (hv0 : 0 ≤ v ∧ v ≤ 9999) (hfl : f ≤ lnW w a o ∨ v = 9999) : tB G mX12_hangsOn 0 [vR 271, vI a, vI o, vI f, vI p, vU 0, vU 0] [] d (fun r d' => (¬ hoP w a o f p v ∧ r = some (vI 0) ∧ d' = d) ∨ (hoP w a o f p v ∧ r = some (vI (bI (hoV w a o f p v < d 296 (hoT w a o f p)))) ∧ d' = lsD d (hoT w a o f p) (hoV w a o f p v))) := by
  have l1 := hV.ln ha ho
  have l2 := hV.ln ha hp

  refine T_aload_n dX12_hangsOn_0 rfl ?_
  refine T_getR dX12_hangsOn_1 fX12_84 rfl k271 r271_37 ?_
  refine T_iconst dX12_hangsOn_4 (by decide) ?_
  refine T_iload_n dX12_hangsOn_5 rfl ?_
  refine T_mul dX12_hangsOn_6 (by omega) ?_
  refine T_iload_n dX12_hangsOn_7 rfl ?_
  refine T_add dX12_hangsOn_8 (by omega) ?_
  refine T_ialdv dX12_hangsOn_9 k296 l296 (by omega) (j := 5 * o + f) (by omega) (x := v) hv ?_
  refine T_ist dX12_hangsOn_10 (by decide) rfl ?_
  refine T_iload dX12_hangsOn_12 rfl ?_
  refine T_sipush dX12_hangsOn_14 (by decide) ?_
  refine T_icmp_ge (tgt := 30) dX12_hangsOn_17 (by decide) (fun c17 => ?_) (fun c17 => ?_)
  · refine T_iconst dX12_hangsOn_30 (by decide) ?_
    exact T_zreturn dX12_hangsOn_31 rfl (by omega) (Or.inl ⟨fun z => by have := z.1.1; omega, rfl, rfl⟩)
  · refine T_iload_n dX12_hangsOn_20 rfl ?_
    refine T_aload_n dX12_hangsOn_21 rfl ?_
    refine T_iload_n dX12_hangsOn_22 rfl ?_
    refine T_iload_n dX12_hangsOn_23 rfl ?_
    refine T_callV dX12_hangsOn_24 lX12_230 (As := [_, _]) (rest := _) rfl rfl k271 (by decide) (Nat.le_of_ble_eq_true rfl) (Nat.le_of_ble_eq_true rfl) (t_lengthOf hW ha (by omega)) ?_
    rintro _ _ ⟨rfl, rfl⟩
    refine T_icmp_ne (tgt := 32) dX12_hangsOn_27 (by decide) (fun c27 => ?_) (fun c27 => ?_)
    · have hvf : v < 9999 ∧ ¬ f = lnW w a o := ⟨by omega, by omega⟩
      refine T_aload_n dX12_hangsOn_32 rfl ?_
      refine T_iload_n dX12_hangsOn_33 rfl ?_
      refine T_iload_n dX12_hangsOn_34 rfl ?_
      refine T_callV dX12_hangsOn_35 lX12_230 (As := [_, _]) (rest := _) rfl rfl k271 (by decide) (Nat.le_of_ble_eq_true rfl) (Nat.le_of_ble_eq_true rfl) (t_lengthOf hW ha (by omega)) ?_
      rintro _ _ ⟨rfl, rfl⟩
      refine T_iload_n dX12_hangsOn_38 rfl ?_
      refine T_sub dX12_hangsOn_39 (by omega) ?_
      refine T_ist dX12_hangsOn_40 (by decide) rfl ?_
      refine T_aload_n dX12_hangsOn_42 rfl ?_
      refine T_iload_n dX12_hangsOn_43 rfl ?_
      refine T_iload_n dX12_hangsOn_44 rfl ?_
      refine T_iload_n dX12_hangsOn_45 rfl ?_
      refine T_iload dX12_hangsOn_46 rfl ?_
      refine T_iconst dX12_hangsOn_48 (by decide) ?_
      refine T_callV dX12_hangsOn_49 lX12_378 (As := [_, _, _, _, _]) (rest := _) rfl rfl k271 (by decide) (Nat.le_of_ble_eq_true rfl) (Nat.le_of_ble_eq_true rfl) (t_goesInto (h := 0) hW hV ha ho hp (by omega) (Nat.zero_le _)) ?_
      rintro _ _ ⟨rfl, rfl⟩
      refine T_if_eq (tgt := 80) dX12_hangsOn_52 (by decide) (fun c52 => ?_) (fun c52 => ?_)
      · refine T_aload_n dX12_hangsOn_80 rfl ?_
        refine T_iload_n dX12_hangsOn_81 rfl ?_
        refine T_iload dX12_hangsOn_82 rfl ?_
        refine T_iconst dX12_hangsOn_84 (by decide) ?_
        refine T_iload_n dX12_hangsOn_85 rfl ?_
        refine T_iload_n dX12_hangsOn_86 rfl ?_
        refine T_callV dX12_hangsOn_87 lX12_378 (As := [_, _, _, _, _]) (rest := _) rfl rfl k271 (by decide) (Nat.le_of_ble_eq_true rfl) (Nat.le_of_ble_eq_true rfl) (t_goesInto (f := 0) hW hV ha hp ho (Nat.zero_le _) (by omega)) ?_
        rintro _ _ ⟨rfl, rfl⟩
        refine T_if_eq (tgt := 119) dX12_hangsOn_90 (by decide) (fun c90 => ?_) (fun c90 => ?_)
        · refine T_iconst dX12_hangsOn_119 (by decide) ?_
          exact T_zreturn dX12_hangsOn_120 rfl (by omega) (Or.inl ⟨fun z => z.2.elim (bI_0 c52) (bI_0 c90), rfl, rfl⟩)
        · have h90 := bI_1 c90
          have h901 := h90.1
          have eT : hoT w a o f p = 5 * o + (f + lnW w a p) := if_neg (bI_0 c52)
          have eV : hoV w a o f p v = v := if_neg (bI_0 c52)
          have hP : hoP w a o f p v := ⟨hvf, Or.inr h90⟩
          refine T_aload_n dX12_hangsOn_93 rfl ?_
          refine T_iconst dX12_hangsOn_94 (by decide) ?_
          refine T_iload_n dX12_hangsOn_95 rfl ?_
          refine T_mul dX12_hangsOn_96 (by omega) ?_
          refine T_iload_n dX12_hangsOn_97 rfl ?_
          refine T_add dX12_hangsOn_98 (by omega) ?_
          refine T_aload_n dX12_hangsOn_99 rfl ?_
          refine T_iload_n dX12_hangsOn_100 rfl ?_
          refine T_iload dX12_hangsOn_101 rfl ?_
          refine T_callV dX12_hangsOn_103 lX12_230 (As := [_, _]) (rest := _) rfl rfl k271 (by decide) (Nat.le_of_ble_eq_true rfl) (Nat.le_of_ble_eq_true rfl) (t_lengthOf hW ha (by omega)) ?_
          rintro _ _ ⟨rfl, rfl⟩
          refine T_add dX12_hangsOn_106 (by omega) ?_
          refine T_iload dX12_hangsOn_107 rfl ?_
          refine T_callV dX12_hangsOn_109 lX12_382 (As := [_, _]) (rest := _) rfl rfl k271 (by decide) (Nat.le_of_ble_eq_true rfl) (Nat.le_of_ble_eq_true rfl) (T_args1 (y := 5 * o + (f + lnW w a p)) (by omega) (t_hangsL (by omega))) ?_
          rintro _ _ ⟨rfl, rfl⟩
          refine T_if_eq (tgt := 119) dX12_hangsOn_112 (by decide) (fun c112 => ?_) (fun c112 => ?_)
          · refine T_iconst dX12_hangsOn_119 (by decide) ?_
            exact T_zreturn dX12_hangsOn_120 rfl (by omega) (Or.inr ⟨hP, by rw [eT, eV, c112], by rw [eT, eV]⟩)
          · refine T_iconst dX12_hangsOn_115 (by decide) ?_
            refine T_goto (tgt := 120) dX12_hangsOn_116 (by decide) ?_
            exact T_zreturn dX12_hangsOn_120 rfl (by omega) (Or.inr ⟨hP, by rw [eT, eV, bI_t (bI_1 c112)], by rw [eT, eV]⟩)
      · have h52 := bI_1 c52
        have eT : hoT w a o f p = 5 * p + (lnW w a o - f) := if_pos h52
        have eV : hoV w a o f p v = v + lnW w a p - (lnW w a o - f : Nat) := if_pos h52
        have eVv : v + w (18 + 36 * a + 6 * p) - (w (18 + 36 * a + 6 * o) - (f : Int)) = hoV w a o f p v := by rw [eV]; omega
        have hP : hoP w a o f p v := ⟨hvf, Or.inl h52⟩
        refine T_aload_n dX12_hangsOn_55 rfl ?_
        refine T_iconst dX12_hangsOn_56 (by decide) ?_
        refine T_iload dX12_hangsOn_57 rfl ?_
        refine T_mul dX12_hangsOn_59 (by omega) ?_
        refine T_iload dX12_hangsOn_60 rfl ?_
        refine T_add dX12_hangsOn_62 (by omega) ?_
        refine T_iload dX12_hangsOn_63 rfl ?_
        refine T_aload_n dX12_hangsOn_65 rfl ?_
        refine T_iload_n dX12_hangsOn_66 rfl ?_
        refine T_iload dX12_hangsOn_67 rfl ?_
        refine T_callV dX12_hangsOn_69 lX12_230 (As := [_, _]) (rest := _) rfl rfl k271 (by decide) (Nat.le_of_ble_eq_true rfl) (Nat.le_of_ble_eq_true rfl) (t_lengthOf hW ha (by omega)) ?_
        rintro _ _ ⟨rfl, rfl⟩
        refine T_add dX12_hangsOn_72 (by omega) ?_
        refine T_iload dX12_hangsOn_73 rfl ?_
        refine T_sub dX12_hangsOn_75 (by omega) ?_
        rw [eVv]
        refine T_callV dX12_hangsOn_76 lX12_382 (As := [_, _]) (rest := _) rfl rfl k271 (by decide) (Nat.le_of_ble_eq_true rfl) (Nat.le_of_ble_eq_true rfl) (T_args1 (y := 5 * p + (lnW w a o - f)) (by omega) (t_hangsL (by omega))) ?_
        rintro _ _ ⟨rfl, rfl⟩
        have b01 := bI_01 (hoV w a o f p v < d 296 (5 * p + (lnW w a o - f)))
        exact T_zreturn dX12_hangsOn_79 rfl (by omega) (Or.inr ⟨hP, by rw [eT], by rw [eT]⟩)
    · refine T_iconst dX12_hangsOn_30 (by decide) ?_
      exact T_zreturn dX12_hangsOn_31 rfl (by omega) (Or.inl ⟨fun z => z.1.2 (by omega), rfl, rfl⟩)
end M41
