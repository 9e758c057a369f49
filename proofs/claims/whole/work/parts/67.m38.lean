/-! the reference: faults, what stands at hand -/
section M38
variable {G : sG} {d : sD}
def enD (d : sD) : sD := if d 271 8 = 0 then up (up (up d 271 8 1) 272 5 1) 272 6 (d 271 4) else d
theorem t_ends : tB G mX12_ends 0 [vR 271] [] d (fun r d' => r = none ∧ d' = enD d) := by
  refine T_aload_n dX12_ends_0 rfl ?_
  refine T_getI dX12_ends_1 fX12_138 rfl k271 ?_
  refine T_if_eq (tgt := 8) dX12_ends_4 (by decide) (fun c4 => ?_) (fun c4 => ?_)
  · refine T_aload_n dX12_ends_8 rfl ?_
    refine T_iconst dX12_ends_9 (by decide) ?_
    refine T_putZ dX12_ends_10 fX12_138 rfl (by omega) k271 ?_
    refine T_aload_n dX12_ends_13 rfl ?_
    refine T_getR dX12_ends_14 fX12_7 rfl k271 r271_0 ?_
    refine T_iconst dX12_ends_17 (by decide) ?_
    refine T_iconst dX12_ends_18 (by decide) ?_
    refine T_iast dX12_ends_19 k272 l272 (by omega) (j := 5) rfl ?_
    refine T_aload_n dX12_ends_20 rfl ?_
    refine T_getR dX12_ends_21 fX12_7 rfl k271 r271_0 ?_
    refine T_bipush dX12_ends_24 (by decide) ?_
    refine T_aload_n dX12_ends_26 rfl ?_
    refine T_getIv dX12_ends_27 fX12_112 rfl k271 (x := d 271 4) (by rw [up_nea (by decide), up_nej (by decide)]) ?_
    refine T_iast dX12_ends_30 k272 l272 (by omega) (j := 6) rfl ?_
    exact T_return dX12_ends_31 rfl ⟨rfl, by unfold enD; rw [if_pos c4]⟩
  · exact T_return dX12_ends_7 rfl ⟨rfl, by unfold enD; rw [if_neg c4]⟩

def alD (d : sD) (k p : Int) : sD := if ¬ d 271 8 = 0 then d else if d 272 5 = 0 ∨ p < d 272 6 ∨ (d 272 6 = p ∧ k < d 272 5) then up (up d 272 5 k) 272 6 p else d
theorem t_also {k p : Int} : tB G mX12_also 0 [vR 271, vI k, vI p] [] d (fun r d' => r = none ∧ d' = alD d k p) := by
  refine T_aload_n dX12_also_0 rfl ?_
  refine T_getI dX12_also_1 fX12_138 rfl k271 ?_
  refine T_if_ne (tgt := 48) dX12_also_4 (by decide) (fun c4 => ?_) (fun c4 => ?_)
  · exact T_return dX12_also_48 rfl ⟨rfl, by unfold alD; rw [if_pos c4]⟩
  · refine T_aload_n dX12_also_7 rfl ?_
    refine T_getR dX12_also_8 fX12_7 rfl k271 r271_0 ?_
    refine T_iconst dX12_also_11 (by decide) ?_
    refine T_iald dX12_also_12 k272 l272 (by omega) (j := 5) rfl ?_
    refine T_if_eq (tgt := 49) dX12_also_13 (by decide) (fun c13 => ?_) (fun c13 => ?_)
    · refine T_aload_n dX12_also_49 rfl ?_
      refine T_getR dX12_also_50 fX12_7 rfl k271 r271_0 ?_
      refine T_iconst dX12_also_53 (by decide) ?_
      refine T_iload_n dX12_also_54 rfl ?_
      refine T_iast dX12_also_55 k272 l272 (by omega) (j := 5) rfl ?_
      refine T_aload_n dX12_also_56 rfl ?_
      refine T_getR dX12_also_57 fX12_7 rfl k271 r271_0 ?_
      refine T_bipush dX12_also_60 (by decide) ?_
      refine T_iload_n dX12_also_62 rfl ?_
      refine T_iast dX12_also_63 k272 l272 (by omega) (j := 6) rfl ?_
      exact T_return dX12_also_64 rfl ⟨rfl, by unfold alD; rw [if_neg (fun z => z c4), if_pos (by omega)]⟩
    · refine T_aload_n dX12_also_16 rfl ?_
      refine T_getR dX12_also_17 fX12_7 rfl k271 r271_0 ?_
      refine T_bipush dX12_also_20 (by decide) ?_
      refine T_iald dX12_also_22 k272 l272 (by omega) (j := 6) rfl ?_
      refine T_iload_n dX12_also_23 rfl ?_
      refine T_icmp_lt (tgt := 48) dX12_also_24 (by decide) (fun c24 => ?_) (fun c24 => ?_)
      · exact T_return dX12_also_48 rfl ⟨rfl, by unfold alD; rw [if_neg (fun z => z c4), if_neg (by omega)]⟩
      · refine T_aload_n dX12_also_27 rfl ?_
        refine T_getR dX12_also_28 fX12_7 rfl k271 r271_0 ?_
        refine T_bipush dX12_also_31 (by decide) ?_
        refine T_iald dX12_also_33 k272 l272 (by omega) (j := 6) rfl ?_
        refine T_iload_n dX12_also_34 rfl ?_
        refine T_icmp_ne (tgt := 49) dX12_also_35 (by decide) (fun c35 => ?_) (fun c35 => ?_)
        · refine T_aload_n dX12_also_49 rfl ?_
          refine T_getR dX12_also_50 fX12_7 rfl k271 r271_0 ?_
          refine T_iconst dX12_also_53 (by decide) ?_
          refine T_iload_n dX12_also_54 rfl ?_
          refine T_iast dX12_also_55 k272 l272 (by omega) (j := 5) rfl ?_
          refine T_aload_n dX12_also_56 rfl ?_
          refine T_getR dX12_also_57 fX12_7 rfl k271 r271_0 ?_
          refine T_bipush dX12_also_60 (by decide) ?_
          refine T_iload_n dX12_also_62 rfl ?_
          refine T_iast dX12_also_63 k272 l272 (by omega) (j := 6) rfl ?_
          exact T_return dX12_also_64 rfl ⟨rfl, by unfold alD; rw [if_neg (fun z => z c4), if_pos (by omega)]⟩
        · refine T_aload_n dX12_also_38 rfl ?_
          refine T_getR dX12_also_39 fX12_7 rfl k271 r271_0 ?_
          refine T_iconst dX12_also_42 (by decide) ?_
          refine T_iald dX12_also_43 k272 l272 (by omega) (j := 5) rfl ?_
          refine T_iload_n dX12_also_44 rfl ?_
          refine T_icmp_gt (tgt := 49) dX12_also_45 (by decide) (fun c45 => ?_) (fun c45 => ?_)
          · refine T_aload_n dX12_also_49 rfl ?_
            refine T_getR dX12_also_50 fX12_7 rfl k271 r271_0 ?_
            refine T_iconst dX12_also_53 (by decide) ?_
            refine T_iload_n dX12_also_54 rfl ?_
            refine T_iast dX12_also_55 k272 l272 (by omega) (j := 5) rfl ?_
            refine T_aload_n dX12_also_56 rfl ?_
            refine T_getR dX12_also_57 fX12_7 rfl k271 r271_0 ?_
            refine T_bipush dX12_also_60 (by decide) ?_
            refine T_iload_n dX12_also_62 rfl ?_
            refine T_iast dX12_also_63 k272 l272 (by omega) (j := 6) rfl ?_
            exact T_return dX12_also_64 rfl ⟨rfl, by unfold alD; rw [if_neg (fun z => z c4), if_pos (by omega)]⟩
          · exact T_return dX12_also_48 rfl ⟨rfl, by unfold alD; rw [if_neg (fun z => z c4), if_neg (by omega)]⟩

theorem t_isBeat : tB G mX12_isBeat 0 [vR 271] [] d (fun r d' => r = some (vI (bI (d 271 8 = 0 ∧ d 271 5 = 3 ∧ 10 ≤ d 271 7 ∧ d 271 7 ≤ 13))) ∧ d = d') := by
  refine T_aload_n dX12_isBeat_0 rfl ?_
  refine T_getI dX12_isBeat_1 fX12_138 rfl k271 ?_
  refine T_if_ne (tgt := 33) dX12_isBeat_4 (by decide) (fun c4 => ?_) (fun c4 => ?_)
  · refine T_iconst dX12_isBeat_33 (by decide) ?_
    exact T_zreturn dX12_isBeat_34 rfl (by omega) ⟨by rw [bI_f (fun z => c4 z.1)], rfl⟩
  · refine T_aload_n dX12_isBeat_7 rfl ?_
    refine T_getI dX12_isBeat_8 fX12_115 rfl k271 ?_
    refine T_iconst dX12_isBeat_11 (by decide) ?_
    refine T_icmp_ne (tgt := 33) dX12_isBeat_12 (by decide) (fun c12 => ?_) (fun c12 => ?_)
    · refine T_iconst dX12_isBeat_33 (by decide) ?_
      exact T_zreturn dX12_isBeat_34 rfl (by omega) ⟨by rw [bI_f (fun z => c12 z.2.1)], rfl⟩
    · refine T_aload_n dX12_isBeat_15 rfl ?_
      refine T_getI dX12_isBeat_16 fX12_129 rfl k271 ?_
      refine T_bipush dX12_isBeat_19 (by decide) ?_
      refine T_bipush dX12_isBeat_21 (by decide) ?_
      refine T_callS dX12_isBeat_23 lX12_145 (As := [_, _, _]) (rest := _) rfl rfl (by decide) (Nat.le_of_ble_eq_true rfl) (Nat.le_of_ble_eq_true rfl) t_X12_isIn ?_
      rintro _ _ ⟨rfl, rfl⟩
      refine T_if_eq (tgt := 33) dX12_isBeat_26 (by decide) (fun c26 => ?_) (fun c26 => ?_)
      · refine T_iconst dX12_isBeat_33 (by decide) ?_
        exact T_zreturn dX12_isBeat_34 rfl (by omega) ⟨by rw [bI_f (fun z => bI_0 c26 z.2.2)], rfl⟩
      · refine T_iconst dX12_isBeat_29 (by decide) ?_
        refine T_goto (tgt := 34) dX12_isBeat_30 (by decide) ?_
        exact T_zreturn dX12_isBeat_34 rfl (by omega) ⟨by rw [bI_t ⟨c4, c12, bI_1 c26⟩], rfl⟩

theorem t_isMove : tB G mX12_isMove 0 [vR 271] [] d (fun r d' => r = some (vI (bI (d 271 8 = 0 ∧ d 271 5 = 3 ∧ 14 ≤ d 271 7 ∧ d 271 7 ≤ 18))) ∧ d = d') := by
  refine T_aload_n dX12_isMove_0 rfl ?_
  refine T_getI dX12_isMove_1 fX12_138 rfl k271 ?_
  refine T_if_ne (tgt := 33) dX12_isMove_4 (by decide) (fun c4 => ?_) (fun c4 => ?_)
  · refine T_iconst dX12_isMove_33 (by decide) ?_
    exact T_zreturn dX12_isMove_34 rfl (by omega) ⟨by rw [bI_f (fun z => c4 z.1)], rfl⟩
  · refine T_aload_n dX12_isMove_7 rfl ?_
    refine T_getI dX12_isMove_8 fX12_115 rfl k271 ?_
    refine T_iconst dX12_isMove_11 (by decide) ?_
    refine T_icmp_ne (tgt := 33) dX12_isMove_12 (by decide) (fun c12 => ?_) (fun c12 => ?_)
    · refine T_iconst dX12_isMove_33 (by decide) ?_
      exact T_zreturn dX12_isMove_34 rfl (by omega) ⟨by rw [bI_f (fun z => c12 z.2.1)], rfl⟩
    · refine T_aload_n dX12_isMove_15 rfl ?_
      refine T_getI dX12_isMove_16 fX12_129 rfl k271 ?_
      refine T_bipush dX12_isMove_19 (by decide) ?_
      refine T_bipush dX12_isMove_21 (by decide) ?_
      refine T_callS dX12_isMove_23 lX12_145 (As := [_, _, _]) (rest := _) rfl rfl (by decide) (Nat.le_of_ble_eq_true rfl) (Nat.le_of_ble_eq_true rfl) t_X12_isIn ?_
      rintro _ _ ⟨rfl, rfl⟩
      refine T_if_eq (tgt := 33) dX12_isMove_26 (by decide) (fun c26 => ?_) (fun c26 => ?_)
      · refine T_iconst dX12_isMove_33 (by decide) ?_
        exact T_zreturn dX12_isMove_34 rfl (by omega) ⟨by rw [bI_f (fun z => bI_0 c26 z.2.2)], rfl⟩
      · refine T_iconst dX12_isMove_29 (by decide) ?_
        refine T_goto (tgt := 34) dX12_isMove_30 (by decide) ?_
        exact T_zreturn dX12_isMove_34 rfl (by omega) ⟨by rw [bI_t ⟨c4, c12, bI_1 c26⟩], rfl⟩

end M38
