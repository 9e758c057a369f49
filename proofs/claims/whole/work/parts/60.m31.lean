/-! the reference: evenings of wind -/
section M31
variable {G : sG} {d : sD} {w g s : Nat → Int} {n a : Nat} {ml ml0 ml1 : List (Nat × Nat)} {dn dn0 dn1 : Nat}
/-- the next number of a seed; what is drawn of it -/
def rnX (x : Int) : Int := w32 (w32 (x * 1103515245) + 12345)
def rnB (x : Int) : Int := w32 ((i_ushr (rnX x) 16).tmod 8)
theorem t_below : tB G mX12_below 0 [vR 271, vI 8] [] d (fun r d' => r = some (vI (rnB (d 271 33))) ∧ d' = up d 271 33 (rnX (d 271 33))) := by
  refine T_aload_n dX12_below_0 rfl ?_
  refine T_aload_n dX12_below_1 rfl ?_
  refine T_getI dX12_below_2 fX12_358 rfl k271 ?_
  refine T_ldcw dX12_below_5 (by decide) kX12_361 ?_
  refine T_imul dX12_below_8 ?_
  refine T_sipush dX12_below_9 (by decide) ?_
  refine T_iadd dX12_below_12 ?_
  refine T_putI dX12_below_13 fX12_358 rfl k271 ?_
  refine T_aload_n dX12_below_16 rfl ?_
  refine T_getIv dX12_below_17 fX12_358 rfl k271 (x := rnX (d 271 33)) up_same ?_
  refine T_bipush dX12_below_20 (by decide) ?_
  refine T_iushr dX12_below_22 ?_
  refine T_iload_n dX12_below_23 rfl ?_
  refine T_irem dX12_below_24 (by decide) ?_
  exact T_ireturn dX12_below_25 rfl ⟨rfl, rfl⟩

abbrev maI (w : Nat → Int) (ml0 ml1 : List (Nat × Nat)) (i : Nat) : Prop := ml0.length = ml1.length ∧ ∀ j, j < i → w (17 + 6 * (ml0.getD j (0, 0)).1) = w (53 + 6 * (ml1.getD j (0, 0)).1)
/-- both armies made the same moves -/
abbrev maP (w : Nat → Int) (ml0 ml1 : List (Nat × Nat)) : Prop := maI w ml0 ml1 ml0.length
theorem t_madeAlike (h0 : Mk d w 0 ml0 dn0) (h1 : Mk d w 1 ml1 dn1) (hl0 : ml0.length ≤ 24) (hl1 : ml1.length ≤ 24) : tB G mX12_madeAlike 0 [vR 271, vU 0, vU 0] [] d (fun r d' => r = some (vI (bI (maP w ml0 ml1))) ∧ d = d') := by
  have h23 : ∀ i : Nat, i ≤ ml0.length → tB G mX12_madeAlike 23 [vR 271, vI (bI (maI w ml0 ml1 i)), vI i] [] d (fun r d' => r = some (vI (bI (maP w ml0 ml1))) ∧ d = d') := by
    refine T_loop (α := Nat) 23 (fun i => [vR 271, vI (bI (maI w ml0 ml1 i)), vI i]) (fun _ => d) (fun i => i ≤ ml0.length) (fun i => ml0.length - i) ?_
    intro i hi ih
    try dsimp only at ih ⊢
    have h01 := bI_01 (maI w ml0 ml1 i)
    have h60 : ∀ z : Int, z = bI (maI w ml0 ml1 (i + 1)) → i < ml0.length → tB G mX12_madeAlike 60 [vR 271, vI (bI (maI w ml0 ml1 i)), vI i] [vI z] d (fun r d' => r = some (vI (bI (maP w ml0 ml1))) ∧ d = d') := by
      rintro _ rfl hlt
      refine T_ist_n dX12_madeAlike_60 (by decide) rfl ?_
      refine T_inc dX12_madeAlike_61 rfl (by decide) rfl (by omega) ?_
      refine T_goto (tgt := 23) dX12_madeAlike_64 (by decide) ?_
      exact ih (i + 1) (by omega) (by omega)
    refine T_iload_n dX12_madeAlike_23 rfl ?_
    refine T_aload_n dX12_madeAlike_24 rfl ?_
    refine T_getR dX12_madeAlike_25 fX12_47 rfl k271 r271_22 ?_
    refine T_iconst dX12_madeAlike_28 (by decide) ?_
    refine T_ialdv dX12_madeAlike_29 k284 l284 (by omega) (j := 0) rfl (x := (ml0.length : Int)) h0.1 ?_
    refine T_icmp_ge (tgt := 67) dX12_madeAlike_30 (by decide) (fun c30 => ?_) (fun c30 => ?_)
    · refine T_iload_n dX12_madeAlike_67 rfl ?_
      exact T_zreturn dX12_madeAlike_68 rfl (by omega) ⟨by rw [show i = ml0.length by omega], rfl⟩
    · refine T_iload_n dX12_madeAlike_33 rfl ?_
      refine T_if_eq (tgt := 67) dX12_madeAlike_34 (by decide) (fun c34 => ?_) (fun c34 => ?_)
      · refine T_iload_n dX12_madeAlike_67 rfl ?_
        exact T_zreturn dX12_madeAlike_68 rfl (by omega) ⟨by rw [c34, bI_f (fun z => bI_0 c34 ⟨z.1, fun j hj => z.2 j (by omega)⟩)], rfl⟩
      · have h34 := bI_1 c34
        have hle := h34.1
        refine T_aload_n dX12_madeAlike_37 rfl ?_
        refine T_getR dX12_madeAlike_38 fX12_38 rfl k271 r271_19 ?_
        refine T_iload_n dX12_madeAlike_41 rfl ?_
        refine T_ialdv dX12_madeAlike_42 k281 l281 (by omega) (j := i) rfl (x := w (17 + 6 * (ml0.getD i (0, 0)).1)) (by have := (h0.2.2 i (by omega)).1; rw [show 24 * 0 + i = i by omega, show 17 + 36 * 0 + 6 * (ml0.getD i (0, 0)).1 = 17 + 6 * (ml0.getD i (0, 0)).1 by omega] at this; exact this) ?_
        refine T_aload_n dX12_madeAlike_43 rfl ?_
        refine T_getR dX12_madeAlike_44 fX12_38 rfl k271 r271_19 ?_
        refine T_bipush dX12_madeAlike_47 (by decide) ?_
        refine T_iload_n dX12_madeAlike_49 rfl ?_
        refine T_add dX12_madeAlike_50 (by omega) ?_
        refine T_ialdv dX12_madeAlike_51 k281 l281 (by omega) (j := 24 * 1 + i) (by omega) (x := w (53 + 6 * (ml1.getD i (0, 0)).1)) (h1.2.2 i (by omega)).1 ?_
        refine T_icmp_ne (tgt := 59) dX12_madeAlike_52 (by decide) (fun c52 => ?_) (fun c52 => ?_)
        · refine T_iconst dX12_madeAlike_59 (by decide) ?_
          exact h60 0 (bI_f (fun z => c52 (z.2 i (by omega)))).symm (by omega)
        · refine T_iconst dX12_madeAlike_55 (by decide) ?_
          refine T_goto (tgt := 60) dX12_madeAlike_56 (by decide) ?_
          have hI : maI w ml0 ml1 (i + 1) := ⟨hle, fun j hj => by
            rcases (show j < i ∨ j = i by omega) with z | rfl
            · exact h34.2 j z
            · exact c52⟩
          exact h60 1 (bI_t hI).symm (by omega)
  have h20 : ∀ z : Int, z = bI (maI w ml0 ml1 0) → tB G mX12_madeAlike 20 [vR 271, vU 0, vU 0] [vI z] d (fun r d' => r = some (vI (bI (maP w ml0 ml1))) ∧ d = d') := by
    rintro _ rfl
    refine T_ist_n dX12_madeAlike_20 (by decide) rfl ?_
    refine T_iconst dX12_madeAlike_21 (by decide) ?_
    refine T_ist_n dX12_madeAlike_22 (by decide) rfl ?_
    exact h23 0 (Nat.zero_le _)
  refine T_aload_n dX12_madeAlike_0 rfl ?_
  refine T_getR dX12_madeAlike_1 fX12_47 rfl k271 r271_22 ?_
  refine T_iconst dX12_madeAlike_4 (by decide) ?_
  refine T_ialdv dX12_madeAlike_5 k284 l284 (by omega) (j := 0) rfl (x := (ml0.length : Int)) h0.1 ?_
  refine T_aload_n dX12_madeAlike_6 rfl ?_
  refine T_getR dX12_madeAlike_7 fX12_47 rfl k271 r271_22 ?_
  refine T_iconst dX12_madeAlike_10 (by decide) ?_
  refine T_ialdv dX12_madeAlike_11 k284 l284 (by omega) (j := 1) rfl (x := (ml1.length : Int)) h1.1 ?_
  refine T_icmp_ne (tgt := 19) dX12_madeAlike_12 (by decide) (fun c12 => ?_) (fun c12 => ?_)
  · refine T_iconst dX12_madeAlike_19 (by decide) ?_
    exact h20 0 (bI_f (fun z => by have := z.1; omega)).symm
  · refine T_iconst dX12_madeAlike_15 (by decide) ?_
    refine T_goto (tgt := 20) dX12_madeAlike_16 (by decide) ?_
    exact h20 1 (bI_t ⟨by omega, fun j hj => absurd hj (Nat.not_lt_zero j)⟩).symm

end M31
