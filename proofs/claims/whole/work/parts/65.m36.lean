/-! the reference: orders laid over each other -/
section M36
variable {G : sG} {d : sD} {w g r : Nat → Int} {n a : Nat}
abbrev giI (w : Nat → Int) (a o f p h t : Nat) : Prop := (lnW w a o : Int) - f ≤ (lnW w a p : Int) - h ∧ ∀ u, u < t → btW w a o (f + u) = btW w a p (h + u)
/-- the rest of an order begins the rest of another -/
abbrev giP (w : Nat → Int) (a o f p h : Nat) : Prop := giI w a o f p h (lnW w a o - f)
theorem t_goesInto {o f p h : Nat} (hW : Wd d w) (hV : WV w) (ha : a < 2) (ho : (o : Int) < w (15 + a)) (hp : (p : Int) < w (15 + a)) (hf : f ≤ lnW w a o) (hh : h ≤ lnW w a p) : tB G mX12_goesInto 0 [vR 271, vI a, vI o, vI f, vI p, vI h, vU 0, vU 0] [] d (fun r d' => r = some (vI (bI (giP w a o f p h))) ∧ d = d') := by
  have l1 := hV.ln ha ho
  have l2 := hV.ln ha hp
  have h31 : ∀ t : Nat, t ≤ lnW w a o - f → tB G mX12_goesInto 31 [vR 271, vI a, vI o, vI f, vI p, vI h, vI (bI (giI w a o f p h t)), vI t] [] d (fun r d' => r = some (vI (bI (giP w a o f p h))) ∧ d = d') := by
    refine T_loop (α := Nat) 31 (fun t => [vR 271, vI a, vI o, vI f, vI p, vI h, vI (bI (giI w a o f p h t)), vI t]) (fun _ => d) (fun t => t ≤ lnW w a o - f) (fun t => lnW w a o - f - t) ?_
    intro t ht ih
    try dsimp only at ih ⊢
    have h01 := bI_01 (giI w a o f p h t)
    have h79 : ∀ z : Int, z = bI (giI w a o f p h (t + 1)) → t < lnW w a o - f → tB G mX12_goesInto 79 [vR 271, vI a, vI o, vI f, vI p, vI h, vI (bI (giI w a o f p h t)), vI t] [vI z] d (fun r d' => r = some (vI (bI (giP w a o f p h))) ∧ d = d') := by
      rintro _ rfl hlt
      refine T_ist dX12_goesInto_79 (by decide) rfl ?_
      refine T_inc dX12_goesInto_81 rfl (by decide) rfl (by omega) ?_
      refine T_goto (tgt := 31) dX12_goesInto_84 (by decide) ?_
      exact ih (t + 1) (by omega) (by omega)
    refine T_iload_n dX12_goesInto_31 rfl ?_
    refine T_iload dX12_goesInto_32 rfl ?_
    refine T_add dX12_goesInto_34 (by omega) ?_
    refine T_aload_n dX12_goesInto_35 rfl ?_
    refine T_iload_n dX12_goesInto_36 rfl ?_
    refine T_iload_n dX12_goesInto_37 rfl ?_
    refine T_callV dX12_goesInto_38 lX12_230 (As := [_, _]) (rest := _) rfl rfl k271 (by decide) (Nat.le_of_ble_eq_true rfl) (Nat.le_of_ble_eq_true rfl) (t_lengthOf hW ha (by omega)) ?_
    rintro _ _ ⟨rfl, rfl⟩
    refine T_icmp_ge (tgt := 87) dX12_goesInto_41 (by decide) (fun c41 => ?_) (fun c41 => ?_)
    · refine T_iload dX12_goesInto_87 rfl ?_
      exact T_zreturn dX12_goesInto_89 rfl (by omega) ⟨by rw [show t = lnW w a o - f by omega], rfl⟩
    · refine T_iload dX12_goesInto_44 rfl ?_
      refine T_if_eq (tgt := 87) dX12_goesInto_46 (by decide) (fun c46 => ?_) (fun c46 => ?_)
      · refine T_iload dX12_goesInto_87 rfl ?_
        exact T_zreturn dX12_goesInto_89 rfl (by omega) ⟨by rw [c46, bI_f (fun z => bI_0 c46 ⟨z.1, fun j hj => z.2 j (by omega)⟩)], rfl⟩
      · have h46 := bI_1 c46
        have hle := h46.1
        refine T_aload_n dX12_goesInto_49 rfl ?_
        refine T_iload_n dX12_goesInto_50 rfl ?_
        refine T_iload_n dX12_goesInto_51 rfl ?_
        refine T_iload_n dX12_goesInto_52 rfl ?_
        refine T_iload dX12_goesInto_53 rfl ?_
        refine T_add dX12_goesInto_55 (by omega) ?_
        refine T_callV dX12_goesInto_56 lX12_233 (As := [_, _, _]) (rest := _) rfl rfl k271 (by decide) (Nat.le_of_ble_eq_true rfl) (Nat.le_of_ble_eq_true rfl) (T_args3 (y := f + t) (by omega) (t_beatOf hW ha (by omega) (by omega))) ?_
        rintro _ _ ⟨rfl, rfl⟩
        refine T_aload_n dX12_goesInto_59 rfl ?_
        refine T_iload_n dX12_goesInto_60 rfl ?_
        refine T_iload dX12_goesInto_61 rfl ?_
        refine T_iload dX12_goesInto_63 rfl ?_
        refine T_iload dX12_goesInto_65 rfl ?_
        refine T_add dX12_goesInto_67 (by omega) ?_
        refine T_callV dX12_goesInto_68 lX12_233 (As := [_, _, _]) (rest := _) rfl rfl k271 (by decide) (Nat.le_of_ble_eq_true rfl) (Nat.le_of_ble_eq_true rfl) (T_args3 (y := h + t) (by omega) (t_beatOf hW ha (by omega) (by omega))) ?_
        rintro _ _ ⟨rfl, rfl⟩
        refine T_icmp_ne (tgt := 78) dX12_goesInto_71 (by decide) (fun c71 => ?_) (fun c71 => ?_)
        · refine T_iconst dX12_goesInto_78 (by decide) ?_
          exact h79 0 (bI_f (fun z => c71 (z.2 t (by omega)))).symm (by omega)
        · refine T_iconst dX12_goesInto_74 (by decide) ?_
          refine T_goto (tgt := 79) dX12_goesInto_75 (by decide) ?_
          have hI : giI w a o f p h (t + 1) := ⟨hle, fun j hj => by
            rcases (show j < t ∨ j = t by omega) with z | rfl
            · exact h46.2 j z
            · exact c71⟩
          exact h79 1 (bI_t hI).symm (by omega)
  have h26 : ∀ z : Int, z = bI (giI w a o f p h 0) → tB G mX12_goesInto 26 [vR 271, vI a, vI o, vI f, vI p, vI h, vU 0, vU 0] [vI z] d (fun r d' => r = some (vI (bI (giP w a o f p h))) ∧ d = d') := by
    rintro _ rfl
    refine T_ist dX12_goesInto_26 (by decide) rfl ?_
    refine T_iconst dX12_goesInto_28 (by decide) ?_
    refine T_ist dX12_goesInto_29 (by decide) rfl ?_
    exact h31 0 (Nat.zero_le _)
  refine T_aload_n dX12_goesInto_0 rfl ?_
  refine T_iload_n dX12_goesInto_1 rfl ?_
  refine T_iload_n dX12_goesInto_2 rfl ?_
  refine T_callV dX12_goesInto_3 lX12_230 (As := [_, _]) (rest := _) rfl rfl k271 (by decide) (Nat.le_of_ble_eq_true rfl) (Nat.le_of_ble_eq_true rfl) (t_lengthOf hW ha (by omega)) ?_
  rintro _ _ ⟨rfl, rfl⟩
  refine T_iload_n dX12_goesInto_6 rfl ?_
  refine T_sub dX12_goesInto_7 (by omega) ?_
  refine T_aload_n dX12_goesInto_8 rfl ?_
  refine T_iload_n dX12_goesInto_9 rfl ?_
  refine T_iload dX12_goesInto_10 rfl ?_
  refine T_callV dX12_goesInto_12 lX12_230 (As := [_, _]) (rest := _) rfl rfl k271 (by decide) (Nat.le_of_ble_eq_true rfl) (Nat.le_of_ble_eq_true rfl) (t_lengthOf hW ha (by omega)) ?_
  rintro _ _ ⟨rfl, rfl⟩
  refine T_iload dX12_goesInto_15 rfl ?_
  refine T_sub dX12_goesInto_17 (by omega) ?_
  refine T_icmp_gt (tgt := 25) dX12_goesInto_18 (by decide) (fun c18 => ?_) (fun c18 => ?_)
  · refine T_iconst dX12_goesInto_25 (by decide) ?_
    exact h26 0 (bI_f (fun z => by have := z.1; omega)).symm
  · refine T_iconst dX12_goesInto_21 (by decide) ?_
    refine T_goto (tgt := 26) dX12_goesInto_22 (by decide) ?_
    exact h26 1 (bI_t ⟨by omega, fun j hj => absurd hj (Nat.not_lt_zero j)⟩).symm

theorem t_hangsLess {i : Nat} {v : Int} (hi : i < 30) : tB G mX12_hangsLess 0 [vR 271, vI i, vI v] [] d (fun r d' => (v < d 296 i ∧ r = some (vI 1) ∧ d' = up d 296 i v) ∨ (¬ v < d 296 i ∧ r = some (vI 0) ∧ d' = d)) := by
  refine T_iload_n dX12_hangsLess_0 rfl ?_
  refine T_aload_n dX12_hangsLess_1 rfl ?_
  refine T_getR dX12_hangsLess_2 fX12_84 rfl k271 r271_37 ?_
  refine T_iload_n dX12_hangsLess_5 rfl ?_
  refine T_iald dX12_hangsLess_6 k296 l296 (by omega) (j := i) rfl ?_
  refine T_icmp_lt (tgt := 12) dX12_hangsLess_7 (by decide) (fun c7 => ?_) (fun c7 => ?_)
  · refine T_aload_n dX12_hangsLess_12 rfl ?_
    refine T_getR dX12_hangsLess_13 fX12_84 rfl k271 r271_37 ?_
    refine T_iload_n dX12_hangsLess_16 rfl ?_
    refine T_iload_n dX12_hangsLess_17 rfl ?_
    refine T_iast dX12_hangsLess_18 k296 l296 (by omega) (j := i) rfl ?_
    refine T_iconst dX12_hangsLess_19 (by decide) ?_
    exact T_zreturn dX12_hangsLess_20 rfl (by omega) (Or.inl ⟨by omega, rfl, rfl⟩)
  · refine T_iconst dX12_hangsLess_10 (by decide) ?_
    exact T_zreturn dX12_hangsLess_11 rfl (by omega) (Or.inr ⟨by omega, rfl, rfl⟩)

end M36
