/-! the reference: plays -/
section M6
variable {G : sG} {d : sD} {w : Nat → Int}
theorem pl1_loop {r : Int} {n : Nat} (hW : Wd d w) (hV : WV w) (hn : d 271 18 = (n : Int)) (hn24 : n ≤ 24) (hr : ∀ j, j < n → 0 ≤ d 277 j ∧ d 277 j ≤ 3) : ∀ k : Nat, k ≤ n → tB G mX12_plays 2 [vR 271, vI r, vI k, vU 0] [] (pl1 d w (trM d r) k) (fun r2 d' => r2 = none ∧ d' = plF d w (trM d r) n) := by
  refine T_loop (α := Nat) 2 (fun k => [vR 271, vI r, vI k, vU 0]) (fun k => pl1 d w (trM d r) k) (fun k => k ≤ n) (fun k => n - k) ?_
  intro k hI ih
  have e18 : pl1 d w (trM d r) k 271 18 = (n : Int) := hn
  have e277 : pl1 d w (trM d r) k 277 k = d 277 k := rfl
  have hWk : Wd (pl1 d w (trM d r) k) w := (hW.ups (by decide) (by decide)).ups (by decide) (by decide)
  have h1 := hV.2.1
  have h66 : ∀ b z : Int, k < n → 0 ≤ b ∧ b ≤ 3 → w (3 + b).toNat = sndA w (trM d r) k → tB G mX12_plays 66 [vR 271, vI r, vI k, vI z] [vI b, vI 3, vR 271, vI k, vR 279] (pl1 d w (trM d r) k) (fun r2 d' => r2 = none ∧ d' = plF d w (trM d r) n) := by
    intro b z hk hb he

    refine T_add dX12_plays_66 (by omega) ?_
    refine T_callV dX12_plays_67 lX12_212 (As := [_]) (rest := _) rfl rfl k271 (by decide) (Nat.le_of_ble_eq_true rfl) (Nat.le_of_ble_eq_true rfl) (t_of (y := (3 + b).toNat) hWk (by omega) (by omega)) ?_
    rintro _ _ ⟨rfl, rfl⟩
    refine T_iast dX12_plays_70 k279 l279 (by omega) (j := k) rfl ?_
    refine T_aload_n dX12_plays_71 rfl ?_
    refine T_getR dX12_plays_72 fX12_35 rfl k271 r271_17 ?_
    refine T_iload_n dX12_plays_75 rfl ?_
    refine T_iconst dX12_plays_76 (by decide) ?_
    refine T_zast dX12_plays_77 k280 l280 (by omega) (j := k) rfl (by omega) ?_
    refine T_inc dX12_plays_78 rfl (by decide) rfl (by omega) ?_
    refine T_goto (tgt := 2) dX12_plays_81 (by decide) ?_
    refine T_drop 3 ?_
    refine T_eq ?_ (ih (k + 1) (by omega) (by omega))
    exact ups2_push (by decide) he rfl
  have h44 : ∀ z : Int, k < n → (z = 1 ∧ (bitP r k ∨ tiP w k)) ∨ (z = 0 ∧ ¬ (bitP r k ∨ tiP w k)) → tB G mX12_plays 44 [vR 271, vI r, vI k, vU 0] [vI z] (pl1 d w (trM d r) k) (fun r2 d' => r2 = none ∧ d' = plF d w (trM d r) n) := by
    intro z hk hz
    have hrk := hr k hk

    refine T_ist_n dX12_plays_44 (by decide) rfl ?_
    refine T_aload_n dX12_plays_45 rfl ?_
    refine T_getR dX12_plays_46 fX12_32 rfl k271 r271_16 ?_
    refine T_iload_n dX12_plays_49 rfl ?_
    refine T_aload_n dX12_plays_50 rfl ?_
    refine T_iconst dX12_plays_51 (by decide) ?_
    refine T_iload_n dX12_plays_52 rfl ?_
    refine T_if_eq (tgt := 60) dX12_plays_53 (by decide) (fun c53 => ?_) (fun c53 => ?_)
    · refine T_aload_n dX12_plays_60 rfl ?_
      refine T_getR dX12_plays_61 fX12_26 rfl k271 r271_14 ?_
      refine T_iload_n dX12_plays_64 rfl ?_
      refine T_iald dX12_plays_65 k277 l277 (by omega) (j := k) rfl ?_
      exact h66 _ _ hk (by omega) (by
        rcases hz with ⟨h, -⟩ | ⟨-, h⟩
        · omega
        · unfold sndA trM
          rw [if_neg (fun q => h (Or.inr q)), if_neg (fun q => h (Or.inl q))]; rfl)
    · refine T_iconst dX12_plays_56 (by decide) ?_
      refine T_goto (tgt := 66) dX12_plays_57 (by decide) ?_
      exact h66 _ _ hk (by omega) (by
        rcases hz with ⟨-, h⟩ | ⟨h, -⟩
        · unfold sndA trM
          by_cases ht : tiP w k
          · rw [if_pos ht]
          · rw [if_neg ht, if_pos (h.resolve_right ht)]
        · omega)
  refine T_iload_n dX12_plays_2 rfl ?_
  refine T_aload_n dX12_plays_3 rfl ?_
  refine T_getI dX12_plays_4 fX12_243 rfl k271 ?_
  refine T_icmp_ge (tgt := 84) dX12_plays_7 (by decide) (fun c7 => ?_) (fun c7 => ?_)
  · refine T_aload_n dX12_plays_84 rfl ?_
    refine T_iconst dX12_plays_85 (by decide) ?_
    refine T_callV dX12_plays_86 lX12_212 (As := [_]) (rest := _) rfl rfl k271 (by decide) (Nat.le_of_ble_eq_true rfl) (Nat.le_of_ble_eq_true rfl) (t_of (y := 2) hWk rfl (by decide)) ?_
    rintro _ _ ⟨rfl, rfl⟩
    refine T_ist_n dX12_plays_89 (by decide) rfl ?_
    refine T_iconst dX12_plays_90 (by decide) ?_
    refine T_ist_n dX12_plays_91 (by decide) rfl ?_
    refine T_eq ?_ (pl2_loop (G := G) (d := d) (w := w) (r := r) (t := trM d r) hV hn hn24 0 (by omega))
    have hkn : k = n := by omega
    subst hkn
    unfold pl1 pl2
    rw [ups_congr (a := 280) (fun j _ hj => ?_)]
    try dsimp only
    split
    · rw [bI_f (fun q => by omega)]
    · rfl
  · refine T_iload_n dX12_plays_10 rfl ?_
    refine T_iload_n dX12_plays_11 rfl ?_
    refine T_ishr dX12_plays_12 ?_
    refine T_iconst dX12_plays_13 (by decide) ?_
    refine T_iand dX12_plays_14 ?_
    refine T_iconst dX12_plays_15 (by decide) ?_
    refine T_icmp_eq (tgt := 39) dX12_plays_16 (by decide) (fun c16 => ?_) (fun c16 => ?_)
    · refine T_iconst dX12_plays_39 (by decide) ?_
      refine T_goto (tgt := 44) dX12_plays_40 (by decide) ?_
      exact h44 1 (by omega) (Or.inl ⟨rfl, Or.inl c16⟩)
    · refine T_aload_n dX12_plays_19 rfl ?_
      refine T_iconst dX12_plays_20 (by decide) ?_
      refine T_callV dX12_plays_21 lX12_212 (As := [_]) (rest := _) rfl rfl k271 (by decide) (Nat.le_of_ble_eq_true rfl) (Nat.le_of_ble_eq_true rfl) (t_of (y := 1) hWk rfl (by decide)) ?_
      rintro _ _ ⟨rfl, rfl⟩
      refine T_if_eq (tgt := 43) dX12_plays_24 (by decide) (fun c24 => ?_) (fun c24 => ?_)
      · refine T_iconst dX12_plays_43 (by decide) ?_
        exact h44 0 (by omega) (Or.inr ⟨rfl, fun q => q.elim c16 (fun z => z.1 c24)⟩)
      · refine T_iload_n dX12_plays_27 rfl ?_
        refine T_iconst dX12_plays_28 (by decide) ?_
        refine T_add dX12_plays_29 (by omega) ?_
        refine T_aload_n dX12_plays_30 rfl ?_
        refine T_iconst dX12_plays_31 (by decide) ?_
        refine T_callV dX12_plays_32 lX12_212 (As := [_]) (rest := _) rfl rfl k271 (by decide) (Nat.le_of_ble_eq_true rfl) (Nat.le_of_ble_eq_true rfl) (t_of (y := 1) hWk rfl (by decide)) ?_
        rintro _ _ ⟨rfl, rfl⟩
        refine T_rem dX12_plays_35 (by omega) (by omega) ?_
        refine T_if_ne (tgt := 43) dX12_plays_36 (by decide) (fun c36 => ?_) (fun c36 => ?_)
        · refine T_iconst dX12_plays_43 (by decide) ?_
          exact h44 0 (by omega) (Or.inr ⟨rfl, fun q => q.elim c16 (fun z => c36 z.2)⟩)
        · refine T_iconst dX12_plays_39 (by decide) ?_
          refine T_goto (tgt := 44) dX12_plays_40 (by decide) ?_
          exact h44 1 (by omega) (Or.inl ⟨rfl, Or.inr ⟨c24, c36⟩⟩)

theorem t_plays {r : Int} {n : Nat} (hW : Wd d w) (hV : WV w) (hn : d 271 18 = (n : Int)) (hn24 : n ≤ 24) (hr : ∀ j, j < n → 0 ≤ d 277 j ∧ d 277 j ≤ 3) : tB G mX12_plays 0 [vR 271, vI r, vU 0, vU 0] [] d (fun r2 d' => r2 = none ∧ d' = plF d w (trM d r) n) := by
  refine T_iconst dX12_plays_0 (by decide) ?_
  refine T_ist_n dX12_plays_1 (by decide) rfl ?_
  refine T_eq ?_ (pl1_loop (G := G) hW hV hn hn24 hr 0 (by omega))
  unfold pl1
  rw [ups_nil, ups_nil]

end M6
