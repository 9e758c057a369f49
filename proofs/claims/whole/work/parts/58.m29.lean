/-! the reference: what both heard, the period -/
section M29
variable {G : sG} {d : sD} {w g s : Nat → Int} {n : Nat}
abbrev afP (w s : Nat → Int) (n i j k : Nat) : Prop := ((i + k : Nat) : Int) < hnS w n 0 ∧ ((j + k : Nat) : Int) < hnS w n 1 ∧ s (phS w 0 ((i + k : Nat) : Int)).toNat = s (phS w 1 ((j + k : Nat) : Int)).toNat
def afN (w s : Nat → Int) (n i j : Nat) : Nat → Nat → Int
  | 0, k => k
  | f + 1, k => if afP w s n i j k then afN w s n i j f (k + 1) else k
abbrev afS (w s : Nat → Int) (n i j : Nat) : Int := afN w s n i j 25 0
theorem afN_rg {i j : Nat} : ∀ f k : Nat, (k : Int) ≤ afN w s n i j f k ∧ afN w s n i j f k ≤ k + f
  | 0, k => by show (k : Int) ≤ k ∧ (k : Int) ≤ k + 0; omega
  | f + 1, k => by
    have ih := afN_rg (i := i) (j := j) f (k + 1)
    show (k : Int) ≤ (if afP w s n i j k then afN w s n i j f (k + 1) else (k : Int)) ∧ (if afP w s n i j k then afN w s n i j f (k + 1) else (k : Int)) ≤ _
    split <;> omega
theorem afN_y {i j f k : Nat} (h : afP w s n i j k) (hf : 0 < f) : afN w s n i j f k = afN w s n i j (f - 1) (k + 1) := by
  obtain ⟨m, rfl⟩ : ∃ m, f = m + 1 := ⟨f - 1, by omega⟩
  show (if _ then _ else _) = _
  rw [if_pos h]; rfl
theorem afN_n {i j f k : Nat} (h : ¬ afP w s n i j k) : afN w s n i j f k = k := by
  cases f with
  | zero => rfl
  | succ m => show (if _ then _ else _) = _; rw [if_neg h]
theorem t_alikeFrom {i j : Nat} (hW : Wd d w) (hV : WV w) (hn : d 271 18 = (n : Int)) (hn24 : n ≤ 24) (hs : ∀ j, j < n → d 279 j = s j) (hi : i ≤ 24) (hj : j ≤ 24) : tB G mX12_alikeFrom 0 [vR 271, vI i, vI j, vU 0] [] d (fun r d' => r = some (vI (afS w s n i j)) ∧ d = d') := by
  have r0 := hnS_rg (n := n) hV (a := 0) (by decide)
  have r1 := hnS_rg (n := n) hV (a := 1) (by decide)
  have h2 : ∀ k : Nat, (k ≤ 24 ∧ afN w s n i j (25 - k) k = afS w s n i j) → tB G mX12_alikeFrom 2 [vR 271, vI i, vI j, vI k] [] d (fun r d' => r = some (vI (afS w s n i j)) ∧ d = d') := by
    refine T_loop (α := Nat) 2 (fun k => [vR 271, vI i, vI j, vI k]) (fun _ => d) (fun k => k ≤ 24 ∧ afN w s n i j (25 - k) k = afS w s n i j) (fun k => 24 - k) ?_
    rintro k ⟨hk, hf⟩ ih
    try dsimp only at ih ⊢
    refine T_iload_n dX12_alikeFrom_2 rfl ?_
    refine T_iload_n dX12_alikeFrom_3 rfl ?_
    refine T_add dX12_alikeFrom_4 (by omega) ?_
    refine T_aload_n dX12_alikeFrom_5 rfl ?_
    refine T_iconst dX12_alikeFrom_6 (by decide) ?_
    refine T_callV dX12_alikeFrom_7 lX12_261 (As := [_]) (rest := _) rfl rfl k271 (by decide) (Nat.le_of_ble_eq_true rfl) (Nat.le_of_ble_eq_true rfl) (t_hears (a := 0) hW hV hn hn24 (by decide)) ?_
    rintro _ _ ⟨rfl, rfl⟩
    refine T_icmp_ge (tgt := 49) dX12_alikeFrom_10 (by decide) (fun c10 => ?_) (fun c10 => ?_)
    · refine T_iload_n dX12_alikeFrom_49 rfl ?_
      exact T_ireturn dX12_alikeFrom_50 rfl ⟨by rw [← hf, afN_n (fun z => by have := z.1; omega)], rfl⟩
    · refine T_iload_n dX12_alikeFrom_13 rfl ?_
      refine T_iload_n dX12_alikeFrom_14 rfl ?_
      refine T_add dX12_alikeFrom_15 (by omega) ?_
      refine T_aload_n dX12_alikeFrom_16 rfl ?_
      refine T_iconst dX12_alikeFrom_17 (by decide) ?_
      refine T_callV dX12_alikeFrom_18 lX12_261 (As := [_]) (rest := _) rfl rfl k271 (by decide) (Nat.le_of_ble_eq_true rfl) (Nat.le_of_ble_eq_true rfl) (t_hears (a := 1) hW hV hn hn24 (by decide)) ?_
      rintro _ _ ⟨rfl, rfl⟩
      refine T_icmp_ge (tgt := 49) dX12_alikeFrom_21 (by decide) (fun c21 => ?_) (fun c21 => ?_)
      · refine T_iload_n dX12_alikeFrom_49 rfl ?_
        exact T_ireturn dX12_alikeFrom_50 rfl ⟨by rw [← hf, afN_n (fun z => by have := z.2.1; omega)], rfl⟩
      · have p0 := ph_lt (n := n) hV (a := 0) (by decide) (j := ((i + k : Nat) : Int)) (by omega) (by omega)
        have p1 := ph_lt (n := n) hV (a := 1) (by decide) (j := ((j + k : Nat) : Int)) (by omega) (by omega)
        refine T_aload_n dX12_alikeFrom_24 rfl ?_
        refine T_iconst dX12_alikeFrom_25 (by decide) ?_
        refine T_iload_n dX12_alikeFrom_26 rfl ?_
        refine T_iload_n dX12_alikeFrom_27 rfl ?_
        refine T_add dX12_alikeFrom_28 (by omega) ?_
        refine T_callV dX12_alikeFrom_29 lX12_264 (As := [_, _]) (rest := _) rfl rfl k271 (by decide) (Nat.le_of_ble_eq_true rfl) (Nat.le_of_ble_eq_true rfl) (T_args2 (y := i + k) (by omega) (t_heardAt (a := 0) (n := n) hW hV (by decide) hn24 (by omega))) ?_
        rintro _ _ ⟨rfl, rfl⟩
        rw [hs _ (by omega)]
        refine T_aload_n dX12_alikeFrom_32 rfl ?_
        refine T_iconst dX12_alikeFrom_33 (by decide) ?_
        refine T_iload_n dX12_alikeFrom_34 rfl ?_
        refine T_iload_n dX12_alikeFrom_35 rfl ?_
        refine T_add dX12_alikeFrom_36 (by omega) ?_
        refine T_callV dX12_alikeFrom_37 lX12_264 (As := [_, _]) (rest := _) rfl rfl k271 (by decide) (Nat.le_of_ble_eq_true rfl) (Nat.le_of_ble_eq_true rfl) (T_args2 (y := j + k) (by omega) (t_heardAt (a := 1) (n := n) hW hV (by decide) hn24 (by omega))) ?_
        rintro _ _ ⟨rfl, rfl⟩
        rw [hs _ (by omega)]
        refine T_icmp_ne (tgt := 49) dX12_alikeFrom_40 (by decide) (fun c40 => ?_) (fun c40 => ?_)
        · refine T_iload_n dX12_alikeFrom_49 rfl ?_
          exact T_ireturn dX12_alikeFrom_50 rfl ⟨by rw [← hf, afN_n (fun z => c40 z.2.2)], rfl⟩
        · refine T_inc dX12_alikeFrom_43 rfl (by decide) rfl (by omega) ?_
          refine T_goto (tgt := 2) dX12_alikeFrom_46 (by decide) ?_
          have hy : afP w s n i j k := ⟨by omega, by omega, c40⟩
          exact ih (k + 1) ⟨by omega, by rw [← hf, afN_y hy (by omega)]; rfl⟩ (by omega)
  refine T_iconst dX12_alikeFrom_0 (by decide) ?_
  refine T_ist_n dX12_alikeFrom_1 (by decide) rfl ?_
  exact h2 0 ⟨Nat.zero_le _, rfl⟩

abbrev pdP (s : Nat → Int) (n p : Nat) : Prop := ∀ i, i < n - p → s i = s (i + p)
def pdS (s : Nat → Int) (n : Nat) : Int := if fstN (pdP s n) (n - 1) 1 = -1 then (n : Int) else fstN (pdP s n) (n - 1) 1
theorem t_period (hn : d 271 18 = (n : Int)) (hn24 : n ≤ 24) (hs : ∀ j, j < n → d 279 j = s j) : tB G mX12_period 0 [vR 271, vU 0, vU 0, vU 0] [] d (fun r d' => r = some (vI (pdS s n)) ∧ d = d') := by
  have h2 : ∀ q : Nat, (q ≤ n - 1 ∧ fstN (pdP s n) (n - 1 - q) (q + 1) = fstN (pdP s n) (n - 1) 1) → tB G mX12_period 2 [vR 271, vI (q + 1 : Nat), vU 0, vU 0] [] d (fun r d' => r = some (vI (pdS s n)) ∧ d = d') := by
    refine T_loop (α := Nat) 2 (fun q => [vR 271, vI (q + 1 : Nat), vU 0, vU 0]) (fun _ => d) (fun q => q ≤ n - 1 ∧ fstN (pdP s n) (n - 1 - q) (q + 1) = fstN (pdP s n) (n - 1) 1) (fun q => n - q) ?_
    rintro q ⟨hq, hf⟩ ih
    try dsimp only at ih ⊢
    have h14 : ∀ k : Nat, (q + 1 < n ∧ k ≤ n - (q + 1)) → tB G mX12_period 14 [vR 271, vI (q + 1 : Nat), vI (bI (∀ i, i < k → s i = s (i + (q + 1)))), vI k] [] d (fun r d' => r = some (vI (pdS s n)) ∧ d = d') := by
      refine T_loop (α := Nat) 14 (fun k => [vR 271, vI (q + 1 : Nat), vI (bI (∀ i, i < k → s i = s (i + (q + 1)))), vI k]) (fun _ => d) (fun k => q + 1 < n ∧ k ≤ n - (q + 1)) (fun k => n - k) ?_
      rintro k ⟨hqn, hk⟩ ih2
      try dsimp only at ih2 ⊢
      have h50 : ∀ z : Int, z = bI (∀ i, i < k + 1 → s i = s (i + (q + 1))) → k < n - (q + 1) → tB G mX12_period 50 [vR 271, vI (q + 1 : Nat), vI (bI (∀ i, i < k → s i = s (i + (q + 1)))), vI k] [vI z] d (fun r d' => r = some (vI (pdS s n)) ∧ d = d') := by
        rintro _ rfl hlt
        refine T_ist_n dX12_period_50 (by decide) rfl ?_
        refine T_inc dX12_period_51 rfl (by decide) rfl (by omega) ?_
        refine T_goto (tgt := 14) dX12_period_54 (by decide) ?_
        exact ih2 (k + 1) ⟨hqn, by omega⟩ (by omega)
      refine T_iload_n dX12_period_14 rfl ?_
      refine T_iload_n dX12_period_15 rfl ?_
      refine T_add dX12_period_16 (by omega) ?_
      refine T_aload_n dX12_period_17 rfl ?_
      refine T_getIv dX12_period_18 fX12_243 rfl k271 (x := (n : Int)) hn ?_
      refine T_icmp_ge (tgt := 57) dX12_period_21 (by decide) (fun c21 => ?_) (fun c21 => ?_)
      · refine T_iload_n dX12_period_57 rfl ?_
        refine T_if_eq (tgt := 63) dX12_period_58 (by decide) (fun c58 => ?_) (fun c58 => ?_)
        · refine T_inc dX12_period_63 rfl (by decide) rfl (by omega) ?_
          refine T_goto (tgt := 2) dX12_period_66 (by decide) ?_
          have h58 := bI_0 c58
          rw [show k = n - (q + 1) by omega] at h58
          refine T_drop 2 (T_drop 3 (ih (q + 1) ⟨by omega, ?_⟩ (by omega)))
          rw [← hf, fstN_f (f := pdP s n) (k := q + 1) h58 (by omega)]; rfl
        · have h58 := bI_1 c58
          rw [show k = n - (q + 1) by omega] at h58
          have hfs := hf.symm.trans (fstN_t (f := pdP s n) (k := q + 1) h58 (by omega))
          refine T_iload_n dX12_period_61 rfl ?_
          exact T_ireturn dX12_period_62 rfl ⟨by unfold pdS; rw [hfs, if_neg (by omega)], rfl⟩
      · refine T_iload_n dX12_period_24 rfl ?_
        refine T_if_eq (tgt := 49) dX12_period_25 (by decide) (fun c25 => ?_) (fun c25 => ?_)
        · refine T_iconst dX12_period_49 (by decide) ?_
          exact h50 0 (bI_f (fun z => bI_0 c25 (fun i hi => z i (by omega)))).symm (by omega)
        · refine T_aload_n dX12_period_28 rfl ?_
          refine T_getR dX12_period_29 fX12_32 rfl k271 r271_16 ?_
          refine T_iload_n dX12_period_32 rfl ?_
          refine T_ialdv dX12_period_33 k279 l279 (by omega) (j := k) rfl (x := s k) (hs k (by omega)) ?_
          refine T_aload_n dX12_period_34 rfl ?_
          refine T_getR dX12_period_35 fX12_32 rfl k271 r271_16 ?_
          refine T_iload_n dX12_period_38 rfl ?_
          refine T_iload_n dX12_period_39 rfl ?_
          refine T_add dX12_period_40 (by omega) ?_
          refine T_ialdv dX12_period_41 k279 l279 (by omega) (j := k + (q + 1)) (by omega) (x := s (k + (q + 1))) (hs _ (by omega)) ?_
          refine T_icmp_ne (tgt := 49) dX12_period_42 (by decide) (fun c42 => ?_) (fun c42 => ?_)
          · refine T_iconst dX12_period_49 (by decide) ?_
            exact h50 0 (bI_f (fun z => c42 (z k (by omega)))).symm (by omega)
          · refine T_iconst dX12_period_45 (by decide) ?_
            refine T_goto (tgt := 50) dX12_period_46 (by decide) ?_
            have hI : ∀ i, i < k + 1 → s i = s (i + (q + 1)) := fun i hi => by
              rcases (show i < k ∨ i = k by omega) with z | rfl
              · exact bI_1 c25 i z
              · exact c42
            exact h50 1 (bI_t hI).symm (by omega)
    refine T_iload_n dX12_period_2 rfl ?_
    refine T_aload_n dX12_period_3 rfl ?_
    refine T_getIv dX12_period_4 fX12_243 rfl k271 (x := (n : Int)) hn ?_
    refine T_icmp_ge (tgt := 69) dX12_period_7 (by decide) (fun c7 => ?_) (fun c7 => ?_)
    · refine T_aload_n dX12_period_69 rfl ?_
      refine T_getIv dX12_period_70 fX12_243 rfl k271 (x := (n : Int)) hn ?_
      exact T_ireturn dX12_period_73 rfl ⟨by unfold pdS; rw [if_pos (by rw [← hf, show n - 1 - q = 0 by omega]; rfl)], rfl⟩
    · refine T_iconst dX12_period_10 (by decide) ?_
      refine T_ist_n dX12_period_11 (by decide) rfl ?_
      refine T_iconst dX12_period_12 (by decide) ?_
      refine T_ist_n dX12_period_13 (by decide) rfl ?_
      exact T_leq (by rw [bI_t (fun i hi => absurd hi (Nat.not_lt_zero i))]; rfl) (h14 0 ⟨by omega, Nat.zero_le _⟩)
  refine T_iconst dX12_period_0 (by decide) ?_
  refine T_ist_n dX12_period_1 (by decide) rfl ?_
  exact h2 0 ⟨Nat.zero_le _, rfl⟩

def cmJ (w s : Nat → Int) (n i : Nat) (st : Int × Int) : Nat → Int × Int
  | 0 => st
  | j + 1 => if (cmJ w s n i st j).1 < afS w s n i j then (afS w s n i j, (i : Int)) else cmJ w s n i st j
/-- the longest stretch that both heard, and where it begins -/
def cmI (w s : Nat → Int) (n : Nat) : Nat → Int × Int
  | 0 => (0, 0)
  | i + 1 => cmJ w s n i (cmI w s n i) (hnS w n 1).toNat
def qCm (w s : Nat → Int) (n : Nat) (x : Int) : Int := if x = 2 then pdS s n else if x = 0 then (cmI w s n (hnS w n 0).toNat).1 else (cmI w s n (hnS w n 0).toNat).2
def qCommon (w g : Nat → Int) (x : Int) : Int := if ¬ (0 ≤ x ∧ x ≤ 2) then -1 else qCm w (snS w g) (rowS w g).length x
theorem t_X12_common {k l x : Int} (hM : MS d) : tB G mX12_common 0 [vR 271, vI k, vI l, vI x, vU 0, vU 0, vU 0, vU 0] [] d (qQ d (if Vp d k l then qCommon (wvD d k.toNat) (gvD d l.toNat) x else -1) pyC pyF) := by
  refine T_aload_n dX12_common_0 rfl ?_
  refine T_iload_n dX12_common_1 rfl ?_
  refine T_iload_n dX12_common_2 rfl ?_
  refine T_callV dX12_common_3 lX12_255 (As := [_, _]) (rest := _) rfl rfl k271 (by decide) (Nat.le_of_ble_eq_true rfl) (Nat.le_of_ble_eq_true rfl) (t_arePlayed hM) ?_
  rintro _ d1 (⟨hv, rfl, hA⟩ | ⟨hv, rfl, ⟨hW, hL, hS⟩, hA⟩)
  ·
    refine T_if_eq (tgt := 18) dX12_common_6 (by decide) (fun c6 => ?_) (fun c6 => absurd rfl c6)
    refine T_iconst dX12_common_18 (by decide) ?_
    exact T_ireturn dX12_common_19 rfl ⟨by rw [if_neg hv], hA.py⟩
  · rw [if_pos hv]
    have hV := hM.2.1 k.toNat (by omega)
    have hGV := hM.2.2.1 l.toNat (by omega)
    have hn24 := rowS_24 hV hGV
    have hn := hL.1
    have hs : ∀ j, j < (rowS (wvD d k.toNat) (gvD d l.toNat)).length → d1 279 j = snS (wvD d k.toNat) (gvD d l.toNat) j := fun j hj => by rw [(hS j hj).1]; show _ = if _ then _ else _; rw [if_pos hj]
    unfold qCommon
    clear hL hS hGV
    generalize snS (wvD d k.toNat) (gvD d l.toNat) = s at *
    generalize (rowS (wvD d k.toNat) (gvD d l.toNat)).length = n at *
    generalize wvD d k.toNat = w at *
    have r0 := hnS_rg (n := n) hV (a := 0) (by decide)
    have r1 := hnS_rg (n := n) hV (a := 1) (by decide)
    refine T_if_eq (tgt := 18) dX12_common_6 (by decide) (fun c6 => absurd c6 (by decide)) (fun c6 => ?_)
    refine T_iload_n dX12_common_9 rfl ?_
    refine T_iconst dX12_common_10 (by decide) ?_
    refine T_iconst dX12_common_11 (by decide) ?_
    refine T_callS dX12_common_12 lX12_145 (As := [_, _, _]) (rest := _) rfl rfl (by decide) (Nat.le_of_ble_eq_true rfl) (Nat.le_of_ble_eq_true rfl) t_X12_isIn ?_
    rintro _ _ ⟨rfl, rfl⟩
    refine T_if_ne (tgt := 20) dX12_common_15 (by decide) (fun c15 => ?_) (fun c15 => ?_)
    · have h15 := bI_1 c15
      rw [if_neg (fun z => z h15)]
      refine T_iload_n dX12_common_20 rfl ?_
      refine T_iconst dX12_common_21 (by decide) ?_
      refine T_icmp_ne (tgt := 30) dX12_common_22 (by decide) (fun c22 => ?_) (fun c22 => ?_)
      · refine T_iconst dX12_common_30 (by decide) ?_
        refine T_ist dX12_common_31 (by decide) rfl ?_
        refine T_iconst dX12_common_33 (by decide) ?_
        refine T_ist dX12_common_34 (by decide) rfl ?_
        refine T_iconst dX12_common_36 (by decide) ?_
        refine T_ist dX12_common_37 (by decide) rfl ?_
        have h39 : ∀ i : Nat, (i : Int) ≤ hnS w n 0 → tB G mX12_common 39 [vR 271, vI k, vI l, vI x, vI (cmI w s n i).1, vI (cmI w s n i).2, vI i, vU 0] [] d1 (qQ d (qCm w s n x) pyC pyF) := by
          refine T_loop (α := Nat) 39 (fun i => [vR 271, vI k, vI l, vI x, vI (cmI w s n i).1, vI (cmI w s n i).2, vI i, vU 0]) (fun _ => d1) (fun i => (i : Int) ≤ hnS w n 0) (fun i => 24 - i) ?_
          intro i hi ih
          try dsimp only at ih ⊢
          refine T_iload dX12_common_39 rfl ?_
          refine T_aload_n dX12_common_41 rfl ?_
          refine T_iconst dX12_common_42 (by decide) ?_
          refine T_callV dX12_common_43 lX12_261 (As := [_]) (rest := _) rfl rfl k271 (by decide) (Nat.le_of_ble_eq_true rfl) (Nat.le_of_ble_eq_true rfl) (t_hears (a := 0) hW hV hn hn24 (by decide)) ?_
          rintro _ _ ⟨rfl, rfl⟩
          refine T_icmp_ge (tgt := 104) dX12_common_46 (by decide) (fun c46 => ?_) (fun c46 => ?_)
          · refine T_iload_n dX12_common_104 rfl ?_
            refine T_if_ne (tgt := 113) dX12_common_105 (by decide) (fun c105 => ?_) (fun c105 => ?_)
            · refine T_iload dX12_common_113 rfl ?_
              exact T_ireturn dX12_common_115 rfl ⟨by unfold qCm; rw [if_neg c22, if_neg c105, show i = (hnS w n 0).toNat by omega], hA⟩
            · refine T_iload dX12_common_108 rfl ?_
              refine T_goto (tgt := 115) dX12_common_110 (by decide) ?_
              exact T_ireturn dX12_common_115 rfl ⟨by unfold qCm; rw [if_neg c22, if_pos c105, show i = (hnS w n 0).toNat by omega], hA⟩
          · refine T_iconst dX12_common_49 (by decide) ?_
            refine T_ist dX12_common_50 (by decide) rfl ?_
            have h52 : ∀ j : Nat, (j : Int) ≤ hnS w n 1 → tB G mX12_common 52 [vR 271, vI k, vI l, vI x, vI (cmJ w s n i (cmI w s n i) j).1, vI (cmJ w s n i (cmI w s n i) j).2, vI i, vI j] [] d1 (qQ d (qCm w s n x) pyC pyF) := by
              refine T_loop (α := Nat) 52 (fun j => [vR 271, vI k, vI l, vI x, vI (cmJ w s n i (cmI w s n i) j).1, vI (cmJ w s n i (cmI w s n i) j).2, vI i, vI j]) (fun _ => d1) (fun j => (j : Int) ≤ hnS w n 1) (fun j => 24 - j) ?_
              intro j hj ih2
              try dsimp only at ih2 ⊢
              refine T_iload dX12_common_52 rfl ?_
              refine T_aload_n dX12_common_54 rfl ?_
              refine T_iconst dX12_common_55 (by decide) ?_
              refine T_callV dX12_common_56 lX12_261 (As := [_]) (rest := _) rfl rfl k271 (by decide) (Nat.le_of_ble_eq_true rfl) (Nat.le_of_ble_eq_true rfl) (t_hears (a := 1) hW hV hn hn24 (by decide)) ?_
              rintro _ _ ⟨rfl, rfl⟩
              refine T_icmp_ge (tgt := 98) dX12_common_59 (by decide) (fun c59 => ?_) (fun c59 => ?_)
              · refine T_inc dX12_common_98 rfl (by decide) rfl (by omega) ?_
                refine T_goto (tgt := 39) dX12_common_101 (by decide) ?_
                refine T_drop 7 (T_leq ?_ (ih (i + 1) (by omega) (by omega)))
                rw [show cmI w s n (i + 1) = cmJ w s n i (cmI w s n i) j by rw [show j = (hnS w n 1).toNat by omega]; rfl]; rfl
              · refine T_aload_n dX12_common_62 rfl ?_
                refine T_iload dX12_common_63 rfl ?_
                refine T_iload dX12_common_65 rfl ?_
                refine T_callV dX12_common_67 lX12_371 (As := [_, _]) (rest := _) rfl rfl k271 (by decide) (Nat.le_of_ble_eq_true rfl) (Nat.le_of_ble_eq_true rfl) (t_alikeFrom hW hV hn hn24 hs (by omega) (by omega)) ?_
                rintro _ _ ⟨rfl, rfl⟩
                refine T_iload dX12_common_70 rfl ?_
                refine T_icmp_gt (tgt := 78) dX12_common_72 (by decide) (fun c72 => ?_) (fun c72 => ?_)
                · refine T_aload_n dX12_common_78 rfl ?_
                  refine T_iload dX12_common_79 rfl ?_
                  refine T_iload dX12_common_81 rfl ?_
                  refine T_callV dX12_common_83 lX12_371 (As := [_, _]) (rest := _) rfl rfl k271 (by decide) (Nat.le_of_ble_eq_true rfl) (Nat.le_of_ble_eq_true rfl) (t_alikeFrom hW hV hn hn24 hs (by omega) (by omega)) ?_
                  rintro _ _ ⟨rfl, rfl⟩
                  refine T_ist dX12_common_86 (by decide) rfl ?_
                  refine T_iload dX12_common_88 rfl ?_
                  refine T_ist dX12_common_90 (by decide) rfl ?_
                  refine T_inc dX12_common_92 rfl (by decide) rfl (by omega) ?_
                  refine T_goto (tgt := 52) dX12_common_95 (by decide) ?_
                  refine T_leq ?_ (ih2 (j + 1) (by omega) (by omega))
                  rw [show cmJ w s n i (cmI w s n i) (j + 1) = (afS w s n i j, (i : Int)) from if_pos (by omega)]; rfl
                · refine T_goto (tgt := 92) dX12_common_75 (by decide) ?_
                  refine T_inc dX12_common_92 rfl (by decide) rfl (by omega) ?_
                  refine T_goto (tgt := 52) dX12_common_95 (by decide) ?_
                  refine T_leq ?_ (ih2 (j + 1) (by omega) (by omega))
                  rw [show cmJ w s n i (cmI w s n i) (j + 1) = cmJ w s n i (cmI w s n i) j from if_neg (by omega)]; rfl
            exact h52 0 (by omega)
        exact h39 0 (by omega)
      · refine T_aload_n dX12_common_25 rfl ?_
        refine T_callV dX12_common_26 lX12_368 (As := []) (rest := _) rfl rfl k271 (by decide) (Nat.le_of_ble_eq_true rfl) (Nat.le_of_ble_eq_true rfl) (t_period hn hn24 hs) ?_
        rintro _ _ ⟨rfl, rfl⟩
        exact T_ireturn dX12_common_29 rfl ⟨by unfold qCm; rw [if_pos c22], hA⟩
    · refine T_iconst dX12_common_18 (by decide) ?_
      exact T_ireturn dX12_common_19 rfl ⟨by rw [if_pos (bI_0 c15)], hA⟩

end M29
