/-! the reference: shared -/
section M24
variable {G : sG} {d : sD} {w g x y : Nat → Int}
/-- two orders, one of each army, of the same beats -/
abbrev shP (w : Nat → Int) (i : Nat) : Prop := (((i / 6 : Nat) : Int) < w 15 ∧ ((i % 6 : Nat) : Int) < w 16) ∧ lnW w 0 (i / 6) = lnW w 1 (i % 6) ∧ bwP w 0 (i / 6) 1 (i % 6)
def shS (w : Nat → Int) : Nat → Nat → Int → Int
  | 0, _, _ => -1
  | f + 1, i, x => if shP w i then (if x = 0 then (i : Int) else shS w f (i + 1) (x - 1)) else shS w f (i + 1) x
def qShared (w : Nat → Int) (x : Int) : Int := if x < -1 then -1 else if x = -1 then cnN (shP w) 36 else shS w 36 0 x
theorem shS_y {f i : Nat} {x : Int} (h : shP w i) : shS w (f + 1) i x = if x = 0 then (i : Int) else shS w f (i + 1) (x - 1) := by show (if _ then _ else _) = _; rw [if_pos h]
theorem shS_n {f i : Nat} {x : Int} (h : ¬ shP w i) : shS w (f + 1) i x = shS w f (i + 1) x := by show (if _ then _ else _) = _; rw [if_neg h]
theorem t_X12_shared {k x : Int} (hM : MS d) : tB G mX12_shared 0 [vR 271, vI k, vI x, vU 0, vU 0, vU 0, vU 0] [] d (qQ d (if Vd d 0 k then qShared (wvD d k.toNat) x else -1) [] [10]) := by
  have c0 := hM.1 0 (by decide)
  refine T_aload_n dX12_shared_0 rfl ?_
  refine T_iload_n dX12_shared_1 rfl ?_
  refine T_callV dX12_shared_2 lX12_224 (As := [_]) (rest := _) rfl rfl k271 (by decide) (Nat.le_of_ble_eq_true rfl) (Nat.le_of_ble_eq_true rfl) (t_X12_isWar c0) ?_
  rintro _ _ (⟨hv, rfl, rfl⟩ | ⟨hv, rfl, rfl⟩)
  ·
    refine T_if_eq (tgt := 13) dX12_shared_5 (by decide) (fun c5 => ?_) (fun c5 => absurd rfl c5)
    refine T_iconst dX12_shared_13 (by decide) ?_
    exact T_ireturn dX12_shared_14 rfl ⟨by rw [if_neg hv], Ag.rf⟩
  · have hW := isWd (d := d) (k := k.toNat) (by omega)
    rw [show (k.toNat : Int) = k by omega] at hW
    rw [if_pos hv]
    have hV := hM.2.1 k.toNat (by omega)
    have hAg : Ag [] [10] d (up d 271 10 (610 + 89 * k)) := Ag_upf Ag.rf (by decide)
    generalize up d 271 10 (610 + 89 * k) = d0 at *
    generalize wvD d k.toNat = w at *
    have hw0 : 0 ≤ w 15 ∧ w 15 ≤ 6 := (hV.a (a := 0) (by decide)).2.2.2.2
    have hw1 : 0 ≤ w 16 ∧ w 16 ≤ 6 := (hV.a (a := 1) (by decide)).2.2.2.2
    refine T_if_eq (tgt := 13) dX12_shared_5 (by decide) (fun c5 => absurd c5 (by decide)) (fun c5 => ?_)
    refine T_iload_n dX12_shared_8 rfl ?_
    refine T_iconst dX12_shared_9 (by decide) ?_
    refine T_icmp_ge (tgt := 15) dX12_shared_10 (by decide) (fun c10 => ?_) (fun c10 => ?_)
    · refine T_iconst dX12_shared_15 (by decide) ?_
      refine T_ist_n dX12_shared_16 (by decide) rfl ?_
      refine T_iconst dX12_shared_17 (by decide) ?_
      refine T_ist dX12_shared_18 (by decide) rfl ?_
      have h20 : ∀ i : Nat, (i ≤ 36 ∧ (x = -1 ∨ shS w (36 - i) i (x - cnN (shP w) i) = shS w 36 0 x)) → tB G mX12_shared 20 [vR 271, vI k, vI x, vI (cnN (shP w) i), vI i, vU 0, vU 0] [] d0 (qQ d (qShared w x) [] [10]) := by
        refine T_loop (α := Nat) 20 (fun i => [vR 271, vI k, vI x, vI (cnN (shP w) i), vI i, vU 0, vU 0]) (fun _ => d0) (fun i => i ≤ 36 ∧ (x = -1 ∨ shS w (36 - i) i (x - cnN (shP w) i) = shS w 36 0 x)) (fun i => 36 - i) ?_
        rintro i ⟨hi, hs⟩ ih
        try dsimp only at ih ⊢
        have hrg := cnN_rg (shP w) i
        refine T_iload dX12_shared_20 rfl ?_
        refine T_bipush dX12_shared_22 (by decide) ?_
        refine T_icmp_ge (tgt := 111) dX12_shared_24 (by decide) (fun c24 => ?_) (fun c24 => ?_)
        · refine T_iload_n dX12_shared_111 rfl ?_
          refine T_iconst dX12_shared_112 (by decide) ?_
          refine T_icmp_ne (tgt := 120) dX12_shared_113 (by decide) (fun c113 => ?_) (fun c113 => ?_)
          · refine T_iconst dX12_shared_120 (by decide) ?_
            exact T_ireturn dX12_shared_121 rfl ⟨by unfold qShared; rw [if_neg (by omega), if_neg c113, ← hs.resolve_left c113, show 36 - i = 0 by omega]; rfl, hAg⟩
          · refine T_iload_n dX12_shared_116 rfl ?_
            refine T_goto (tgt := 121) dX12_shared_117 (by decide) ?_
            exact T_ireturn dX12_shared_121 rfl ⟨by unfold qShared; rw [if_neg (by omega), if_pos c113, show i = 36 by omega], hAg⟩
        · refine T_iload dX12_shared_27 rfl ?_
          refine T_bipush dX12_shared_29 (by decide) ?_
          refine T_div dX12_shared_31 (by omega) (by omega) ?_
          refine T_ist dX12_shared_32 (by decide) rfl ?_
          refine T_iload dX12_shared_34 rfl ?_
          refine T_bipush dX12_shared_36 (by decide) ?_
          refine T_rem dX12_shared_38 (by omega) (by omega) ?_
          rw [show (i : Int) / 6 = ((i / 6 : Nat) : Int) by omega, show (i : Int) % 6 = ((i % 6 : Nat) : Int) by omega]
          refine T_ist dX12_shared_39 (by decide) rfl ?_
          refine T_iload dX12_shared_41 rfl ?_
          refine T_aload_n dX12_shared_43 rfl ?_
          refine T_iconst dX12_shared_44 (by decide) ?_
          refine T_callV dX12_shared_45 lX12_221 (As := [_]) (rest := _) rfl rfl k271 (by decide) (Nat.le_of_ble_eq_true rfl) (Nat.le_of_ble_eq_true rfl) (t_orders (a := 0) hW (by decide)) ?_
          rintro _ _ ⟨rfl, rfl⟩
          refine T_icmp_ge (tgt := 105) dX12_shared_48 (by decide) (fun c48 => ?_) (fun c48 => ?_)
          · refine T_inc dX12_shared_105 rfl (by decide) rfl (by omega) ?_
            refine T_goto (tgt := 20) dX12_shared_108 (by decide) ?_
            have hk : ¬ shP w i := fun z => by have := z.1.1; have q : w 15 ≤ ((i / 6 : Nat) : Int) := c48; omega
            refine T_drop 5 (T_drop 6 (T_leq ?_ (ih (i + 1) ⟨by omega, ?_⟩ (by omega))))
            · rw [cnN_f (f := shP w) hk]; rfl
            · rcases hs with hs | hs
              · exact Or.inl hs
              · right; rw [← hs, cnN_f (f := shP w) hk, show 36 - i = (36 - (i + 1)) + 1 by omega, shS_n hk]
          · have q48 : ¬ w 15 ≤ ((i / 6 : Nat) : Int) := c48
            refine T_iload dX12_shared_51 rfl ?_
            refine T_aload_n dX12_shared_53 rfl ?_
            refine T_iconst dX12_shared_54 (by decide) ?_
            refine T_callV dX12_shared_55 lX12_221 (As := [_]) (rest := _) rfl rfl k271 (by decide) (Nat.le_of_ble_eq_true rfl) (Nat.le_of_ble_eq_true rfl) (t_orders (a := 1) hW (by decide)) ?_
            rintro _ _ ⟨rfl, rfl⟩
            refine T_icmp_ge (tgt := 105) dX12_shared_58 (by decide) (fun c58 => ?_) (fun c58 => ?_)
            · refine T_inc dX12_shared_105 rfl (by decide) rfl (by omega) ?_
              refine T_goto (tgt := 20) dX12_shared_108 (by decide) ?_
              have hk : ¬ shP w i := fun z => by have := z.1.2; have q : w 16 ≤ ((i % 6 : Nat) : Int) := c58; omega
              refine T_drop 5 (T_drop 6 (T_leq ?_ (ih (i + 1) ⟨by omega, ?_⟩ (by omega))))
              · rw [cnN_f (f := shP w) hk]; rfl
              · rcases hs with hs | hs
                · exact Or.inl hs
                · right; rw [← hs, cnN_f (f := shP w) hk, show 36 - i = (36 - (i + 1)) + 1 by omega, shS_n hk]
            · have q58 : ¬ w 16 ≤ ((i % 6 : Nat) : Int) := c58
              have l1 := hV.ln (a := 0) (o := i / 6) (by decide) (by show _ < w 15; omega)
              have l2 := hV.ln (a := 1) (o := i % 6) (by decide) (by show _ < w 16; omega)
              refine T_aload_n dX12_shared_61 rfl ?_
              refine T_iconst dX12_shared_62 (by decide) ?_
              refine T_iload dX12_shared_63 rfl ?_
              refine T_callV dX12_shared_65 lX12_230 (As := [_, _]) (rest := _) rfl rfl k271 (by decide) (Nat.le_of_ble_eq_true rfl) (Nat.le_of_ble_eq_true rfl) (t_lengthOf (a := 0) hW (by decide) (by omega)) ?_
              rintro _ _ ⟨rfl, rfl⟩
              refine T_aload_n dX12_shared_68 rfl ?_
              refine T_iconst dX12_shared_69 (by decide) ?_
              refine T_iload dX12_shared_70 rfl ?_
              refine T_callV dX12_shared_72 lX12_230 (As := [_, _]) (rest := _) rfl rfl k271 (by decide) (Nat.le_of_ble_eq_true rfl) (Nat.le_of_ble_eq_true rfl) (t_lengthOf (a := 1) hW (by decide) (by omega)) ?_
              rintro _ _ ⟨rfl, rfl⟩
              refine T_icmp_ne (tgt := 105) dX12_shared_75 (by decide) (fun c75 => ?_) (fun c75 => ?_)
              · refine T_inc dX12_shared_105 rfl (by decide) rfl (by omega) ?_
                refine T_goto (tgt := 20) dX12_shared_108 (by decide) ?_
                have hk : ¬ shP w i := fun z => by have := z.2.1; omega
                refine T_drop 5 (T_drop 6 (T_leq ?_ (ih (i + 1) ⟨by omega, ?_⟩ (by omega))))
                · rw [cnN_f (f := shP w) hk]; rfl
                · rcases hs with hs | hs
                  · exact Or.inl hs
                  · right; rw [← hs, cnN_f (f := shP w) hk, show 36 - i = (36 - (i + 1)) + 1 by omega, shS_n hk]
              · refine T_aload_n dX12_shared_78 rfl ?_
                refine T_iconst dX12_shared_79 (by decide) ?_
                refine T_iload dX12_shared_80 rfl ?_
                refine T_iconst dX12_shared_82 (by decide) ?_
                refine T_iload dX12_shared_83 rfl ?_
                refine T_callV dX12_shared_85 lX12_328 (As := [_, _, _, _]) (rest := _) rfl rfl k271 (by decide) (Nat.le_of_ble_eq_true rfl) (Nat.le_of_ble_eq_true rfl) (t_beginsWith (a := 0) (b := 1) hW hV (by decide) (by show _ < w 15; omega) (by decide) (by show _ < w 16; omega)) ?_
                rintro _ _ ⟨rfl, rfl⟩
                refine T_if_ne (tgt := 94) dX12_shared_88 (by decide) (fun c88 => ?_) (fun c88 => ?_)
                · have hk : shP w i := ⟨by omega, by omega, bI_1 c88⟩
                  refine T_iload_n dX12_shared_94 rfl ?_
                  refine T_iload_n dX12_shared_95 rfl ?_
                  refine T_icmp_ne (tgt := 102) dX12_shared_96 (by decide) (fun c96 => ?_) (fun c96 => ?_)
                  · refine T_inc dX12_shared_102 rfl (by decide) rfl (by omega) ?_
                    refine T_inc dX12_shared_105 rfl (by decide) rfl (by omega) ?_
                    refine T_goto (tgt := 20) dX12_shared_108 (by decide) ?_
                    refine T_drop 5 (T_drop 6 (T_leq ?_ (ih (i + 1) ⟨by omega, ?_⟩ (by omega))))
                    · rw [cnN_t (f := shP w) hk]; rfl
                    · rcases hs with hs | hs
                      · exact Or.inl hs
                      · right; rw [← hs, cnN_t (f := shP w) hk, show 36 - i = (36 - (i + 1)) + 1 by omega, shS_y hk, if_neg (by omega), show x - cnN (shP w) i - 1 = x - (cnN (shP w) i + 1) by omega]
                  · refine T_iload dX12_shared_99 rfl ?_
                    exact T_ireturn dX12_shared_101 rfl ⟨by unfold qShared; rw [if_neg (by omega), if_neg (by omega), ← hs.resolve_left (by omega), show 36 - i = (35 - i) + 1 by omega, shS_y hk, if_pos (by omega)], hAg⟩
                · refine T_goto (tgt := 105) dX12_shared_91 (by decide) ?_
                  refine T_inc dX12_shared_105 rfl (by decide) rfl (by omega) ?_
                  refine T_goto (tgt := 20) dX12_shared_108 (by decide) ?_
                  have hk : ¬ shP w i := fun z => bI_0 c88 z.2.2
                  refine T_drop 5 (T_drop 6 (T_leq ?_ (ih (i + 1) ⟨by omega, ?_⟩ (by omega))))
                  · rw [cnN_f (f := shP w) hk]; rfl
                  · rcases hs with hs | hs
                    · exact Or.inl hs
                    · right; rw [← hs, cnN_f (f := shP w) hk, show 36 - i = (36 - (i + 1)) + 1 by omega, shS_n hk]
      exact h20 0 ⟨Nat.zero_le _, Or.inr (by show shS w 36 0 (x - 0) = _; rw [Int.sub_zero])⟩
    · refine T_iconst dX12_shared_13 (by decide) ?_
      exact T_ireturn dX12_shared_14 rfl ⟨by unfold qShared; rw [if_pos (by omega)], hAg⟩

end M24
