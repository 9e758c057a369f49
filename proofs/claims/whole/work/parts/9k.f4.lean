/-! the reference: twofold -/
section C31
variable {G : sG} {d : sD} {w : Nat → Int} {a : Nat}
abbrev twQ (d : sD) (w : Nat → Int) (a : Nat) : Option sV → sD → Prop := fun r d' => r = some (vI (tfW w a)) ∧ Ag [296] [] d d'
theorem tw183 {e : sD} (hW : Wd d w) (hV : WV w) (ha : a < 2) (hA : Ag [296] [] d e) (hI : HI w a (e 296)) (hB : BH w a (e 296) (fun _ _ => True)) (hS : ∀ o f p, isO w a o → isO w a p → f < 5 → StOK w a (e 296) o f p) : ∀ z : Nat × Int, ((z.1 : Int) ≤ w (15 + a) ∧ z.2 ≤ 9999 ∧ (z.2 = 9999 ∨ ∃ o, isO w a o ∧ z.2 = e 296 (5 * o + lnW w a o)) ∧ ∀ o, o < z.1 → z.2 ≤ e 296 (5 * o + lnW w a o)) → tB G mX12_twofold 183 [vR 271, vI a, vI 0, vI z.2, vI z.1] [] e (twQ d w a) := by
  refine T_loop (α := Nat × Int) 183 (fun z => [vR 271, vI a, vI 0, vI z.2, vI z.1]) (fun _ => e) (fun z => (z.1 : Int) ≤ w (15 + a) ∧ z.2 ≤ 9999 ∧ (z.2 = 9999 ∨ ∃ o, isO w a o ∧ z.2 = e 296 (5 * o + lnW w a o)) ∧ ∀ o, o < z.1 → z.2 ≤ e 296 (5 * o + lnW w a o)) (fun z => 6 - z.1) ?_
  rintro ⟨b, L⟩ ⟨hb, hL, hx, hm⟩ ih
  try dsimp only at hb hL hx hm ih ⊢
  have hwa := (hV.a ha).2.2.2.2
  have hWe := Wd_ag hW hA (by decide) (by decide)
  have hfin : ¬ (b : Int) < w (15 + a) → ∀ v, v = (if L < 9999 then L else -1) → twQ d w a (some (vI v)) e := by
    rintro hnb _ rfl
    exact ⟨by rw [tfW_eq (TF_ref hV ha hI hB hS hx (fun o ho => hm o (by omega)) hL)], hA⟩
  refine T_iload dX12_twofold_183 rfl ?_
  refine T_aload_n dX12_twofold_185 rfl ?_
  refine T_iload_n dX12_twofold_186 rfl ?_
  refine T_callV dX12_twofold_187 lX12_221 (As := [_]) (rest := _) rfl rfl k271 (by decide) (Nat.le_of_ble_eq_true rfl) (Nat.le_of_ble_eq_true rfl) (t_orders hWe ha) ?_
  rintro _ _ ⟨rfl, rfl⟩
  refine T_icmp_ge (tgt := 221) dX12_twofold_190 (by decide) (fun c190 => ?_) (fun c190 => ?_)
  · refine T_iload_n dX12_twofold_221 rfl ?_
    refine T_sipush dX12_twofold_222 (by decide) ?_
    refine T_icmp_ne (tgt := 232) dX12_twofold_225 (by decide) (fun c225 => ?_) (fun c225 => ?_)
    · refine T_iload_n dX12_twofold_232 rfl ?_
      exact T_ireturn dX12_twofold_233 rfl (hfin (by omega) _ (by rw [if_pos (by omega)]))
    · refine T_iconst dX12_twofold_228 (by decide) ?_
      refine T_goto (tgt := 233) dX12_twofold_229 (by decide) ?_
      exact T_ireturn dX12_twofold_233 rfl (hfin (by omega) _ (by rw [if_neg (by omega)]))
  · have l1 := hV.ln ha (o := b) (by omega)
    have l2 : w (18 + 36 * a + 6 * b) = (lnW w a b : Int) := by omega
    refine T_iload_n dX12_twofold_193 rfl ?_
    refine T_aload_n dX12_twofold_194 rfl ?_
    refine T_getR dX12_twofold_195 fX12_84 rfl k271 r271_37 ?_
    refine T_iconst dX12_twofold_198 (by decide) ?_
    refine T_iload dX12_twofold_199 rfl ?_
    refine T_mul dX12_twofold_201 (by omega) ?_
    refine T_aload_n dX12_twofold_202 rfl ?_
    refine T_iload_n dX12_twofold_203 rfl ?_
    refine T_iload dX12_twofold_204 rfl ?_
    refine T_callV dX12_twofold_206 lX12_230 (As := [_, _]) (rest := _) rfl rfl k271 (by decide) (Nat.le_of_ble_eq_true rfl) (Nat.le_of_ble_eq_true rfl) (t_lengthOf hWe ha (by omega)) ?_
    rintro _ _ ⟨rfl, rfl⟩
    refine T_add dX12_twofold_209 (by omega) ?_
    refine T_ialdv dX12_twofold_210 k296 l296 (by omega) (j := 5 * b + lnW w a b) (by omega) (x := e 296 (5 * b + lnW w a b)) rfl ?_
    refine T_callS dX12_twofold_211 lX12_320 (As := [_, _]) (rest := _) rfl rfl (by decide) (Nat.le_of_ble_eq_true rfl) (Nat.le_of_ble_eq_true rfl) t_X12_lesser ?_
    rintro _ _ ⟨rfl, rfl⟩
    refine T_ist_n dX12_twofold_214 (by decide) rfl ?_
    refine T_inc dX12_twofold_215 rfl (by decide) rfl (by omega) ?_
    refine T_goto (tgt := 183) dX12_twofold_218 (by decide) ?_
    refine ih (b + 1, min L (e 296 (5 * b + lnW w a b))) ⟨by omega, by omega, ?_, fun o ho => ?_⟩ (by omega)
    · rcases (show min L (e 296 (5 * b + lnW w a b)) = L ∨ min L (e 296 (5 * b + lnW w a b)) = e 296 (5 * b + lnW w a b) by omega) with z | z
      · rw [z]; exact hx
      · rw [z]; exact Or.inr ⟨b, by omega, rfl⟩
    · rcases (show o < b ∨ o = b by omega) with z | rfl
      · have := hm o z; omega
      · omega

/-- a pass over the rests -/
def PI (w : Nat → Int) (a : Nat) (d e0 : sD) (q : Nat → Nat → Prop) (m : Int) (e : sD) : Prop := (m = 0 ∨ m = 1) ∧ Ag [296] [] d e ∧ HI w a (e 296) ∧ BH w a (e 296) (fun _ _ => True) ∧ (m = 0 → e = e0 ∧ ∀ o f p, isO w a o → isO w a p → f < 5 → q (5 * o + f) p → StOK w a (e0 296) o f p) ∧ (m = 1 → sumN (e 296) 30 < sumN (e0 296) 30)
theorem PI_mono {e0 e : sD} {q q' : Nat → Nat → Prop} {m : Int} (h : PI w a d e0 q m e) (hq : ∀ o f p, isO w a o → isO w a p → f < 5 → q' (5 * o + f) p → q (5 * o + f) p) : PI w a d e0 q' m e := ⟨h.1, h.2.1, h.2.2.1, h.2.2.2.1, fun hm => ⟨(h.2.2.2.2.1 hm).1, fun o f p ho hp hf h2 => (h.2.2.2.2.1 hm).2 o f p ho hp hf (hq o f p ho hp hf h2)⟩, h.2.2.2.2.2⟩
theorem BH_ls {e : sD} {i : Nat} {v : Int} {q : Nat → Nat → Prop} (h : BH w a (e 296) q) : BH w a (lsD e i v 296) q := fun o p ho hp hne hq hg => Int.le_trans lsD_le (h o p ho hp hne hq hg)
theorem t_ho {o f p : Nat} {e0 e : sD} {q : Nat → Nat → Prop} {m : Int} (hW : Wd d w) (hV : WV w) (ha : a < 2) (ho : isO w a o) (hp : isO w a p) (hf : f < 5) (hP : PI w a d e0 q m e) : tB G mX12_hangsOn 0 [vR 271, vI a, vI o, vI f, vI p, vU 0, vU 0] [] e (fun r e' => ∃ x : Int, r = some (vI x) ∧ (x = 0 ∨ x = 1) ∧ PI w a d e0 (fun i j => q i j ∨ (i = 5 * o + f ∧ j = p)) (if x = 0 then m else 1) e') := by
  obtain ⟨hm, hA, hI, hB, h0, h1⟩ := hP
  have hWe := Wd_ag hW hA (by decide) (by decide)
  have l1 := hV.ln ha ho
  have hfl : f ≤ lnW w a o ∨ e 296 (5 * o + f) = 9999 := by
    rcases Nat.lt_or_ge (lnW w a o) f with z | z
    · exact Or.inr (hI.2.2.2 o f ho hf (Or.inr z))
    · exact Or.inl z
  refine (t_hangsOn hWe hV ha ho hp hf rfl (hI.1 _ (by omega)) hfl).mono ?_
  have hadd : (e = e0 → StOK w a (e0 296) o f p) → PI w a d e0 (fun i j => q i j ∨ (i = 5 * o + f ∧ j = p)) m e := fun hok => ⟨hm, hA, hI, hB, fun hm0 => ⟨(h0 hm0).1, fun o' f' p' ho' hp' hf' h2 => by
    rcases h2 with h2 | ⟨h2, rfl⟩
    · exact (h0 hm0).2 o' f' p' ho' hp' hf' h2
    · obtain ⟨rfl, rfl⟩ : o' = o ∧ f' = f := ⟨by omega, by omega⟩
      exact hok (h0 hm0).1⟩, h1⟩
  rintro r e' (⟨hn, rfl, rfl⟩ | ⟨hy, rfl, rfl⟩)
  · refine ⟨0, rfl, Or.inl rfl, ?_⟩
    rw [if_pos rfl]
    exact hadd (fun he => by subst he; exact fun z => absurd z hn)
  · refine ⟨_, rfl, bI_01 _, ?_⟩
    obtain ⟨g1, g2⟩ := HI_ho hV ha hI ho hp hf hy
    by_cases z : hoV w a o f p (e 296 (5 * o + f)) < e 296 (hoT w a o f p)
    · rw [bI_t z, if_neg (by decide)]
      refine ⟨Or.inr rfl, lsD_Ag hA, g2, BH_ls hB, fun h => absurd h (by decide), fun _ => ?_⟩
      have := lsD_sum g1 z
      rcases hm with y | y
      · rw [(h0 y).1] at this ⊢; exact this
      · have := h1 y; omega
    · rw [bI_f z, if_pos rfl, lsD_no z]
      exact hadd (fun he => by subst he; exact fun _ => by omega)
theorem tw97 (hW : Wd d w) (hV : WV w) (ha : a < 2) : ∀ z : Int × sD, ((z.1 = 0 ∨ z.1 = 1) ∧ Ag [296] [] d z.2 ∧ HI w a (z.2 296) ∧ BH w a (z.2 296) (fun _ _ => True) ∧ (z.1 = 0 → ∀ o f p, isO w a o → isO w a p → f < 5 → StOK w a (z.2 296) o f p)) → tB G mX12_twofold 97 [vR 271, vI a, vI z.1, vU 0, vU 0] [] z.2 (twQ d w a) := by
  refine T_loop (α := Int × sD) 97 (fun z => [vR 271, vI a, vI z.1, vU 0, vU 0]) (fun z => z.2) (fun z => (z.1 = 0 ∨ z.1 = 1) ∧ Ag [296] [] d z.2 ∧ HI w a (z.2 296) ∧ BH w a (z.2 296) (fun _ _ => True) ∧ (z.1 = 0 → ∀ o f p, isO w a o → isO w a p → f < 5 → StOK w a (z.2 296) o f p)) (fun z => (sumN (z.2 296) 30).toNat + z.1.toNat) ?_
  rintro ⟨m0, e0⟩ ⟨hm0, hA0, hI0, hB0, hS0⟩ ih
  try dsimp only at hm0 hA0 hI0 hB0 hS0 ih ⊢
  have hwa := (hV.a ha).2.2.2.2
  have hs0 := (sumN_le (f := e0 296) (B := 9999) 30 (fun j hj => hI0.1 j hj)).1
  have h105 : ∀ z : Nat × Int × sD, (z.1 ≤ 30 ∧ m0 = 1 ∧ PI w a d e0 (fun i _ => i < z.1) z.2.1 z.2.2) → tB G mX12_twofold 105 [vR 271, vI a, vI z.2.1, vI z.1, vU 0] [] (z.2.2) (twQ d w a) := by
    refine T_loop (α := Nat × Int × sD) 105 (fun z => [vR 271, vI a, vI z.2.1, vI z.1, vU 0]) (fun z => z.2.2) (fun z => z.1 ≤ 30 ∧ m0 = 1 ∧ PI w a d e0 (fun i _ => i < z.1) z.2.1 z.2.2) (fun z => 30 - z.1) ?_
    rintro ⟨k, m, e⟩ ⟨hk, hm1, hP⟩ ih1
    try dsimp only at hk hm1 hP ih1 ⊢
    have h114 : ∀ z : Nat × Int × sD, ((z.1 : Int) ≤ w (15 + a) ∧ k < 30 ∧ PI w a d e0 (fun i j => i < k ∨ (i = k ∧ j < z.1)) z.2.1 z.2.2) → tB G mX12_twofold 114 [vR 271, vI a, vI z.2.1, vI k, vI z.1] [] (z.2.2) (twQ d w a) := by
      refine T_loop (α := Nat × Int × sD) 114 (fun z => [vR 271, vI a, vI z.2.1, vI k, vI z.1]) (fun z => z.2.2) (fun z => (z.1 : Int) ≤ w (15 + a) ∧ k < 30 ∧ PI w a d e0 (fun i j => i < k ∨ (i = k ∧ j < z.1)) z.2.1 z.2.2) (fun z => 6 - z.1) ?_
      rintro ⟨b, m, e⟩ ⟨hb, hk30, hP⟩ ih2
      try dsimp only at hb hk30 hP ih2 ⊢
      have hWe := Wd_ag hW hP.2.1 (by decide) (by decide)
      have hm01 := hP.1
      refine T_iload dX12_twofold_114 rfl ?_
      refine T_aload_n dX12_twofold_116 rfl ?_
      refine T_iload_n dX12_twofold_117 rfl ?_
      refine T_callV dX12_twofold_118 lX12_221 (As := [_]) (rest := _) rfl rfl k271 (by decide) (Nat.le_of_ble_eq_true rfl) (Nat.le_of_ble_eq_true rfl) (t_orders hWe ha) ?_
      rintro _ _ ⟨rfl, rfl⟩
      refine T_icmp_ge (tgt := 167) dX12_twofold_121 (by decide) (fun c121 => ?_) (fun c121 => ?_)
      · refine T_inc dX12_twofold_167 rfl (by decide) rfl (by omega) ?_
        refine T_goto (tgt := 105) dX12_twofold_170 (by decide) ?_
        exact T_drop 4 (ih1 (k + 1, m, e) ⟨by omega, hm1, PI_mono hP (fun o f p ho hp hf h => by (try dsimp only at h ⊢); omega)⟩ (by omega))
      · refine T_iload_n dX12_twofold_124 rfl ?_
        refine T_iconst dX12_twofold_125 (by decide) ?_
        refine T_div dX12_twofold_126 (by omega) (by omega) ?_
        refine T_aload_n dX12_twofold_127 rfl ?_
        refine T_iload_n dX12_twofold_128 rfl ?_
        refine T_callV dX12_twofold_129 lX12_221 (As := [_]) (rest := _) rfl rfl k271 (by decide) (Nat.le_of_ble_eq_true rfl) (Nat.le_of_ble_eq_true rfl) (t_orders hWe ha) ?_
        rintro _ _ ⟨rfl, rfl⟩
        refine T_icmp_ge (tgt := 167) dX12_twofold_132 (by decide) (fun c132 => ?_) (fun c132 => ?_)
        · refine T_inc dX12_twofold_167 rfl (by decide) rfl (by omega) ?_
          refine T_goto (tgt := 105) dX12_twofold_170 (by decide) ?_
          exact T_drop 4 (ih1 (k + 1, m, e) ⟨by omega, hm1, PI_mono hP (fun o f p ho hp hf h => by (try dsimp only at h ⊢); omega)⟩ (by omega))
        · refine T_aload_n dX12_twofold_135 rfl ?_
          refine T_iload_n dX12_twofold_136 rfl ?_
          refine T_iload_n dX12_twofold_137 rfl ?_
          refine T_iconst dX12_twofold_138 (by decide) ?_
          refine T_div dX12_twofold_139 (by omega) (by omega) ?_
          refine T_iload_n dX12_twofold_140 rfl ?_
          refine T_iconst dX12_twofold_141 (by decide) ?_
          refine T_rem dX12_twofold_142 (by omega) (by omega) ?_
          refine T_iload dX12_twofold_143 rfl ?_
          refine T_callV dX12_twofold_145 lX12_385 (As := [_, _, _, _]) (rest := _) rfl rfl k271 (by decide) (Nat.le_of_ble_eq_true rfl) (Nat.le_of_ble_eq_true rfl) (T_args2 (y := k / 5) (by omega) (T_args3 (y := k % 5) (by omega) (t_ho hW hV ha (by omega) (by omega) (by omega) hP))) ?_
          rintro _ e2 ⟨x, rfl, hx, hP2⟩
          refine T_if_ne (tgt := 155) dX12_twofold_148 (by decide) (fun c148 => ?_) (fun c148 => ?_)
          · refine T_iconst dX12_twofold_155 (by decide) ?_
            refine T_goto (tgt := 160) dX12_twofold_156 (by decide) ?_
            refine T_ist_n dX12_twofold_160 (by decide) rfl ?_
            refine T_inc dX12_twofold_161 rfl (by decide) rfl (by omega) ?_
            refine T_goto (tgt := 114) dX12_twofold_164 (by decide) ?_
            refine ih2 (b + 1, _, e2) ⟨by omega, hk30, ?_⟩ (by omega)
            first | rw [if_neg (show ¬ x = 0 by omega)] at hP2 | (rw [if_pos (show x = 0 by omega)] at hP2; first | (rw [show m = 1 by omega] at hP2) | (rw [show m = 0 by omega] at hP2))
            exact PI_mono hP2 (fun o f p ho hp hf h => by (try dsimp only at h ⊢); omega)
          · refine T_iload_n dX12_twofold_151 rfl ?_
            refine T_if_eq (tgt := 159) dX12_twofold_152 (by decide) (fun c152 => ?_) (fun c152 => ?_)
            · refine T_iconst dX12_twofold_159 (by decide) ?_
              refine T_ist_n dX12_twofold_160 (by decide) rfl ?_
              refine T_inc dX12_twofold_161 rfl (by decide) rfl (by omega) ?_
              refine T_goto (tgt := 114) dX12_twofold_164 (by decide) ?_
              refine ih2 (b + 1, _, e2) ⟨by omega, hk30, ?_⟩ (by omega)
              first | rw [if_neg (show ¬ x = 0 by omega)] at hP2 | (rw [if_pos (show x = 0 by omega)] at hP2; first | (rw [show m = 1 by omega] at hP2) | (rw [show m = 0 by omega] at hP2))
              exact PI_mono hP2 (fun o f p ho hp hf h => by (try dsimp only at h ⊢); omega)
            · refine T_iconst dX12_twofold_155 (by decide) ?_
              refine T_goto (tgt := 160) dX12_twofold_156 (by decide) ?_
              refine T_ist_n dX12_twofold_160 (by decide) rfl ?_
              refine T_inc dX12_twofold_161 rfl (by decide) rfl (by omega) ?_
              refine T_goto (tgt := 114) dX12_twofold_164 (by decide) ?_
              refine ih2 (b + 1, _, e2) ⟨by omega, hk30, ?_⟩ (by omega)
              first | rw [if_neg (show ¬ x = 0 by omega)] at hP2 | (rw [if_pos (show x = 0 by omega)] at hP2; first | (rw [show m = 1 by omega] at hP2) | (rw [show m = 0 by omega] at hP2))
              exact PI_mono hP2 (fun o f p ho hp hf h => by (try dsimp only at h ⊢); omega)
    refine T_iload_n dX12_twofold_105 rfl ?_
    refine T_bipush dX12_twofold_106 (by decide) ?_
    refine T_icmp_ge (tgt := 173) dX12_twofold_108 (by decide) (fun c108 => ?_) (fun c108 => ?_)
    · refine T_goto (tgt := 97) dX12_twofold_173 (by decide) ?_
      obtain ⟨q1, q2, q3, q4, q5, q6⟩ := hP
      have hs1 := (sumN_le (f := e 296) (B := 9999) 30 (fun j hj => q3.1 j hj)).1
      refine T_drop 3 (ih (m, e) ⟨q1, q2, q3, q4, fun hm o f p ho hp hf => ?_⟩ ?_)
      · obtain ⟨r1, r2⟩ := q5 hm
        have l1 := hV.ln ha ho
        try dsimp only
        rw [r1]
        exact r2 o f p ho hp hf (by (try dsimp only); omega)
      · try dsimp only
        rcases q1 with z | z
        · rw [(q5 z).1, z, hm1]; omega
        · have := q6 z; rw [z, hm1]; omega
    · refine T_iconst dX12_twofold_111 (by decide) ?_
      refine T_ist dX12_twofold_112 (by decide) rfl ?_
      exact h114 (0, m, e) ⟨by show (0 : Int) ≤ _; omega, by omega, PI_mono hP (fun o f p ho hp hf h => by (try dsimp only at h ⊢); omega)⟩
  refine T_iload_n dX12_twofold_97 rfl ?_
  refine T_if_eq (tgt := 176) dX12_twofold_98 (by decide) (fun c98 => ?_) (fun c98 => ?_)
  · refine T_sipush dX12_twofold_176 (by decide) ?_
    refine T_ist_n dX12_twofold_179 (by decide) rfl ?_
    refine T_iconst dX12_twofold_180 (by decide) ?_
    refine T_ist dX12_twofold_181 (by decide) rfl ?_
    rw [c98]
    exact tw183 hW hV ha hA0 hI0 hB0 (hS0 c98) (0, 9999) ⟨by show (0 : Int) ≤ _; omega, Int.le_refl _, Or.inl rfl, fun o ho => absurd ho (Nat.not_lt_zero _)⟩
  · refine T_iconst dX12_twofold_101 (by decide) ?_
    refine T_ist_n dX12_twofold_102 (by decide) rfl ?_
    refine T_iconst dX12_twofold_103 (by decide) ?_
    refine T_ist_n dX12_twofold_104 (by decide) rfl ?_
    exact h105 (0, 0, e0) ⟨by omega, by omega, Or.inl rfl, hA0, hI0, hB0, fun _ => ⟨rfl, fun o f p _ _ _ h => absurd h (Nat.not_lt_zero _)⟩, fun h => absurd (show (0 : Int) = 1 from h) (by decide)⟩

theorem t_twofold (hW : Wd d w) (hV : WV w) (ha : a < 2) : tB G mX12_twofold 0 [vR 271, vI a, vU 0, vU 0, vU 0] [] d (twQ d w a) := by
  have hwa := (hV.a ha).2.2.2.2
  have h25 : ∀ z : Nat × sD, ((z.1 : Int) ≤ w (15 + a) ∧ Ag [296] [] d z.2 ∧ HI w a (z.2 296) ∧ BH w a (z.2 296) (fun x _ => x < z.1)) → tB G mX12_twofold 25 [vR 271, vI a, vI z.1, vU 0, vU 0] [] (z.2) (twQ d w a) := by
    refine T_loop (α := Nat × sD) 25 (fun z => [vR 271, vI a, vI z.1, vU 0, vU 0]) (fun z => z.2) (fun z => (z.1 : Int) ≤ w (15 + a) ∧ Ag [296] [] d z.2 ∧ HI w a (z.2 296) ∧ BH w a (z.2 296) (fun x _ => x < z.1)) (fun z => 6 - z.1) ?_
    rintro ⟨b, e⟩ ⟨hb, hA, hI, hB⟩ ih1
    try dsimp only at hb hA hI hB ih1 ⊢
    have h36 : ∀ z : Nat × sD, ((z.1 : Int) ≤ w (15 + a) ∧ (b : Int) < w (15 + a) ∧ Ag [296] [] d z.2 ∧ HI w a (z.2 296) ∧ BH w a (z.2 296) (fun x y => x < b ∨ (x = b ∧ y < z.1))) → tB G mX12_twofold 36 [vR 271, vI a, vI b, vI z.1, vU 0] [] (z.2) (twQ d w a) := by
      refine T_loop (α := Nat × sD) 36 (fun z => [vR 271, vI a, vI b, vI z.1, vU 0]) (fun z => z.2) (fun z => (z.1 : Int) ≤ w (15 + a) ∧ (b : Int) < w (15 + a) ∧ Ag [296] [] d z.2 ∧ HI w a (z.2 296) ∧ BH w a (z.2 296) (fun x y => x < b ∨ (x = b ∧ y < z.1))) (fun z => 6 - z.1) ?_
      rintro ⟨p, e⟩ ⟨hp, hb2, hA, hI, hB⟩ ih2
      try dsimp only at hp hb2 hA hI hB ih2 ⊢
      have hWe := Wd_ag hW hA (by decide) (by decide)
      refine T_iload_n dX12_twofold_36 rfl ?_
      refine T_aload_n dX12_twofold_37 rfl ?_
      refine T_iload_n dX12_twofold_38 rfl ?_
      refine T_callV dX12_twofold_39 lX12_221 (As := [_]) (rest := _) rfl rfl k271 (by decide) (Nat.le_of_ble_eq_true rfl) (Nat.le_of_ble_eq_true rfl) (t_orders hWe ha) ?_
      rintro _ _ ⟨rfl, rfl⟩
      refine T_icmp_ge (tgt := 89) dX12_twofold_42 (by decide) (fun c42 => ?_) (fun c42 => ?_)
      · refine T_inc dX12_twofold_89 rfl (by decide) rfl (by omega) ?_
        refine T_goto (tgt := 25) dX12_twofold_92 (by decide) ?_
        exact T_drop 3 (ih1 (b + 1, e) ⟨by omega, hA, hI, fun x y hx hy hne hq hg => hB x y hx hy hne (by (try dsimp only at hq ⊢); omega) hg⟩ (by omega))
      · have l1 := hV.ln ha (o := b) (by omega)
        have l2 := hV.ln ha (o := p) (by omega)
        have l3 : w (18 + 36 * a + 6 * p) = (lnW w a p : Int) := by omega
        refine T_iload_n dX12_twofold_45 rfl ?_
        refine T_iload_n dX12_twofold_46 rfl ?_
        refine T_icmp_eq (tgt := 83) dX12_twofold_47 (by decide) (fun c47 => ?_) (fun c47 => ?_)
        · refine T_inc dX12_twofold_83 rfl (by decide) rfl (by omega) ?_
          refine T_goto (tgt := 36) dX12_twofold_86 (by decide) ?_
          refine ih2 (p + 1, e) ⟨by omega, hb2, hA, hI, fun x y hx hy hne hq hg => ?_⟩ (by omega)
          rcases (show (x < b ∨ (x = b ∧ y < p)) ∨ (x = b ∧ y = p) by (try dsimp only at hq); omega) with z | ⟨rfl, rfl⟩
          · exact hB x y hx hy hne z hg
          · exact absurd (by omega) hne
        · refine T_aload_n dX12_twofold_50 rfl ?_
          refine T_iload_n dX12_twofold_51 rfl ?_
          refine T_iload_n dX12_twofold_52 rfl ?_
          refine T_iconst dX12_twofold_53 (by decide) ?_
          refine T_iload_n dX12_twofold_54 rfl ?_
          refine T_iconst dX12_twofold_55 (by decide) ?_
          refine T_callV dX12_twofold_56 lX12_378 (As := [_, _, _, _, _]) (rest := _) rfl rfl k271 (by decide) (Nat.le_of_ble_eq_true rfl) (Nat.le_of_ble_eq_true rfl) (t_goesInto (f := 0) (h := 0) hWe hV ha (by omega) (by omega) (Nat.zero_le _) (Nat.zero_le _)) ?_
          rintro _ _ ⟨rfl, rfl⟩
          refine T_if_eq (tgt := 83) dX12_twofold_59 (by decide) (fun c59 => ?_) (fun c59 => ?_)
          · refine T_inc dX12_twofold_83 rfl (by decide) rfl (by omega) ?_
            refine T_goto (tgt := 36) dX12_twofold_86 (by decide) ?_
            refine ih2 (p + 1, e) ⟨by omega, hb2, hA, hI, fun x y hx hy hne hq hg => ?_⟩ (by omega)
            rcases (show (x < b ∨ (x = b ∧ y < p)) ∨ (x = b ∧ y = p) by (try dsimp only at hq); omega) with z | ⟨rfl, rfl⟩
            · exact hB x y hx hy hne z hg
            · exact absurd hg (bI_0 c59)
          · have hg := bI_1 c59
            obtain ⟨g1, g2⟩ := HI_bg hV ha hI (o := b) (p := p) (by omega) (by omega) (by omega) hg
            refine T_aload_n dX12_twofold_62 rfl ?_
            refine T_iconst dX12_twofold_63 (by decide) ?_
            refine T_iload_n dX12_twofold_64 rfl ?_
            refine T_mul dX12_twofold_65 (by omega) ?_
            refine T_aload_n dX12_twofold_66 rfl ?_
            refine T_iload_n dX12_twofold_67 rfl ?_
            refine T_iload_n dX12_twofold_68 rfl ?_
            refine T_callV dX12_twofold_69 lX12_230 (As := [_, _]) (rest := _) rfl rfl k271 (by decide) (Nat.le_of_ble_eq_true rfl) (Nat.le_of_ble_eq_true rfl) (t_lengthOf hWe ha (by omega)) ?_
            rintro _ _ ⟨rfl, rfl⟩
            refine T_add dX12_twofold_72 (by omega) ?_
            refine T_aload_n dX12_twofold_73 rfl ?_
            refine T_iload_n dX12_twofold_74 rfl ?_
            refine T_iload_n dX12_twofold_75 rfl ?_
            refine T_callV dX12_twofold_76 lX12_230 (As := [_, _]) (rest := _) rfl rfl k271 (by decide) (Nat.le_of_ble_eq_true rfl) (Nat.le_of_ble_eq_true rfl) (t_lengthOf hWe ha (by omega)) ?_
            rintro _ _ ⟨rfl, rfl⟩
            refine T_callV dX12_twofold_79 lX12_382 (As := [_, _]) (rest := _) rfl rfl k271 (by decide) (Nat.le_of_ble_eq_true rfl) (Nat.le_of_ble_eq_true rfl) (T_args1 (y := 5 * p + lnW w a b) (by omega) (t_hangsL (by omega))) ?_
            rintro _ _ ⟨rfl, rfl⟩
            refine T_pop dX12_twofold_82 rfl ?_
            refine T_inc dX12_twofold_83 rfl (by decide) rfl (by omega) ?_
            refine T_goto (tgt := 36) dX12_twofold_86 (by decide) ?_
            rw [l3]
            refine ih2 (p + 1, lsD e (5 * p + lnW w a b) (lnW w a p : Int)) ⟨by omega, hb2, lsD_Ag hA, g2, fun x y hx hy hne hq hg => ?_⟩ (by omega)
            rcases (show (x < b ∨ (x = b ∧ y < p)) ∨ (x = b ∧ y = p) by (try dsimp only at hq); omega) with z | ⟨rfl, rfl⟩
            · exact BH_ls hB x y hx hy hne z hg
            · exact lsD_v
    have hWe := Wd_ag hW hA (by decide) (by decide)
    refine T_iload_n dX12_twofold_25 rfl ?_
    refine T_aload_n dX12_twofold_26 rfl ?_
    refine T_iload_n dX12_twofold_27 rfl ?_
    refine T_callV dX12_twofold_28 lX12_221 (As := [_]) (rest := _) rfl rfl k271 (by decide) (Nat.le_of_ble_eq_true rfl) (Nat.le_of_ble_eq_true rfl) (t_orders hWe ha) ?_
    rintro _ _ ⟨rfl, rfl⟩
    refine T_icmp_ge (tgt := 95) dX12_twofold_31 (by decide) (fun c31 => ?_) (fun c31 => ?_)
    · refine T_iconst dX12_twofold_95 (by decide) ?_
      refine T_ist_n dX12_twofold_96 (by decide) rfl ?_
      exact tw97 hW hV ha (1, e) ⟨Or.inr rfl, hA, hI, fun x y hx hy hne _ hg => hB x y hx hy hne (by (try dsimp only); omega) hg, fun h => absurd (show (1 : Int) = 0 from h) (by decide)⟩
    · refine T_iconst dX12_twofold_34 (by decide) ?_
      refine T_ist_n dX12_twofold_35 (by decide) rfl ?_
      exact h36 (0, e) ⟨by show (0 : Int) ≤ _; omega, by omega, hA, hI, fun x y hx hy hne hq hg => hB x y hx hy hne (by (try dsimp only at hq ⊢); omega) hg⟩
  have h2 : ∀ z : Nat × sD, (z.1 ≤ 30 ∧ Ag [296] [] d z.2 ∧ ∀ j, j < z.1 → z.2 296 j = 9999) → tB G mX12_twofold 2 [vR 271, vI a, vI z.1, vU 0, vU 0] [] (z.2) (twQ d w a) := by
    refine T_loop (α := Nat × sD) 2 (fun z => [vR 271, vI a, vI z.1, vU 0, vU 0]) (fun z => z.2) (fun z => z.1 ≤ 30 ∧ Ag [296] [] d z.2 ∧ ∀ j, j < z.1 → z.2 296 j = 9999) (fun z => 30 - z.1) ?_
    rintro ⟨k, e⟩ ⟨hk, hA, hj⟩ ih
    try dsimp only at hk hA hj ih ⊢
    refine T_iload_n dX12_twofold_2 rfl ?_
    refine T_bipush dX12_twofold_3 (by decide) ?_
    refine T_icmp_ge (tgt := 23) dX12_twofold_5 (by decide) (fun c5 => ?_) (fun c5 => ?_)
    · refine T_iconst dX12_twofold_23 (by decide) ?_
      refine T_ist_n dX12_twofold_24 (by decide) rfl ?_
      have hk30 : k = 30 := by omega
      subst hk30
      refine h25 (0, e) ⟨by show (0 : Int) ≤ _; omega, hA, ⟨fun i hi => ?_, fun o f hn => ?_, fun o ho => ?_, fun o f ho hf _ => ?_⟩, fun x y _ _ _ hq _ => absurd hq (Nat.not_lt_zero _)⟩
      · try dsimp only
        rw [hj i hi]; exact ⟨by decide, by decide⟩
      · have l1 := hV.ln ha hn.1
        have l2 := hn.2
        exact Or.inl (hj _ (by omega))
      · have l1 := hV.ln ha ho
        exact Or.inl (hj _ (by omega))
      · have l1 := hV.ln ha ho
        exact hj _ (by omega)
    · refine T_aload_n dX12_twofold_8 rfl ?_
      refine T_getR dX12_twofold_9 fX12_84 rfl k271 r271_37 ?_
      refine T_iload_n dX12_twofold_12 rfl ?_
      refine T_sipush dX12_twofold_13 (by decide) ?_
      refine T_iast dX12_twofold_16 k296 l296 (by omega) (j := k) (by omega) ?_
      refine T_inc dX12_twofold_17 rfl (by decide) rfl (by omega) ?_
      refine T_goto (tgt := 2) dX12_twofold_20 (by decide) ?_
      refine ih (k + 1, up e 296 k 9999) ⟨by omega, Ag_up hA (by decide), fun j h => ?_⟩ (by omega)
      try dsimp only at h ⊢
      rcases (show j < k ∨ j = k by omega) with z | rfl
      · rw [up_nej (by omega)]; exact hj j z
      · rw [up_same]
  refine T_iconst dX12_twofold_0 (by decide) ?_
  refine T_ist_n dX12_twofold_1 (by decide) rfl ?_
  exact h2 (0, d) ⟨by omega, Ag.rf, fun j h => absurd h (Nat.not_lt_zero _)⟩

noncomputable def qUnique (w : Nat → Int) (a x : Int) : Int := if ¬ (0 ≤ a ∧ a ≤ 1) then -2 else if x = 0 then (if tfW w a.toNat = -1 then 1 else 0) else tfW w a.toNat
abbrev unC : List Nat := [296]
theorem t_X12_unique {k a x : Int} (hM : MS d) : tB G mX12_unique 0 [vR 271, vI k, vI a, vI x, vU 0] [] d (qQ d (if Vd d 0 k then qUnique (wvD d k.toNat) a x else -2) unC [10]) := by
  have c0 := hM.1 0 (by decide)
  refine T_aload_n dX12_unique_0 rfl ?_
  refine T_iload_n dX12_unique_1 rfl ?_
  refine T_callV dX12_unique_2 lX12_224 (As := [_]) (rest := _) rfl rfl k271 (by decide) (Nat.le_of_ble_eq_true rfl) (Nat.le_of_ble_eq_true rfl) (t_X12_isWar c0) ?_
  rintro _ _ (⟨hv, rfl, rfl⟩ | ⟨hv, rfl, rfl⟩)
  ·
    refine T_if_eq (tgt := 15) dX12_unique_5 (by decide) (fun c5 => ?_) (fun c5 => absurd rfl c5)
    refine T_bipush dX12_unique_15 (by decide) ?_
    exact T_ireturn dX12_unique_17 rfl ⟨by rw [if_neg hv], Ag.rf⟩
  · have hW := isWd (d := d) (k := k.toNat) (by omega)
    rw [show (k.toNat : Int) = k by omega] at hW
    rw [if_pos hv]
    have hV := hM.2.1 k.toNat (by omega)
    have hAg : Ag [] [10] d (up d 271 10 (610 + 89 * k)) := Ag_upf Ag.rf (by decide)
    generalize up d 271 10 (610 + 89 * k) = d0 at *
    generalize wvD d k.toNat = w at *
    refine T_if_eq (tgt := 15) dX12_unique_5 (by decide) (fun c5 => absurd c5 (by decide)) (fun c5 => ?_)
    refine T_iload_n dX12_unique_8 rfl ?_
    refine T_callS dX12_unique_9 lX12_218 (As := [_]) (rest := _) rfl rfl (by decide) (Nat.le_of_ble_eq_true rfl) (Nat.le_of_ble_eq_true rfl) t_X12_isArmy ?_
    rintro _ _ ⟨rfl, rfl⟩
    refine T_if_ne (tgt := 18) dX12_unique_12 (by decide) (fun c12 => ?_) (fun c12 => ?_)
    · have h12 := bI_1 c12
      obtain ⟨a, rfl⟩ : ∃ a2 : Nat, a = (a2 : Int) := ⟨a.toNat, by omega⟩
      have ha : a < 2 := by omega
      refine T_aload_n dX12_unique_18 rfl ?_
      refine T_iload_n dX12_unique_19 rfl ?_
      refine T_callV dX12_unique_20 lX12_388 (As := [_]) (rest := _) rfl rfl k271 (by decide) (Nat.le_of_ble_eq_true rfl) (Nat.le_of_ble_eq_true rfl) (t_twofold hW hV ha) ?_
      rintro _ e2 ⟨rfl, hA2⟩
      have hA2 := hAg.trans hA2 (cs := unC) (fs := [10]) (by decide) (by decide) (by decide) (by decide)
      have hq : qUnique w (a : Int) x = if x = 0 then (if tfW w a = -1 then 1 else 0) else tfW w a := by unfold qUnique; rw [if_neg (fun z => z h12), Int.toNat_natCast]
      refine T_ist dX12_unique_23 (by decide) rfl ?_
      refine T_iload_n dX12_unique_25 rfl ?_
      refine T_if_eq (tgt := 34) dX12_unique_26 (by decide) (fun c26 => ?_) (fun c26 => ?_)
      · refine T_iload dX12_unique_34 rfl ?_
        refine T_iconst dX12_unique_36 (by decide) ?_
        refine T_icmp_ne (tgt := 44) dX12_unique_37 (by decide) (fun c37 => ?_) (fun c37 => ?_)
        · refine T_iconst dX12_unique_44 (by decide) ?_
          exact T_ireturn dX12_unique_45 rfl ⟨by rw [hq, if_pos c26, if_neg c37], hA2⟩
        · refine T_iconst dX12_unique_40 (by decide) ?_
          refine T_goto (tgt := 45) dX12_unique_41 (by decide) ?_
          exact T_ireturn dX12_unique_45 rfl ⟨by rw [hq, if_pos c26, if_pos c37], hA2⟩
      · refine T_iload dX12_unique_29 rfl ?_
        refine T_goto (tgt := 45) dX12_unique_31 (by decide) ?_
        exact T_ireturn dX12_unique_45 rfl ⟨by rw [hq, if_neg c26], hA2⟩
    · refine T_bipush dX12_unique_15 (by decide) ?_
      exact T_ireturn dX12_unique_17 rfl ⟨by unfold qUnique; rw [if_pos (bI_0 c12)], hAg.mono (by decide) (by decide)⟩

end C31
