/-! the reference: readings -/
section M30
variable {G : sG} {d : sD} {w g s : Nat → Int} {n a : Nat}
/-- in how many ways the beats heard from a place on are orders (by fuel); by how few -/
def rdF (w s : Nat → Int) (n a N : Nat) : Nat → Nat → Int
  | 0, i => if i = N then 1 else 0
  | f + 1, i => if i = N then 1 else sumN (fun o => if isF w s n a o i then rdF w s n a N f (i + lnW w a o) else 0) (w (15 + a)).toNat
def mnO (p : Nat → Prop) [DecidablePred p] (f : Nat → Int) : Nat → Int
  | 0 => 999
  | o + 1 => if p o then min (mnO p f o) (1 + f o) else mnO p f o
def fwF (w s : Nat → Int) (n a N : Nat) : Nat → Nat → Int
  | 0, i => if i = N then 0 else 999
  | f + 1, i => if i = N then 0 else mnO (fun o => isF w s n a o i) (fun o => fwF w s n a N f (i + lnW w a o)) (w (15 + a)).toNat
theorem mnO_congr {p : Nat → Prop} [DecidablePred p] {f f' : Nat → Int} : ∀ m, (∀ o, o < m → p o → f o = f' o) → mnO p f m = mnO p f' m
  | 0, _ => rfl
  | m + 1, h => by
    have ih := mnO_congr (p := p) (f := f) (f' := f') m (fun o ho hp => h o (by omega) hp)
    show (if p m then _ else _) = if p m then _ else _
    by_cases q : p m
    · rw [if_pos q, if_pos q, ih, h m (by omega) q]
    · rw [if_neg q, if_neg q, ih]
theorem mnO_rg {p : Nat → Prop} [DecidablePred p] {f : Nat → Int} : ∀ m, (∀ o, o < m → p o → 0 ≤ f o) → 0 ≤ mnO p f m ∧ mnO p f m ≤ 999
  | 0, _ => by show (0 : Int) ≤ 999 ∧ (999 : Int) ≤ 999; omega
  | m + 1, h => by
    have ih := mnO_rg (p := p) (f := f) m (fun o ho hp => h o (by omega) hp)
    show 0 ≤ (if p m then min (mnO p f m) (1 + f m) else mnO p f m) ∧ (if p m then min (mnO p f m) (1 + f m) else mnO p f m) ≤ 999
    by_cases q : p m
    · have := h m (by omega) q
      rw [if_pos q]; omega
    · rw [if_neg q]; omega
/-- an order from a place ends by the last beat heard -/
theorem isF_end (hV : WV w) {N o i : Nat} (ha : a < 2) (hN : hnS w n a = (N : Int)) (ho : (o : Int) < w (15 + a)) (h : isF w s n a o i) : 1 ≤ lnW w a o ∧ lnW w a o ≤ 4 ∧ i + lnW w a o ≤ N := by
  have l := hV.ln ha ho
  have h1 := h.1
  omega
theorem rdF_st (hV : WV w) {N : Nat} (ha : a < 2) (hN : hnS w n a = (N : Int)) : ∀ m i f f' : Nat, N - i ≤ m → i ≤ N → N - i ≤ f → N - i ≤ f' → rdF w s n a N f i = rdF w s n a N f' i ∧ fwF w s n a N f i = fwF w s n a N f' i
  | m, i, f, f', hm, hi, hf, hf' => by
    by_cases hiN : i = N
    · subst hiN
      refine ⟨?_, ?_⟩ <;> cases f <;> cases f' <;> (first | rfl | (show (if _ then _ else _) = _; rw [if_pos rfl]; try (show _ = if _ then _ else _; rw [if_pos rfl])))
    · cases m with
      | zero => omega
      | succ m =>
        obtain ⟨f, rfl⟩ : ∃ z, f = z + 1 := ⟨f - 1, by omega⟩
        obtain ⟨f', rfl⟩ : ∃ z, f' = z + 1 := ⟨f' - 1, by omega⟩
        have hwa := (hV.a ha).2.2.2.2
        refine ⟨?_, ?_⟩
        · show (if _ then _ else _) = if _ then _ else _
          rw [if_neg hiN, if_neg hiN]
          refine sumN_congr (fun o ho => ?_)
          by_cases q : isF w s n a o i
          · have e := isF_end hV ha hN (by omega) q
            rw [if_pos q, if_pos q]
            exact (rdF_st hV ha hN m (i + lnW w a o) f f' (by omega) (by omega) (by omega) (by omega)).1
          · rw [if_neg q, if_neg q]
        · show (if _ then _ else _) = if _ then _ else _
          rw [if_neg hiN, if_neg hiN]
          refine mnO_congr _ (fun o ho q => ?_)
          have e := isF_end hV ha hN (by omega) q
          exact (rdF_st hV ha hN m (i + lnW w a o) f f' (by omega) (by omega) (by omega) (by omega)).2
abbrev rdS (w s : Nat → Int) (n a N i : Nat) : Int := rdF w s n a N (N - i) i
abbrev fwS (w s : Nat → Int) (n a N i : Nat) : Int := fwF w s n a N (N - i) i
abbrev rdO (w s : Nat → Int) (n a N i : Nat) : Nat → Int := sumN (fun o => if isF w s n a o i then rdS w s n a N (i + lnW w a o) else 0)
abbrev fwO (w s : Nat → Int) (n a N i : Nat) : Nat → Int := mnO (fun o => isF w s n a o i) (fun o => fwS w s n a N (i + lnW w a o))
theorem rdS_N {N : Nat} : rdS w s n a N N = 1 := by show rdF w s n a N (N - N) N = 1; rw [Nat.sub_self]; exact if_pos rfl
theorem fwS_N {N : Nat} : fwS w s n a N N = 0 := by show fwF w s n a N (N - N) N = 0; rw [Nat.sub_self]; exact if_pos rfl
theorem rdS_i (hV : WV w) {N i : Nat} (ha : a < 2) (hN : hnS w n a = (N : Int)) (hi : i < N) : rdS w s n a N i = rdO w s n a N i (w (15 + a)).toNat ∧ fwS w s n a N i = fwO w s n a N i (w (15 + a)).toNat := by
  have hwa := (hV.a ha).2.2.2.2
  obtain ⟨f, hf⟩ : ∃ z, N - i = z + 1 := ⟨N - i - 1, by omega⟩
  refine ⟨?_, ?_⟩
  · show rdF w s n a N (N - i) i = _
    rw [hf]; show (if _ then _ else _) = _
    rw [if_neg (by omega)]
    refine sumN_congr (fun o ho => ?_)
    by_cases q : isF w s n a o i
    · have e := isF_end hV ha hN (by omega) q
      rw [if_pos q, if_pos q]
      exact (rdF_st hV ha hN (N - (i + lnW w a o)) (i + lnW w a o) f (N - (i + lnW w a o)) (by omega) (by omega) (by omega) (by omega)).1
    · rw [if_neg q, if_neg q]
  · show fwF w s n a N (N - i) i = _
    rw [hf]; show (if _ then _ else _) = _
    rw [if_neg (by omega)]
    refine mnO_congr _ (fun o ho q => ?_)
    have e := isF_end hV ha hN (by omega) q
    exact (rdF_st hV ha hN (N - (i + lnW w a o)) (i + lnW w a o) f (N - (i + lnW w a o)) (by omega) (by omega) (by omega) (by omega)).2
theorem sumN_le {f : Nat → Int} {B : Int} : ∀ m : Nat, (∀ o, o < m → 0 ≤ f o ∧ f o ≤ B) → 0 ≤ sumN f m ∧ sumN f m ≤ m * B
  | 0, _ => by show (0 : Int) ≤ 0 ∧ (0 : Int) ≤ 0 * B; omega
  | m + 1, h => by
    have ih := sumN_le m (fun o ho => h o (by omega))
    have h2 := h m (by omega)
    show 0 ≤ sumN f m + f m ∧ sumN f m + f m ≤ _
    rw [show ((m + 1 : Nat) : Int) * B = (m : Int) * B + B by rw [show ((m + 1 : Nat) : Int) = (m : Int) + 1 by omega, Int.add_mul, Int.one_mul]]
    omega
theorem pow6 : ∀ k : Nat, (6 : Int) ^ (k + 1) = 6 * 6 ^ k := fun k => by rw [Int.pow_succ, Int.mul_comm]
theorem pow6_pos : ∀ k : Nat, 1 ≤ (6 : Int) ^ k
  | 0 => by decide
  | k + 1 => by have := pow6_pos k; rw [pow6]; omega
theorem pow6_le : ∀ {j k : Nat}, j ≤ k → (6 : Int) ^ j ≤ 6 ^ k
  | j, 0, h => by rw [show j = 0 by omega]; exact Int.le_refl _
  | j, k + 1, h => by
    rcases (show j ≤ k ∨ j = k + 1 by omega) with z | rfl
    · have h1 := pow6_le z
      have := pow6_pos k
      rw [pow6]; omega
    · exact Int.le_refl _
theorem rdS_rg (hV : WV w) {N : Nat} (ha : a < 2) (hN : hnS w n a = (N : Int)) : ∀ m i : Nat, N - i ≤ m → i ≤ N → (0 ≤ rdS w s n a N i ∧ rdS w s n a N i ≤ 6 ^ (N - i)) ∧ 0 ≤ fwS w s n a N i ∧ fwS w s n a N i ≤ 999
  | m, i, hm, hi => by
    by_cases hiN : i = N
    · rw [hiN, rdS_N, fwS_N, Nat.sub_self]; exact ⟨⟨by decide, by decide⟩, by decide, by decide⟩
    · cases m with
      | zero => omega
      | succ m =>
        have hwa := (hV.a ha).2.2.2.2
        obtain ⟨e1, e2⟩ := rdS_i (s := s) hV ha hN (i := i) (by omega)
        rw [e1, e2]
        refine ⟨?_, mnO_rg _ (fun o ho q => ?_)⟩
        · have hs := sumN_le (f := fun o => if isF w s n a o i then rdS w s n a N (i + lnW w a o) else 0) (B := 6 ^ (N - i - 1)) (w (15 + a)).toNat (fun o ho => by
            by_cases q : isF w s n a o i
            · have e := isF_end hV ha hN (by omega) q
              have ih := (rdS_rg hV ha hN m (i + lnW w a o) (by omega) (by omega)).1
              rw [if_pos q]
              exact ⟨ih.1, Int.le_trans ih.2 (pow6_le (by omega))⟩
            · rw [if_neg q]; have := pow6_pos (N - i - 1); omega)
          refine ⟨hs.1, Int.le_trans hs.2 ?_⟩
          rw [show N - i = (N - i - 1) + 1 by omega, pow6, Nat.add_sub_cancel]
          exact Int.mul_le_mul_of_nonneg_right (by omega) (by have := pow6_pos (N - i - 1); omega)
        · have e := isF_end hV ha hN (by omega) q
          exact (rdS_rg hV ha hN m (i + lnW w a o) (by omega) (by omega)).2.1

end M30
