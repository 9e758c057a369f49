/-! the reference: what is played -/
theorem ups_set {d : sD} {a lo hi i : Nat} {f : Nat → Int} {x : Int} (h : lo ≤ i ∧ i < hi) : up (ups d a lo hi f) a i x = ups d a lo hi (fun j => if j = i then x else f j) := by
  funext b j
  unfold up ups
  by_cases h1 : b = a
  · subst h1
    by_cases h2 : j = i
    · subst h2
      rw [if_pos ⟨rfl, rfl⟩, if_pos ⟨rfl, h⟩]
      exact (if_pos rfl).symm
    · rw [if_neg (fun q => h2 q.2)]
      by_cases h3 : lo ≤ j ∧ j < hi
      · rw [if_pos ⟨rfl, h3⟩, if_pos ⟨rfl, h3⟩]
        exact (if_neg h2).symm
      · rw [if_neg (fun q => h3 q.2), if_neg (fun q => h3 q.2)]
  · rw [if_neg (fun q => h1 q.1), if_neg (fun q => h1 q.1), if_neg (fun q => h1 q.1)]
theorem ups_congr {d : sD} {a lo hi : Nat} {f g : Nat → Int} (h : ∀ j, lo ≤ j → j < hi → f j = g j) : ups d a lo hi f = ups d a lo hi g := by
  funext b j
  unfold ups
  by_cases h1 : b = a ∧ lo ≤ j ∧ j < hi
  · rw [if_pos h1, if_pos h1]; exact h j h1.2.1 h1.2.2
  · rw [if_neg h1, if_neg h1]
section M5
variable {G : sG} {d : sD} {w : Nat → Int}
/-- tired at the k-th beat; the sound of a beat in truth t; an echo; what sounds -/
abbrev tiP (w : Nat → Int) (k : Nat) : Prop := w 1 ≠ 0 ∧ ((k : Int) + 1) % w 1 = 0
def sndA (w : Nat → Int) (t : Nat → Int) (k : Nat) : Int := w (3 + (if tiP w k then 0 else t k)).toNat
abbrev ecP (w : Nat → Int) (s : Nat → Int) (k : Nat) : Prop := 0 < w 2 ∧ w 2 ≤ k ∧ s (k - (w 2).toNat) = 2 ∧ s k = 0
def sndB (w : Nat → Int) (t : Nat → Int) (k : Nat) : Int := if ecP w (sndA w t) k then 1 else sndA w t k
abbrev bitP (r : Int) (k : Nat) : Prop := i_and (i_shr r k) 1 = 1
def trM (d : sD) (r : Int) (k : Nat) : Int := if bitP r k then 0 else d 277 k
def plF (d : sD) (w t : Nat → Int) (n : Nat) : sD := ups (ups d 279 0 n (sndB w t)) 280 0 n (fun j => bI (ecP w (sndA w t) j))
def pl1 (d : sD) (w t : Nat → Int) (k : Nat) : sD := ups (ups d 279 0 k (sndA w t)) 280 0 k (fun _ => 0)
def pl2 (d : sD) (w t : Nat → Int) (n k : Nat) : sD := ups (ups d 279 0 n (sndA w t)) 280 0 n (fun j => if (j : Int) < w 2 + k then bI (ecP w (sndA w t) j) else 0)
def pl3 (d : sD) (w t : Nat → Int) (n k : Nat) : sD := ups (ups d 279 0 n (fun j => if j < k then sndB w t j else sndA w t j)) 280 0 n (fun j => bI (ecP w (sndA w t) j))
theorem pl3_loop {r : Int} {t : Nat → Int} {n : Nat} (hn : d 271 18 = (n : Int)) (hn24 : n ≤ 24) : ∀ k : Nat, k ≤ n → tB G mX12_plays 148 [vR 271, vI r, vI (w 2), vI k] [] (pl3 d w t n k) (fun r d' => r = none ∧ d' = plF d w t n) := by
  refine T_loop (α := Nat) 148 (fun k => [vR 271, vI r, vI (w 2), vI k]) (fun k => pl3 d w t n k) (fun k => k ≤ n) (fun k => n - k) ?_
  intro k hI ih
  have e18 : pl3 d w t n k 271 18 = (n : Int) := hn

  refine T_iload_n dX12_plays_148 rfl ?_
  refine T_aload_n dX12_plays_149 rfl ?_
  refine T_getI dX12_plays_150 fX12_243 rfl k271 ?_
  refine T_icmp_ge (tgt := 178) dX12_plays_153 (by decide) (fun c153 => ?_) (fun c153 => ?_)
  · exact T_return dX12_plays_178 rfl ⟨rfl, by rw [show k = n by omega]; unfold pl3 plF; rw [ups_congr (a := 279) (g := sndB w t) (fun j _ hj => if_pos hj)]⟩
  · refine T_aload_n dX12_plays_156 rfl ?_
    refine T_getR dX12_plays_157 fX12_35 rfl k271 r271_17 ?_
    refine T_iload_n dX12_plays_160 rfl ?_
    refine T_zald dX12_plays_161 k280 l280 (by omega) (j := k) rfl ?_
    refine T_if_eq (tgt := 172) dX12_plays_162 (by decide) (fun c162 => ?_) (fun c162 => ?_)
    all_goals have e2 : pl3 d w t n k 280 k = bI (ecP w (sndA w t) k) := ups_in ⟨by omega, by omega⟩
    all_goals rw [e2] at c162
    · refine T_inc dX12_plays_172 rfl (by decide) rfl (by omega) ?_
      refine T_goto (tgt := 148) dX12_plays_175 (by decide) ?_
      refine T_eq ?_ (ih (k + 1) (by omega) (by omega))
      unfold pl3
      rw [ups_congr (a := 279) (fun j _ hj => ?_)]
      try dsimp only
      by_cases h1 : j < k
      · rw [if_pos h1, if_pos (by omega)]
      · by_cases h2 : j = k
        · subst h2; rw [if_neg h1, if_pos (by omega)]; unfold sndB; rw [if_neg (bI_0 c162)]
        · rw [if_neg h1, if_neg (by omega)]
    · refine T_aload_n dX12_plays_165 rfl ?_
      refine T_getR dX12_plays_166 fX12_32 rfl k271 r271_16 ?_
      refine T_iload_n dX12_plays_169 rfl ?_
      refine T_iconst dX12_plays_170 (by decide) ?_
      refine T_iast dX12_plays_171 k279 l279 (by omega) (j := k) rfl ?_
      refine T_inc dX12_plays_172 rfl (by decide) rfl (by omega) ?_
      refine T_goto (tgt := 148) dX12_plays_175 (by decide) ?_
      refine T_eq ?_ (ih (k + 1) (by omega) (by omega))
      unfold pl3
      rw [up_ups (Or.inl (by decide)), ups_set ⟨by omega, by omega⟩, ups_congr (a := 279) (fun j _ hj => ?_)]
      try dsimp only
      by_cases h2 : j = k
      · subst h2; rw [if_pos rfl, if_pos (by omega)]; unfold sndB; rw [if_pos (bI_1 c162)]
      · rw [if_neg h2]
        by_cases h1 : j < k
        · rw [if_pos h1, if_pos (by omega)]
        · rw [if_neg h1, if_neg (by omega)]

theorem pl2_loop {r : Int} {t : Nat → Int} {n : Nat} (hV : WV w) (hn : d 271 18 = (n : Int)) (hn24 : n ≤ 24) : ∀ k : Nat, k ≤ n → tB G mX12_plays 92 [vR 271, vI r, vI (w 2), vI k] [] (pl2 d w t n k) (fun r d' => r = none ∧ d' = plF d w t n) := by
  refine T_loop (α := Nat) 92 (fun k => [vR 271, vI r, vI (w 2), vI k]) (fun k => pl2 d w t n k) (fun k => k ≤ n) (fun k => n - k) ?_
  intro k hI ih
  have e18 : pl2 d w t n k 271 18 = (n : Int) := hn
  have h2 := hV.2.2.1
  have hx : ((n : Int) ≤ k + w 2 ∨ w 2 ≤ 0) → pl2 d w t n k = pl3 d w t n 0 := by
    intro hh
    unfold pl2 pl3
    rw [ups_congr (a := 280) (g := fun j => bI (ecP w (sndA w t) j)) (fun j _ hj => ?_)]
    · rw [ups_congr (a := 279) (f := sndA w t) (g := fun j => if j < 0 then sndB w t j else sndA w t j) (fun j _ hj => (if_neg (by omega)).symm)]
    · try dsimp only
      split
      · rfl
      · rw [bI_f (fun q => by omega)]
  have hstep : ∀ y : Int, y = bI (ecP w (sndA w t) ((w 2).toNat + k)) → 0 < w 2 → (k : Int) + w 2 < n → up (pl2 d w t n k) 280 ((k : Int) + w 2).toNat y = pl2 d w t n (k + 1) := by
    intro y hy hp hlt
    unfold pl2
    rw [show ((k : Int) + w 2).toNat = (w 2).toNat + k by omega, ups_set ⟨by omega, by omega⟩, ups_congr (a := 280) (fun j _ hj => ?_)]
    try dsimp only
    by_cases e : j = (w 2).toNat + k
    · subst e; rw [if_pos rfl, if_pos (by omega), hy]
    · rw [if_neg e]
      by_cases h1 : (j : Int) < w 2 + k
      · rw [if_pos h1, if_pos (by omega)]
      · rw [if_neg h1, if_neg (by omega)]
  have es : ∀ j, j < n → pl2 d w t n k 279 j = sndA w t j := fun j hj => (ups_nea (by decide)).trans (ups_in ⟨by omega, by omega⟩)

  refine T_iload_n dX12_plays_92 rfl ?_
  refine T_iload_n dX12_plays_93 rfl ?_
  refine T_add dX12_plays_94 (by omega) ?_
  refine T_aload_n dX12_plays_95 rfl ?_
  refine T_getI dX12_plays_96 fX12_243 rfl k271 ?_
  refine T_icmp_ge (tgt := 146) dX12_plays_99 (by decide) (fun c99 => ?_) (fun c99 => ?_)
  · refine T_iconst dX12_plays_146 (by decide) ?_
    refine T_ist_n dX12_plays_147 (by decide) rfl ?_
    rw [hx (by omega)]
    exact pl3_loop hn hn24 0 (by omega)
  · refine T_iload_n dX12_plays_102 rfl ?_
    refine T_if_le (tgt := 146) dX12_plays_103 (by decide) (fun c103 => ?_) (fun c103 => ?_)
    · refine T_iconst dX12_plays_146 (by decide) ?_
      refine T_ist_n dX12_plays_147 (by decide) rfl ?_
      rw [hx (by omega)]
      exact pl3_loop hn hn24 0 (by omega)
    · have hj : ∀ y : Int, y = bI (ecP w (sndA w t) ((w 2).toNat + k)) → (y = 0 ∨ y = 1) → tB G mX12_plays 139 [vR 271, vI r, vI (w 2), vI k] [vI y, vI ((k : Int) + w 2), vR 280] (pl2 d w t n k) (fun r d' => r = none ∧ d' = plF d w t n) := by
        intro y hy hz
        refine T_zast dX12_plays_139 k280 l280 (by omega) rfl hz ?_
        refine T_inc dX12_plays_140 rfl (by decide) rfl (by omega) ?_
        refine T_goto (tgt := 92) dX12_plays_143 (by decide) ?_
        refine T_eq (hstep _ hy (by omega) (by omega)) (ih (k + 1) (by omega) (by omega))
      refine T_aload_n dX12_plays_106 rfl ?_
      refine T_getR dX12_plays_107 fX12_35 rfl k271 r271_17 ?_
      refine T_iload_n dX12_plays_110 rfl ?_
      refine T_iload_n dX12_plays_111 rfl ?_
      refine T_add dX12_plays_112 (by omega) ?_
      refine T_aload_n dX12_plays_113 rfl ?_
      refine T_getR dX12_plays_114 fX12_32 rfl k271 r271_16 ?_
      refine T_iload_n dX12_plays_117 rfl ?_
      refine T_iald dX12_plays_118 k279 l279 (by omega) (j := k) rfl ?_
      refine T_iconst dX12_plays_119 (by decide) ?_
      refine T_icmp_ne (tgt := 138) dX12_plays_120 (by decide) (fun c120 => ?_) (fun c120 => ?_)
      · refine T_iconst dX12_plays_138 (by decide) ?_
        exact hj 0 (by
        rw [es k (by omega)] at c120
        rw [bI_f (fun q => c120 (by have := q.2.2.1; rwa [show (w 2).toNat + k - (w 2).toNat = k by omega] at this))]) (Or.inl rfl)
      · refine T_aload_n dX12_plays_123 rfl ?_
        refine T_getR dX12_plays_124 fX12_32 rfl k271 r271_16 ?_
        refine T_iload_n dX12_plays_127 rfl ?_
        refine T_iload_n dX12_plays_128 rfl ?_
        refine T_add dX12_plays_129 (by omega) ?_
        refine T_iald dX12_plays_130 k279 l279 (by omega) rfl ?_
        refine T_if_ne (tgt := 138) dX12_plays_131 (by decide) (fun c131 => ?_) (fun c131 => ?_)
        · refine T_iconst dX12_plays_138 (by decide) ?_
          exact hj 0 (by
          rw [es _ (by omega), show ((k : Int) + w 2).toNat = (w 2).toNat + k by omega] at c131
          rw [bI_f (fun q => c131 q.2.2.2)]) (Or.inl rfl)
        · refine T_iconst dX12_plays_134 (by decide) ?_
          refine T_goto (tgt := 139) dX12_plays_135 (by decide) ?_
          exact hj 1 (by
          rw [es k (by omega)] at c120
          rw [es _ (by omega), show ((k : Int) + w 2).toNat = (w 2).toNat + k by omega] at c131
          rw [bI_t ⟨by omega, by omega, by rw [show (w 2).toNat + k - (w 2).toNat = k by omega]; exact c120, c131⟩]) (Or.inr rfl)

end M5
