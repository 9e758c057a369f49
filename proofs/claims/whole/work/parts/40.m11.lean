/-! the reference: a war and a score are played; what is told of texts -/
section M11
variable {G : sG} {d : sD} {w g : Nat → Int}
def wvD (d : sD) (k : Nat) : Nat → Int := fun x => d 272 (610 + 89 * k + x)
def gvD (d : sD) (k : Nat) : Nat → Int := fun x => d 272 (788 + 26 * k + x)
def hvD (d : sD) (k : Nat) : Nat → Int := fun x => d 272 (840 + 14 * k + x)
def vvD (d : sD) (k : Nat) : Nat → Int := fun x => d 272 (868 + 33 * k + x)
/-- a hearing's, a row of villages' bounds -/
def HV (h : Nat → Int) : Prop := ∀ a : Nat, a < 2 → (-1 ≤ h a ∧ h a ≤ 6) ∧ ∀ k : Nat, (k : Int) < h a → 0 ≤ h (2 + 6 * a + k) ∧ h (2 + 6 * a + k) ≤ 4
def VV (v : Nat → Int) : Prop := (0 ≤ v 0 ∧ v 0 ≤ 8) ∧ ∀ k : Nat, (k : Int) < v 0 → (v (1 + 4 * k) = 8 ∨ (0 ≤ v (1 + 4 * k) ∧ v (1 + 4 * k) < k)) ∧ (0 ≤ v (2 + 4 * k) ∧ v (2 + 4 * k) ≤ 3) ∧ (v (2 + 4 * k) = 0 → 1 ≤ v (3 + 4 * k) ∧ v (3 + 4 * k) ≤ 9) ∧ (v (2 + 4 * k) = 1 ∨ v (2 + 4 * k) = 2 → 0 ≤ v (3 + 4 * k) ∧ v (3 + 4 * k) ≤ 3) ∧ (v (2 + 4 * k) = 1 → 0 ≤ v (4 + 4 * k) ∧ v (4 + 4 * k) ≤ 3)
/-- the reference's texts at hand are in their bounds -/
def MS (d : sD) : Prop := (∀ s, s < 4 → 0 ≤ d 272 s ∧ d 272 s ≤ 2) ∧ (∀ k : Nat, (k : Int) < d 272 0 → WV (wvD d k)) ∧ (∀ k : Nat, (k : Int) < d 272 1 → GV (gvD d k)) ∧ (∀ k : Nat, (k : Int) < d 272 2 → HV (hvD d k)) ∧ ∀ k : Nat, (k : Int) < d 272 3 → VV (vvD d k)
theorem isWd {k : Nat} (hk : k < 2) : Wd (up d 271 10 (610 + 89 * (k : Int))) (wvD d k) := ⟨610 + 89 * k, by rw [up_same]; omega, by omega, fun x _ => by rw [up_nea (by decide)]; rfl⟩
theorem isGd {k : Nat} (hk : k < 2) : Gd (up d 271 11 (788 + 26 * (k : Int))) (gvD d k) := ⟨788 + 26 * k, by rw [up_same]; omega, by omega, fun x _ => by rw [up_nea (by decide)]; rfl⟩
theorem wvD_ag {cs fs : List Nat} {d d' : sD} (h : Ag cs fs d d') (h1 : 272 ∉ cs) (k : Nat) : wvD d' k = wvD d k := funext fun x => h.1 272 _ h1 (by decide)
theorem gvD_ag {cs fs : List Nat} {d d' : sD} (h : Ag cs fs d d') (h1 : 272 ∉ cs) (k : Nat) : gvD d' k = gvD d k := funext fun x => h.1 272 _ h1 (by decide)
theorem sndA_congr {t t' : Nat → Int} {j : Nat} (h : t j = t' j) : sndA w t j = sndA w t' j := by unfold sndA; rw [h]
theorem ecP_congr {t t' : Nat → Int} {n j : Nat} (h : ∀ i, i < n → t i = t' i) (hj : j < n) : ecP w (sndA w t) j ↔ ecP w (sndA w t') j := by
  unfold ecP
  rw [sndA_congr (h j hj), sndA_congr (h (j - (w 2).toNat) (by omega))]
theorem sndB_congr {t t' : Nat → Int} {n j : Nat} (h : ∀ i, i < n → t i = t' i) (hj : j < n) : sndB w t j = sndB w t' j := by
  unfold sndB
  by_cases q : ecP w (sndA w t) j
  · rw [if_pos q, if_pos ((ecP_congr h hj).mp q)]
  · rw [if_neg q, if_neg (fun z => q ((ecP_congr h hj).mpr z)), sndA_congr (h j hj)]
theorem bI_congr {p q : Prop} [Decidable p] [Decidable q] (h : p ↔ q) : bI p = bI q := by
  by_cases hp : p
  · rw [bI_t hp, bI_t (h.mp hp)]
  · rw [bI_f hp, bI_f (fun z => hp (h.mpr z))]
theorem bit0 : ∀ k, k < 24 → ¬ bitP 0 k := by decide +kernel
/-- what sounds: the row's beats as they are in truth, by what is played -/
def Snd (d : sD) (w t : Nat → Int) (n : Nat) : Prop := ∀ j, j < n → d 279 j = sndB w t j ∧ d 280 j = bI (ecP w (sndA w t) j)
theorem t_playsS {r : Int} {n : Nat} {t : Nat → Int} (hW : Wd d w) (hV : WV w) (hn : d 271 18 = (n : Int)) (hn24 : n ≤ 24) (hr : ∀ j, j < n → 0 ≤ d 277 j ∧ d 277 j ≤ 3) (ht : ∀ j, j < n → trM d r j = t j) : tB G mX12_plays 0 [vR 271, vI r, vU 0, vU 0] [] d (fun r2 d' => r2 = none ∧ Snd d' w t n ∧ Ag [279, 280] [] d d') := by
  refine tB.mono (t_plays hW hV hn hn24 hr) (fun r2 d' q => ⟨q.1, ?_, ?_⟩)
  · rw [q.2]
    intro j hj
    refine ⟨?_, ?_⟩
    · unfold plF
      rw [ups_nea (by decide), ups_in ⟨by omega, hj⟩]; exact sndB_congr ht hj
    · unfold plF
      rw [ups_in ⟨by omega, hj⟩]; exact bI_congr (ecP_congr ht hj)
  · rw [q.2]; exact Ag_ups (Ag_ups Ag.rf (by decide)) (by decide)
def rB (w g : Nat → Int) (j : Nat) : Int := ((rowS w g).getD j (0, 0)).1
theorem seg_rg {t m : Nat} {x : Nat → Int} {c : Int} (h : ∀ k, k < m → 0 ≤ x k ∧ x k ≤ 3) {q : Nat} : ∀ z ∈ (List.range (min t (m - t * q))).map (fun k => (x (t * q + k), c)), 0 ≤ z.1 ∧ z.1 ≤ 3 := by
  intro z hz
  obtain ⟨k, hk, rfl⟩ := List.mem_map.mp hz
  have := List.mem_range.mp hk
  exact h _ (by omega)
theorem layP_rg {t m0 m1 : Nat} {x y : Nat → Int} (hx : ∀ k, k < m0 → 0 ≤ x k ∧ x k ≤ 3) (hy : ∀ k, k < m1 → 0 ≤ y k ∧ y k ≤ 3) : ∀ q, ∀ z ∈ layP t m0 m1 x y q, 0 ≤ z.1 ∧ z.1 ≤ 3
  | 0, z, hz => by cases hz
  | q + 1, z, hz => by
    rcases List.mem_append.mp hz with h | h
    · exact layP_rg hx hy q z h
    · rcases List.mem_append.mp h with h | h
      · exact seg_rg hx z h
      · exact seg_rg hy z h
theorem getD_rg {R : List (Int × Int)} (h : ∀ z ∈ R, 0 ≤ z.1 ∧ z.1 ≤ 3) (j : Nat) : 0 ≤ (R.getD j (0, 0)).1 ∧ (R.getD j (0, 0)).1 ≤ 3 := by
  rw [List.getD_eq_getElem?_getD]
  cases hq : R[j]? with
  | none => exact ⟨by decide, by decide⟩
  | some z => exact h z (List.mem_of_getElem? hq)
theorem rB_rg (hG : GV g) (j : Nat) : 0 ≤ rB w g j ∧ rB w g j ≤ 3 := by
  have h0 := hG 0 (by decide)
  have h1 := hG 1 (by decide)
  refine getD_rg (layP_rg (fun k hk => ?_) (fun k hk => ?_) 12) j
  · have := h0.2 k (by omega); rwa [show 2 + 12 * 0 + k = 2 + k by omega] at this
  · exact h1.2 k (by omega)
/-- a war and a score stand played -/
def Pyd (d : sD) (w g : Nat → Int) : Prop := Wd d w ∧ Laid d (rowS w g) ∧ Snd d w (rB w g) (rowS w g).length
abbrev apQ (d : sD) (k l : Int) : Option sV → sD → Prop := fun r d' => (¬ ((0 ≤ k ∧ k ≤ d 272 0 - 1) ∧ 0 ≤ l ∧ l ≤ d 272 1 - 1) ∧ r = some (vI 0) ∧ Ag [] [10, 11] d d') ∨ (((0 ≤ k ∧ k ≤ d 272 0 - 1) ∧ 0 ≤ l ∧ l ≤ d 272 1 - 1) ∧ r = some (vI 1) ∧ Pyd d' (wvD d k.toNat) (gvD d l.toNat) ∧ Ag [275, 276, 277, 278, 279, 280] [10, 11, 18] d d')

theorem t_arePlayed {k l : Int} (hM : MS d) : tB G mX12_arePlayed 0 [vR 271, vI k, vI l] [] d (apQ d k l) := by
  have c0 := hM.1 0 (by decide)
  have c1 := hM.1 1 (by decide)
  refine T_aload_n dX12_arePlayed_0 rfl ?_
  refine T_iload_n dX12_arePlayed_1 rfl ?_
  refine T_callV dX12_arePlayed_2 lX12_224 (As := [_]) (rest := _) rfl rfl k271 (by decide) (Nat.le_of_ble_eq_true rfl) (Nat.le_of_ble_eq_true rfl) (t_X12_isWar c0) ?_
  rintro _ _ (⟨hv, rfl, rfl⟩ | ⟨hv, rfl, rfl⟩)
  ·
    refine T_if_eq (tgt := 16) dX12_arePlayed_5 (by decide) (fun c5 => ?_) (fun c5 => absurd rfl c5)
    refine T_iconst dX12_arePlayed_16 (by decide) ?_
    exact T_zreturn dX12_arePlayed_17 rfl (by omega) (Or.inl ⟨fun q => hv q.1, rfl, Ag.rf⟩)
  · have hWd := isWd (d := d) (k := k.toNat) (by omega)
    rw [show (k.toNat : Int) = k by omega] at hWd
    have hV := hM.2.1 k.toNat (by omega)
    refine T_if_eq (tgt := 16) dX12_arePlayed_5 (by decide) (fun c5 => absurd c5 (by decide)) (fun c5 => ?_)
    refine T_aload_n dX12_arePlayed_8 rfl ?_
    refine T_iload_n dX12_arePlayed_9 rfl ?_
    refine T_callV dX12_arePlayed_10 lX12_240 (As := [_]) (rest := _) rfl rfl k271 (by decide) (Nat.le_of_ble_eq_true rfl) (Nat.le_of_ble_eq_true rfl) (t_X12_isScore (by rw [up_nea (by decide)]; exact c1)) ?_
    rintro _ _ (⟨hv2, rfl, rfl⟩ | ⟨hv2, rfl, rfl⟩)
    all_goals rw [up_nea (by decide)] at hv2
    ·
      refine T_if_ne (tgt := 18) dX12_arePlayed_13 (by decide) (fun c13 => absurd rfl c13) (fun c13 => ?_)
      refine T_iconst dX12_arePlayed_16 (by decide) ?_
      exact T_zreturn dX12_arePlayed_17 rfl (by omega) (Or.inl ⟨fun q => hv2 q.2, rfl, Ag_upf Ag.rf (by decide)⟩)
    · have hA1 : Ag [] [10] d (up d 271 10 (610 + 89 * k)) := Ag_upf Ag.rf (by decide)
      have hA2 : Ag [] [11] (up d 271 10 (610 + 89 * k)) (up (up d 271 10 (610 + 89 * k)) 271 11 (788 + 26 * l)) := Ag_upf Ag.rf (by decide)
      have hW2 := Wd_ag hWd hA2 (by decide) (by decide)
      have hG2 := isGd (d := up d 271 10 (610 + 89 * k)) (k := l.toNat) (by omega)
      rw [show (l.toNat : Int) = l by omega, gvD_ag hA1 (by decide)] at hG2
      have hGV := hM.2.2.1 l.toNat (by omega)
      have g0 := (hGV 0 (by decide)).1
      have g1 := (hGV 1 (by decide)).1
      have hlen := rowS_len hV hGV
      refine T_if_ne (tgt := 18) dX12_arePlayed_13 (by decide) (fun c13 => ?_) (fun c13 => absurd c13 (by decide))
      refine T_aload_n dX12_arePlayed_18 rfl ?_
      refine T_callV dX12_arePlayed_19 lX12_249 (As := []) (rest := _) rfl rfl k271 (by decide) (Nat.le_of_ble_eq_true rfl) (Nat.le_of_ble_eq_true rfl) (t_takesScore hW2 hV hG2 hGV) ?_
      rintro _ d3 ⟨rfl, hL3, hA3, _⟩
      have hW3 := Wd_ag hW2 hA3 (by decide) (by decide)
      refine T_aload_n dX12_arePlayed_22 rfl ?_
      refine T_iconst dX12_arePlayed_23 (by decide) ?_
      refine T_callV dX12_arePlayed_24 lX12_252 (As := [_]) (rest := _) rfl rfl k271 (by decide) (Nat.le_of_ble_eq_true rfl) (Nat.le_of_ble_eq_true rfl) (t_playsS hW3 hV hL3.1 (by omega) (fun j hj => by rw [(hL3.2 j hj).1]; exact rB_rg hGV j) (fun j hj => by unfold trM; rw [if_neg (bit0 j (by omega)), (hL3.2 j hj).1])) ?_
      rintro _ d4 ⟨rfl, hS4, hA4⟩
      refine T_iconst dX12_arePlayed_27 (by decide) ?_
      exact T_zreturn dX12_arePlayed_28 rfl (by omega) (Or.inr ⟨⟨hv, hv2⟩, rfl, ⟨Wd_ag hW3 hA4 (by decide) (by decide), ⟨(hA4.2 18 (by decide)).trans hL3.1, fun j hj => ⟨(hA4.1 277 j (by decide) (by decide)).trans (hL3.2 j hj).1, (hA4.1 278 j (by decide) (by decide)).trans (hL3.2 j hj).2⟩⟩, hS4⟩, Ag.trans (Ag.trans (cs := []) (fs := [10, 11]) hA1 hA2 (by decide) (by decide) (by decide) (by decide)) (Ag.trans (cs := [275, 276, 277, 278, 279, 280]) (fs := [18]) hA3 hA4 (by decide) (by decide) (by decide) (by decide)) (by decide) (by decide) (by decide) (by decide)⟩)

end M11
