/-! the reference: what the villages repeat -/
section M26
variable {G : sG} {d : sD} {w g v x y : Nat → Int} {L acc src : List Int}
def cap1 (acc : List Int) (y : Int) : List Int := if acc.length < 60 then acc ++ [y] else acc
def chI (k a b : Int) (n i : Nat) (x : Int) (acc : List Int) : List Int := if (k = 0 ∧ ((i : Int) + 1) % a = 0) ∨ (k = 3 ∧ (i : Int) = (n : Int) - 1) then acc else if k = 2 ∧ x = a then cap1 (cap1 acc (if k = 1 ∧ x = a then b else if k = 1 ∧ x = b then a else x)) x else cap1 acc (if k = 1 ∧ x = a then b else if k = 1 ∧ x = b then a else x)
def chN (k a b : Int) (L : List Int) : Nat → List Int
  | 0 => []
  | i + 1 => chI k a b L.length i (L.getD i 0) (chN k a b L i)
/-- a village's version of what it heard -/
def chL (v : Nat → Int) (q : Nat) (L : List Int) : List Int := chN (v (2 + 4 * q)) (v (3 + 4 * q)) (v (4 + 4 * q)) L L.length
def Vl (v : Nat → Int) (src : List Int) : Nat → Nat → List Int
  | 0 => fun _ => []
  | K + 1 => fun j => if j = K then chL v K (if v (1 + 4 * K) = 8 then src else Vl v src K (v (1 + 4 * K)).toNat) else Vl v src K j
theorem cap1_len (h : acc.length ≤ 60) {y : Int} : (cap1 acc y).length ≤ 60 := by
  unfold cap1; split
  · rw [List.length_append]; show acc.length + 1 ≤ 60; omega
  · exact h
theorem chI_len {k a b : Int} {n i : Nat} {x : Int} (h : acc.length ≤ 60) : (chI k a b n i x acc).length ≤ 60 := by
  unfold chI; split
  · exact h
  · split
    · exact cap1_len (cap1_len h)
    · exact cap1_len h
theorem chN_len {k a b : Int} : ∀ i, (chN k a b L i).length ≤ 60
  | 0 => Nat.zero_le _
  | i + 1 => chI_len (chN_len i)
theorem Vl_len : ∀ K j, (Vl v src K j).length ≤ 60
  | 0, _ => Nat.zero_le _
  | K + 1, j => by
    show (if j = K then chL v K _ else Vl v src K j).length ≤ 60
    split
    · exact chN_len _
    · exact Vl_len K j
theorem getD_lt {i : Nat} {y : Int} (h : i < acc.length) : (acc ++ [y]).getD i 0 = acc.getD i 0 := by
  rw [List.getD_eq_getElem?_getD, List.getD_eq_getElem?_getD, List.getElem?_append_left h]
theorem getD_eq {y : Int} : (acc ++ [y]).getD acc.length 0 = y := by
  rw [List.getD_eq_getElem?_getD, List.getElem?_append_right (Nat.le_refl _), Nat.sub_self]; rfl
def Vk (d : sD) (k : Nat) (acc : List Int) : Prop := d 291 k = (acc.length : Int) ∧ ∀ i, i < acc.length → d 290 (60 * k + i) = acc.getD i 0
def AdF (k : Nat) (d d' : sD) : Prop := Ag [290, 291] [] d d' ∧ (∀ j, j ≠ k → d' 291 j = d 291 j) ∧ ∀ j, (j < 60 * k ∨ 60 * k + 60 ≤ j) → d' 290 j = d 290 j
theorem AdF.rf {k : Nat} : AdF k d d := ⟨Ag.rf, fun _ _ => rfl, fun _ _ => rfl⟩
theorem AdF.trans {k : Nat} {d d1 d2 : sD} (h : AdF k d d1) (h2 : AdF k d1 d2) : AdF k d d2 := ⟨h.1.trans h2.1 (by decide) (by decide) (by decide) (by decide), fun j hj => (h2.2.1 j hj).trans (h.2.1 j hj), fun j hj => (h2.2.2 j hj).trans (h.2.2 j hj)⟩
theorem t_adds {k : Nat} {y : Int} (hk : k < 8) (hl : acc.length ≤ 60) (h : Vk d k acc) : tB G mX12_adds 0 [vR 271, vI k, vI y] [] d (fun r d' => r = none ∧ Vk d' k (cap1 acc y) ∧ AdF k d d') := by
  refine T_aload_n dX12_adds_0 rfl ?_
  refine T_getR dX12_adds_1 fX12_68 rfl k271 r271_31 ?_
  refine T_iload_n dX12_adds_4 rfl ?_
  refine T_ialdv dX12_adds_5 k291 l291 (by omega) (j := k) rfl (x := (acc.length : Int)) h.1 ?_
  refine T_bipush dX12_adds_6 (by decide) ?_
  refine T_icmp_lt (tgt := 12) dX12_adds_8 (by decide) (fun c8 => ?_) (fun c8 => ?_)
  · refine T_aload_n dX12_adds_12 rfl ?_
    refine T_getR dX12_adds_13 fX12_65 rfl k271 r271_30 ?_
    refine T_bipush dX12_adds_16 (by decide) ?_
    refine T_iload_n dX12_adds_18 rfl ?_
    refine T_mul dX12_adds_19 (by omega) ?_
    refine T_aload_n dX12_adds_20 rfl ?_
    refine T_getR dX12_adds_21 fX12_68 rfl k271 r271_31 ?_
    refine T_iload_n dX12_adds_24 rfl ?_
    refine T_ialdv dX12_adds_25 k291 l291 (by omega) (j := k) rfl (x := (acc.length : Int)) h.1 ?_
    refine T_add dX12_adds_26 (by omega) ?_
    refine T_iload_n dX12_adds_27 rfl ?_
    refine T_iast dX12_adds_28 k290 l290 (by omega) (j := 60 * k + acc.length) (by omega) ?_
    refine T_aload_n dX12_adds_29 rfl ?_
    refine T_getR dX12_adds_30 fX12_68 rfl k271 r271_31 ?_
    refine T_iload_n dX12_adds_33 rfl ?_
    refine T_dup2 dX12_adds_34 rfl rfl ?_
    refine T_ialdv dX12_adds_35 k291 l291 (by omega) (j := k) (by omega) (x := (acc.length : Int)) (by rw [up_nea (by decide)]; exact h.1) ?_
    refine T_iconst dX12_adds_36 (by decide) ?_
    refine T_add dX12_adds_37 (by omega) ?_
    refine T_iast dX12_adds_38 k291 l291 (by omega) (j := k) (by omega) ?_
    exact T_return dX12_adds_39 rfl (by
      refine ⟨rfl, ?_, Ag_up (Ag_up Ag.rf (by decide)) (by decide), fun j hj => by rw [up_nej hj, up_nea (by decide)], fun j hj => by rw [up_nea (by decide), up_nej (by omega)]⟩
      unfold cap1; rw [if_pos (by omega)]
      refine ⟨by rw [up_same, List.length_append]; show _ = ((acc.length + 1 : Nat) : Int); omega, fun i hi => ?_⟩
      rw [List.length_append] at hi
      have hi : i < acc.length + 1 := hi
      rw [up_nea (by decide)]
      rcases (show i < acc.length ∨ i = acc.length by omega) with z | rfl
      · rw [up_nej (by omega), getD_lt z]; exact h.2 i z
      · rw [up_same, getD_eq])
  · exact T_return dX12_adds_11 rfl ⟨rfl, (by unfold cap1; rw [if_neg (by omega)]; exact h), AdF.rf⟩

def HrL (d : sD) (p : Nat) (L : List Int) : Prop := (p = 8 ∧ d 271 18 = (L.length : Int) ∧ (∀ i, i < L.length → d 279 i = L.getD i 0) ∧ L.length ≤ 24) ∨ (p < 8 ∧ Vk d p L)
theorem t_repeats {p : Nat} (hl : L.length ≤ 60) (h : HrL d p L) : tB G mX12_repeats 0 [vR 271, vI p, vU 0, vU 0] [] d (fun r d' => r = some (vI L.length) ∧ (∀ i, i < L.length → d' 292 i = L.getD i 0) ∧ Ag [292] [] d d') := by
  have h22 : ∀ i : Nat, i ≤ L.length → tB G mX12_repeats 22 [vR 271, vI p, vI L.length, vI i] [] (ups d 292 0 i (fun j => L.getD j 0)) (fun r d' => r = some (vI L.length) ∧ (∀ i, i < L.length → d' 292 i = L.getD i 0) ∧ Ag [292] [] d d') := by
    refine T_loop (α := Nat) 22 (fun i => [vR 271, vI p, vI L.length, vI i]) (fun i => ups d 292 0 i (fun j => L.getD j 0)) (fun i => i ≤ L.length) (fun i => L.length - i) ?_
    intro i hi ih
    try dsimp only at ih ⊢
    have h58 : ∀ z : Int, z = L.getD i 0 → i < L.length → tB G mX12_repeats 58 [vR 271, vI p, vI L.length, vI i] [vI z, vI i, vR 292] (ups d 292 0 i (fun j => L.getD j 0)) (fun r d' => r = some (vI L.length) ∧ (∀ i, i < L.length → d' 292 i = L.getD i 0) ∧ Ag [292] [] d d') := by
      rintro _ rfl hlt
      refine T_iast dX12_repeats_58 k292 l292 (by omega) (j := i) rfl ?_
      refine T_inc dX12_repeats_59 rfl (by decide) rfl (by omega) ?_
      refine T_goto (tgt := 22) dX12_repeats_62 (by decide) ?_
      exact T_eq (ups_push (Nat.zero_le _) rfl) (ih (i + 1) (by omega) (by omega))
    refine T_iload_n dX12_repeats_22 rfl ?_
    refine T_iload_n dX12_repeats_23 rfl ?_
    refine T_icmp_ge (tgt := 65) dX12_repeats_24 (by decide) (fun c24 => ?_) (fun c24 => ?_)
    · refine T_iload_n dX12_repeats_65 rfl ?_
      exact T_ireturn dX12_repeats_66 rfl ⟨rfl, fun j hj => ups_in (by omega), Ag_ups Ag.rf (by decide)⟩
    · refine T_aload_n dX12_repeats_27 rfl ?_
      refine T_getR dX12_repeats_28 fX12_71 rfl k271 r271_32 ?_
      refine T_iload_n dX12_repeats_31 rfl ?_
      refine T_iload_n dX12_repeats_32 rfl ?_
      refine T_bipush dX12_repeats_33 (by decide) ?_
      refine T_icmp_ne (tgt := 47) dX12_repeats_35 (by decide) (fun c35 => ?_) (fun c35 => ?_)
      · have h8 := h.resolve_left (fun z => by have := z.1; omega)
        have hp8 := h8.1
        refine T_aload_n dX12_repeats_47 rfl ?_
        refine T_getR dX12_repeats_48 fX12_65 rfl k271 r271_30 ?_
        refine T_bipush dX12_repeats_51 (by decide) ?_
        refine T_iload_n dX12_repeats_53 rfl ?_
        refine T_mul dX12_repeats_54 (by omega) ?_
        refine T_iload_n dX12_repeats_55 rfl ?_
        refine T_add dX12_repeats_56 (by omega) ?_
        refine T_ialdv dX12_repeats_57 k290 l290 (by omega) (j := 60 * p + i) (by omega) (x := L.getD i 0) (by rw [ups_nea (by decide)]; exact h8.2.2 i (by omega)) ?_
        exact h58 _ rfl (by omega)
      · have h8 := h.resolve_right (fun z => by have := z.1; omega)
        have hL24 := h8.2.2.2
        refine T_aload_n dX12_repeats_38 rfl ?_
        refine T_getR dX12_repeats_39 fX12_32 rfl k271 r271_16 ?_
        refine T_iload_n dX12_repeats_42 rfl ?_
        refine T_ialdv dX12_repeats_43 k279 l279 (by omega) (j := i) rfl (x := L.getD i 0) (by rw [ups_nea (by decide)]; exact h8.2.2.1 i (by omega)) ?_
        refine T_goto (tgt := 58) dX12_repeats_44 (by decide) ?_
        exact h58 _ rfl (by omega)
  have h19 : tB G mX12_repeats 19 [vR 271, vI p, vU 0, vU 0] [vI L.length] d (fun r d' => r = some (vI L.length) ∧ (∀ i, i < L.length → d' 292 i = L.getD i 0) ∧ Ag [292] [] d d') := by
    refine T_ist_n dX12_repeats_19 (by decide) rfl ?_
    refine T_iconst dX12_repeats_20 (by decide) ?_
    refine T_ist_n dX12_repeats_21 (by decide) rfl ?_
    exact T_eq ups_nil.symm (h22 0 (Nat.zero_le _))
  refine T_iload_n dX12_repeats_0 rfl ?_
  refine T_bipush dX12_repeats_1 (by decide) ?_
  refine T_icmp_ne (tgt := 13) dX12_repeats_3 (by decide) (fun c3 => ?_) (fun c3 => ?_)
  · have h8 := h.resolve_left (fun z => by have := z.1; omega)
    have hp8 := h8.1
    refine T_aload_n dX12_repeats_13 rfl ?_
    refine T_getR dX12_repeats_14 fX12_68 rfl k271 r271_31 ?_
    refine T_iload_n dX12_repeats_17 rfl ?_
    refine T_ialdv dX12_repeats_18 k291 l291 (by omega) (j := p) rfl (x := (L.length : Int)) h8.2.1 ?_
    exact h19
  · have h8 := h.resolve_right (fun z => by have := z.1; omega)
    refine T_aload_n dX12_repeats_6 rfl ?_
    refine T_getIv dX12_repeats_7 fX12_243 rfl k271 (x := (L.length : Int)) h8.2.1 ?_
    refine T_goto (tgt := 19) dX12_repeats_10 (by decide) ?_
    exact h19

def Vsd (d : sD) (V : Nat → List Int) (K : Nat) : Prop := ∀ k, k < K → Vk d k (V k)
def Srd (d : sD) (src : List Int) : Prop := d 271 18 = (src.length : Int) ∧ ∀ i, i < src.length → d 279 i = src.getD i 0
theorem Vk_ag {cs fs : List Nat} {d d' : sD} {k : Nat} (h : Vk d k acc) (hA : Ag cs fs d d') (h1 : 290 ∉ cs ∧ 291 ∉ cs) : Vk d' k acc := ⟨by rw [hA.1 _ _ h1.2 (by decide)]; exact h.1, fun i hi => by rw [hA.1 _ _ h1.1 (by decide)]; exact h.2 i hi⟩
theorem Vk_ad {d d' : sD} {k q : Nat} (h : Vk d k acc) (hl : acc.length ≤ 60) (hA : AdF q d d') (hne : k ≠ q) : Vk d' k acc := ⟨by rw [hA.2.1 k hne]; exact h.1, fun i hi => by rw [hA.2.2 _ (by omega)]; exact h.2 i hi⟩
theorem Srd_ag {cs fs : List Nat} {d d' : sD} (h : Srd d src) (hA : Ag cs fs d d') (h1 : 279 ∉ cs) (h2 : 18 ∉ fs) : Srd d' src := ⟨by rw [hA.2 _ h2]; exact h.1, fun i hi => by rw [hA.1 _ _ h1 (by decide)]; exact h.2 i hi⟩
abbrev lnV (v : Nat → Int) (src : List Int) (q : Nat) : List Int := if v (1 + 4 * q) = 8 then src else Vl v src q (v (1 + 4 * q)).toNat
abbrev cgQ (d : sD) (v : Nat → Int) (src : List Int) (q : Nat) : Option sV → sD → Prop := fun r d' => r = none ∧ Vsd d' (Vl v src (q + 1)) (q + 1) ∧ Ag [290, 291, 292] [] d d'
theorem t_changes {q : Nat} (hv : Vv d v) (hV : VV v) (hq : (q : Int) < v 0) (hS : Srd d src) (hsl : src.length ≤ 24) (hK : Vsd d (Vl v src q) q) : tB G mX12_changes 0 [vR 271, vI q, vU 0, vU 0, vU 0, vU 0, vU 0, vU 0] [] d (cgQ d v src q) := by
  have h0 := hV.1
  have hpar := hV.par hq
  obtain ⟨_, hk1, hk0, hk2, hk3⟩ := hV.2 q hq
  have hll : (lnV v src q).length ≤ 60 := by unfold lnV; split; · omega
                                             · exact Vl_len _ _
  have hHr : HrL d (v (1 + 4 * q)).toNat (lnV v src q) := by
    by_cases h8 : v (1 + 4 * q) = 8
    · left; unfold lnV; rw [if_pos h8]; exact ⟨by omega, hS.1, hS.2, hsl⟩
    · have hp := hpar.resolve_left h8
      right; unfold lnV; rw [if_neg h8]; exact ⟨by omega, hK _ (by omega)⟩
  have hfin : ∀ e, Vk e q (chL v q (lnV v src q)) → (∃ e0, Ag [292] [] d e0 ∧ AdF q e0 e) → cgQ d v src q none e := by
    rintro e he ⟨e0, hA0, hAd⟩
    refine ⟨rfl, fun k hk => ?_, hA0.trans hAd.1 (by decide) (by decide) (by decide) (by decide)⟩
    show Vk e k (if k = q then _ else _)
    by_cases hkq : k = q
    · rw [if_pos hkq, hkq]; exact he
    · rw [if_neg hkq]
      exact Vk_ad (Vk_ag (hK k (by omega)) hA0 (by decide)) (Vl_len _ _) hAd hkq
  generalize hL : lnV v src q = L at *
  generalize hkk : v (2 + 4 * q) = kk at *
  generalize haa : v (3 + 4 * q) = aa at *
  generalize hbb : v (4 + 4 * q) = bb at *
  have h44 : ∀ e0, Ag [292] [] d e0 → (∀ i, i < L.length → e0 292 i = L.getD i 0) → ∀ y : Nat × sD, (y.1 ≤ L.length ∧ Vk y.2 q (chN kk aa bb L y.1) ∧ AdF q e0 y.2) → tB G mX12_changes 44 [vR 271, vI q, vI L.length, vI kk, vI aa, vI bb, vI y.1, vU 0] [] y.2 (cgQ d v src q) := by
    intro e0 hA0 hline
    refine T_loop (α := Nat × sD) 44 (fun y => [vR 271, vI q, vI L.length, vI kk, vI aa, vI bb, vI y.1, vU 0]) (fun y => y.2) (fun y => y.1 ≤ L.length ∧ Vk y.2 q (chN kk aa bb L y.1) ∧ AdF q e0 y.2) (fun y => L.length - y.1) ?_
    rintro ⟨i, e⟩ ⟨hi, hk, hAd⟩ ih
    try dsimp only at hi hk hAd ih ⊢
    have hcl := chN_len (k := kk) (a := aa) (b := bb) (L := L) i
    have h149 : ∀ e2, Vk e2 q (chN kk aa bb L (i + 1)) → AdF q e0 e2 → i < L.length → tB G mX12_changes 149 [vR 271, vI q, vI L.length, vI kk, vI aa, vI bb, vI i, vI (L.getD i 0)] [] e2 (cgQ d v src q) := by
      intro e2 hk2 hA2 hlt
      refine T_inc dX12_changes_149 rfl (by decide) rfl (by omega) ?_
      refine T_goto (tgt := 44) dX12_changes_152 (by decide) ?_
      exact T_drop 7 (ih (i + 1, e2) ⟨by omega, hk2, hA2⟩ (by omega))
    have h127 : ∀ z : Int, z = (if kk = 1 ∧ L.getD i 0 = aa then bb else if kk = 1 ∧ L.getD i 0 = bb then aa else L.getD i 0) → ¬ ((kk = 0 ∧ ((i : Int) + 1) % aa = 0) ∨ (kk = 3 ∧ (i : Int) = (L.length : Int) - 1)) → i < L.length → tB G mX12_changes 127 [vR 271, vI q, vI L.length, vI kk, vI aa, vI bb, vI i, vI (L.getD i 0)] [vI z, vI q, vR 271] e (cgQ d v src q) := by
      rintro _ rfl hns hlt
      have hst : chN kk aa bb L (i + 1) = if kk = 2 ∧ L.getD i 0 = aa then cap1 (cap1 (chN kk aa bb L i) (if kk = 1 ∧ L.getD i 0 = aa then bb else if kk = 1 ∧ L.getD i 0 = bb then aa else L.getD i 0)) (L.getD i 0) else cap1 (chN kk aa bb L i) (if kk = 1 ∧ L.getD i 0 = aa then bb else if kk = 1 ∧ L.getD i 0 = bb then aa else L.getD i 0) := if_neg hns
      refine T_callV dX12_changes_127 lX12_346 (As := [_, _]) (rest := _) rfl rfl k271 (by decide) (Nat.le_of_ble_eq_true rfl) (Nat.le_of_ble_eq_true rfl) (t_adds (by omega) hcl hk) ?_
      rintro _ e1 ⟨rfl, hk1, hA1⟩
      have hA1 := hAd.trans hA1
      refine T_iload_n dX12_changes_130 rfl ?_
      refine T_iconst dX12_changes_131 (by decide) ?_
      refine T_icmp_ne (tgt := 149) dX12_changes_132 (by decide) (fun c132 => ?_) (fun c132 => ?_)
      · exact h149 e1 (by rw [hst, if_neg (fun z => c132 z.1)]; exact hk1) hA1 hlt
      · refine T_iload dX12_changes_135 rfl ?_
        refine T_iload dX12_changes_137 rfl ?_
        refine T_icmp_ne (tgt := 149) dX12_changes_139 (by decide) (fun c139 => ?_) (fun c139 => ?_)
        · exact h149 e1 (by rw [hst, if_neg (fun z => c139 z.2)]; exact hk1) hA1 hlt
        · refine T_aload_n dX12_changes_142 rfl ?_
          refine T_iload_n dX12_changes_143 rfl ?_
          refine T_iload dX12_changes_144 rfl ?_
          refine T_callV dX12_changes_146 lX12_346 (As := [_, _]) (rest := _) rfl rfl k271 (by decide) (Nat.le_of_ble_eq_true rfl) (Nat.le_of_ble_eq_true rfl) (t_adds (by omega) (cap1_len hcl) hk1) ?_
          rintro _ e2 ⟨rfl, hk2, hA2⟩
          have hA2 := hA1.trans hA2
          exact h149 e2 (by rw [hst, if_pos ⟨c132, c139⟩]; exact hk2) hA2 hlt
    have h73 : ¬ (kk = 0 ∧ ((i : Int) + 1) % aa = 0) → i < L.length → tB G mX12_changes 73 [vR 271, vI q, vI L.length, vI kk, vI aa, vI bb, vI i, vI (L.getD i 0)] [] e (cgQ d v src q) := by
      intro hn0 hlt
      have h89 : ¬ (kk = 3 ∧ (i : Int) = (L.length : Int) - 1) → tB G mX12_changes 89 [vR 271, vI q, vI L.length, vI kk, vI aa, vI bb, vI i, vI (L.getD i 0)] [] e (cgQ d v src q) := by
        intro hn3
        have hns : ¬ ((kk = 0 ∧ ((i : Int) + 1) % aa = 0) ∨ (kk = 3 ∧ (i : Int) = (L.length : Int) - 1)) := fun z => z.elim hn0 hn3
        refine T_aload_n dX12_changes_89 rfl ?_
        refine T_iload_n dX12_changes_90 rfl ?_
        refine T_iload_n dX12_changes_91 rfl ?_
        refine T_iconst dX12_changes_92 (by decide) ?_
        refine T_icmp_ne (tgt := 108) dX12_changes_93 (by decide) (fun c93 => ?_) (fun c93 => ?_)
        · refine T_iload_n dX12_changes_108 rfl ?_
          refine T_iconst dX12_changes_109 (by decide) ?_
          refine T_icmp_ne (tgt := 125) dX12_changes_110 (by decide) (fun c110 => ?_) (fun c110 => ?_)
          · refine T_iload dX12_changes_125 rfl ?_
            exact h127 _ (by (repeat' split) <;> omega) hns hlt
          · refine T_iload dX12_changes_113 rfl ?_
            refine T_iload dX12_changes_115 rfl ?_
            refine T_icmp_ne (tgt := 125) dX12_changes_117 (by decide) (fun c117 => ?_) (fun c117 => ?_)
            · refine T_iload dX12_changes_125 rfl ?_
              exact h127 _ (by (repeat' split) <;> omega) hns hlt
            · refine T_iload dX12_changes_120 rfl ?_
              refine T_goto (tgt := 127) dX12_changes_122 (by decide) ?_
              exact h127 _ (by (repeat' split) <;> omega) hns hlt
        · refine T_iload dX12_changes_96 rfl ?_
          refine T_iload dX12_changes_98 rfl ?_
          refine T_icmp_ne (tgt := 108) dX12_changes_100 (by decide) (fun c100 => ?_) (fun c100 => ?_)
          · refine T_iload_n dX12_changes_108 rfl ?_
            refine T_iconst dX12_changes_109 (by decide) ?_
            refine T_icmp_ne (tgt := 125) dX12_changes_110 (by decide) (fun c110 => ?_) (fun c110 => ?_)
            · refine T_iload dX12_changes_125 rfl ?_
              exact h127 _ (by (repeat' split) <;> omega) hns hlt
            · refine T_iload dX12_changes_113 rfl ?_
              refine T_iload dX12_changes_115 rfl ?_
              refine T_icmp_ne (tgt := 125) dX12_changes_117 (by decide) (fun c117 => ?_) (fun c117 => ?_)
              · refine T_iload dX12_changes_125 rfl ?_
                exact h127 _ (by (repeat' split) <;> omega) hns hlt
              · refine T_iload dX12_changes_120 rfl ?_
                refine T_goto (tgt := 127) dX12_changes_122 (by decide) ?_
                exact h127 _ (by (repeat' split) <;> omega) hns hlt
          · refine T_iload dX12_changes_103 rfl ?_
            refine T_goto (tgt := 127) dX12_changes_105 (by decide) ?_
            exact h127 _ (by (repeat' split) <;> omega) hns hlt
      refine T_iload_n dX12_changes_73 rfl ?_
      refine T_iconst dX12_changes_74 (by decide) ?_
      refine T_icmp_ne (tgt := 89) dX12_changes_75 (by decide) (fun c75 => ?_) (fun c75 => ?_)
      · exact h89 (by omega)
      · refine T_iload dX12_changes_78 rfl ?_
        refine T_iload_n dX12_changes_80 rfl ?_
        refine T_iconst dX12_changes_81 (by decide) ?_
        refine T_sub dX12_changes_82 (by omega) ?_
        refine T_icmp_ne (tgt := 89) dX12_changes_83 (by decide) (fun c83 => ?_) (fun c83 => ?_)
        · exact h89 (by omega)
        · refine T_goto (tgt := 149) dX12_changes_86 (by decide) ?_
          exact h149 e (by rw [show chN kk aa bb L (i + 1) = chN kk aa bb L i from if_pos (Or.inr ⟨c75, c83⟩)]; exact hk) hAd hlt
    refine T_iload dX12_changes_44 rfl ?_
    refine T_iload_n dX12_changes_46 rfl ?_
    refine T_icmp_ge (tgt := 155) dX12_changes_47 (by decide) (fun c47 => ?_) (fun c47 => ?_)
    · exact T_return dX12_changes_155 rfl (hfin e (by rw [show chL v q L = chN kk aa bb L L.length by unfold chL; rw [hkk, haa, hbb], show L.length = i by omega]; exact hk) ⟨e0, hA0, hAd⟩)
    · refine T_aload_n dX12_changes_50 rfl ?_
      refine T_getR dX12_changes_51 fX12_71 rfl k271 r271_32 ?_
      refine T_iload dX12_changes_54 rfl ?_
      refine T_ialdv dX12_changes_56 k292 l292 (by omega) (j := i) rfl (x := L.getD i 0) (by rw [hAd.1.1 292 i (by decide) (by decide)]; exact hline i (by omega)) ?_
      refine T_ist dX12_changes_57 (by decide) rfl ?_
      refine T_iload_n dX12_changes_59 rfl ?_
      refine T_if_ne (tgt := 73) dX12_changes_60 (by decide) (fun c60 => ?_) (fun c60 => ?_)
      · exact h73 (fun z => c60 z.1) (by omega)
      · have ha0 := hk0 c60
        refine T_iload dX12_changes_63 rfl ?_
        refine T_iconst dX12_changes_65 (by decide) ?_
        refine T_add dX12_changes_66 (by omega) ?_
        refine T_iload dX12_changes_67 rfl ?_
        refine T_rem dX12_changes_69 (by omega) (by omega) ?_
        refine T_if_eq (tgt := 149) dX12_changes_70 (by decide) (fun c70 => ?_) (fun c70 => ?_)
        · exact h149 e (by rw [show chN kk aa bb L (i + 1) = chN kk aa bb L i from if_pos (Or.inl ⟨c60, c70⟩)]; exact hk) hAd (by omega)
        · exact h73 (fun z => c70 z.2) (by omega)
  refine T_aload_n dX12_changes_0 rfl ?_
  refine T_aload_n dX12_changes_1 rfl ?_
  refine T_iload_n dX12_changes_2 rfl ?_
  refine T_iconst dX12_changes_3 (by decide) ?_
  refine T_callV dX12_changes_4 lX12_334 (As := [_, _]) (rest := _) rfl rfl k271 (by decide) (Nat.le_of_ble_eq_true rfl) (Nat.le_of_ble_eq_true rfl) (t_villageOf (x := 0) hv (by omega)) ?_
  rintro _ _ ⟨rfl, rfl⟩
  refine T_callV dX12_changes_7 lX12_343 (As := [_]) (rest := _) rfl rfl k271 (by decide) (Nat.le_of_ble_eq_true rfl) (Nat.le_of_ble_eq_true rfl) (T_args1 (y := (v (1 + 4 * q)).toNat) (by show v (1 + 4 * q) = _; omega) (t_repeats hll hHr)) ?_
  rintro _ e0 ⟨rfl, hline, hA0⟩
  have hv1 := Vv_ag hv hA0 (by decide) (by decide)
  refine T_ist_n dX12_changes_10 (by decide) rfl ?_
  refine T_aload_n dX12_changes_11 rfl ?_
  refine T_iload_n dX12_changes_12 rfl ?_
  refine T_iconst dX12_changes_13 (by decide) ?_
  refine T_callV dX12_changes_14 lX12_334 (As := [_, _]) (rest := _) rfl rfl k271 (by decide) (Nat.le_of_ble_eq_true rfl) (Nat.le_of_ble_eq_true rfl) (t_villageOf (x := 1) hv1 (by omega)) ?_
  rintro _ _ ⟨rfl, rfl⟩
  rw [show 1 + 4 * q + 1 = 2 + 4 * q by omega, hkk]
  refine T_ist_n dX12_changes_17 (by decide) rfl ?_
  refine T_aload_n dX12_changes_18 rfl ?_
  refine T_iload_n dX12_changes_19 rfl ?_
  refine T_iconst dX12_changes_20 (by decide) ?_
  refine T_callV dX12_changes_21 lX12_334 (As := [_, _]) (rest := _) rfl rfl k271 (by decide) (Nat.le_of_ble_eq_true rfl) (Nat.le_of_ble_eq_true rfl) (t_villageOf (x := 2) hv1 (by omega)) ?_
  rintro _ _ ⟨rfl, rfl⟩
  rw [show 1 + 4 * q + 2 = 3 + 4 * q by omega, haa]
  refine T_ist dX12_changes_24 (by decide) rfl ?_
  refine T_aload_n dX12_changes_26 rfl ?_
  refine T_iload_n dX12_changes_27 rfl ?_
  refine T_iconst dX12_changes_28 (by decide) ?_
  refine T_callV dX12_changes_29 lX12_334 (As := [_, _]) (rest := _) rfl rfl k271 (by decide) (Nat.le_of_ble_eq_true rfl) (Nat.le_of_ble_eq_true rfl) (t_villageOf (x := 3) hv1 (by omega)) ?_
  rintro _ _ ⟨rfl, rfl⟩
  rw [show 1 + 4 * q + 3 = 4 + 4 * q by omega, hbb]
  refine T_ist dX12_changes_32 (by decide) rfl ?_
  refine T_aload_n dX12_changes_34 rfl ?_
  refine T_getR dX12_changes_35 fX12_68 rfl k271 r271_31 ?_
  refine T_iload_n dX12_changes_38 rfl ?_
  refine T_iconst dX12_changes_39 (by decide) ?_
  refine T_iast dX12_changes_40 k291 l291 (by omega) (j := q) rfl ?_
  refine T_iconst dX12_changes_41 (by decide) ?_
  refine T_ist dX12_changes_42 (by decide) rfl ?_
  refine h44 e0 hA0 hline (0, up e0 291 q 0) ⟨Nat.zero_le _, ⟨up_same, fun i hi => absurd hi (Nat.not_lt_zero i)⟩, Ag_up Ag.rf (by decide), fun j hj => up_nej hj, fun j hj => up_nea (d := e0) (a := 291) (j := q) (b := 290) (x := 0) (show (290 : Nat) ≠ 291 by decide)⟩

end M26
