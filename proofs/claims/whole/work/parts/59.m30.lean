/-! calls over a deeper stack -/
section M30a
def ctV (v : sV) : Nat := match v with | .inr (.inl _) => 2 | _ => 1
theorem ctV_cat {G : sG} (v : sV) : (rv G v).category ≤ ctV v := Nat.le_of_eq (rv_cat G v)
variable {G : sG} {M M' : sM} {pc idx n k a kc' ks' : Nat} {ls st As rest : List sV} {S : sS} {d : sD} {kc ks : Nat} {Q Q' : Option sV → sS → sD → Prop}
theorem rest_room8 {lsr : Array Slot} {m : MethodId} {st0 : List Value} (h : (rest.map ctV).sum ≤ 8) : 2 * (F0 m pc lsr st0).monitorRoom + ((rest.map (rv G)).map fun v => v.category).sum ≤ 8 := by
  refine lv_room ?_
  have : ∀ l : List sV, ((l.map (rv G)).map fun v => v.category).sum ≤ (l.map ctV).sum := by
    intro l
    induction l with
    | nil => exact Nat.le_refl _
    | cons v r ih =>
      rw [List.map_cons, List.map_cons, List.sum_cons, List.map_cons, List.sum_cons]
      have := ctV_cat (G := G) v
      omega
  have := this rest
  omega
theorem B_callV8 (hd : decode (mC M) pc = .ok (.invokevirtual idx, 3)) (hk : LkV (mY M).cls idx M' n k) (hst : st = As.reverse ++ vR a :: rest) (hn : As.length = n) (hka : kn S a = k) (hrm : mF M' + 1 ≤ mF M ∧ 8 + (mL M' + 11) + mO M' ≤ mO M) (hrest : (rest.map ctV).sum ≤ 8) (hlen : (entl (vR a :: As)).length ≤ mL M')
    (hB : sB G M' 0 (ent (mL M') (vR a :: As)) [] S d kc' ks' Q') (kk : ∀ r S' d', Q' r S' d' → sB G M (pc + 3) ls (r.toList ++ rest) S' d' kc ks Q) : sB G M pc ls st S d (kc' + kc) (ks' + ks) Q := by
  intro p l e R s m args below meth c H locs cells slots Z lsr C hH hl hL hs hc hks
  subst hst
  obtain ⟨hM', w1, w2, w3, w4, q, hq, hqn⟩ := hk
  obtain ⟨o1, o2⟩ := ok_rev hs
  have hts := C.2.2.2.2.1
  have hk13 := (cl_ok hq).2.2.2.2.2
  have hmet := sm_met l hM' o1 hlen hB
  obtain ⟨cell, q1, q2, q3, q4⟩ := hH.obj hka hk13
  have hfc := (C.2.2.2.2.2.2.1.1.1 k _ hq).2.1
  have hcb : CallB R s args (mY M).cls idx (mY M') (mC M') (mL M') (mR M') (Cond.code (mY M') (mC M') (mL M') (mR M') :: gw) (rmM M' kc' ks') kc' ks' n :=
    callB_of n hts (gw_good _ _ _ _ hM'.2.1) rfl rfl rfl (hts _ hM'.2.2.1) (hts _ w1) ⟨hM'.2.2.2.1, hM'.2.2.2.2, w4⟩ ⟨by have := C.2.2.2.2.2.2.2.1.1; show mF M' + 1 ≤ _; omega, by have := C.2.2.2.2.2.2.2.1.2; show 8 + (mL M' + 11) + mO M' ≤ _; omega⟩
  have ea : rv G (vR a) = .ref (adr G a) := hH.rv (by omega)
  have hpre : PreV s H (mY M').cls (adr G a) (Pz G S d (vR a :: As)) (As.map (rv G)) := by
    refine ⟨Pz_blind, ⟨cell, q1, by rw [q3]; rfl, ?_⟩, fun U hU hW => ⟨by rw [← ea]; rfl, by rw [hU]; exact hH, KK.warm hW C.2.2.2.2.2.2.1⟩⟩
    rw [q2, ← hqn]; exact hfc
  refine call_go (av := (Value.ref (adr G a) :: As.map (rv G)).toArray) (va_runV (As := As.map (rv G)) (rest := rest.map (rv G)) (b := adr G a) (C := (mY M').cls) ⟨C.1, C.2.1, C.2.2.1, C.2.2.2.1, hts⟩ hmet ⟨hcb, hts _ w2, hts _ w3⟩ hpre rfl (by rw [List.length_map]; exact hn) hL.1 ?_ (rest_room8 hrest) hd ⟨by omega, by omega⟩) kk C hl hL o2 (by omega) (by omega)
  show List.map (rv G) (As.reverse ++ vR a :: rest) = _
  rw [List.map_append, List.map_reverse, List.map_cons, ea]
end M30a
section M30b
variable {G : sG} {M : sM} {pc : Nat} {ls st : List sV} {d : sD} {Q : Option sV → sD → Prop}
theorem T_callV8 {M' : sM} {idx n k a : Nat} {As rest : List sV} {Q' : Option sV → sD → Prop} (hd : decode (mC M) pc = .ok (.invokevirtual idx, 3)) (hk : LkV (mY M).cls idx M' n k) (hst : st = As.reverse ++ vR a :: rest) (hn : As.length = n) (hka : kn S0 a = k) (hrm : mF M' + 1 ≤ mF M ∧ 8 + (mL M' + 11) + mO M' ≤ mO M) (hrest : (rest.map ctV).sum ≤ 8) (hlen : (entl (vR a :: As)).length ≤ mL M')
    (hB : tB G M' 0 (ent (mL M') (vR a :: As)) [] d Q') (kk : ∀ r d', Q' r d' → tB G M (pc + 3) ls (r.toList ++ rest) d' Q) : tB G M pc ls st d Q := fun hR => B_callV8 (kc' := 0) (ks' := 0) (kc := 0) (ks := 0) hd hk hst hn hka hrm hrest hlen (hB hR) (fun r S' d' q => by obtain ⟨rfl, hR', q⟩ := q; exact kk r d' q hR')
end M30b

/-! the reference: readings -/
section M30
variable {G : sG} {d : sD} {w g s : Nat → Int} {n a : Nat}
/-- in how many ways the beats heard from a place on are orders (by fuel); by how few -/
def rdF (w s : Nat → Int) (n a N : Nat) : Nat → Nat → Int
  | 0, i => if i = N then 1 else 0
  | f + 1, i => if i = N then 1 else sumN (fun o => if isF w s n a o i then rdF w s n a N f (i + lnW w a o) else 0) (w (15 + a)).toNat
def mnO (p : Nat → Prop) [DecidablePred p] (f : Nat → Int) : Nat → Int
  | 0 => 999
  | o + 1 => if p o then min (mnO p f o) (1 + f o) else mnO p f o
def fwF (w s : Nat → Int) (n a N : Nat) : Nat → Nat → Int
  | 0, i => if i = N then 0 else 999
  | f + 1, i => if i = N then 0 else mnO (fun o => isF w s n a o i) (fun o => fwF w s n a N f (i + lnW w a o)) (w (15 + a)).toNat
theorem mnO_congr {p : Nat → Prop} [DecidablePred p] {f f' : Nat → Int} : ∀ m, (∀ o, o < m → p o → f o = f' o) → mnO p f m = mnO p f' m
  | 0, _ => rfl
  | m + 1, h => by
    have ih := mnO_congr (p := p) (f := f) (f' := f') m (fun o ho hp => h o (by omega) hp)
    show (if p m then _ else _) = if p m then _ else _
    by_cases q : p m
    · rw [if_pos q, if_pos q, ih, h m (by omega) q]
    · rw [if_neg q, if_neg q, ih]
theorem mnO_rg {p : Nat → Prop} [DecidablePred p] {f : Nat → Int} : ∀ m, (∀ o, o < m → p o → 0 ≤ f o) → 0 ≤ mnO p f m ∧ mnO p f m ≤ 999
  | 0, _ => by show (0 : Int) ≤ 999 ∧ (999 : Int) ≤ 999; omega
  | m + 1, h => by
    have ih := mnO_rg (p := p) (f := f) m (fun o ho hp => h o (by omega) hp)
    show 0 ≤ (if p m then min (mnO p f m) (1 + f m) else mnO p f m) ∧ (if p m then min (mnO p f m) (1 + f m) else mnO p f m) ≤ 999
    by_cases q : p m
    · have := h m (by omega) q
      rw [if_pos q]; omega
    · rw [if_neg q]; omega
/-- an order from a place ends by the last beat heard -/
theorem isF_end (hV : WV w) {N o i : Nat} (ha : a < 2) (hN : hnS w n a = (N : Int)) (ho : (o : Int) < w (15 + a)) (h : isF w s n a o i) : 1 ≤ lnW w a o ∧ lnW w a o ≤ 4 ∧ i + lnW w a o ≤ N := by
  have l := hV.ln ha ho
  have h1 := h.1
  omega
theorem rdF_st (hV : WV w) {N : Nat} (ha : a < 2) (hN : hnS w n a = (N : Int)) : ∀ m i f f' : Nat, N - i ≤ m → i ≤ N → N - i ≤ f → N - i ≤ f' → rdF w s n a N f i = rdF w s n a N f' i ∧ fwF w s n a N f i = fwF w s n a N f' i
  | m, i, f, f', hm, hi, hf, hf' => by
    by_cases hiN : i = N
    · subst hiN
      refine ⟨?_, ?_⟩ <;> cases f <;> cases f' <;> (first | rfl | (show (if _ then _ else _) = _; rw [if_pos rfl]; try (show _ = if _ then _ else _; rw [if_pos rfl])))
    · cases m with
      | zero => omega
      | succ m =>
        obtain ⟨f, rfl⟩ : ∃ z, f = z + 1 := ⟨f - 1, by omega⟩
        obtain ⟨f', rfl⟩ : ∃ z, f' = z + 1 := ⟨f' - 1, by omega⟩
        have hwa := (hV.a ha).2.2.2.2
        refine ⟨?_, ?_⟩
        · show (if _ then _ else _) = if _ then _ else _
          rw [if_neg hiN, if_neg hiN]
          refine sumN_congr (fun o ho => ?_)
          by_cases q : isF w s n a o i
          · have e := isF_end hV ha hN (by omega) q
            rw [if_pos q, if_pos q]
            exact (rdF_st hV ha hN m (i + lnW w a o) f f' (by omega) (by omega) (by omega) (by omega)).1
          · rw [if_neg q, if_neg q]
        · show (if _ then _ else _) = if _ then _ else _
          rw [if_neg hiN, if_neg hiN]
          refine mnO_congr _ (fun o ho q => ?_)
          have e := isF_end hV ha hN (by omega) q
          exact (rdF_st hV ha hN m (i + lnW w a o) f f' (by omega) (by omega) (by omega) (by omega)).2
abbrev rdS (w s : Nat → Int) (n a N i : Nat) : Int := rdF w s n a N (N - i) i
abbrev fwS (w s : Nat → Int) (n a N i : Nat) : Int := fwF w s n a N (N - i) i
abbrev rdO (w s : Nat → Int) (n a N i : Nat) : Nat → Int := sumN (fun o => if isF w s n a o i then rdS w s n a N (i + lnW w a o) else 0)
abbrev fwO (w s : Nat → Int) (n a N i : Nat) : Nat → Int := mnO (fun o => isF w s n a o i) (fun o => fwS w s n a N (i + lnW w a o))
theorem rdS_N {N : Nat} : rdS w s n a N N = 1 := by show rdF w s n a N (N - N) N = 1; rw [Nat.sub_self]; exact if_pos rfl
theorem fwS_N {N : Nat} : fwS w s n a N N = 0 := by show fwF w s n a N (N - N) N = 0; rw [Nat.sub_self]; exact if_pos rfl
theorem rdS_i (hV : WV w) {N i : Nat} (ha : a < 2) (hN : hnS w n a = (N : Int)) (hi : i < N) : rdS w s n a N i = rdO w s n a N i (w (15 + a)).toNat ∧ fwS w s n a N i = fwO w s n a N i (w (15 + a)).toNat := by
  have hwa := (hV.a ha).2.2.2.2
  obtain ⟨f, hf⟩ : ∃ z, N - i = z + 1 := ⟨N - i - 1, by omega⟩
  refine ⟨?_, ?_⟩
  · show rdF w s n a N (N - i) i = _
    rw [hf]; show (if _ then _ else _) = _
    rw [if_neg (by omega)]
    refine sumN_congr (fun o ho => ?_)
    by_cases q : isF w s n a o i
    · have e := isF_end hV ha hN (by omega) q
      rw [if_pos q, if_pos q]
      exact (rdF_st hV ha hN (N - (i + lnW w a o)) (i + lnW w a o) f (N - (i + lnW w a o)) (by omega) (by omega) (by omega) (by omega)).1
    · rw [if_neg q, if_neg q]
  · show fwF w s n a N (N - i) i = _
    rw [hf]; show (if _ then _ else _) = _
    rw [if_neg (by omega)]
    refine mnO_congr _ (fun o ho q => ?_)
    have e := isF_end hV ha hN (by omega) q
    exact (rdF_st hV ha hN (N - (i + lnW w a o)) (i + lnW w a o) f (N - (i + lnW w a o)) (by omega) (by omega) (by omega) (by omega)).2
theorem sumN_le {f : Nat → Int} {B : Int} : ∀ m : Nat, (∀ o, o < m → 0 ≤ f o ∧ f o ≤ B) → 0 ≤ sumN f m ∧ sumN f m ≤ m * B
  | 0, _ => by show (0 : Int) ≤ 0 ∧ (0 : Int) ≤ 0 * B; omega
  | m + 1, h => by
    have ih := sumN_le m (fun o ho => h o (by omega))
    have h2 := h m (by omega)
    show 0 ≤ sumN f m + f m ∧ sumN f m + f m ≤ _
    rw [show ((m + 1 : Nat) : Int) * B = (m : Int) * B + B by rw [show ((m + 1 : Nat) : Int) = (m : Int) + 1 by omega, Int.add_mul, Int.one_mul]]
    omega
theorem pow6 : ∀ k : Nat, (6 : Int) ^ (k + 1) = 6 * 6 ^ k := fun k => by rw [Int.pow_succ, Int.mul_comm]
theorem pow6_pos : ∀ k : Nat, 1 ≤ (6 : Int) ^ k
  | 0 => by decide
  | k + 1 => by have := pow6_pos k; rw [pow6]; omega
theorem pow6_le : ∀ {j k : Nat}, j ≤ k → (6 : Int) ^ j ≤ 6 ^ k
  | j, 0, h => by rw [show j = 0 by omega]; exact Int.le_refl _
  | j, k + 1, h => by
    rcases (show j ≤ k ∨ j = k + 1 by omega) with z | rfl
    · have h1 := pow6_le z
      have := pow6_pos k
      rw [pow6]; omega
    · exact Int.le_refl _
theorem rdS_rg (hV : WV w) {N : Nat} (ha : a < 2) (hN : hnS w n a = (N : Int)) : ∀ m i : Nat, N - i ≤ m → i ≤ N → (0 ≤ rdS w s n a N i ∧ rdS w s n a N i ≤ 6 ^ (N - i)) ∧ 0 ≤ fwS w s n a N i ∧ fwS w s n a N i ≤ 999
  | m, i, hm, hi => by
    by_cases hiN : i = N
    · rw [hiN, rdS_N, fwS_N, Nat.sub_self]; exact ⟨⟨by decide, by decide⟩, by decide, by decide⟩
    · cases m with
      | zero => omega
      | succ m =>
        have hwa := (hV.a ha).2.2.2.2
        obtain ⟨e1, e2⟩ := rdS_i (s := s) hV ha hN (i := i) (by omega)
        rw [e1, e2]
        refine ⟨?_, mnO_rg _ (fun o ho q => ?_)⟩
        · have hs := sumN_le (f := fun o => if isF w s n a o i then rdS w s n a N (i + lnW w a o) else 0) (B := 6 ^ (N - i - 1)) (w (15 + a)).toNat (fun o ho => by
            by_cases q : isF w s n a o i
            · have e := isF_end hV ha hN (by omega) q
              have ih := (rdS_rg hV ha hN m (i + lnW w a o) (by omega) (by omega)).1
              rw [if_pos q]
              exact ⟨ih.1, Int.le_trans ih.2 (pow6_le (by omega))⟩
            · rw [if_neg q]; have := pow6_pos (N - i - 1); omega)
          refine ⟨hs.1, Int.le_trans hs.2 ?_⟩
          rw [show N - i = (N - i - 1) + 1 by omega, pow6, Nat.add_sub_cancel]
          exact Int.mul_le_mul_of_nonneg_right (by omega) (by have := pow6_pos (N - i - 1); omega)
        · have e := isF_end hV ha hN (by omega) q
          exact (rdS_rg hV ha hN m (i + lnW w a o) (by omega) (by omega)).2.1

theorem rdO_rg (hV : WV w) {N i : Nat} (ha : a < 2) (hN : hnS w n a = (N : Int)) (hN24 : N ≤ 24) (hi : i < N) {o : Nat} (ho : (o : Int) ≤ w (15 + a)) : 0 ≤ rdO w s n a N i o ∧ rdO w s n a N i o < 9223372036854775808 := by
  have hwa := (hV.a ha).2.2.2.2
  have hp := pow6_le (j := N - i - 1) (k := 23) (by omega)
  have hp1 := pow6_pos (N - i - 1)
  rw [show (6 : Int) ^ 23 = 789730223053602816 by decide +kernel] at hp
  have hs := sumN_le (f := fun o => if isF w s n a o i then rdS w s n a N (i + lnW w a o) else 0) (B := 789730223053602816) o (fun q hq => by
    by_cases z : isF w s n a q i
    · have e := isF_end hV ha hN (by omega) z
      have ih := (rdS_rg hV (s := s) ha hN (N - (i + lnW w a q)) (i + lnW w a q) (Nat.le_refl _) (by omega)).1
      have h2 := pow6_le (j := N - (i + lnW w a q)) (k := N - i - 1) (by omega)
      rw [if_pos z]; exact ⟨ih.1, by omega⟩
    · rw [if_neg z]; exact ⟨by decide, by decide⟩)
  refine ⟨hs.1, ?_⟩
  have : (o : Int) * 789730223053602816 ≤ 6 * 789730223053602816 := Int.mul_le_mul_of_nonneg_right (by omega) (by decide)
  have h3 := hs.2
  show sumN _ o < _
  omega
def qRd (w s : Nat → Int) (n a N : Nat) (x : Int) : Int := if x = 0 then rdS w s n a N 0 else if rdS w s n a N 0 = 0 then -1 else fwS w s n a N 0
def qReadings (w g : Nat → Int) (a x : Int) : Int := if ¬ (0 ≤ a ∧ a ≤ 1) then -2 else qRd w (snS w g) (rowS w g).length a.toNat (hnS w (rowS w g).length a.toNat).toNat x
abbrev qQL (d : sD) (v : Int) (cs fs : List Nat) : Option sV → sD → Prop := fun r d' => r = some (vL v) ∧ Ag cs fs d d'
abbrev rdC : List Nat := [275, 276, 277, 278, 279, 280, 294, 295]
theorem isF_eq (hV : WV w) {s' : Nat → Int} {o k : Nat} (ha : a < 2) (ho : (o : Int) < w (15 + a)) (h : ∀ j, j < n → s j = s' j) : bI (isF w s n a o k) = bI (isF w s' n a o k) := bI_congr (isF_congr hV ha ho h)
theorem cmpZ_0 (x : Int) : cmpZ x 0 = 0 ↔ x = 0 := by unfold cmpZ; (repeat' split) <;> omega
theorem t_X12_readings {k l a x : Int} (hM : MS d) : tB G mX12_readings 0 [vR 271, vI k, vI l, vI a, vI x, vU 0, vU 0, vU 0] [] d (qQL d (if Vp d k l then qReadings (wvD d k.toNat) (gvD d l.toNat) a x else -2) rdC pyF) := by
  refine T_aload_n dX12_readings_0 rfl ?_
  refine T_iload_n dX12_readings_1 rfl ?_
  refine T_iload_n dX12_readings_2 rfl ?_
  refine T_callV dX12_readings_3 lX12_255 (As := [_, _]) (rest := _) rfl rfl k271 (by decide) (Nat.le_of_ble_eq_true rfl) (Nat.le_of_ble_eq_true rfl) (t_arePlayed hM) ?_
  rintro _ d1 (⟨hv, rfl, hA⟩ | ⟨hv, rfl, ⟨hW, hL, hS⟩, hA⟩)
  ·
    refine T_if_eq (tgt := 16) dX12_readings_6 (by decide) (fun c6 => ?_) (fun c6 => absurd rfl c6)
    refine T_ldc2 dX12_readings_16 (by decide) kX12_374 ?_
    exact T_lreturn dX12_readings_19 rfl ⟨by rw [if_neg hv], hA.mono (by decide) (by decide)⟩
  · rw [if_pos hv]
    have hV := hM.2.1 k.toNat (by omega)
    have hGV := hM.2.2.1 l.toNat (by omega)
    have hn24 := rowS_24 hV hGV
    have hn := hL.1
    have hs : ∀ j, j < (rowS (wvD d k.toNat) (gvD d l.toNat)).length → d1 279 j = snS (wvD d k.toNat) (gvD d l.toNat) j := fun j hj => by rw [(hS j hj).1]; show _ = if _ then _ else _; rw [if_pos hj]
    have hA : Ag rdC pyF d d1 := hA.mono (by decide) (by decide)
    unfold qReadings
    clear hL hS hGV
    generalize snS (wvD d k.toNat) (gvD d l.toNat) = s at *
    generalize (rowS (wvD d k.toNat) (gvD d l.toNat)).length = n at *
    generalize wvD d k.toNat = w at *
    refine T_if_eq (tgt := 16) dX12_readings_6 (by decide) (fun c6 => absurd c6 (by decide)) (fun c6 => ?_)
    refine T_iload_n dX12_readings_9 rfl ?_
    refine T_callS dX12_readings_10 lX12_218 (As := [_]) (rest := _) rfl rfl (by decide) (Nat.le_of_ble_eq_true rfl) (Nat.le_of_ble_eq_true rfl) t_X12_isArmy ?_
    rintro _ _ ⟨rfl, rfl⟩
    refine T_if_ne (tgt := 20) dX12_readings_13 (by decide) (fun c13 => ?_) (fun c13 => ?_)
    · have h13 := bI_1 c13
      obtain ⟨a, rfl⟩ : ∃ a2 : Nat, a = (a2 : Int) := ⟨a.toNat, by omega⟩
      have ha : a < 2 := by omega
      have hwa := (hV.a ha).2.2.2.2
      have hr := hnS_rg (n := n) hV ha
      obtain ⟨N, hN⟩ : ∃ N : Nat, hnS w n a = (N : Int) := ⟨(hnS w n a).toNat, by omega⟩
      have hN24 : N ≤ 24 := by omega
      rw [if_neg (fun z => z h13), Int.toNat_natCast, hN, Int.toNat_natCast]
      refine T_aload_n dX12_readings_20 rfl ?_
      refine T_iload_n dX12_readings_21 rfl ?_
      refine T_callV dX12_readings_22 lX12_261 (As := [_]) (rest := _) rfl rfl k271 (by decide) (Nat.le_of_ble_eq_true rfl) (Nat.le_of_ble_eq_true rfl) (t_hears hW hV hn hn24 ha) ?_
      rintro _ _ ⟨rfl, rfl⟩
      rw [hN]
      refine T_ist dX12_readings_25 (by decide) rfl ?_
      refine T_aload_n dX12_readings_27 rfl ?_
      refine T_getR dX12_readings_28 fX12_77 rfl k271 r271_35 ?_
      refine T_iload dX12_readings_31 rfl ?_
      refine T_lconst1 dX12_readings_33 ?_
      refine T_last dX12_readings_34 k294 l294 (by omega) (j := N) (by omega) ?_
      refine T_aload_n dX12_readings_35 rfl ?_
      refine T_getR dX12_readings_36 fX12_81 rfl k271 r271_36 ?_
      refine T_iload dX12_readings_39 rfl ?_
      refine T_iconst dX12_readings_41 (by decide) ?_
      refine T_iast dX12_readings_42 k295 l295 (by omega) (j := N) (by omega) ?_
      refine T_iload dX12_readings_43 rfl ?_
      refine T_iconst dX12_readings_45 (by decide) ?_
      refine T_sub dX12_readings_46 (by omega) ?_
      refine T_ist dX12_readings_47 (by decide) rfl ?_
      have h49 : ∀ y : Nat × sD, (y.1 ≤ N ∧ Ag [294, 295] [] d1 y.2 ∧ ∀ j, y.1 ≤ j → j ≤ N → y.2 294 j = rdS w s n a N j ∧ y.2 295 j = fwS w s n a N j) → tB G mX12_readings 49 [vR 271, vI k, vI l, vI a, vI x, vI N, vI ((y.1 : Int) - 1), vU 0] [] y.2 (qQL d (qRd w s n a N x) rdC pyF) := by
        refine T_loop (α := Nat × sD) 49 (fun y => [vR 271, vI k, vI l, vI a, vI x, vI N, vI ((y.1 : Int) - 1), vU 0]) (fun y => y.2) (fun y => y.1 ≤ N ∧ Ag [294, 295] [] d1 y.2 ∧ ∀ j, y.1 ≤ j → j ≤ N → y.2 294 j = rdS w s n a N j ∧ y.2 295 j = fwS w s n a N j) (fun y => y.1) ?_
        rintro ⟨i, e0⟩ ⟨hi, hA0, h0j⟩ ih
        try dsimp only at hi hA0 h0j ih ⊢
        refine T_iload dX12_readings_49 rfl ?_
        refine T_if_lt (tgt := 171) dX12_readings_51 (by decide) (fun c51 => ?_) (fun c51 => ?_)
        · obtain rfl : i = 0 := by omega
          obtain ⟨f1, f2⟩ := h0j 0 (Nat.le_refl _) (by omega)
          have hAf := hA.trans hA0 (cs := rdC) (fs := pyF) (by decide) (by decide) (by decide) (by decide)
          refine T_iload dX12_readings_171 rfl ?_
          refine T_if_ne (tgt := 185) dX12_readings_173 (by decide) (fun c173 => ?_) (fun c173 => ?_)
          · refine T_aload_n dX12_readings_185 rfl ?_
            refine T_getR dX12_readings_186 fX12_77 rfl k271 r271_35 ?_
            refine T_iconst dX12_readings_189 (by decide) ?_
            refine T_laldv dX12_readings_190 k294 l294 (by omega) (j := 0) rfl (x := rdS w s n a N 0) f1 ?_
            refine T_lconst0 dX12_readings_191 ?_
            refine T_lcmp dX12_readings_192 ?_
            refine T_if_ne (tgt := 202) dX12_readings_193 (by decide) (fun c193 => ?_) (fun c193 => ?_)
            · refine T_aload_n dX12_readings_202 rfl ?_
              refine T_getR dX12_readings_203 fX12_81 rfl k271 r271_36 ?_
              refine T_iconst dX12_readings_206 (by decide) ?_
              refine T_ialdv dX12_readings_207 k295 l295 (by omega) (j := 0) rfl (x := fwS w s n a N 0) f2 ?_
              refine T_i2l dX12_readings_208 ?_
              exact T_lreturn dX12_readings_209 rfl ⟨by unfold qRd; rw [if_neg c173, if_neg (fun z => c193 ((cmpZ_0 _).mpr z))], hAf⟩
            · refine T_ldc2 dX12_readings_196 (by decide) kX12_376 ?_
              refine T_goto (tgt := 209) dX12_readings_199 (by decide) ?_
              exact T_lreturn dX12_readings_209 rfl ⟨by unfold qRd; rw [if_neg c173, if_pos ((cmpZ_0 _).mp c193)], hAf⟩
          · refine T_aload_n dX12_readings_176 rfl ?_
            refine T_getR dX12_readings_177 fX12_77 rfl k271 r271_35 ?_
            refine T_iconst dX12_readings_180 (by decide) ?_
            refine T_laldv dX12_readings_181 k294 l294 (by omega) (j := 0) rfl (x := rdS w s n a N 0) f1 ?_
            refine T_goto (tgt := 209) dX12_readings_182 (by decide) ?_
            exact T_lreturn dX12_readings_209 rfl ⟨by unfold qRd; rw [if_pos c173], hAf⟩
        · obtain ⟨q, rfl⟩ : ∃ q : Nat, i = q + 1 := ⟨i - 1, by omega⟩
          have hqN : q < N := by omega
          rw [show ((q + 1 : Nat) : Int) - 1 = (q : Int) by omega]
          refine T_aload_n dX12_readings_54 rfl ?_
          refine T_getR dX12_readings_55 fX12_77 rfl k271 r271_35 ?_
          refine T_iload dX12_readings_58 rfl ?_
          refine T_lconst0 dX12_readings_60 ?_
          refine T_last dX12_readings_61 k294 l294 (by omega) (j := q) (by omega) ?_
          refine T_aload_n dX12_readings_62 rfl ?_
          refine T_getR dX12_readings_63 fX12_81 rfl k271 r271_36 ?_
          refine T_iload dX12_readings_66 rfl ?_
          refine T_sipush dX12_readings_68 (by decide) ?_
          refine T_iast dX12_readings_71 k295 l295 (by omega) (j := q) (by omega) ?_
          refine T_iconst dX12_readings_72 (by decide) ?_
          refine T_ist dX12_readings_73 (by decide) rfl ?_
          have h75 : ∀ y : Nat × sD, ((y.1 : Int) ≤ w (15 + a) ∧ Ag [294, 295] [] d1 y.2 ∧ (y.2 294 q = rdO w s n a N q y.1 ∧ y.2 295 q = fwO w s n a N q y.1) ∧ ∀ j, q + 1 ≤ j → j ≤ N → y.2 294 j = rdS w s n a N j ∧ y.2 295 j = fwS w s n a N j) → tB G mX12_readings 75 [vR 271, vI k, vI l, vI a, vI x, vI N, vI q, vI y.1] [] y.2 (qQL d (qRd w s n a N x) rdC pyF) := by
            refine T_loop (α := Nat × sD) 75 (fun y => [vR 271, vI k, vI l, vI a, vI x, vI N, vI q, vI y.1]) (fun y => y.2) (fun y => (y.1 : Int) ≤ w (15 + a) ∧ Ag [294, 295] [] d1 y.2 ∧ (y.2 294 q = rdO w s n a N q y.1 ∧ y.2 295 q = fwO w s n a N q y.1) ∧ ∀ j, q + 1 ≤ j → j ≤ N → y.2 294 j = rdS w s n a N j ∧ y.2 295 j = fwS w s n a N j) (fun y => 6 - y.1) ?_
            rintro ⟨o, e⟩ ⟨ho, hAe, ⟨he1, he2⟩, hej⟩ ih2
            try dsimp only at ho hAe he1 he2 hej ih2 ⊢
            have hWe := Wd_ag hW hAe (by decide) (by decide)
            have hne : e 271 18 = (n : Int) := (hAe.2 18 (by decide)).trans hn
            have hse : ∀ j, j < n → e 279 j = s j := fun j hj => (hAe.1 279 j (by decide) (by decide)).trans (hs j hj)
            refine T_iload dX12_readings_75 rfl ?_
            refine T_aload_n dX12_readings_77 rfl ?_
            refine T_iload_n dX12_readings_78 rfl ?_
            refine T_callV dX12_readings_79 lX12_221 (As := [_]) (rest := _) rfl rfl k271 (by decide) (Nat.le_of_ble_eq_true rfl) (Nat.le_of_ble_eq_true rfl) (t_orders hWe ha) ?_
            rintro _ _ ⟨rfl, rfl⟩
            refine T_icmp_ge (tgt := 165) dX12_readings_82 (by decide) (fun c82 => ?_) (fun c82 => ?_)
            · refine T_inc dX12_readings_165 rfl (by decide) rfl (by omega) ?_
              refine T_goto (tgt := 49) dX12_readings_168 (by decide) ?_
              obtain ⟨g1, g2⟩ := rdS_i (s := s) hV ha hN (i := q) hqN
              have hoe : (w (15 + a)).toNat = o := by omega
              rw [hoe] at g1 g2
              refine T_drop 7 (T_leq ?_ (ih (q, e) ⟨by omega, hAe, fun j h1 h2 => ?_⟩ (by omega)))
              · show [_, _, _, _, _, _, vI _, _] = [_, _, _, _, _, _, vI _, _]
                rw [show (q : Int) + -1 = (q : Int) - 1 by omega]
              · rcases (show q + 1 ≤ j ∨ j = q by omega) with z | rfl
                · exact hej j z h2
                · rw [g1, g2]; exact ⟨he1, he2⟩
            · refine T_aload_n dX12_readings_85 rfl ?_
              refine T_iload_n dX12_readings_86 rfl ?_
              refine T_iload dX12_readings_87 rfl ?_
              refine T_iload dX12_readings_89 rfl ?_
              refine T_callV dX12_readings_91 lX12_267 (As := [_, _, _]) (rest := _) rfl rfl k271 (by decide) (Nat.le_of_ble_eq_true rfl) (Nat.le_of_ble_eq_true rfl) (t_isFrom hWe hV hne hn24 ha (by omega) (by omega)) ?_
              rintro _ _ ⟨rfl, rfl⟩
              rw [isF_eq (s := e 279) (s' := s) hV ha (by omega) hse]
              refine T_if_ne (tgt := 100) dX12_readings_94 (by decide) (fun c94 => ?_) (fun c94 => ?_)
              · have h94 := bI_1 c94
                have hen := isF_end hV ha hN (by omega) h94
                have hl := hV.ln ha (o := o) (by omega)
                obtain ⟨f1, f2⟩ := hej (q + lnW w a o) (by omega) (by omega)
                have hr1 := rdO_rg (s := s) hV ha hN hN24 (i := q) (o := o + 1) (by omega) (by omega)
                have hr2 : rdO w s n a N q (o + 1) = rdO w s n a N q o + rdS w s n a N (q + lnW w a o) := by show _ + (if _ then _ else _) = _; rw [if_pos h94]
                have hr3 : fwO w s n a N q (o + 1) = min (fwO w s n a N q o) (1 + fwS w s n a N (q + lnW w a o)) := if_pos h94
                have hr4 := (rdS_rg hV (s := s) ha hN (N - (q + lnW w a o)) (q + lnW w a o) (Nat.le_refl _) (by omega)).2
                refine T_aload_n dX12_readings_100 rfl ?_
                refine T_getR dX12_readings_101 fX12_77 rfl k271 r271_35 ?_
                refine T_iload dX12_readings_104 rfl ?_
                refine T_dup2 dX12_readings_106 rfl rfl ?_
                refine T_laldv dX12_readings_107 k294 l294 (by omega) (j := q) rfl (x := rdO w s n a N q o) he1 ?_
                refine T_aload_n dX12_readings_108 rfl ?_
                refine T_getR dX12_readings_109 fX12_77 rfl k271 r271_35 ?_
                refine T_iload dX12_readings_112 rfl ?_
                refine T_aload_n dX12_readings_114 rfl ?_
                refine T_iload_n dX12_readings_115 rfl ?_
                refine T_iload dX12_readings_116 rfl ?_
                refine T_callV8 dX12_readings_118 lX12_230 (As := [_, _]) (rest := _) rfl rfl k271 (by decide) (Nat.le_of_ble_eq_true rfl) (Nat.le_of_ble_eq_true rfl) (t_lengthOf hWe ha (by omega)) ?_
                rintro _ _ ⟨rfl, rfl⟩
                refine T_add dX12_readings_121 (by omega) ?_
                refine T_laldv dX12_readings_122 k294 l294 (by omega) (j := q + lnW w a o) (by omega) (x := rdS w s n a N (q + lnW w a o)) f1 ?_
                refine T_ladd dX12_readings_123 ?_
                rw [← hr2, w64_id (by omega) hr1.2]
                refine T_last dX12_readings_124 k294 l294 (by omega) (j := q) (by omega) ?_
                refine T_aload_n dX12_readings_125 rfl ?_
                refine T_getR dX12_readings_126 fX12_81 rfl k271 r271_36 ?_
                refine T_iload dX12_readings_129 rfl ?_
                refine T_aload_n dX12_readings_131 rfl ?_
                refine T_getR dX12_readings_132 fX12_81 rfl k271 r271_36 ?_
                refine T_iload dX12_readings_135 rfl ?_
                refine T_ialdv dX12_readings_137 k295 l295 (by omega) (j := q) rfl (x := fwO w s n a N q o) (by rw [up_nea (by decide)]; exact he2) ?_
                refine T_iconst dX12_readings_138 (by decide) ?_
                refine T_aload_n dX12_readings_139 rfl ?_
                refine T_getR dX12_readings_140 fX12_81 rfl k271 r271_36 ?_
                refine T_iload dX12_readings_143 rfl ?_
                refine T_aload_n dX12_readings_145 rfl ?_
                refine T_iload_n dX12_readings_146 rfl ?_
                refine T_iload dX12_readings_147 rfl ?_
                refine T_callV8 dX12_readings_149 lX12_230 (As := [_, _]) (rest := _) rfl rfl k271 (by decide) (Nat.le_of_ble_eq_true rfl) (Nat.le_of_ble_eq_true rfl) (t_lengthOf (hWe.up (by decide) (fun z => absurd z.1 (by decide))) ha (by omega)) ?_
                rintro _ _ ⟨rfl, rfl⟩
                refine T_add dX12_readings_152 (by omega) ?_
                refine T_ialdv dX12_readings_153 k295 l295 (by omega) (j := q + lnW w a o) (by omega) (x := fwS w s n a N (q + lnW w a o)) (by rw [up_nea (by decide)]; exact f2) ?_
                refine T_add dX12_readings_154 (by omega) ?_
                refine T_callS dX12_readings_155 lX12_320 (As := [_, _]) (rest := _) rfl rfl (by decide) (Nat.le_of_ble_eq_true rfl) (Nat.le_of_ble_eq_true rfl) t_X12_lesser ?_
                rintro _ _ ⟨rfl, rfl⟩
                refine T_iast dX12_readings_158 k295 l295 (by omega) (j := q) (by omega) ?_
                refine T_inc dX12_readings_159 rfl (by decide) rfl (by omega) ?_
                refine T_goto (tgt := 75) dX12_readings_162 (by decide) ?_
                refine ih2 (o + 1, up (up e 294 q (rdO w s n a N q (o + 1))) 295 q (min (fwO w s n a N q o) (1 + fwS w s n a N (q + lnW w a o)))) ⟨by omega, Ag_up (Ag_up hAe (by decide)) (by decide), ⟨?_, ?_⟩, fun j h1 h2 => ?_⟩ (by omega)
                · try dsimp only
                  rw [up_nea (by decide), up_same]
                · try dsimp only
                  rw [up_same, hr3]
                · try dsimp only
                  rw [up_nea (by decide), up_nej (by omega), up_nej (by omega), up_nea (by decide)]
                  exact hej j h1 h2
              · refine T_goto (tgt := 159) dX12_readings_97 (by decide) ?_
                refine T_inc dX12_readings_159 rfl (by decide) rfl (by omega) ?_
                refine T_goto (tgt := 75) dX12_readings_162 (by decide) ?_
                refine ih2 (o + 1, e) ⟨by omega, hAe, ⟨?_, ?_⟩, hej⟩ (by omega)
                · dsimp only; rw [he1]; show _ = _ + (if _ then _ else _); rw [if_neg (bI_0 c94), Int.add_zero]
                · dsimp only; rw [he2]; exact (if_neg (bI_0 c94)).symm
          refine h75 (0, up (up e0 294 q 0) 295 q 999) ⟨by show (0 : Int) ≤ _; omega, Ag_up (Ag_up hA0 (by decide)) (by decide), ⟨?_, ?_⟩, fun j h1 h2 => ?_⟩
          · try dsimp only
            rw [up_nea (by decide), up_same]; rfl
          · try dsimp only
            rw [up_same]; rfl
          · try dsimp only
            rw [up_nea (by decide), up_nej (by omega), up_nej (by omega), up_nea (by decide)]
            exact h0j j (by omega) h2
      refine h49 (N, up (up d1 294 N 1) 295 N 0) ⟨Nat.le_refl _, Ag_up (Ag_up Ag.rf (by decide)) (by decide), fun j h1 h2 => ?_⟩
      obtain rfl : j = N := by dsimp only at h1; omega
      try dsimp only
      rw [up_nea (by decide), up_same, up_same, rdS_N, fwS_N]
      exact ⟨rfl, rfl⟩
    · refine T_ldc2 dX12_readings_16 (by decide) kX12_374 ?_
      exact T_lreturn dX12_readings_19 rfl ⟨by rw [if_pos (bI_0 c13)], hA⟩

end M30
