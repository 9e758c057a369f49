/-! calls -/
def entl : List sV → List sV
  | [] => []
  | v :: r => if isL v = true then v :: vU 0 :: entl r else v :: entl r
def ent (n : Nat) (As : List sV) : List sV := entl As ++ List.replicate (n - (entl As).length) (vU 0)
theorem entl_sl (G : sG) : ∀ As : List sV, (lg_sl (As.map (rv G))).length = (entl As).length
  | [] => rfl
  | v :: r => by
    have ih := entl_sl G r
    simp only [lg_sl, List.map_cons, List.flatMap_cons, List.length_append] at ih ⊢
    unfold entl
    by_cases h : isL v = true
    · rw [if_pos h, if_pos (isL_cat.mpr h), ih]; simp; omega
    · rw [if_neg h, if_neg (fun q => h (isL_cat.mp q)), ih]; simp; omega
theorem entl_args (G : sG) : ∀ (As : List sV) (i j : Nat) (v : sV), (entl As)[j]? = some v → v ≠ vU 0 → (i + j, rv G v) ∈ lv_args i (As.map (rv G))
  | [], _, j, v, h, _ => by simp [entl] at h
  | w :: r, i, j, v, h, hv => by
    unfold entl at h
    rw [List.map_cons]
    unfold lv_args
    by_cases hw : isL w = true
    · rw [if_pos hw] at h
      rw [if_pos (isL_cat.mpr hw)]
      match j, h with
      | 0, h =>
        have e : w = v := by simpa using h
        subst e
        exact List.mem_cons_self
      | 1, h =>
        have e : vU 0 = v := by simpa using h
        exact absurd e.symm hv
      | j + 2, h =>
        have h1 := entl_args G r (i + 2) j v (by simpa using h) hv
        rw [show i + (j + 2) = i + 2 + j by omega]
        exact List.mem_cons_of_mem _ h1
    · rw [if_neg hw] at h
      rw [if_neg (fun q => hw (isL_cat.mp q))]
      match j, h with
      | 0, h =>
        have e : w = v := by simpa using h
        subst e
        exact List.mem_cons_self
      | j + 1, h =>
        have h1 := entl_args G r (i + 1) j v (by simpa using h) hv
        rw [show i + (j + 1) = i + 1 + j by omega]
        exact List.mem_cons_of_mem _ h1
theorem entl_ok : ∀ As : List sV, (∀ v ∈ As, okV v) → ∀ v ∈ entl As, okV v
  | [], _ => by intro v h; cases h
  | w :: r, h => by
    have ih := entl_ok r (ok_tl h)
    unfold entl
    split
    · exact ok_cons (ok_hd h) (ok_cons (v := vU 0) trivial ih)
    · exact ok_cons (ok_hd h) ih
theorem ent_LR {G : sG} {n : Nat} {As : List sV} (hA : ∀ v ∈ As, okV v) (hn : (entl As).length ≤ n) : LR G n (ent n As) ((lg_sl (As.map (rv G)) ++ List.replicate (n - (lg_sl (As.map (rv G))).length) Slot.unset).toArray) := by
  refine LR.of ?_ (fun v hv => ?_) (lv_entry (As.map (rv G)) (by rw [entl_sl]; exact hn)) (fun i v h hv => ?_)
  · unfold ent; simp; omega
  · unfold ent at hv
    rcases List.mem_append.mp hv with h | h
    · exact entl_ok As hA v h
    · rw [List.eq_of_mem_replicate h]; trivial
  · unfold ent at h
    have h0 := entl_args G As 0 i v
    rw [Nat.zero_add] at h0
    by_cases hi : i < (entl As).length
    · rw [List.getElem?_append_left hi] at h
      exact h0 h hv
    · rw [List.getElem?_append_right (by omega)] at h
      have := List.eq_of_mem_replicate (List.mem_of_getElem? h)
      exact absurd this hv
def Pz (G : sG) (S : sS) (d : sD) (As : List sV) : Array Value → State → Prop := fun v U => v = (As.map (rv G)).toArray ∧ HR G S d U.heap ∧ KK G U
def Qz (G : sG) (Q : Option sV → sS → sD → Prop) : Array Value → State → Outcome → State → Prop := fun _ _ o t => ∃ (r : Option sV) (S : sS) (d : sD), o = .returned (r.map (rv G)) ∧ Q r S d ∧ HR G S d t.heap ∧ ∀ v, r = some v → okV v
theorem Pz_blind {G : sG} {S : sS} {d : sD} {As : List sV} : FrameBlind (Pz G S d As) := fun _ U _ _ h => ⟨h.1, h.2.1, KK.same (s := U) rfl h.2.2⟩
abbrev rmM (M : sM) (kc ks : Nat) : Room := { frames := mF M, cells := kc, slots := ks, locals := mO M }
theorem sm_met {G : sG} {M : sM} {S : sS} {d : sD} {kc ks : Nat} {Q : Option sV → sS → sD → Prop} {As : List sV} (l : Launch) (hM : MOk M) (hA : ∀ v ∈ As, okV v) (hn : (entl As).length ≤ mL M) (hB : sB G M 0 (ent (mL M) As) [] S d kc ks Q) :
    Met l (mY M) (Cond.code (mY M) (mC M) (mL M) (mR M) :: gw) (rmM M kc ks) (Pz G S d As) (Qz G Q) kc ks (fun q => gB G ≤ q) := by
  refine Met.ofW (cc := mC M) (maxL := mL M) (ret := mR M) hM.1 rfl ?_
  intro p e s m args below meth c s₁ B hml hv
  obtain ⟨rfl, hH, hK⟩ := hv
  have hts := atoms_spec (ws := Cond.code (mY M) (mC M) (mL M) (mR M) :: gw) B.pre
  have hlocks := B.notSynchronized
  have hrt := B.returns
  rw [lg_entry_eq]
  refine hB p l e _ s m _ below meth c s.heap [] 0 0 _ _ ⟨B.exec, B.bytes, hml, findClass_of_methodNamed B.named, fun w hw => hts w (List.mem_cons_of_mem _ hw), fun h => (name_of_methodNamed B.named B.method).1.trans h, hK, ⟨Nat.le_refl _, Nat.le_refl _⟩, ?_⟩ hH (fun q hq => by cases hq) (ent_LR hA hn) (fun q hq => by cases hq) (by rw [Nat.zero_add]; exact Nat.le_refl _) (by rw [Nat.zero_add]; exact Nat.le_refl _)
  intro r S' d' H' locs pc lsr hq hH' hl hok hi
  have hQ : ∀ t : State, t.heap = H' → s.WarmedH t.vm → Qz G Q (As.map (rv G)).toArray s (.returned (r.map (rv G))) t := fun t ht _ => ⟨r, S', d', rfl, hq, by rw [ht]; exact hH', hok⟩
  rcases r with _ | v
  · exact W.vret B.exec B.bytes (hrt.trans hi.2) hQ hl hi.1
  · rcases v with x | x | x | x
    · obtain ⟨hdg, hi | ⟨hi, hx⟩ | ⟨ty, hi, hx⟩⟩ := hi
      · exact W.iret B.exec B.bytes (hrt.trans hi) hQ hl hdg
      · exact W.zret B.exec B.bytes (hrt.trans hi) (by rcases hx with rfl | rfl <;> decide) hQ hl hdg
      · exact W.zret B.exec B.bytes (hrt.trans hi) hx hQ hl hdg
    · exact W.lret B.exec B.bytes (hrt.trans hi.2) hQ hl hi.1
    · obtain ⟨hdg, C, hi⟩ := hi
      exact W.aret B.exec B.bytes (hrt.trans hi) (Or.inl ⟨C, rfl⟩) (rv_rn G x) hQ hl hdg
    · cases hi
section SBC
variable {G : sG} {M M' : sM} {pc idx n k a kc' ks' : Nat} {ls st As rest : List sV} {S : sS} {d : sD} {kc ks : Nat} {Q Q' : Option sV → sS → sD → Prop}
theorem call_go {p : Program} {l : Launch} {e : Env} {R : Room} {s : State} {m : MethodId} {args : Array Value} {below : List Frame} {meth : Method} {c : Code} {H : Heap} {locs : List Loc} {cells slots : Nat} {Z : State → Prop} {lsr : Array Slot} {st0 : List Value} {av : Array Value}
    (hr : va_Run p l e R s m args below meth c H locs cells slots kc' ks' (F0 m pc lsr st0) (rest.map (rv G)) (Qz G Q' av) (fun q => gB G ≤ q)) (kk : ∀ r S' d', Q' r S' d' → sB G M (pc + 3) ls (r.toList ++ rest) S' d' kc ks Q)
    (C : Cx G M Q p l e R s m args below meth c Z) (hl : ∀ q ∈ locs, gB G ≤ q.base) (hL : LR G (mL M) ls lsr) (hok : ∀ v ∈ rest, okV v) (hc : cells + (kc' + kc) ≤ R.cells) (hs : slots + (ks' + ks) ≤ R.slots) :
    W p l e R s m args below meth c H locs cells slots Z (F0 m pc lsr st0) := by
  intro T hT X
  obtain ⟨v, st₀, t, T', L, h0, X', hL', e1, e2, ⟨r, S', d', hv, hq, hH', hrk⟩, st⟩ := hr T hT X
  have hv' : v = r.map (rv G) := Outcome.returned.inj hv
  subst hv'
  have hok2 : ∀ v ∈ r.toList ++ rest, okV v := fun v hv => by
    rcases List.mem_append.mp hv with h | h
    · exact hrk v (by simpa using h)
    · exact hok v h
  obtain ⟨t2, a1, b1⟩ := kk r S' d' hq p l e R s m args below meth c T'.heap (locs ++ L) (cells + kc') (slots + ks') Z lsr C (by rw [e1]; exact hH') (fun q hq => by
    rcases List.mem_append.mp hq with h | h
    · exact hl q h
    · exact hL' q h) hL hok2 (by omega) (by omega) T' rfl X'
  refine ⟨t2, st t2 ?_, b1⟩
  have ee : (r.map (rv G)).toList ++ rest.map (rv G) = (r.toList ++ rest).map (rv G) := by cases r <;> simp
  show Steps p.tables e below (T'.setTop (F0 m (pc + 3) lsr ((r.map (rv G)).toList ++ rest.map (rv G)))) t2
  rw [ee]
  exact a1
theorem rest_room {lsr : Array Slot} {m : MethodId} {st0 : List Value} (h : rest.length ≤ 4) : 2 * (F0 m pc lsr st0).monitorRoom + ((rest.map (rv G)).map fun v => v.category).sum ≤ 8 := by
  refine lv_room ?_
  have : ∀ l : List sV, ((l.map (rv G)).map fun v => v.category).sum ≤ 2 * l.length := by
    intro l
    induction l with
    | nil => exact Nat.le_refl _
    | cons v r ih =>
      rw [List.map_cons, List.map_cons, List.sum_cons, List.length_cons]
      have := lv_cat (rv G v)
      omega
  have := this rest
  omega
theorem ok_rev {v : sV} (h : ∀ w ∈ As.reverse ++ v :: rest, okV w) : (∀ w ∈ v :: As, okV w) ∧ ∀ w ∈ rest, okV w := by
  refine ⟨fun w hw => h w (List.mem_append.mpr ?_), fun w hw => h w (List.mem_append_right _ (List.mem_cons_of_mem _ hw))⟩
  rcases List.mem_cons.mp hw with rfl | hw
  · exact Or.inr List.mem_cons_self
  · exact Or.inl (List.mem_reverse.mpr hw)
theorem B_callV (hd : decode (mC M) pc = .ok (.invokevirtual idx, 3)) (hk : LkV (mY M).cls idx M' n k) (hst : st = As.reverse ++ vR a :: rest) (hn : As.length = n) (hka : kn S a = k) (hrm : mF M' + 1 ≤ mF M ∧ 8 + (mL M' + 11) + mO M' ≤ mO M) (hrest : rest.length ≤ 4) (hlen : (entl (vR a :: As)).length ≤ mL M')
    (hB : sB G M' 0 (ent (mL M') (vR a :: As)) [] S d kc' ks' Q') (kk : ∀ r S' d', Q' r S' d' → sB G M (pc + 3) ls (r.toList ++ rest) S' d' kc ks Q) : sB G M pc ls st S d (kc' + kc) (ks' + ks) Q := by
  intro p l e R s m args below meth c H locs cells slots Z lsr C hH hl hL hs hc hks
  subst hst
  obtain ⟨hM', w1, w2, w3, w4, q, hq, hqn⟩ := hk
  obtain ⟨o1, o2⟩ := ok_rev hs
  have hts := C.2.2.2.2.1
  have hk13 := (cl_ok hq).2.2.2.2.2
  have hmet := sm_met l hM' o1 hlen hB
  obtain ⟨cell, q1, q2, q3, q4⟩ := hH.obj hka hk13
  have hfc := (C.2.2.2.2.2.2.1.1.1 k _ hq).2.1
  have hcb : CallB R s args (mY M).cls idx (mY M') (mC M') (mL M') (mR M') (Cond.code (mY M') (mC M') (mL M') (mR M') :: gw) (rmM M' kc' ks') kc' ks' n :=
    callB_of n hts (gw_good _ _ _ _ hM'.2.1) rfl rfl rfl (hts _ hM'.2.2.1) (hts _ w1) ⟨hM'.2.2.2.1, hM'.2.2.2.2, w4⟩ ⟨by have := C.2.2.2.2.2.2.2.1.1; show mF M' + 1 ≤ _; omega, by have := C.2.2.2.2.2.2.2.1.2; show 8 + (mL M' + 11) + mO M' ≤ _; omega⟩
  have ea : rv G (vR a) = .ref (adr G a) := hH.rv (by omega)
  have hpre : PreV s H (mY M').cls (adr G a) (Pz G S d (vR a :: As)) (As.map (rv G)) := by
    refine ⟨Pz_blind, ⟨cell, q1, by rw [q3]; rfl, ?_⟩, fun U hU hW => ⟨by rw [← ea]; rfl, by rw [hU]; exact hH, KK.warm hW C.2.2.2.2.2.2.1⟩⟩
    rw [q2, ← hqn]; exact hfc
  refine call_go (av := (Value.ref (adr G a) :: As.map (rv G)).toArray) (va_runV (As := As.map (rv G)) (rest := rest.map (rv G)) (b := adr G a) (C := (mY M').cls) ⟨C.1, C.2.1, C.2.2.1, C.2.2.2.1, hts⟩ hmet ⟨hcb, hts _ w2, hts _ w3⟩ hpre rfl (by rw [List.length_map]; exact hn) hL.1 ?_ (rest_room hrest) hd ⟨by omega, by omega⟩) kk C hl hL o2 (by omega) (by omega)
  show List.map (rv G) (As.reverse ++ vR a :: rest) = _
  rw [List.map_append, List.map_reverse, List.map_cons, ea]
theorem B_callS (hd : decode (mC M) pc = .ok (.invokestatic idx, 3)) (hk : LkS (mY M).cls idx M' n) (hst : st = As.reverse ++ rest) (hn : As.length = n) (hrm : mF M' + 1 ≤ mF M ∧ 8 + (mL M' + 11) + mO M' ≤ mO M) (hrest : rest.length ≤ 4) (hlen : (entl As).length ≤ mL M')
    (hB : sB G M' 0 (ent (mL M') As) [] S d kc' ks' Q') (kk : ∀ r S' d', Q' r S' d' → sB G M (pc + 3) ls (r.toList ++ rest) S' d' kc ks Q) : sB G M pc ls st S d (kc' + kc) (ks' + ks) Q := by
  intro p l e R s m args below meth c H locs cells slots Z lsr C hH hl hL hs hc hks
  subst hst
  obtain ⟨hM', w1, w2, w4⟩ := hk
  have o1 : ∀ w ∈ As, okV w := fun w hw => hs w (List.mem_append_left _ (List.mem_reverse.mpr hw))
  have o2 : ∀ w ∈ rest, okV w := fun w hw => hs w (List.mem_append_right _ hw)
  have hts := C.2.2.2.2.1
  have hmet := sm_met l hM' o1 hlen hB
  have hcb : CallB R s args (mY M).cls idx (mY M') (mC M') (mL M') (mR M') (Cond.code (mY M') (mC M') (mL M') (mR M') :: gw) (rmM M' kc' ks') kc' ks' n :=
    callB_of n hts (gw_good _ _ _ _ hM'.2.1) rfl rfl rfl (hts _ hM'.2.2.1) (hts _ w1) ⟨hM'.2.2.2.1, hM'.2.2.2.2, w4⟩ ⟨by have := C.2.2.2.2.2.2.2.1.1; show mF M' + 1 ≤ _; omega, by have := C.2.2.2.2.2.2.2.1.2; show 8 + (mL M' + 11) + mO M' ≤ _; omega⟩
  have hpre : PreS s H (Pz G S d As) (As.map (rv G)) := ⟨Pz_blind, fun U hU hW => ⟨rfl, by rw [hU]; exact hH, KK.warm hW C.2.2.2.2.2.2.1⟩⟩
  refine call_go (av := (As.map (rv G)).toArray) (va_runS (As := As.map (rv G)) (rest := rest.map (rv G)) ⟨C.1, C.2.1, C.2.2.1, C.2.2.2.1, hts⟩ hmet ⟨hcb, hts _ w2⟩ hpre rfl (by rw [List.length_map]; exact hn) hL.1 ?_ (rest_room hrest) hd ⟨by omega, by omega⟩) kk C hl hL o2 (by omega) (by omega)
  show List.map (rv G) (As.reverse ++ rest) = _
  rw [List.map_append, List.map_reverse]
theorem B_callI (hd : decode (mC M) pc = .ok (.invokespecial idx, 3)) (hk : LkI (mY M).cls idx M' n) (hst : st = As.reverse ++ vR a :: rest) (hn : As.length = n) (hka : kn S a ≠ 99) (hrm : mF M' + 1 ≤ mF M ∧ 8 + (mL M' + 11) + mO M' ≤ mO M) (hrest : rest.length ≤ 4) (hlen : (entl (vR a :: As)).length ≤ mL M')
    (hB : sB G M' 0 (ent (mL M') (vR a :: As)) [] S d kc' ks' Q') (kk : ∀ r S' d', Q' r S' d' → sB G M (pc + 3) ls (r.toList ++ rest) S' d' kc ks Q) : sB G M pc ls st S d (kc' + kc) (ks' + ks) Q := by
  intro p l e R s m args below meth c H locs cells slots Z lsr C hH hl hL hs hc hks
  subst hst
  obtain ⟨hM', w1, w2, w3, w5, w4⟩ := hk
  obtain ⟨o1, o2⟩ := ok_rev hs
  have hts := C.2.2.2.2.1
  have hmet := sm_met l hM' o1 hlen hB
  have hcb : CallB R s args (mY M).cls idx (mY M') (mC M') (mL M') none (Cond.code (mY M') (mC M') (mL M') (mR M') :: gw) (rmM M' kc' ks') kc' ks' n := by
    rw [← w5]
    exact callB_of n hts (gw_good _ _ _ _ hM'.2.1) rfl rfl rfl (hts _ hM'.2.2.1) (hts _ w1) ⟨hM'.2.2.2.1, hM'.2.2.2.2, w4⟩ ⟨by have := C.2.2.2.2.2.2.2.1.1; show mF M' + 1 ≤ _; omega, by have := C.2.2.2.2.2.2.2.1.2; show 8 + (mL M' + 11) + mO M' ≤ _; omega⟩
  have ea : rv G (vR a) = .ref (adr G a) := hH.rv hka
  have hpre : PreS s H (Pz G S d (vR a :: As)) (.ref (adr G a) :: As.map (rv G)) := ⟨Pz_blind, fun U hU hW => ⟨by rw [← ea]; rfl, by rw [hU]; exact hH, KK.warm hW C.2.2.2.2.2.2.1⟩⟩
  refine call_go (av := (Value.ref (adr G a) :: As.map (rv G)).toArray) (va_runI (As := As.map (rv G)) (rest := rest.map (rv G)) (b := adr G a) ⟨C.1, C.2.1, C.2.2.1, C.2.2.2.1, hts⟩ hmet ⟨hcb, w3, hts _ w2⟩ hpre rfl (by rw [List.length_map]; exact hn) hL.1 ?_ (rest_room hrest) hd ⟨by omega, by omega⟩) kk C hl hL o2 (by omega) (by omega)
  show List.map (rv G) (As.reverse ++ vR a :: rest) = _
  rw [List.map_append, List.map_reverse, List.map_cons, ea]
theorem B_callN {host : String} (hd : decode (mC M) pc = .ok (.invokespecial idx, 3)) (hk : LkN (mY M).cls idx M' n host) (hst : st = As.reverse ++ vR a :: rest) (hn : As.length = n) (hka : kn S a ≠ 99) (hrm : mF M' + 1 ≤ mF M ∧ 8 + (mL M' + 11) + mO M' ≤ mO M) (hrest : rest.length ≤ 4) (hlen : (entl (vR a :: As)).length ≤ mL M')
    (hB : sB G M' 0 (ent (mL M') (vR a :: As)) [] S d kc' ks' Q') (kk : ∀ r S' d', Q' r S' d' → sB G M (pc + 3) ls (r.toList ++ rest) S' d' kc ks Q) : sB G M pc ls st S d (kc' + kc) (ks' + ks) Q := by
  intro p l e R s m args below meth c H locs cells slots Z lsr C hH hl hL hs hc hks
  subst hst
  obtain ⟨hM', w1, w2, w3, w5, w4⟩ := hk
  obtain ⟨o1, o2⟩ := ok_rev hs
  have hts := C.2.2.2.2.1
  have hmet := sm_met l hM' o1 hlen hB
  have hcb : va_CN R s args (mY M).cls idx (mY M') host (mC M') (mL M') none (Cond.code (mY M') (mC M') (mL M') (mR M') :: gw) (rmM M' kc' ks') kc' ks' n := by
    rw [← w5]
    exact va_cnB n hts (gw_good _ _ _ _ hM'.2.1) rfl rfl rfl (C.2.2.2.2.2.2.1.2.1 _ w1) (hts _ hM'.2.2.1) ⟨hM'.2.2.2.1, hM'.2.2.2.2, w4⟩ ⟨by have := C.2.2.2.2.2.2.2.1.1; show mF M' + 1 ≤ _; omega, by have := C.2.2.2.2.2.2.2.1.2; show 8 + (mL M' + 11) + mO M' ≤ _; omega⟩
  have ea : rv G (vR a) = .ref (adr G a) := hH.rv hka
  have hpre : PreS s H (Pz G S d (vR a :: As)) (.ref (adr G a) :: As.map (rv G)) := ⟨Pz_blind, fun U hU hW => ⟨by rw [← ea]; rfl, by rw [hU]; exact hH, KK.warm hW C.2.2.2.2.2.2.1⟩⟩
  refine call_go (av := (Value.ref (adr G a) :: As.map (rv G)).toArray) (va_runIN (As := As.map (rv G)) (rest := rest.map (rv G)) (b := adr G a) ⟨C.1, C.2.1, C.2.2.1, C.2.2.2.1, hts⟩ hmet ⟨hcb, w3, hts _ w2⟩ hpre rfl (by rw [List.length_map]; exact hn) hL.1 ?_ (rest_room hrest) hd ⟨by omega, by omega⟩) kk C hl hL o2 (by omega) (by omega)
  show List.map (rv G) (As.reverse ++ vR a :: rest) = _
  rw [List.map_append, List.map_reverse, List.map_cons, ea]
theorem B_obj (hd : decode (mC M) pc = .ok (.invokespecial idx, 3)) (hw : Cond.methodLink (mY M).cls idx Lib.objectInit ∈ gw ∧ Cond.instanceMethod Lib.objectInit ∈ gw ∧ Cond.code Lib.objectInit ⟨#[0xb1]⟩ 1 none ∈ gw) (hrm : 1 ≤ mF M ∧ 20 ≤ mO M) (hka : kn S a ≠ 99) (hrest : st.length ≤ 4) (kk : sB G M (pc + 3) ls st S d kc ks Q) : sB G M pc ls (vR a :: st) S d kc ks Q := by
  intro p l e R s m args below meth c H locs cells slots Z lsr C hH hl hL hs hc hks
  have hts := C.2.2.2.2.1
  have hr := C.2.2.2.2.2.2.2.1
  have hm := rest_room (G := G) (pc := pc) (lsr := lsr) (m := m) (st0 := (vR a :: st).map (rv G)) hrest
  refine W.objInit C.1 C.2.1 C.2.2.2.1 (hts _ hw.1) (hts _ hw.2.1) (hts _ hw.2.2) rfl (hL.1.trans C.2.2.1.symm) (a := adr G a) (rest := st.map (rv G)) ?_ hd (by omega) (by omega) ?_
  · show (vR a :: st).map (rv G) = _
    rw [List.map_cons, hH.rv hka]
  · exact kk p l e R s m args below meth c H locs cells slots Z lsr C hH hl hL (ok_tl hs) hc hks
end SBC
