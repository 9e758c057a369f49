/-! memory: fields, arrays, new cells -/
def ctab (k : Nat) : Nat → FieldType := if k = 0 then tyX0 else if k = 1 then tyX1 else if k = 2 then tyX2 else if k = 3 then tyX3 else if k = 4 then tyX4 else if k = 5 then tyX5 else if k = 6 then tyX6 else if k = 7 then tyX7 else if k = 8 then tyX8 else if k = 9 then tyX9 else if k = 10 then tyX10 else if k = 11 then tyX11 else tyX12
def ClOk (k : Nat) (q : vw_C) : Prop := (∀ w ∈ u_ws q.1 q.2.1 q.2.2, w ∈ gw) ∧ (∀ j, j < q.2.2 → parseFieldDescriptor (q.2.1 j).2.2.1 = some (ctab k j)) ∧ (∀ a, a < q.2.2 → ∀ b, b < q.2.2 → a ≠ b → (q.2.1 a).2.1 ≠ (q.2.1 b).2.1) ∧ q.2.2 = snf k ∧ (∀ j, j < q.2.2 → (sft k j = 0 ∧ ctab k j = .int) ∨ (sft k j = 4 ∧ ctab k j = .boolean) ∨ (sft k j = 2 ∧ (ctab k j).isReference = true)) ∧ k < 13
theorem gw_all {ws : List Cond} (h : ws.all (fun w => decide (w ∈ lw_tbl) && goodWord w) = true) : ∀ w ∈ ws, w ∈ gw := fun w hw => by
  have := List.all_eq_true.mp h w hw
  simp only [Bool.and_eq_true, decide_eq_true_eq] at this
  exact gw_in this.1 this.2
theorem clX0 : ClOk 0 (RX0, TX0, 7) := ⟨gw_all (by decide +kernel), tyX0_ok, nmX0, by decide, by decide, by decide⟩
theorem clX1 : ClOk 1 (RX1, TX1, 6) := ⟨gw_all (by decide +kernel), tyX1_ok, nmX1, by decide, by decide, by decide⟩
theorem clX2 : ClOk 2 (RX2, TX2, 10) := ⟨gw_all (by decide +kernel), tyX2_ok, nmX2, by decide, by decide, by decide⟩
theorem clX3 : ClOk 3 (RX3, TX3, 3) := ⟨gw_all (by decide +kernel), tyX3_ok, nmX3, by decide, by decide, by decide⟩
theorem clX4 : ClOk 4 (RX4, TX4, 2) := ⟨gw_all (by decide +kernel), tyX4_ok, nmX4, by decide, by decide, by decide⟩
theorem clX5 : ClOk 5 (RX5, TX5, 15) := ⟨gw_all (by decide +kernel), tyX5_ok, nmX5, by decide, by decide, by decide⟩
theorem clX6 : ClOk 6 (RX6, TX6, 2) := ⟨gw_all (by decide +kernel), tyX6_ok, nmX6, by decide, by decide, by decide⟩
theorem clX7 : ClOk 7 (RX7, TX7, 2) := ⟨gw_all (by decide +kernel), tyX7_ok, nmX7, by decide, by decide, by decide⟩
theorem clX8 : ClOk 8 (RX8, TX8, 9) := ⟨gw_all (by decide +kernel), tyX8_ok, nmX8, by decide, by decide, by decide⟩
theorem clX9 : ClOk 9 (RX9, TX9, 5) := ⟨gw_all (by decide +kernel), tyX9_ok, nmX9, by decide, by decide, by decide⟩
theorem clX10 : ClOk 10 (RX10, TX10, 12) := ⟨gw_all (by decide +kernel), tyX10_ok, nmX10, by decide, by decide, by decide⟩
theorem clX11 : ClOk 11 (RX11, TX11, 11) := ⟨gw_all (by decide +kernel), tyX11_ok, nmX11, by decide, by decide, by decide⟩
theorem clX12 : ClOk 12 (RX12, TX12, 38) := ⟨gw_all (by decide +kernel), tyX12_ok, nmX12, by decide, by decide, by decide⟩
theorem cl_ok {k : Nat} {q : vw_C} (h : vwCl[k]? = some q) : ClOk k q := by
  match k, h with
  | 0, h => cases h; exact clX0
  | 1, h => cases h; exact clX1
  | 2, h => cases h; exact clX2
  | 3, h => cases h; exact clX3
  | 4, h => cases h; exact clX4
  | 5, h => cases h; exact clX5
  | 6, h => cases h; exact clX6
  | 7, h => cases h; exact clX7
  | 8, h => cases h; exact clX8
  | 9, h => cases h; exact clX9
  | 10, h => cases h; exact clX10
  | 11, h => cases h; exact clX11
  | 12, h => cases h; exact clX12
  | k + 13, h => simp [vwCl] at h
theorem cellAt.kept {G : sG} {k n : Nat} {f : Nat → Int} {a : Nat} {H H1 : Heap} (h : cellAt G k n f a H) (hq : H1[a]? = H[a]?) : cellAt G k n f a H1 := by
  unfold cellAt at h ⊢
  by_cases hk : k < 13
  · rw [if_pos hk] at h ⊢; exact h.kept hq
  · rw [if_neg hk] at h ⊢; exact hq.trans h
theorem HR.put {G : sG} {S : sS} {d : sD} {H H1 : Heap} {a : Nat} {f : Nat → Int} (h : HR G S d H) (ha : kn S a ≠ 99) (hm : ∀ j, okS (slT (kn S a) j) (f j)) (hsz : H1.size = H.size) (ho : ∀ q : Nat, q ≠ adr G a → H1[q]? = H[q]?) (hc : cellAt G (kn S a) (ln S a) f (adr G a) H1) : HR G S (upA d a f) H1 := by
  obtain ⟨h1, h2, h3, h4, h5, h6⟩ := h
  refine ⟨hsz.trans h1, h2, fun q hq => ?_, fun b j hb => ?_, h5, fun b hb => ?_⟩
  · rw [ho q (by unfold adr; omega)]; exact h3 q hq
  · unfold upA
    by_cases e : b = a
    · subst e; rw [if_pos rfl]; exact hm j
    · rw [if_neg e]; exact h4 b j hb
  · unfold upA
    by_cases e : b = a
    · subst e; rw [if_pos rfl]; exact hc
    · rw [if_neg e]
      refine (h6 b hb).kept (ho _ ?_)
      have := h5 b hb
      have := h5 a ha
      unfold adr
      omega
def alS (S : sS) (k n : Nat) : sS := (S.1 + 1, fun a => if a = S.1 + 1 then k else kn S a, fun a => if a = S.1 + 1 then n else ln S a)
theorem okS_0 (t : Nat) : okS t 0 := by
  unfold okS
  split
  · omega
  · split
    · omega
    · split
      · omega
      · split <;> omega
theorem HR.new {G : sG} {S : sS} {d : sD} {H H1 : Heap} {k n : Nat} (h : HR G S d H) (hk : k < 24) (hsz : H1.size = H.size + 1) (ho : ∀ q : Nat, q < H.size → H1[q]? = H[q]?) (hc : cellAt G k n (fun _ => 0) H.size H1) : HR G (alS S k n) (upA d (S.1 + 1) (fun _ => 0)) H1 := by
  obtain ⟨h1, h2, h3, h4, h5, h6⟩ := h
  refine ⟨by rw [hsz, h1]; rfl, h2, fun q hq => ?_, fun b j hb => ?_, fun b hb => ?_, fun b hb => ?_⟩
  · rw [ho q (by omega)]; exact h3 q hq
  · unfold upA
    by_cases e : b = S.1 + 1
    · subst e; rw [if_pos rfl]; exact okS_0 _
    · rw [if_neg e]
      have e2 : kn (alS S k n) b = kn S b := if_neg e
      rw [e2] at hb ⊢
      exact h4 b j hb
  · by_cases e : b = S.1 + 1
    · subst e
      have e2 : kn (alS S k n) (S.1 + 1) = k := if_pos rfl
      rw [e2]
      exact ⟨by omega, Nat.le_refl _, hk⟩
    · have e2 : kn (alS S k n) b = kn S b := if_neg e
      rw [e2] at hb ⊢
      have := h5 b hb
      exact ⟨this.1, Nat.le_succ_of_le this.2.1, this.2.2⟩
  · unfold upA
    by_cases e : b = S.1 + 1
    · subst e
      rw [if_pos rfl]
      have e2 : kn (alS S k n) (S.1 + 1) = k := if_pos rfl
      have e3 : ln (alS S k n) (S.1 + 1) = n := if_pos rfl
      have e4 : adr G (S.1 + 1) = H.size := by unfold adr; omega
      rw [e2, e3, e4]
      exact hc
    · rw [if_neg e]
      have e2 : kn (alS S k n) b = kn S b := if_neg e
      have e3 : ln (alS S k n) b = ln S b := if_neg e
      rw [e2] at hb
      rw [e2, e3]
      refine (h6 b hb).kept (ho _ ?_)
      have := h5 b hb
      unfold adr
      omega
theorem HR.obj {G : sG} {S : sS} {d : sD} {H : Heap} {a k : Nat} (h : HR G S d H) (hk : kn S a = k) (hl : k < 13) : t_OB (adr G a) (gC G k) (snf k) (gI G k) H (fun j => sv G (sft k j) (d a j)) := by
  have h6 := h.2.2.2.2.2 a (by omega)
  unfold cellAt at h6
  rw [hk, if_pos hl] at h6
  exact h6
theorem HR.arr {G : sG} {S : sS} {d : sD} {H : Heap} {a k : Nat} (h : HR G S d H) (hk : kn S a = k) (hl : ¬ k < 13) (h9 : k ≠ 99) : H[adr G a]? = some (arrV (gA G k) (ln S a) (fun j => sv G (sat k) (d a j))) := by
  have h6 := h.2.2.2.2.2 a (by omega)
  unfold cellAt at h6
  rw [hk, if_neg hl] at h6
  exact h6
theorem HR.rv {G : sG} {S : sS} {d : sD} {H : Heap} {a : Nat} (h : HR G S d H) (hk : kn S a ≠ 99) : rv G (vR a) = .ref (adr G a) := rv_r (h.2.2.2.2.1 a hk).1
theorem HR.ok {G : sG} {S : sS} {d : sD} {H : Heap} {a k : Nat} (h : HR G S d H) (hk : kn S a = k) (h9 : k ≠ 99) (j : Nat) : okS (slT k j) (d a j) := by
  have := h.2.2.2.1 a j (by omega)
  rwa [hk] at this
def lvw (t : Nat) (x : Int) : sV := if t = 1 then vL x else if t = 2 then vR x.toNat else vI x
theorem lvw_rv {G : sG} {t : Nat} {x : Int} (h : okS t x) : rv G (lvw t x) = sv G t x := by
  unfold lvw sv
  by_cases h1 : t = 1
  · rw [if_pos h1, if_pos h1]; rfl
  · rw [if_neg h1, if_neg h1]
    by_cases h2 : t = 2
    · rw [if_pos h2, if_pos h2]
      unfold okS at h
      rw [if_neg h1, if_pos h2] at h
      show va_rf (rfo G ((x.toNat : Nat) : Int)) = _
      rw [Int.toNat_of_nonneg h]
    · rw [if_neg h2, if_neg h2]; rfl
theorem lvw_ok {t : Nat} {x : Int} (h : okS t x) : okV (lvw t x) := by
  unfold lvw
  unfold okS at h
  by_cases h1 : t = 1
  · rw [if_pos h1] at h ⊢; exact h
  · rw [if_neg h1] at h ⊢
    by_cases h2 : t = 2
    · rw [if_pos h2] at h ⊢; trivial
    · rw [if_neg h2] at h ⊢
      show _ ∧ _
      by_cases h3 : t = 3
      · rw [if_pos h3] at h; omega
      · rw [if_neg h3] at h
        by_cases h4 : t = 4
        · rw [if_pos h4] at h; omega
        · rw [if_neg h4] at h; exact h
theorem clampI {i : Int} (h : okV (vI i)) : (Int32.ofInt i).toNatClampNeg = i.toNat := by
  show (Int32.ofInt i).toInt.toNat = _
  rw [i32_t h.1 h.2]
theorem inI {i : Int} {n : Nat} (h : okV (vI i)) (h1 : 0 ≤ i) (h2 : i < n) : ¬ (Int32.ofInt i < 0 ∨ n ≤ (Int32.ofInt i).toNatClampNeg) := by
  rw [clampI h, i32_0, i32_lt h ok_0]
  omega
section SBM
variable {G : sG} {M : sM} {pc : Nat} {ls st : List sV} {S : sS} {d : sD} {kc ks : Nat} {Q : Option sV → sS → sD → Prop}
theorem B_get {k j idx a : Nat} {fin : Bool} (hd : decode (mC M) pc = .ok (.getfield idx, 3)) (hf : Fld (mY M).cls idx k j fin) (hk : kn S a = k) (kk : sB G M (pc + 3) ls (lvw (sft k j) (d a j) :: st) S d kc ks Q) : sB G M pc ls (vR a :: st) S d kc ks Q := by
  intro p l e R s m args below meth c H locs cells slots Z lsr C hH hl hL hs hc hks
  obtain ⟨q, hq, hj, -, -, hlk⟩ := hf
  obtain ⟨c1, c2, c3, c4, c5, c6⟩ := cl_ok hq
  have hts := C.2.2.2.2.1
  obtain ⟨cell, q1, q2, q3, q4⟩ := hH.obj hk c6
  obtain ⟨hS, hfc, kC, hkC, hkind⟩ := C.2.2.2.2.2.2.1.1.1 k _ hq
  obtain ⟨cf, kf, fi, f, hi, hsl⟩ := hS j hj
  have hok := hH.ok hk (by omega) j
  have hsT : slT k j = sft k j := if_pos c6
  rw [hsT] at hok
  rw [List.map_cons, hH.rv (by omega)]
  refine W.getf C.1 C.2.1 C.2.2.2.1 (hts _ hlk) hi (u_facts hfc hkC (u_lays hts c1 hj) hi).1 q1 (by rw [q3]; exact fun h => by cases h) (v := rv G (lvw (sft k j) (d a j))) (by rw [hsl, q4 j (by omega), lvw_rv hok]) rfl rfl hd ?_
  exact kk p l e R s m args below meth c H locs cells slots Z lsr C hH hl hL (ok_cons (lvw_ok hok) (ok_tl hs)) hc hks
theorem B_getI {k j idx a : Nat} {fin : Bool} (hd : decode (mC M) pc = .ok (.getfield idx, 3)) (hf : Fld (mY M).cls idx k j fin) (ht : (sft k j == 0 || sft k j == 4) = true) (hk : kn S a = k) (kk : sB G M (pc + 3) ls (vI (d a j) :: st) S d kc ks Q) : sB G M pc ls (vR a :: st) S d kc ks Q := by
  refine B_get hd hf hk ?_
  simp only [Bool.or_eq_true, beq_iff_eq] at ht
  unfold lvw
  rw [if_neg (by omega), if_neg (by omega)]
  exact kk
theorem B_getR {k j idx a : Nat} {fin : Bool} {r : Nat} (hd : decode (mC M) pc = .ok (.getfield idx, 3)) (hf : Fld (mY M).cls idx k j fin) (ht : sft k j = 2) (hk : kn S a = k) (hr : d a j = (r : Int)) (kk : sB G M (pc + 3) ls (vR r :: st) S d kc ks Q) : sB G M pc ls (vR a :: st) S d kc ks Q := by
  refine B_get hd hf hk ?_
  rw [ht, hr]
  exact kk
theorem nar_ok {t : FieldType} {τ : Nat} {x : Int} {G : sG} (h : (τ = 0 ∧ t = .int) ∨ (τ = 4 ∧ t = .boolean) ∨ (τ = 2 ∧ t.isReference = true)) (hx : okS τ x) : narrow t (sv G τ x) = sv G τ x ∧ fits t (sv G τ x) = true := by
  rcases h with ⟨rfl, rfl⟩ | ⟨rfl, rfl⟩ | ⟨rfl, h⟩
  · exact ⟨rfl, rfl⟩
  · have hx : 0 ≤ x ∧ x < 2 := hx
    rcases (show x = 0 ∨ x = 1 by omega) with rfl | rfl <;> (rw [sv_4]; exact ⟨by decide, by decide⟩)
  · unfold sv rfo
    rw [if_neg (by decide), if_pos rfl]
    by_cases h0 : x = 0
    · rw [if_pos h0]
      cases t <;> simp [FieldType.isReference] at h <;> exact ⟨rfl, rfl⟩
    · rw [if_neg h0]
      cases t <;> simp [FieldType.isReference] at h <;> exact ⟨rfl, rfl⟩
theorem B_put {k j idx a : Nat} {v : sV} {x : Int} (hd : decode (mC M) pc = .ok (.putfield idx, 3)) (hf : Fld (mY M).cls idx k j false) (hv : lvw (sft k j) x = v) (hx : okV v → okS (sft k j) x) (hk : kn S a = k) (kk : sB G M (pc + 3) ls st S (up d a j x) kc ks Q) : sB G M pc ls (v :: vR a :: st) S d kc ks Q := by
  intro p l e R s m args below meth c H locs cells slots Z lsr C hH hl hL hs hc hks
  obtain ⟨q, hq, hj, hfin, -, hlk⟩ := hf
  obtain ⟨c1, c2, c3, c4, c5, c6⟩ := cl_ok hq
  have hts := C.2.2.2.2.1
  have hok := hx (ok_hd hs)
  have hap := va_apart (own := "") hts c1 (ctab k) c2 c3 C.2.2.2.2.2.2.1.1 hq
  obtain ⟨cell, q1, q2, q3, q4⟩ := hH.obj hk c6
  obtain ⟨hS, hfc, kC, hkC, hkind⟩ := C.2.2.2.2.2.2.1.1.1 k _ hq
  obtain ⟨cf, kf, fi, f, hi, hsl⟩ := hS j hj
  have hlay := hts _ (c1 _ (u_in_lay hj))
  unfold u_lay at hlay
  rw [if_neg (by rw [hfin]; decide)] at hlay
  obtain ⟨n1, n2⟩ := nar_ok (G := G) (c5 j hj) hok
  have h6 := u_store hfc hkC hkind hlay hi (c2 j hj) n1 n2
  rw [List.map_cons, List.map_cons, hH.rv (by omega), ← hv, lvw_rv hok]
  refine W.putK C.1 C.2.1 (f := f) ⟨C.2.2.2.1, hts _ hlk, ⟨_, _, _, hi⟩, (u_facts hfc hkC (u_lays hts c1 hj) hi).1⟩ (by rw [q2]; exact h6) q1 q3 (by rw [hsl]; exact k2_hasslot (q4 j (by omega))) rfl rfl hd fun H' e1 e2 e3 => ?_
  rw [hsl] at e1 ⊢
  refine kk p l e R s m args below meth c H' _ cells slots Z lsr C ?_ ?_ hL (ok_tl (ok_tl hs)) hc hks
  · rw [up_upA]
    refine hH.put (by omega) (fun i => ?_) e2 e3 ?_
    · rw [hk]
      split
      · next e => rw [e]; rw [show slT k j = sft k j from if_pos c6]; exact hok
      · exact hH.ok hk (by omega) i
    · unfold cellAt
      rw [hk, if_pos c6]
      refine t_OB.to ⟨_, e1, q2, q3, t_set (V := fun j => sv G (sft k j) (d a j)) q4 (fun x y hx hy hne => hap x y (by omega) (by omega) hne) (by omega) _⟩ (fun i _ => ?_)
      unfold updV
      by_cases e : i = j
      · subst e; simp
      · simp [e]
  · intro z hz
    rcases List.mem_append.mp hz with h | h
    · exact hl z h
    · rw [List.mem_singleton] at h; subst h; unfold adr; exact Nat.le_add_right _ _
theorem B_putI {k j idx a : Nat} {x : Int} (hd : decode (mC M) pc = .ok (.putfield idx, 3)) (hf : Fld (mY M).cls idx k j false) (ht : sft k j = 0) (hk : kn S a = k) (kk : sB G M (pc + 3) ls st S (up d a j x) kc ks Q) : sB G M pc ls (vI x :: vR a :: st) S d kc ks Q :=
  B_put hd hf (by rw [ht]; rfl) (fun h => by rw [ht]; exact h) hk kk
theorem B_putZ {k j idx a : Nat} {x : Int} (hd : decode (mC M) pc = .ok (.putfield idx, 3)) (hf : Fld (mY M).cls idx k j false) (ht : sft k j = 4) (hx : x = 0 ∨ x = 1) (hk : kn S a = k) (kk : sB G M (pc + 3) ls st S (up d a j x) kc ks Q) : sB G M pc ls (vI x :: vR a :: st) S d kc ks Q :=
  B_put hd hf (by rw [ht]; rfl) (fun h => by rw [ht]; show 0 ≤ x ∧ x < 2; omega) hk kk
theorem B_putF {k j idx a : Nat} {r : Nat} (hd : decode (mC M) pc = .ok (.putfield idx, 3)) (hf : Fld (mY M).cls idx k j true) (ht : sft k j = 2) (hq0 : ∀ q, vwCl[k]? = some q → q.1 = (mY M).cls) (hin : (mY M).name = "<init>") (hk : kn S a = k) (kk : sB G M (pc + 3) ls st S (up d a j (r : Int)) kc ks Q) : sB G M pc ls (vR r :: vR a :: st) S d kc ks Q := by
  intro p l e R s m args below meth c H locs cells slots Z lsr C hH hl hL hs hc hks
  obtain ⟨q, hq, hj, hfin, hdecl, hlk⟩ := hf
  obtain ⟨c1, c2, c3, c4, c5, c6⟩ := cl_ok hq
  have hts := C.2.2.2.2.1
  have hok : okS (sft k j) (r : Int) := by rw [ht]; show (0 : Int) ≤ r; omega
  have hap := va_apart (own := "") hts c1 (ctab k) c2 c3 C.2.2.2.2.2.2.1.1 hq
  obtain ⟨cell, q1, q2, q3, q4⟩ := hH.obj hk c6
  obtain ⟨hS, hfc, kC, hkC, hkind⟩ := C.2.2.2.2.2.2.1.1.1 k _ hq
  obtain ⟨cf, kf, fi, f, hi, hsl⟩ := hS j hj
  have hlay := hts _ (c1 _ (u_in_lay hj))
  unfold u_lay at hlay
  rw [if_pos hfin] at hlay
  have hcf : m.cls = cf := by
    have lf := Cond.laysFinal_spec hlay
    rw [hi, hdecl rfl, hq0 q hq, C.2.2.2.1] at lf
    obtain ⟨_, _, c', _, _, _, -, -, z, -, -, -, own, -⟩ := lf
    injection own with own
    injection z with z
    injection z with z
    exact own.trans z.symm
  obtain ⟨n1, n2⟩ := nar_ok (G := G) (c5 j hj) hok
  have h6 := u_fits hfc hkC hkind (Or.inr hlay) hi (c2 j hj) n1 n2
  have hv : rv G (vR r) = sv G (sft k j) (r : Int) := by rw [ht]; rfl
  rw [List.map_cons, List.map_cons, hH.rv (a := a) (by omega), hv]
  refine W.putFinK C.1 C.2.1 C.2.2.2.1 (hts _ hlk) hi (u_facts hfc hkC (u_lays hts c1 hj) hi).1 hcf (C.2.2.2.2.2.1 hin) (by rw [q2]; exact h6) q1 q3 (by rw [hsl]; exact k2_hasslot (q4 j (by omega))) rfl rfl hd fun H' e1 e2 e3 => ?_
  rw [hsl] at e1 ⊢
  refine kk p l e R s m args below meth c H' _ cells slots Z lsr C ?_ ?_ hL (ok_tl (ok_tl hs)) hc hks
  · rw [up_upA]
    refine hH.put (by omega) (fun i => ?_) e2 e3 ?_
    · rw [hk]
      split
      · next e => rw [e]; rw [show slT k j = sft k j from if_pos c6]; exact hok
      · exact hH.ok hk (by omega) i
    · unfold cellAt
      rw [hk, if_pos c6]
      refine t_OB.to ⟨_, e1, q2, q3, t_set (V := fun j => sv G (sft k j) (d a j)) q4 (fun x y hx hy hne => hap x y (by omega) (by omega) hne) (by omega) _⟩ (fun i _ => ?_)
      unfold updV
      by_cases e : i = j
      · subst e; simp
      · simp [e]
  · intro z hz
    rcases List.mem_append.mp hz with h | h
    · exact hl z h
    · rw [List.mem_singleton] at h; subst h; unfold adr; exact Nat.le_add_right _ _
end SBM
