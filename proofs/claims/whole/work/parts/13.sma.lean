/-! arrays, new cells -/
section SBA
variable {G : sG} {M : sM} {pc : Nat} {ls st : List sV} {S : sS} {d : sD} {kc ks : Nat} {Q : Option sV → sS → sD → Prop}
theorem B_iald {a : Nat} {i : Int} (hd : decode (mC M) pc = .ok (.iaload, 1)) (hk : kn S a = 13) (h1 : 0 ≤ i) (h2 : i < ln S a) (kk : sB G M (pc + 1) ls (vI (d a i.toNat) :: st) S d kc ks Q) : sB G M pc ls (vI i :: vR a :: st) S d kc ks Q := by
  intro p l e R s m args below meth c H locs cells slots Z lsr C hH hl hL hs hc hks
  have hi := ok_hd hs
  rw [List.map_cons, List.map_cons, hH.rv (by omega)]
  refine W.iald (v := rv G (vI (d a i.toNat))) C.1 C.2.1 (hH.arr hk (by decide) (by decide)) ((C.2.2.2.2.2.2.1.arr (k := 13) (by decide) (by decide)).1 _ _) (fun q => by cases q) (by rw [arrV_size]; exact inI hi h1 h2) (by rw [clampI hi, arrV_read _ _ (by omega)]; rfl) rfl rfl hd ?_
  exact kk p l e R s m args below meth c H locs cells slots Z lsr C hH hl hL (ok_cons (v := vI (d a i.toNat)) (hH.ok hk (by decide) _) (ok_tl (ok_tl hs))) hc hks
theorem B_bald {a : Nat} {i : Int} (hd : decode (mC M) pc = .ok (.baload, 1)) (hk : kn S a = 14) (h1 : 0 ≤ i) (h2 : i < ln S a) (kk : sB G M (pc + 1) ls (vI (d a i.toNat) :: st) S d kc ks Q) : sB G M pc ls (vI i :: vR a :: st) S d kc ks Q := by
  intro p l e R s m args below meth c H locs cells slots Z lsr C hH hl hL hs hc hks
  have hi := ok_hd hs
  have ho : -128 ≤ d a i.toNat ∧ d a i.toNat < 128 := hH.ok hk (by decide) _
  rw [List.map_cons, List.map_cons, hH.rv (by omega)]
  refine W.bald (v := rv G (vI (d a i.toNat))) C.1 C.2.1 (hH.arr hk (by decide) (by decide)) ((C.2.2.2.2.2.2.1.arr (k := 14) (by decide) (by decide)).1 _ _) (fun q => by cases q) (by rw [arrV_size]; exact inI hi h1 h2) (by rw [clampI hi, arrV_read _ _ (by omega)]; rfl) rfl rfl hd ?_
  exact kk p l e R s m args below meth c H locs cells slots Z lsr C hH hl hL (ok_cons (v := vI (d a i.toNat)) ⟨by omega, by omega⟩ (ok_tl (ok_tl hs))) hc hks
theorem B_zald {a : Nat} {i : Int} (hd : decode (mC M) pc = .ok (.baload, 1)) (hk : kn S a = 15) (h1 : 0 ≤ i) (h2 : i < ln S a) (kk : sB G M (pc + 1) ls (vI (d a i.toNat) :: st) S d kc ks Q) : sB G M pc ls (vI i :: vR a :: st) S d kc ks Q := by
  intro p l e R s m args below meth c H locs cells slots Z lsr C hH hl hL hs hc hks
  have hi := ok_hd hs
  have ho : 0 ≤ d a i.toNat ∧ d a i.toNat < 2 := hH.ok hk (by decide) _
  rw [List.map_cons, List.map_cons, hH.rv (by omega)]
  refine W.zald (v := rv G (vI (d a i.toNat))) C.1 C.2.1 (hH.arr hk (by decide) (by decide)) ((C.2.2.2.2.2.2.1.arr (k := 15) (by decide) (by decide)).1 _ _) (fun q => by cases q) (by rw [arrV_size]; exact inI hi h1 h2) (by rw [clampI hi, arrV_read _ _ (by omega)]; rfl) rfl rfl hd ?_
  exact kk p l e R s m args below meth c H locs cells slots Z lsr C hH hl hL (ok_cons (v := vI (d a i.toNat)) ⟨by omega, by omega⟩ (ok_tl (ok_tl hs))) hc hks
theorem B_lald {a : Nat} {i : Int} (hd : decode (mC M) pc = .ok (.laload, 1)) (hk : kn S a = 16) (h1 : 0 ≤ i) (h2 : i < ln S a) (kk : sB G M (pc + 1) ls (vL (d a i.toNat) :: st) S d kc ks Q) : sB G M pc ls (vI i :: vR a :: st) S d kc ks Q := by
  intro p l e R s m args below meth c H locs cells slots Z lsr C hH hl hL hs hc hks
  have hi := ok_hd hs
  rw [List.map_cons, List.map_cons, hH.rv (by omega)]
  refine W.lald (v := rv G (vL (d a i.toNat))) C.1 C.2.1 (hH.arr hk (by decide) (by decide)) ((C.2.2.2.2.2.2.1.arr (k := 16) (by decide) (by decide)).1 _ _) (fun q => by cases q) (by rw [arrV_size]; exact inI hi h1 h2) (by rw [clampI hi, arrV_read _ _ (by omega)]; rfl) rfl rfl hd ?_
  exact kk p l e R s m args below meth c H locs cells slots Z lsr C hH hl hL (ok_cons (v := vL (d a i.toNat)) (hH.ok hk (by decide) _) (ok_tl (ok_tl hs))) hc hks
theorem aty_ref {k : Nat} (h : 17 ≤ k) : (aty k).isReference = true := by
  unfold aty
  rw [if_neg (by omega), if_neg (by omega), if_neg (by omega), if_neg (by omega)]
  repeat (split; rfl)
  rfl
theorem sat_ref {k : Nat} (h : 17 ≤ k) : sat k = 2 := by
  unfold sat
  rw [if_neg (by omega), if_neg (by omega), if_neg (by omega), if_neg (by omega)]
theorem B_aald {a k r : Nat} {i : Int} (hd : decode (mC M) pc = .ok (.aaload, 1)) (hk : kn S a = k) (hk2 : 17 ≤ k) (hk3 : k < 24) (h1 : 0 ≤ i) (h2 : i < ln S a) (hr : d a i.toNat = (r : Int)) (kk : sB G M (pc + 1) ls (vR r :: st) S d kc ks Q) : sB G M pc ls (vI i :: vR a :: st) S d kc ks Q := by
  intro p l e R s m args below meth c H locs cells slots Z lsr C hH hl hL hs hc hks
  have hi := ok_hd hs
  rw [List.map_cons, List.map_cons, hH.rv (by omega)]
  refine W.aald (v := rv G (vR r)) (ty := aty k) C.1 C.2.1 (hH.arr hk (by omega) (by omega)) ((C.2.2.2.2.2.2.1.arr (k := k) (by omega) (by omega)).1 _ _) (aty_ref hk2) (fun q => by cases q) (by rw [arrV_size]; exact inI hi h1 h2) (by rw [clampI hi, arrV_read _ _ (by omega), hr, sat_ref hk2]; rfl) rfl rfl hd ?_
  exact kk p l e R s m args below meth c H locs cells slots Z lsr C hH hl hL (ok_cons (v := vR r) trivial (ok_tl (ok_tl hs))) hc hks
theorem B_alen {a k : Nat} (hd : decode (mC M) pc = .ok (.arraylength, 1)) (hk : kn S a = k) (hk2 : 13 ≤ k) (hk3 : k < 24) (hn : ln S a < 2147483648) (kk : sB G M (pc + 1) ls (vI (ln S a : Int) :: st) S d kc ks Q) : sB G M pc ls (vR a :: st) S d kc ks Q := by
  intro p l e R s m args below meth c H locs cells slots Z lsr C hH hl hL hs hc hks
  rw [List.map_cons, hH.rv (by omega)]
  refine W.alen (n := Int32.ofInt (ln S a : Int)) C.1 C.2.1 (hH.arr hk (by omega) (by omega)) ((C.2.2.2.2.2.2.1.arr (k := k) (by omega) (by omega)).1 _ _) (by rw [arrV_size]; rfl) rfl rfl hd ?_
  exact kk p l e R s m args below meth c H locs cells slots Z lsr C hH hl hL (ok_cons (v := vI (ln S a : Int)) ⟨by omega, by omega⟩ (ok_tl hs)) hc hks
/-- a store into an array -/
theorem HR.ast {H H1 : Heap} {a k j : Nat} {x : Int} (h : HR G S d H) (hk : kn S a = k) (hl : ¬ k < 13) (h9 : k ≠ 99) (hx : okS (sat k) x) (e : H1[adr G a]? = some ((arrV (gA G k) (ln S a) (fun j => sv G (sat k) (d a j))).setSlot j (sv G (sat k) x))) (z : H1.size = H.size) (oq : ∀ q : Nat, q ≠ adr G a → H1[q]? = H[q]?) : HR G S (up d a j x) H1 := by
  rw [up_upA]
  refine h.put (by omega) (fun i => ?_) z oq ?_
  · rw [hk]
    split
    · rw [show slT k i = sat k from if_neg hl]; exact hx
    · exact h.ok hk h9 i
  · unfold cellAt
    rw [hk, if_neg hl, e, arrV_store]
    congr 2
    funext q
    by_cases hq : q = j
    · subst hq; simp [updV]
    · simp [updV, hq]
theorem loc_ok {locs : List Loc} {a i : Nat} (hl : ∀ q ∈ locs, gB G ≤ q.base) : ∀ q ∈ locs ++ [⟨adr G a, i⟩], gB G ≤ q.base := by
  intro z hz
  rcases List.mem_append.mp hz with h | h
  · exact hl z h
  · rw [List.mem_singleton] at h; subst h; unfold adr; exact Nat.le_add_right _ _
theorem B_iast {a : Nat} {i x : Int} (hd : decode (mC M) pc = .ok (.iastore, 1)) (hk : kn S a = 13) (h1 : 0 ≤ i) (h2 : i < ln S a) (kk : sB G M (pc + 1) ls st S (up d a i.toNat x) kc ks Q) : sB G M pc ls (vI x :: vI i :: vR a :: st) S d kc ks Q := by
  intro p l e R s m args below meth c H locs cells slots Z lsr C hH hl hL hs hc hks
  have hx := ok_hd hs
  have hi := ok_hd (ok_tl hs)
  rw [List.map_cons, List.map_cons, List.map_cons, hH.rv (by omega)]
  refine W.iast C.1 C.2.1 (hH.arr hk (by decide) (by decide)) ((C.2.2.2.2.2.2.1.arr (k := 13) (by decide) (by decide)).1 _ _) (fun q => by cases q) (by rw [arrV_size]; exact inI hi h1 h2) rfl rfl hd fun H1 e z oq => ?_
  rw [clampI hi] at e
  exact kk p l _ R s m args below meth c H1 _ cells slots Z lsr C (hH.ast hk (by decide) (by decide) hx e z oq) (loc_ok hl) hL (ok_tl (ok_tl (ok_tl hs))) hc hks
theorem w8_rg (x : Int) : -128 ≤ w8 x ∧ w8 x < 128 := by
  unfold w8
  rw [Int8.toInt_toInt32]
  have h1 := Int8.le_toInt (Int32.ofInt x).toInt8
  have h2 := Int8.toInt_lt (Int32.ofInt x).toInt8
  omega
theorem B_bast {a : Nat} {i x : Int} (hd : decode (mC M) pc = .ok (.bastore, 1)) (hk : kn S a = 14) (h1 : 0 ≤ i) (h2 : i < ln S a) (kk : sB G M (pc + 1) ls st S (up d a i.toNat (w8 x)) kc ks Q) : sB G M pc ls (vI x :: vI i :: vR a :: st) S d kc ks Q := by
  intro p l e R s m args below meth c H locs cells slots Z lsr C hH hl hL hs hc hks
  have hi := ok_hd (ok_tl hs)
  rw [List.map_cons, List.map_cons, List.map_cons, hH.rv (by omega)]
  refine W.bast C.1 C.2.1 (hH.arr hk (by decide) (by decide)) ((C.2.2.2.2.2.2.1.arr (k := 14) (by decide) (by decide)).1 _ _) (fun q => by cases q) (by rw [arrV_size]; exact inI hi h1 h2) rfl rfl hd fun H1 e z oq => ?_
  rw [clampI hi] at e
  have ev : narrow .byte (.int (Int32.ofInt x)) = sv G (sat 14) (w8 x) := by
    show Value.int (Int32.ofInt x).toInt8.toInt32 = Value.int (Int32.ofInt (w8 x))
    unfold w8
    rw [Int32.ofInt_toInt]
  rw [ev] at e
  exact kk p l _ R s m args below meth c H1 _ cells slots Z lsr C (hH.ast hk (by decide) (by decide) (w8_rg x) e z oq) (loc_ok hl) hL (ok_tl (ok_tl (ok_tl hs))) hc hks
theorem B_zast {a : Nat} {i x : Int} (hd : decode (mC M) pc = .ok (.bastore, 1)) (hk : kn S a = 15) (h1 : 0 ≤ i) (h2 : i < ln S a) (hx : x = 0 ∨ x = 1) (kk : sB G M (pc + 1) ls st S (up d a i.toNat x) kc ks Q) : sB G M pc ls (vI x :: vI i :: vR a :: st) S d kc ks Q := by
  intro p l e R s m args below meth c H locs cells slots Z lsr C hH hl hL hs hc hks
  have hi := ok_hd (ok_tl hs)
  rw [List.map_cons, List.map_cons, List.map_cons, hH.rv (by omega)]
  refine W.zast C.1 C.2.1 (hH.arr hk (by decide) (by decide)) ((C.2.2.2.2.2.2.1.arr (k := 15) (by decide) (by decide)).1 _ _) (fun q => by cases q) (by rw [arrV_size]; exact inI hi h1 h2) rfl rfl hd fun H1 e z oq => ?_
  rw [clampI hi] at e
  have ev : narrow .boolean (.int (Int32.ofInt x)) = sv G (sat 15) x := by
    show narrow .boolean (.int (Int32.ofInt x)) = Value.int (Int32.ofInt x)
    rcases hx with rfl | rfl <;> decide
  rw [ev] at e
  exact kk p l _ R s m args below meth c H1 _ cells slots Z lsr C (hH.ast hk (by decide) (by decide) (show 0 ≤ x ∧ x < 2 by omega) e z oq) (loc_ok hl) hL (ok_tl (ok_tl (ok_tl hs))) hc hks
theorem B_last {a : Nat} {i x : Int} (hd : decode (mC M) pc = .ok (.lastore, 1)) (hk : kn S a = 16) (h1 : 0 ≤ i) (h2 : i < ln S a) (kk : sB G M (pc + 1) ls st S (up d a i.toNat x) kc ks Q) : sB G M pc ls (vL x :: vI i :: vR a :: st) S d kc ks Q := by
  intro p l e R s m args below meth c H locs cells slots Z lsr C hH hl hL hs hc hks
  have hx := ok_hd hs
  have hi := ok_hd (ok_tl hs)
  rw [List.map_cons, List.map_cons, List.map_cons, hH.rv (by omega)]
  refine W.last C.1 C.2.1 (hH.arr hk (by decide) (by decide)) ((C.2.2.2.2.2.2.1.arr (k := 16) (by decide) (by decide)).1 _ _) (fun q => by cases q) (by rw [arrV_size]; exact inI hi h1 h2) rfl rfl hd fun H1 e z oq => ?_
  rw [clampI hi] at e
  exact kk p l _ R s m args below meth c H1 _ cells slots Z lsr C (hH.ast hk (by decide) (by decide) hx e z oq) (loc_ok hl) hL (ok_tl (ok_tl (ok_tl hs))) hc hks
theorem B_aast {a k r kr : Nat} {i : Int} {q : vw_C} (hd : decode (mC M) pc = .ok (.aastore, 1)) (hk : kn S a = k) (hk2 : 17 ≤ k) (hk3 : k < 23) (hr : kn S r = kr) (hq : vwCl[kr]? = some q) (hty : aty k = .object q.1) (h1 : 0 ≤ i) (h2 : i < ln S a) (kk : sB G M (pc + 1) ls st S (up d a i.toNat (r : Int)) kc ks Q) : sB G M pc ls (vR r :: vI i :: vR a :: st) S d kc ks Q := by
  intro p l e R s m args below meth c H locs cells slots Z lsr C hH hl hL hs hc hks
  have hi := ok_hd (ok_tl hs)
  have hkr : kr < 13 := (cl_ok hq).2.2.2.2.2
  have hKK := C.2.2.2.2.2.2.1
  obtain ⟨cellV, g1, g2, g3, -⟩ := hH.obj hr hkr
  have hcls := (hKK.1.1 kr q hq).2
  obtain ⟨hA1, hA2⟩ := hKK.arr (k := k) (by omega) (by omega)
  rw [hty] at hA2
  obtain ⟨kA, comp, k1, k2, k3, -⟩ := hA2
  have hcomp : comp = gC G kr := Option.some.inj (k3.symm.trans hcls.1)
  subst hcomp
  obtain ⟨kC, hkC, -⟩ := hcls.2
  rw [List.map_cons, List.map_cons, List.map_cons, hH.rv (a := a) (by omega), hH.rv (a := r) (by omega)]
  refine W.aast C.1 C.2.1 (hH.arr hk (by omega) (by omega)) (fun q h => by cases h) (fun h => by cases h) k1 k2 rfl hkC ⟨fun z => (by have z := (i32_lt hi ok_0).mp z; omega), by rw [arrV_size, clampI hi]; omega⟩ g1 (fun q h => by rw [g3] at h; cases h) (by rw [g2]; exact hkC) (by rw [g2]; exact va_assign hcls) rfl rfl hd fun H1 e z oq => ?_
  rw [clampI hi] at e
  have ev : Value.ref (adr G r) = sv G (sat k) (r : Int) := by rw [sat_ref hk2, ← hH.rv (a := r) (by omega)]; rfl
  rw [ev] at e
  exact kk p l _ R s m args below meth c H1 _ cells slots Z lsr C (hH.ast hk (by omega) (by omega) (by rw [sat_ref hk2]; show (0 : Int) ≤ r; omega) e z oq) (loc_ok hl) hL (ok_tl (ok_tl (ok_tl hs))) hc hks
theorem def_sv (t : FieldType) (τ : Nat) (h : (τ = 0 ∧ t = .int) ∨ (τ = 4 ∧ t = .boolean) ∨ (τ = 2 ∧ t.isReference = true)) : defaultValue t = sv G τ 0 := by
  rcases h with ⟨rfl, rfl⟩ | ⟨rfl, rfl⟩ | ⟨rfl, h⟩
  · rfl
  · rfl
  · cases t <;> simp [FieldType.isReference] at h <;> rfl
theorem B_new {k idx : Nat} (hd : decode (mC M) pc = .ok (.new idx, 3)) (hN : NewC (mY M).cls idx k) (kk : sB G M (pc + 3) ls (vR (S.1 + 1) :: st) (alS S k 0) (upA d (S.1 + 1) (fun _ => 0)) kc ks Q) : sB G M pc ls st S d (kc + 1) (ks + snf k) Q := by
  intro p l e R s m args below meth c H locs cells slots Z lsr C hH hl hL hs hc hks
  obtain ⟨q, hq, w1, w2, w3⟩ := hN
  obtain ⟨c1, c2, c3, c4, c5, c6⟩ := cl_ok hq
  have hts := C.2.2.2.2.1
  have hKn := C.2.2.2.2.2.2.1.1.1 k _ hq
  refine W.newcK C.1 C.2.1 C.2.2.2.1 (hts _ w1) (hts _ w2) (hts _ w3) rfl hd (by omega) (by omega) hKn.2.1 rfl fun H1 kC hkC e1 z1 o1 => ?_
  have hH1 : HR G (alS S k 0) (upA d (S.1 + 1) (fun _ => 0)) H1 := by
    refine hH.new (by omega) z1 o1 ?_
    unfold cellAt
    rw [if_pos c6]
    have hb := u_born (ctab k) hts c1 hKn hkC e1 c2
    rw [c4] at hb
    exact hb.to (fun j hj => def_sv _ _ (c5 j (by omega)))
  have ev : Value.ref H.size = rv G (vR (S.1 + 1)) := by rw [rv_r (by omega), hH.1]; rfl
  rw [ev]
  exact kk p l e R s m args below meth c H1 locs (cells + 1) (slots + q.2.2) Z lsr C hH1 hl hL (ok_cons (v := vR (S.1 + 1)) trivial hs) (by omega) (by omega)
theorem B_newa {k : Nat} {n : Int} {at0 : ArrayType} (hd : decode (mC M) pc = .ok (.newarray at0, 2)) (hk : (k = 13 ∧ newarray.typeOf at0 = .int) ∨ (k = 14 ∧ newarray.typeOf at0 = .byte) ∨ (k = 15 ∧ newarray.typeOf at0 = .boolean) ∨ (k = 16 ∧ newarray.typeOf at0 = .long)) (hw : Cond.arrayClass (newarray.typeOf at0) ∈ gw) (h1 : 0 ≤ n) (h2 : n < 10000) (kk : sB G M (pc + 2) ls (vR (S.1 + 1) :: st) (alS S k n.toNat) (upA d (S.1 + 1) (fun _ => 0)) kc ks Q) : sB G M pc ls (vI n :: st) S d (kc + 1) (ks + n.toNat) Q := by
  intro p l e R s m args below meth c H locs cells slots Z lsr C hH hl hL hs hc hks
  have hn := ok_hd hs
  have hts := C.2.2.2.2.1
  have haty : aty k = newarray.typeOf at0 := by
    rcases hk with ⟨rfl, h⟩ | ⟨rfl, h⟩ | ⟨rfl, h⟩ | ⟨rfl, h⟩ <;> rw [h] <;> rfl
  have hk2 : 13 ≤ k ∧ k < 24 ∧ k ≠ 99 := by omega
  rw [List.map_cons]
  refine va_newaK (n := Int32.ofInt n) (N := n.toNat) C.1 C.2.1 (hts _ hw) rfl hd rfl (fun z => (by have z := (i32_lt hn ok_0).mp z; omega)) (clampI hn) ?_ (by omega) (by omega) rfl fun H1 cA e1 z1 o1 hAr hNm => ?_
  · rcases hk with ⟨-, h⟩ | ⟨-, h⟩ | ⟨-, h⟩ | ⟨-, h⟩ <;> rw [h] <;> simp only [componentBytes] <;> omega
  have hRA := (C.2.2.2.2.2.2.1.arr (k := k) hk2.1 hk2.2.1).2
  have hcA : cA = gA G k := by
    rw [haty] at hRA
    rcases hk with ⟨-, h⟩ | ⟨-, h⟩ | ⟨-, h⟩ | ⟨-, h⟩ <;> rw [h] at hRA hNm <;> exact Option.some.inj (hNm.symm.trans hRA)
  subst hcA
  have hH1 : HR G (alS S k n.toNat) (upA d (S.1 + 1) (fun _ => 0)) H1 := by
    refine hH.new (by omega) z1 o1 ?_
    unfold cellAt
    rw [if_neg (by omega), e1]
    congr 2
    funext j
    rcases hk with ⟨rfl, h⟩ | ⟨rfl, h⟩ | ⟨rfl, h⟩ | ⟨rfl, h⟩ <;> rw [h] <;> rfl
  have ev : Value.ref H.size = rv G (vR (S.1 + 1)) := by rw [rv_r (by omega), hH.1]; rfl
  rw [ev]
  exact kk p l e R s m args below meth c H1 locs (cells + 1) (slots + n.toNat) Z lsr C hH1 hl hL (ok_cons (v := vR (S.1 + 1)) trivial (ok_tl hs)) (by omega) (by omega)
theorem B_anew {k idx : Nat} {n : Int} {C0 : String} (hd : decode (mC M) pc = .ok (.anewarray idx, 3)) (hk : 17 ≤ k) (hk3 : k < 23) (hty : aty k = .object C0) (hw : Cond.classLink (mY M).cls idx C0 ∈ gw) (hC : C0 ∈ ["OneDrum$War", "OneDrum$Score", "OneDrum$Hearing", "OneDrum$Villages", "OneDrum$Told", "OneDrum$Ear"]) (h1 : 0 ≤ n) (h2 : n < 10000) (kk : sB G M (pc + 3) ls (vR (S.1 + 1) :: st) (alS S k n.toNat) (upA d (S.1 + 1) (fun _ => 0)) kc ks Q) : sB G M pc ls (vI n :: st) S d (kc + 1) (ks + n.toNat) Q := by
  intro p l e R s m args below meth c H locs cells slots Z lsr C hH hl hL hs hc hks
  have hn := ok_hd hs
  have hts := C.2.2.2.2.1
  rw [List.map_cons]
  refine W.anew (n := Int32.ofInt n) C.1 C.2.1 C.2.2.2.1 (hts _ hw) (va_AO.use (C.2.2.2.2.2.2.1.2.2.1.1 C0 hC)) rfl hd rfl (fun z => (by have z := (i32_lt hn ok_0).mp z; omega)) (by rw [clampI hn]; omega) (by omega) (by rw [clampI hn]; omega) fun cA kA comp f1 f2 f3 f4 => ?_
  rw [clampI hn]
  have hRA := (C.2.2.2.2.2.2.1.arr (k := k) (by omega) (by omega)).2
  rw [hty] at hRA
  obtain ⟨_, _, -, -, -, hRA⟩ := hRA
  have hcA : cA = gA G k := Option.some.inj (f1.symm.trans hRA)
  subst hcA
  have hH1 : HR G (alS S k n.toNat) (upA d (S.1 + 1) (fun _ => 0)) (H.push ({ cls := gA G k, slots := Array.replicate n.toNat .null, vm := .none } : Cell)) := by
    refine hH.new (by omega) (by rw [Array.size_push]) (fun q hq => by rw [Array.getElem?_push, if_neg (Nat.ne_of_lt hq)]) ?_
    unfold cellAt
    rw [if_neg (by omega), Array.getElem?_push_size, arrV_new]
    congr 2
    funext j
    rw [sat_ref hk]
    rfl
  have ev : Value.ref H.size = rv G (vR (S.1 + 1)) := by rw [rv_r (by omega), hH.1]; rfl
  rw [ev]
  exact kk p l e R s m args below meth c _ locs (cells + 1) (slots + n.toNat) Z lsr C hH1 hl hL (ok_cons (v := vR (S.1 + 1)) trivial (ok_tl hs)) (by omega) (by omega)
end SBA
