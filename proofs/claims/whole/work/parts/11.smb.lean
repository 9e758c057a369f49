/-- which end is this: the return instruction and the word that it takes -/
def RetI (M : sM) (pc : Nat) (r : Option sV) : Prop := match r with
  | none => decode (mC M) pc = .ok (.return_, 1) ∧ mR M = none
  | some (.inl x) => decode (mC M) pc = .ok (.ireturn, 1) ∧ (mR M = some .int ∨ (mR M = some .boolean ∧ (x = 0 ∨ x = 1)) ∨ ∃ ty, mR M = some ty ∧ narrow ty (.int (Int32.ofInt x)) = .int (Int32.ofInt x))
  | some (.inr (.inl _)) => decode (mC M) pc = .ok (.lreturn, 1) ∧ mR M = some .long
  | some (.inr (.inr (.inl _))) => decode (mC M) pc = .ok (.areturn, 1) ∧ ∃ C, mR M = some (.object C)
  | _ => False
/-- what stands fast in a frame of the method M, and what is to be reached at its end -/
def Cx (G : sG) (M : sM) (Q : Option sV → sS → sD → Prop) (p : Program) (l : Launch) (e : Env) (R : Room) (s : State) (m : MethodId) (args : Array Value) (below : List Frame) (meth : Method) (c : Code) (Z : State → Prop) : Prop :=
  p.tables.exec = Jvm.exec ∧ c.code = mC M ∧ c.maxLocals = mL M ∧ s.vm.findClass (mY M).cls = some m.cls ∧ (∀ w ∈ gw, w.before args s = true) ∧ ((mY M).name = "<init>" → meth.name = "<init>") ∧ KK G s ∧ (mF M ≤ R.frames ∧ mO M ≤ R.locals) ∧
  ∀ (r : Option sV) (S : sS) (d : sD) (H : Heap) (locs : List Loc) (pc : Nat) (lsr : Array Slot), Q r S d → HR G S d H → (∀ q ∈ locs, gB G ≤ q.base) → (∀ v, r = some v → okV v) → RetI M pc r → W p l e R s m args below meth c H locs R.cells R.slots Z (F0 m pc lsr (r.toList.map (rv G)))
/-- THE JUDGEMENT: from place pc of the method M, with these locals, this stack, this memory, and kc cells of ks places left to make, the machine comes to the method's end with Q -/
def sB (G : sG) (M : sM) (pc : Nat) (ls st : List sV) (S : sS) (d : sD) (kc ks : Nat) (Q : Option sV → sS → sD → Prop) : Prop :=
  ∀ (p : Program) (l : Launch) (e : Env) (R : Room) (s : State) (m : MethodId) (args : Array Value) (below : List Frame) (meth : Method) (c : Code) (H : Heap) (locs : List Loc) (cells slots : Nat) (Z : State → Prop) (lsr : Array Slot),
    Cx G M Q p l e R s m args below meth c Z → HR G S d H → (∀ q ∈ locs, gB G ≤ q.base) → LR G (mL M) ls lsr → (∀ v ∈ st, okV v) → cells + kc ≤ R.cells → slots + ks ≤ R.slots →
    W p l e R s m args below meth c H locs cells slots Z (F0 m pc lsr (st.map (rv G)))
theorem Cx.mono {G : sG} {M : sM} {Q Q' : Option sV → sS → sD → Prop} {p : Program} {l : Launch} {e : Env} {R : Room} {s : State} {m : MethodId} {args : Array Value} {below : List Frame} {meth : Method} {c : Code} {Z : State → Prop} (h : Cx G M Q' p l e R s m args below meth c Z) (hq : ∀ r S d, Q r S d → Q' r S d) : Cx G M Q p l e R s m args below meth c Z := by
  obtain ⟨h1, h2, h3, h4, h5, h6, h7, h8, h9⟩ := h
  exact ⟨h1, h2, h3, h4, h5, h6, h7, h8, fun r S d H locs pc lsr a => h9 r S d H locs pc lsr (hq r S d a)⟩
section SB
variable {G : sG} {M : sM} {pc : Nat} {ls st : List sV} {S : sS} {d : sD} {kc ks : Nat} {Q : Option sV → sS → sD → Prop}
theorem sB.mono {Q' : Option sV → sS → sD → Prop} (h : sB G M pc ls st S d kc ks Q) (hq : ∀ r S d, Q r S d → Q' r S d) : sB G M pc ls st S d kc ks Q' :=
  fun p l e R s m args below meth c H locs cells slots Z lsr C => h p l e R s m args below meth c H locs cells slots Z lsr (C.mono hq)
/-- memory's ranges, at any place -/
theorem sB.mem (h : MemOk S d → sB G M pc ls st S d kc ks Q) : sB G M pc ls st S d kc ks Q :=
  fun p l e R s m args below meth c H locs cells slots Z lsr C hH => h hH.2.2.2.1 p l e R s m args below meth c H locs cells slots Z lsr C hH
/-- the locals' ranges, at any place -/
theorem sB.rgl (h : (∀ v ∈ ls, okV v) → sB G M pc ls st S d kc ks Q) : sB G M pc ls st S d kc ks Q :=
  fun p l e R s m args below meth c H locs cells slots Z lsr C hH hl hL => h hL.2.2.2.1 p l e R s m args below meth c H locs cells slots Z lsr C hH hl hL
theorem sB.rgs (h : (∀ v ∈ st, okV v) → sB G M pc ls st S d kc ks Q) : sB G M pc ls st S d kc ks Q :=
  fun p l e R s m args below meth c H locs cells slots Z lsr C hH hl hL hs => h hs p l e R s m args below meth c H locs cells slots Z lsr C hH hl hL hs
theorem sB.less {kc' ks' : Nat} (h1 : kc' ≤ kc) (h2 : ks' ≤ ks) (h : sB G M pc ls st S d kc' ks' Q) : sB G M pc ls st S d kc ks Q :=
  fun p l e R s m args below meth c H locs cells slots Z lsr C hH hl hL hs hc hk => h p l e R s m args below meth c H locs cells slots Z lsr C hH hl hL hs (by omega) (by omega)
/-- a step that moves the stack alone -/
theorem sB.go {pc' : Nat} {st' : List sV} (hok : (∀ v ∈ ls, okV v) → (∀ v ∈ st, okV v) → ∀ v ∈ st', okV v)
    (h : ∀ (p : Program) (l : Launch) (e : Env) (R : Room) (s : State) (m : MethodId) (args : Array Value) (below : List Frame) (meth : Method) (c : Code) (H : Heap) (locs : List Loc) (cells slots : Nat) (Z : State → Prop) (lsr : Array Slot),
      p.tables.exec = Jvm.exec → c.code = mC M → LR G (mL M) ls lsr → (∀ v ∈ st, okV v) → s.vm.findClass (mY M).cls = some m.cls → (∀ w ∈ gw, w.before args s = true) → W p l e R s m args below meth c H locs cells slots Z (F0 m pc' lsr (st'.map (rv G))) → W p l e R s m args below meth c H locs cells slots Z (F0 m pc lsr (st.map (rv G))))
    (k : sB G M pc' ls st' S d kc ks Q) : sB G M pc ls st S d kc ks Q := by
  intro p l e R s m args below meth c H locs cells slots Z lsr C hH hl hL hs hc hk
  exact h p l e R s m args below meth c H locs cells slots Z lsr C.1 C.2.1 hL hs C.2.2.2.1 C.2.2.2.2.1 (k p l e R s m args below meth c H locs cells slots Z lsr C hH hl hL (hok hL.2.2.2.1 hs) hc hk)
theorem ok_hd {v : sV} {l : List sV} (h : ∀ w ∈ v :: l, okV w) : okV v := h v List.mem_cons_self
theorem ok_tl {v : sV} {l : List sV} (h : ∀ w ∈ v :: l, okV w) : ∀ w ∈ l, okV w := fun w hw => h w (List.mem_cons_of_mem _ hw)
theorem ok_cons {v : sV} {l : List sV} (h : okV v) (hl : ∀ w ∈ l, okV w) : ∀ w ∈ v :: l, okV w := fun w hw => by
  rcases List.mem_cons.mp hw with rfl | hw
  · exact h
  · exact hl w hw
theorem i32_rg (x : Int32) : -2147483648 ≤ x.toInt ∧ x.toInt < 2147483648 := by
  have h1 := Int32.le_toInt x
  have h2 := Int32.toInt_lt x
  omega
theorem i64_rg (x : Int64) : -9223372036854775808 ≤ x.toInt ∧ x.toInt < 9223372036854775808 := by
  have h1 := Int64.le_toInt x
  have h2 := Int64.toInt_lt x
  omega
theorem i32_eq {a b : Int} (ha : okV (vI a)) (hb : okV (vI b)) : Int32.ofInt a = Int32.ofInt b ↔ a = b := by
  rw [← Int32.toInt_inj, i32_t ha.1 ha.2, i32_t hb.1 hb.2]
theorem i32_lt {a b : Int} (ha : okV (vI a)) (hb : okV (vI b)) : Int32.ofInt a < Int32.ofInt b ↔ a < b := by
  rw [Int32.lt_iff_toInt_lt, i32_t ha.1 ha.2, i32_t hb.1 hb.2]
theorem i32_le {a b : Int} (ha : okV (vI a)) (hb : okV (vI b)) : Int32.ofInt a ≤ Int32.ofInt b ↔ a ≤ b := by
  rw [Int32.le_iff_toInt_le, i32_t ha.1 ha.2, i32_t hb.1 hb.2]
theorem ok_0 : okV (vI 0) := ⟨by decide, by decide⟩
theorem i32_0 : (0 : Int32) = Int32.ofInt 0 := rfl
def i_and (a b : Int) : Int := (Int32.ofInt a &&& Int32.ofInt b).toInt
def i_or (a b : Int) : Int := (Int32.ofInt a ||| Int32.ofInt b).toInt
def i_shl (a b : Int) : Int := (Int32.ofInt a <<< (Int32.ofInt b &&& 31)).toInt
def i_shr (a b : Int) : Int := (Int32.ofInt a >>> (Int32.ofInt b &&& 31)).toInt
def i_ushr (a b : Int) : Int := ((Int32.ofInt a).toUInt32 >>> ((Int32.ofInt b).toUInt32 &&& Int32.toUInt32 31)).toInt32.toInt
theorem i32_div {a b : Int} (ha : okV (vI a)) (hb : okV (vI b)) : Int32.ofInt a / Int32.ofInt b = Int32.ofInt (w32 (a.tdiv b)) := by
  rw [← Int32.toInt_inj, Int32.toInt_div, i32_t ha.1 ha.2, i32_t hb.1 hb.2, i32_t (w32_rg _).1 (w32_rg _).2]
  rfl
theorem i32_rem {a b : Int} (ha : okV (vI a)) (hb : okV (vI b)) : Int32.ofInt a - Int32.ofInt a / Int32.ofInt b * Int32.ofInt b = Int32.ofInt (w32 (a.tmod b)) := by
  rw [i32_div ha hb, i32_w, i32_w, ← Int32.ofInt_mul, ← Int32.ofInt_sub]
  congr 1
  have := Int.tmod_def a b
  rw [this, Int.mul_comm]
theorem B_iconst {n : Int} (hd : decode (mC M) pc = .ok (.iconst n, 1)) (hn : -2147483648 ≤ n ∧ n < 2147483648 := by decide) (k : sB G M (pc + 1) ls (vI n :: st) S d kc ks Q) : sB G M pc ls st S d kc ks Q :=
  sB.go (fun _ hs => ok_cons (v := vI n) hn hs) (fun _ _ _ _ _ _ _ _ _ _ _ _ _ _ _ _ hx hb _ _ _ _ k => lv_iconst hx hb hd rfl k) k
theorem B_bipush {n : Int} (hd : decode (mC M) pc = .ok (.bipush n, 2)) (hn : (-2147483648 ≤ n ∧ n < 2147483648) ∧ (Int8.ofInt n).toInt32 = Int32.ofInt n := by decide) (k : sB G M (pc + 2) ls (vI n :: st) S d kc ks Q) : sB G M pc ls st S d kc ks Q :=
  sB.go (fun _ hs => ok_cons (v := vI n) hn.1 hs) (fun _ _ _ _ _ _ _ _ _ _ _ _ _ _ _ _ hx hb _ _ _ _ k => lv_bipush hx hb hd hn.2 k) k
theorem B_sipush {n : Int} (hd : decode (mC M) pc = .ok (.sipush n, 3)) (hn : (-2147483648 ≤ n ∧ n < 2147483648) ∧ (Int16.ofInt n).toInt32 = Int32.ofInt n := by decide) (k : sB G M (pc + 3) ls (vI n :: st) S d kc ks Q) : sB G M pc ls st S d kc ks Q :=
  sB.go (fun _ hs => ok_cons (v := vI n) hn.1 hs) (fun _ _ _ _ _ _ _ _ _ _ _ _ _ _ _ _ hx hb _ _ _ _ k => lv_sipush hx hb hd hn.2 k) k
theorem B_ldc {n : Int} {i : Nat} (hd : decode (mC M) pc = .ok (.ldc i, 2)) (hn : -2147483648 ≤ n ∧ n < 2147483648) (hw : Cond.constant (mY M).cls i (Int32.ofInt n) ∈ gw) (k : sB G M (pc + 2) ls (vI n :: st) S d kc ks Q) : sB G M pc ls st S d kc ks Q :=
  sB.go (fun _ hs => ok_cons (v := vI n) hn hs) (fun _ _ _ _ _ _ _ _ _ _ _ _ _ _ _ _ hx hb _ _ ho ht k => lv_ldc hx hb ho (ht _ hw) hd k) k
theorem B_ldcw {n : Int} {i : Nat} (hd : decode (mC M) pc = .ok (.ldc_w i, 3)) (hn : -2147483648 ≤ n ∧ n < 2147483648) (hw : Cond.constant (mY M).cls i (Int32.ofInt n) ∈ gw) (k : sB G M (pc + 3) ls (vI n :: st) S d kc ks Q) : sB G M pc ls st S d kc ks Q :=
  sB.go (fun _ hs => ok_cons (v := vI n) hn hs) (fun _ _ _ _ _ _ _ _ _ _ _ _ _ _ _ _ hx hb _ _ ho ht k => lv_ldcw hx hb ho (ht _ hw) hd k) k
theorem B_ldc2 {n : Int} {i : Nat} (hd : decode (mC M) pc = .ok (.ldc2_w i, 3)) (hn : -9223372036854775808 ≤ n ∧ n < 9223372036854775808) (hw : Cond.constantLong (mY M).cls i (Int64.ofInt n) ∈ gw) (k : sB G M (pc + 3) ls (vL n :: st) S d kc ks Q) : sB G M pc ls st S d kc ks Q :=
  sB.go (fun _ hs => ok_cons (v := vL n) hn hs) (fun _ _ _ _ _ _ _ _ _ _ _ _ _ _ _ _ hx hb _ _ ho ht k => lv_ldc2 hx hb ho (ht _ hw) hd k) k
theorem B_lconst0 (hd : decode (mC M) pc = .ok (.lconst 0, 1)) (k : sB G M (pc + 1) ls (vL 0 :: st) S d kc ks Q) : sB G M pc ls st S d kc ks Q :=
  sB.go (fun _ hs => ok_cons (v := vL 0) ⟨by decide, by decide⟩ hs) (fun _ _ _ _ _ _ _ _ _ _ _ _ _ _ _ _ hx hb _ _ _ _ k => lv_lconst hx hb hd rfl k) k
theorem B_lconst1 (hd : decode (mC M) pc = .ok (.lconst 1, 1)) (k : sB G M (pc + 1) ls (vL 1 :: st) S d kc ks Q) : sB G M pc ls st S d kc ks Q :=
  sB.go (fun _ hs => ok_cons (v := vL 1) ⟨by decide, by decide⟩ hs) (fun _ _ _ _ _ _ _ _ _ _ _ _ _ _ _ _ hx hb _ _ _ _ k => lv_lconst hx hb hd rfl k) k
theorem B_null (hd : decode (mC M) pc = .ok (.aconst_null, 1)) (k : sB G M (pc + 1) ls (vR 0 :: st) S d kc ks Q) : sB G M pc ls st S d kc ks Q :=
  sB.go (fun _ hs => ok_cons (v := vR 0) trivial hs) (fun _ _ _ _ _ _ _ _ _ _ _ _ _ _ _ _ hx hb _ _ _ _ k => lv_null hx hb hd k) k
theorem ok_at {i : Nat} {v : sV} (hl : ∀ w ∈ ls, okV w) (h : ls[i]? = some v) : okV v := hl v (List.mem_of_getElem? h)
theorem B_iload_n {k : Fin 4} {x : Int} (hd : decode (mC M) pc = .ok (.iload_n k, 1)) (h : ls[k.val]? = some (vI x)) (k : sB G M (pc + 1) ls (vI x :: st) S d kc ks Q) : sB G M pc ls st S d kc ks Q :=
  sB.go (fun hl hs => ok_cons (ok_at hl h) hs) (fun _ _ _ _ _ _ _ _ _ _ _ _ _ _ _ _ hx hb hL _ _ _ k => lv_iload_n hx hb hd rfl (hL.2.2.2.2 _ _ h (by simp)) k) k
theorem B_iload {i : Nat} {x : Int} (hd : decode (mC M) pc = .ok (.iload i, 2)) (h : ls[i]? = some (vI x)) (k : sB G M (pc + 2) ls (vI x :: st) S d kc ks Q) : sB G M pc ls st S d kc ks Q :=
  sB.go (fun hl hs => ok_cons (ok_at hl h) hs) (fun _ _ _ _ _ _ _ _ _ _ _ _ _ _ _ _ hx hb hL _ _ _ k => lv_iload hx hb hd (hL.2.2.2.2 _ _ h (by simp)) k) k
theorem B_lload_n {k : Fin 4} {x : Int} (hd : decode (mC M) pc = .ok (.lload_n k, 1)) (h : ls[k.val]? = some (vL x)) (k : sB G M (pc + 1) ls (vL x :: st) S d kc ks Q) : sB G M pc ls st S d kc ks Q :=
  sB.go (fun hl hs => ok_cons (ok_at hl h) hs) (fun _ _ _ _ _ _ _ _ _ _ _ _ _ _ _ _ hx hb hL _ _ _ k => lv_lload_n hx hb hd rfl (hL.2.2.2.2 _ _ h (by simp)) k) k
theorem B_lload {i : Nat} {x : Int} (hd : decode (mC M) pc = .ok (.lload i, 2)) (h : ls[i]? = some (vL x)) (k : sB G M (pc + 2) ls (vL x :: st) S d kc ks Q) : sB G M pc ls st S d kc ks Q :=
  sB.go (fun hl hs => ok_cons (ok_at hl h) hs) (fun _ _ _ _ _ _ _ _ _ _ _ _ _ _ _ _ hx hb hL _ _ _ k => lv_lload hx hb hd (hL.2.2.2.2 _ _ h (by simp)) k) k
theorem rv_rn (G : sG) (r : Nat) : rv G (vR r) = .null ∨ ∃ a, rv G (vR r) = .ref a := by
  simp only [rv, rfo]
  by_cases h : (r : Int) = 0
  · rw [if_pos h]; exact Or.inl rfl
  · rw [if_neg h]; exact Or.inr ⟨_, rfl⟩
theorem B_aload_n {k : Fin 4} {r : Nat} (hd : decode (mC M) pc = .ok (.aload_n k, 1)) (h : ls[k.val]? = some (vR r)) (k : sB G M (pc + 1) ls (vR r :: st) S d kc ks Q) : sB G M pc ls st S d kc ks Q :=
  sB.go (fun hl hs => ok_cons (ok_at hl h) hs) (fun _ _ _ _ _ _ _ _ _ _ _ _ _ _ _ _ hx hb hL _ _ _ k => by
    have h1 := hL.2.2.2.2 _ _ h (by simp)
    rw [List.map_cons] at k
    rcases rv_rn G r with e | ⟨a, e⟩
    · rw [e] at h1 k; exact lv_aload_nN hx hb hd rfl h1 k
    · rw [e] at h1 k; exact lv_aload_n hx hb hd rfl h1 k) k
theorem B_aload {i : Nat} {r : Nat} (hd : decode (mC M) pc = .ok (.aload i, 2)) (h : ls[i]? = some (vR r)) (k : sB G M (pc + 2) ls (vR r :: st) S d kc ks Q) : sB G M pc ls st S d kc ks Q :=
  sB.go (fun hl hs => ok_cons (ok_at hl h) hs) (fun _ _ _ _ _ _ _ _ _ _ _ _ _ _ _ _ hx hb hL _ _ _ k => by
    have h1 := hL.2.2.2.2 _ _ h (by simp)
    rw [List.map_cons] at k
    rcases rv_rn G r with e | ⟨a, e⟩
    · rw [e] at h1 k; exact lv_aloadN hx hb hd h1 k
    · rw [e] at h1 k; exact lv_aload hx hb hd h1 k) k
theorem B_aload_s (hd : decode (mC M) pc = .ok (.aload_n 0, 1)) (h : ls[0]? = some (vU 1)) (k : sB G M (pc + 1) ls (vU 1 :: st) S d kc ks Q) : sB G M pc ls st S d kc ks Q :=
  sB.go (fun hl hs => ok_cons (ok_at hl h) hs) (fun _ _ _ _ _ _ _ _ _ _ _ _ _ _ _ _ hx hb hL _ _ _ k => lv_aload_n (i := 0) hx hb hd rfl (hL.2.2.2.2 0 _ h (by simp)) k) k
theorem B_pop {v : sV} (hd : decode (mC M) pc = .ok (.pop, 1)) (hv : isL v = false) (k : sB G M (pc + 1) ls st S d kc ks Q) : sB G M pc ls (v :: st) S d kc ks Q :=
  sB.go (fun _ hs => ok_tl hs) (fun _ _ _ _ _ _ _ _ _ _ _ _ _ _ _ _ hx hb _ _ _ _ k => lv_pop hx hb hd (by rcases lv_cat (rv G v) with h | h; exact h; rw [isL_cat] at h; rw [hv] at h; cases h) k) k
theorem B_dup {v : sV} (hd : decode (mC M) pc = .ok (.dup, 1)) (hv : isL v = false) (k : sB G M (pc + 1) ls (v :: v :: st) S d kc ks Q) : sB G M pc ls (v :: st) S d kc ks Q :=
  sB.go (fun _ hs => ok_cons (ok_hd hs) hs) (fun _ _ _ _ _ _ _ _ _ _ _ _ _ _ _ _ hx hb _ _ _ _ k => lv_dup hx hb hd (by rcases lv_cat (rv G v) with h | h; exact h; rw [isL_cat] at h; rw [hv] at h; cases h) k) k
theorem B_dup2 {v w : sV} (hd : decode (mC M) pc = .ok (.dup2, 1)) (hv : isL v = false) (hw : isL w = false) (k : sB G M (pc + 1) ls (v :: w :: v :: w :: st) S d kc ks Q) : sB G M pc ls (v :: w :: st) S d kc ks Q :=
  sB.go (fun _ hs => ok_cons (ok_hd hs) (ok_cons (ok_hd (ok_tl hs)) hs)) (fun _ _ _ _ _ _ _ _ _ _ _ _ _ _ _ _ hx hb _ _ _ _ k => lv_dup2_11 hx hb hd (by rcases lv_cat (rv G v) with h | h; exact h; rw [isL_cat] at h; rw [hv] at h; cases h) (by rcases lv_cat (rv G w) with h | h; exact h; rw [isL_cat] at h; rw [hw] at h; cases h) k) k
theorem B_iadd {a b : Int} (hd : decode (mC M) pc = .ok (.iadd, 1)) (k : sB G M (pc + 1) ls (vI (w32 (a + b)) :: st) S d kc ks Q) : sB G M pc ls (vI b :: vI a :: st) S d kc ks Q :=
  sB.go (fun _ hs => ok_cons (okV_w _) (ok_tl (ok_tl hs))) (fun _ _ _ _ _ _ _ _ _ _ _ _ _ _ _ _ hx hb _ _ _ _ k => lv_iadd hx hb hd (by rw [← Int32.ofInt_add, ← i32_w]; exact k)) k
theorem B_isub {a b : Int} (hd : decode (mC M) pc = .ok (.isub, 1)) (k : sB G M (pc + 1) ls (vI (w32 (a - b)) :: st) S d kc ks Q) : sB G M pc ls (vI b :: vI a :: st) S d kc ks Q :=
  sB.go (fun _ hs => ok_cons (okV_w _) (ok_tl (ok_tl hs))) (fun _ _ _ _ _ _ _ _ _ _ _ _ _ _ _ _ hx hb _ _ _ _ k => lv_isub hx hb hd (by rw [← Int32.ofInt_sub, ← i32_w]; exact k)) k
theorem B_imul {a b : Int} (hd : decode (mC M) pc = .ok (.imul, 1)) (k : sB G M (pc + 1) ls (vI (w32 (a * b)) :: st) S d kc ks Q) : sB G M pc ls (vI b :: vI a :: st) S d kc ks Q :=
  sB.go (fun _ hs => ok_cons (okV_w _) (ok_tl (ok_tl hs))) (fun _ _ _ _ _ _ _ _ _ _ _ _ _ _ _ _ hx hb _ _ _ _ k => lv_imul hx hb hd (by rw [← Int32.ofInt_mul, ← i32_w]; exact k)) k
theorem B_ladd {a b : Int} (hd : decode (mC M) pc = .ok (.ladd, 1)) (k : sB G M (pc + 1) ls (vL (w64 (a + b)) :: st) S d kc ks Q) : sB G M pc ls (vL b :: vL a :: st) S d kc ks Q :=
  sB.go (fun _ hs => ok_cons (okV_lw _) (ok_tl (ok_tl hs))) (fun _ _ _ _ _ _ _ _ _ _ _ _ _ _ _ _ hx hb _ _ _ _ k => lv_ladd hx hb hd (by rw [← Int64.ofInt_add, ← i64_w]; exact k)) k
theorem B_lsub {a b : Int} (hd : decode (mC M) pc = .ok (.lsub, 1)) (k : sB G M (pc + 1) ls (vL (w64 (a - b)) :: st) S d kc ks Q) : sB G M pc ls (vL b :: vL a :: st) S d kc ks Q :=
  sB.go (fun _ hs => ok_cons (okV_lw _) (ok_tl (ok_tl hs))) (fun _ _ _ _ _ _ _ _ _ _ _ _ _ _ _ _ hx hb _ _ _ _ k => lv_lsub hx hb hd (by rw [← Int64.ofInt_sub, ← i64_w]; exact k)) k
theorem B_lmul {a b : Int} (hd : decode (mC M) pc = .ok (.lmul, 1)) (k : sB G M (pc + 1) ls (vL (w64 (a * b)) :: st) S d kc ks Q) : sB G M pc ls (vL b :: vL a :: st) S d kc ks Q :=
  sB.go (fun _ hs => ok_cons (okV_lw _) (ok_tl (ok_tl hs))) (fun _ _ _ _ _ _ _ _ _ _ _ _ _ _ _ _ hx hb _ _ _ _ k => lv_lmul hx hb hd (by rw [← Int64.ofInt_mul, ← i64_w]; exact k)) k
theorem B_iand {a b : Int} (hd : decode (mC M) pc = .ok (.iand, 1)) (k : sB G M (pc + 1) ls (vI (i_and a b) :: st) S d kc ks Q) : sB G M pc ls (vI b :: vI a :: st) S d kc ks Q :=
  sB.go (fun _ hs => ok_cons (v := vI (i_and a b)) (i32_rg _) (ok_tl (ok_tl hs))) (fun _ _ _ _ _ _ _ _ _ _ _ _ _ _ _ _ hx hb _ _ _ _ k => lv_iand hx hb hd (by
    have k := k
    simp only [List.map_cons, rv, i_and, Int32.ofInt_toInt] at k
    exact k)) k
theorem B_ior {a b : Int} (hd : decode (mC M) pc = .ok (.ior, 1)) (k : sB G M (pc + 1) ls (vI (i_or a b) :: st) S d kc ks Q) : sB G M pc ls (vI b :: vI a :: st) S d kc ks Q :=
  sB.go (fun _ hs => ok_cons (v := vI (i_or a b)) (i32_rg _) (ok_tl (ok_tl hs))) (fun _ _ _ _ _ _ _ _ _ _ _ _ _ _ _ _ hx hb _ _ _ _ k => lv_ior hx hb hd (by
    have k := k
    simp only [List.map_cons, rv, i_or, Int32.ofInt_toInt] at k
    exact k)) k
theorem B_ishl {a b : Int} (hd : decode (mC M) pc = .ok (.ishl, 1)) (k : sB G M (pc + 1) ls (vI (i_shl a b) :: st) S d kc ks Q) : sB G M pc ls (vI b :: vI a :: st) S d kc ks Q :=
  sB.go (fun _ hs => ok_cons (v := vI (i_shl a b)) (i32_rg _) (ok_tl (ok_tl hs))) (fun _ _ _ _ _ _ _ _ _ _ _ _ _ _ _ _ hx hb _ _ _ _ k => lv_ishl hx hb hd (by
    have k := k
    simp only [List.map_cons, rv, i_shl, Int32.ofInt_toInt] at k
    exact k)) k
theorem B_ishr {a b : Int} (hd : decode (mC M) pc = .ok (.ishr, 1)) (k : sB G M (pc + 1) ls (vI (i_shr a b) :: st) S d kc ks Q) : sB G M pc ls (vI b :: vI a :: st) S d kc ks Q :=
  sB.go (fun _ hs => ok_cons (v := vI (i_shr a b)) (i32_rg _) (ok_tl (ok_tl hs))) (fun _ _ _ _ _ _ _ _ _ _ _ _ _ _ _ _ hx hb _ _ _ _ k => lv_ishr hx hb hd (by
    have k := k
    simp only [List.map_cons, rv, i_shr, Int32.ofInt_toInt] at k
    exact k)) k
theorem B_iushr {a b : Int} (hd : decode (mC M) pc = .ok (.iushr, 1)) (k : sB G M (pc + 1) ls (vI (i_ushr a b) :: st) S d kc ks Q) : sB G M pc ls (vI b :: vI a :: st) S d kc ks Q :=
  sB.go (fun _ hs => ok_cons (v := vI (i_ushr a b)) (i32_rg _) (ok_tl (ok_tl hs))) (fun _ _ _ _ _ _ _ _ _ _ _ _ _ _ _ _ hx hb _ _ _ _ k => lv_iushr hx hb hd rfl (by
    have k := k
    simp only [List.map_cons, rv, i_ushr, Int32.ofInt_toInt] at k
    exact k)) k
theorem B_ineg {a : Int} (hd : decode (mC M) pc = .ok (.ineg, 1)) (k : sB G M (pc + 1) ls (vI (w32 (-a)) :: st) S d kc ks Q) : sB G M pc ls (vI a :: st) S d kc ks Q :=
  sB.go (fun _ hs => ok_cons (okV_w _) (ok_tl hs)) (fun _ _ _ _ _ _ _ _ _ _ _ _ _ _ _ _ hx hb _ _ _ _ k => lv_ineg hx hb hd (by rw [← Int32.ofInt_neg, ← i32_w]; exact k)) k
theorem B_idiv {a b : Int} (hd : decode (mC M) pc = .ok (.idiv, 1)) (hne : b ≠ 0) (k : sB G M (pc + 1) ls (vI (w32 (a.tdiv b)) :: st) S d kc ks Q) : sB G M pc ls (vI b :: vI a :: st) S d kc ks Q :=
  sB.go (fun _ hs => ok_cons (okV_w _) (ok_tl (ok_tl hs))) (fun _ _ _ _ _ _ _ _ _ _ _ _ _ _ _ _ hx hb _ hs _ _ k => lv_idiv hx hb hd (fun q => hne ((i32_eq (ok_hd hs) ok_0).mp q)) (by rw [i32_div (ok_hd (ok_tl hs)) (ok_hd hs)]; exact k)) k
theorem B_irem {a b : Int} (hd : decode (mC M) pc = .ok (.irem, 1)) (hne : b ≠ 0) (k : sB G M (pc + 1) ls (vI (w32 (a.tmod b)) :: st) S d kc ks Q) : sB G M pc ls (vI b :: vI a :: st) S d kc ks Q :=
  sB.go (fun _ hs => ok_cons (okV_w _) (ok_tl (ok_tl hs))) (fun _ _ _ _ _ _ _ _ _ _ _ _ _ _ _ _ hx hb _ hs _ _ k => lv_irem hx hb hd (fun q => hne ((i32_eq (ok_hd hs) ok_0).mp q)) (by rw [i32_rem (ok_hd (ok_tl hs)) (ok_hd hs)]; exact k)) k
theorem i2l_v {a : Int} (h : okV (vI a)) : (Int32.ofInt a).toInt64 = Int64.ofInt a := by
  rw [← Int64.toInt_inj, Int32.toInt_toInt64, i32_t h.1 h.2, i64_t (by have := h.1; omega) (by have := h.2; omega)]
theorem B_i2l {a : Int} (hd : decode (mC M) pc = .ok (.i2l, 1)) (k : sB G M (pc + 1) ls (vL a :: st) S d kc ks Q) : sB G M pc ls (vI a :: st) S d kc ks Q :=
  sB.go (fun _ hs => ok_cons (v := vL a) ⟨by have := (ok_hd hs).1; omega, by have := (ok_hd hs).2; omega⟩ (ok_tl hs)) (fun _ _ _ _ _ _ _ _ _ _ _ _ _ _ _ _ hx hb _ hs _ _ k => lv_i2l hx hb hd (i2l_v (ok_hd hs)) k) k
def w8 (x : Int) : Int := (Int32.ofInt x).toInt8.toInt32.toInt
theorem B_i2b {a : Int} (hd : decode (mC M) pc = .ok (.i2b, 1)) (k : sB G M (pc + 1) ls (vI (w8 a) :: st) S d kc ks Q) : sB G M pc ls (vI a :: st) S d kc ks Q :=
  sB.go (fun _ hs => ok_cons (v := vI (w8 a)) (i32_rg _) (ok_tl hs)) (fun _ _ _ _ _ _ _ _ _ _ _ _ _ _ _ _ hx hb _ hs _ _ k => lv_i2b hx hb hd (v := (Int32.ofInt a).toInt8.toInt32) rfl (by
    have k := k
    simp only [List.map_cons, rv, w8, Int32.ofInt_toInt] at k
    exact k)) k
def cmpZ (a b : Int) : Int := if b < a then 1 else if a = b then 0 else -1
theorem lcmp_v {a b : Int} (ha : okV (vL a)) (hb : okV (vL b)) : lg_cmp (Int64.ofInt a) (Int64.ofInt b) = Int32.ofInt (cmpZ a b) := by
  unfold lg_cmp cmpZ
  have e1 : (Int64.ofInt a > Int64.ofInt b) ↔ b < a := by
    rw [gt_iff_lt, Int64.lt_iff_toInt_lt, i64_t ha.1 ha.2, i64_t hb.1 hb.2]
  have e2 : (Int64.ofInt a = Int64.ofInt b) ↔ a = b := by
    rw [← Int64.toInt_inj, i64_t ha.1 ha.2, i64_t hb.1 hb.2]
  by_cases h1 : b < a
  · rw [if_pos (e1.mpr h1), if_pos h1]; rfl
  · rw [if_neg (fun q => h1 (e1.mp q)), if_neg h1]
    by_cases h2 : a = b
    · rw [if_pos (e2.mpr h2), if_pos h2]; rfl
    · rw [if_neg (fun q => h2 (e2.mp q)), if_neg h2]; rfl
theorem B_lcmp {a b : Int} (hd : decode (mC M) pc = .ok (.lcmp, 1)) (k : sB G M (pc + 1) ls (vI (cmpZ a b) :: st) S d kc ks Q) : sB G M pc ls (vL b :: vL a :: st) S d kc ks Q :=
  sB.go (fun _ hs => ok_cons (v := vI (cmpZ a b)) (by show _ ∧ _; unfold cmpZ; split; exact ⟨by decide, by decide⟩; split <;> exact ⟨by decide, by decide⟩) (ok_tl (ok_tl hs))) (fun _ _ _ _ _ _ _ _ _ _ _ _ _ _ _ _ hx hb _ hs _ _ k => W.lcmp hx hb hd (by rw [lcmp_v (ok_hd (ok_tl hs)) (ok_hd hs)]; exact k)) k
/-- a step that stores a word of one slot -/
theorem sB.stw {pc' : Nat} {i : Nat} {v : sV} (hv : isL v = false)
    (h : ∀ (p : Program) (l : Launch) (e : Env) (R : Room) (s : State) (m : MethodId) (args : Array Value) (below : List Frame) (meth : Method) (c : Code) (H : Heap) (locs : List Loc) (cells slots : Nat) (Z : State → Prop) (lsr : Array Slot),
      p.tables.exec = Jvm.exec → c.code = mC M → lv_has lsr (mL M) (lof G 0 ls) → (∀ lsr', lv_has lsr' (mL M) ((i, rv G v) :: (lof G 0 ls).filter (fun q => !(q.1 == i) && !(q.1 + 1 == i && q.2.category == 2))) → W p l e R s m args below meth c H locs cells slots Z (F0 m pc' lsr' (st.map (rv G)))) → W p l e R s m args below meth c H locs cells slots Z (F0 m pc lsr ((v :: st).map (rv G))))
    (k : sB G M pc' (sto ls i v) st S d kc ks Q) : sB G M pc ls (v :: st) S d kc ks Q := by
  intro p l e R s m args below meth c H locs cells slots Z lsr C hH hl hL hs hc hk
  exact h p l e R s m args below meth c H locs cells slots Z lsr C.1 C.2.1 hL.has (fun lsr' hh => k p l e R s m args below meth c H locs cells slots Z lsr' C hH hl (hL.sto (ok_hd hs) hh) (ok_tl hs) hc hk)
theorem B_istore_n {k : Fin 4} {x : Int} (hd : decode (mC M) pc = .ok (.istore_n k, 1)) (hn : k.val < mL M) (kk : sB G M (pc + 1) (sto ls k.val (vI x)) st S d kc ks Q) : sB G M pc ls (vI x :: st) S d kc ks Q :=
  sB.stw rfl (fun _ _ _ _ _ _ _ _ _ _ _ _ _ _ _ _ hx hb hL k => lv_istore_n hx hb hd rfl hL hn rfl k) kk
theorem B_istore {i : Nat} {x : Int} (hd : decode (mC M) pc = .ok (.istore i, 2)) (hn : i < mL M) (kk : sB G M (pc + 2) (sto ls i (vI x)) st S d kc ks Q) : sB G M pc ls (vI x :: st) S d kc ks Q :=
  sB.stw rfl (fun _ _ _ _ _ _ _ _ _ _ _ _ _ _ _ _ hx hb hL k => lv_istore hx hb hd hL hn rfl k) kk
theorem B_astore_n {k : Fin 4} {r : Nat} (hd : decode (mC M) pc = .ok (.astore_n k, 1)) (hn : k.val < mL M) (kk : sB G M (pc + 1) (sto ls k.val (vR r)) st S d kc ks Q) : sB G M pc ls (vR r :: st) S d kc ks Q :=
  sB.stw rfl (fun _ _ _ _ _ _ _ _ _ _ _ _ _ _ _ _ hx hb hL k => by
    rw [List.map_cons]
    rcases rv_rn G r with e | ⟨a, e⟩
    · rw [e] at k ⊢; exact lv_astore_nN hx hb hd rfl hL hn rfl k
    · rw [e] at k ⊢; exact lv_astore_n hx hb hd rfl hL hn rfl k) kk
theorem B_astore {i : Nat} {r : Nat} (hd : decode (mC M) pc = .ok (.astore i, 2)) (hn : i < mL M) (kk : sB G M (pc + 2) (sto ls i (vR r)) st S d kc ks Q) : sB G M pc ls (vR r :: st) S d kc ks Q :=
  sB.stw rfl (fun _ _ _ _ _ _ _ _ _ _ _ _ _ _ _ _ hx hb hL k => by
    rw [List.map_cons]
    rcases rv_rn G r with e | ⟨a, e⟩
    · rw [e] at k ⊢; exact lv_astoreN hx hb hd hL hn rfl k
    · rw [e] at k ⊢; exact lv_astore hx hb hd hL hn rfl k) kk
theorem B_iinc {i : Nat} {n x : Int} (hd : decode (mC M) pc = .ok (.iinc i n, 3)) (h : ls[i]? = some (vI x)) (hn : i < mL M) (kk : sB G M (pc + 3) (sto ls i (vI (w32 (x + n)))) st S d kc ks Q) : sB G M pc ls st S d kc ks Q := by
  intro p l e R s m args below meth c H locs cells slots Z lsr C hH hl hL hs hc hk
  have hin := lof_in G ls 0 i (vI x) h (by simp)
  rw [Nat.zero_add] at hin
  obtain ⟨k, hk1⟩ := List.getElem?_of_mem hin
  refine lv_iinc (v := Int32.ofInt (w32 (x + n))) C.1 C.2.1 hd hL.has hk1 (by rw [i32_w, Int32.ofInt_add]) hn rfl (fun lsr' hh => ?_)
  exact kk p l e R s m args below meth c H locs cells slots Z lsr' C hH hl (hL.sto (okV_w _) hh) hs hc hk
theorem LR_stoL {lsr lsr' : Array Slot} {n i : Nat} {x : Int} (h : LR G n ls lsr) (hv : okV (vL x)) (hh : lv_has lsr' n ((i, rv G (vL x)) :: (lof G 0 ls).filter (fun q => !(q.1 == i) && (!(q.1 == i + 1) && !(q.1 + 1 == i && q.2.category == 2))))) : LR G n (stoL ls i x) lsr' := by
  refine LR.of (by unfold stoL; rw [sto_len, sto_len]; exact h.2.1) (sto_ok _ i _ (sto_ok ls (i + 1) _ h.2.2.2.1 trivial) hv) hh (fun j w h1 h2 => ?_)
  rcases sto_get _ i _ j w h1 h2 with ⟨rfl, rfl⟩ | ⟨q1, q2, q3⟩
  · exact List.mem_cons_self
  · rcases sto_get ls (i + 1) (vU 0) j w q2 h2 with ⟨-, rfl⟩ | ⟨g1, g2, g3⟩
    · exact absurd rfl h2
    · refine List.mem_cons_of_mem _ (List.mem_filter.mpr ⟨?_, ?_⟩)
      · have := lof_in G ls 0 j w g2 h2
        rwa [Nat.zero_add] at this
      · simp only [Bool.and_eq_true, Bool.not_eq_true', beq_eq_false_iff_ne, ne_eq, Bool.and_eq_false_iff]
        refine ⟨q1, g1, ?_⟩
        by_cases e : j + 1 = i
        · right
          intro hc
          exact q3 ⟨e, isL_cat.mp hc⟩
        · exact Or.inl e
theorem B_lstore_n {k : Fin 4} {x : Int} (hd : decode (mC M) pc = .ok (.lstore_n k, 1)) (hn : k.val + 1 < mL M) (kk : sB G M (pc + 1) (stoL ls k.val x) st S d kc ks Q) : sB G M pc ls (vL x :: st) S d kc ks Q := by
  intro p l e R s m args below meth c H locs cells slots Z lsr C hH hl hL hs hc hk
  exact lv_lstore_n C.1 C.2.1 hd rfl hL.has hn rfl (fun lsr' hh => kk p l e R s m args below meth c H locs cells slots Z lsr' C hH hl (LR_stoL hL (ok_hd hs) hh) (ok_tl hs) hc hk)
/-- a branch on words of the stack -/
theorem sB.br {pt pf : Nat} {st' : List sV} {P : Prop} (hok : (∀ v ∈ st, okV v) → ∀ v ∈ st', okV v)
    (h : ∀ (p : Program) (l : Launch) (e : Env) (R : Room) (s : State) (m : MethodId) (args : Array Value) (below : List Frame) (meth : Method) (c : Code) (H : Heap) (locs : List Loc) (cells slots : Nat) (Z : State → Prop) (lsr : Array Slot),
      p.tables.exec = Jvm.exec → c.code = mC M → (∀ v ∈ st, okV v) → (P → W p l e R s m args below meth c H locs cells slots Z (F0 m pt lsr (st'.map (rv G)))) → (¬ P → W p l e R s m args below meth c H locs cells slots Z (F0 m pf lsr (st'.map (rv G)))) → W p l e R s m args below meth c H locs cells slots Z (F0 m pc lsr (st.map (rv G))))
    (kt : P → sB G M pt ls st' S d kc ks Q) (kf : ¬ P → sB G M pf ls st' S d kc ks Q) : sB G M pc ls st S d kc ks Q := by
  intro p l e R s m args below meth c H locs cells slots Z lsr C hH hl hL hs hc hk
  exact h p l e R s m args below meth c H locs cells slots Z lsr C.1 C.2.1 hs (fun q => kt q p l e R s m args below meth c H locs cells slots Z lsr C hH hl hL (hok hs) hc hk) (fun q => kf q p l e R s m args below meth c H locs cells slots Z lsr C hH hl hL (hok hs) hc hk)
theorem B_if_eq {a : Int} {off : Int} {tgt : Nat} (hd : decode (mC M) pc = .ok (.ifCond .eq off, 3)) (ht : (pc : Int) + off = (tgt : Int)) (kt : a = 0 → sB G M tgt ls st S d kc ks Q) (kf : ¬ a = 0 → sB G M (pc + 3) ls st S d kc ks Q) : sB G M pc ls (vI a :: st) S d kc ks Q :=
  sB.br (P := a = 0) (fun hs => ok_tl hs) (fun _ _ _ _ _ _ _ _ _ _ _ _ _ _ _ _ hx hb hs kt kf => lv_if_eq hx hb hd ht (fun q => kt ((i32_eq (ok_hd hs) ok_0).mp q)) (fun q => kf (fun z => q ((i32_eq (ok_hd hs) ok_0).mpr z)))) kt kf
theorem B_if_ne {a : Int} {off : Int} {tgt : Nat} (hd : decode (mC M) pc = .ok (.ifCond .ne off, 3)) (ht : (pc : Int) + off = (tgt : Int)) (kt : ¬ a = 0 → sB G M tgt ls st S d kc ks Q) (kf : a = 0 → sB G M (pc + 3) ls st S d kc ks Q) : sB G M pc ls (vI a :: st) S d kc ks Q :=
  sB.br (P := a = 0) (pt := pc + 3) (pf := tgt) (fun hs => ok_tl hs) (fun _ _ _ _ _ _ _ _ _ _ _ _ _ _ _ _ hx hb hs kt kf => lv_if_ne hx hb hd ht (fun q => kf (fun z => q ((i32_eq (ok_hd hs) ok_0).mpr z))) (fun q => kt ((i32_eq (ok_hd hs) ok_0).mp q))) kf kt
theorem B_if_lt {a : Int} {off : Int} {tgt : Nat} (hd : decode (mC M) pc = .ok (.ifCond .lt off, 3)) (ht : (pc : Int) + off = (tgt : Int)) (kt : a < 0 → sB G M tgt ls st S d kc ks Q) (kf : ¬ a < 0 → sB G M (pc + 3) ls st S d kc ks Q) : sB G M pc ls (vI a :: st) S d kc ks Q :=
  sB.br (P := a < 0) (fun hs => ok_tl hs) (fun _ _ _ _ _ _ _ _ _ _ _ _ _ _ _ _ hx hb hs kt kf => lv_if_lt hx hb hd ht (fun q => kt ((i32_lt (ok_hd hs) ok_0).mp q)) (fun q => kf (fun z => q ((i32_lt (ok_hd hs) ok_0).mpr z)))) kt kf
theorem B_if_ge {a : Int} {off : Int} {tgt : Nat} (hd : decode (mC M) pc = .ok (.ifCond .ge off, 3)) (ht : (pc : Int) + off = (tgt : Int)) (kt : 0 ≤ a → sB G M tgt ls st S d kc ks Q) (kf : ¬ 0 ≤ a → sB G M (pc + 3) ls st S d kc ks Q) : sB G M pc ls (vI a :: st) S d kc ks Q :=
  sB.br (P := 0 ≤ a) (fun hs => ok_tl hs) (fun _ _ _ _ _ _ _ _ _ _ _ _ _ _ _ _ hx hb hs kt kf => lv_if_ge hx hb hd ht (fun q => kt ((i32_le ok_0 (ok_hd hs)).mp q)) (fun q => kf (fun z => q ((i32_le ok_0 (ok_hd hs)).mpr z)))) kt kf
theorem B_if_gt {a : Int} {off : Int} {tgt : Nat} (hd : decode (mC M) pc = .ok (.ifCond .gt off, 3)) (ht : (pc : Int) + off = (tgt : Int)) (kt : 0 < a → sB G M tgt ls st S d kc ks Q) (kf : ¬ 0 < a → sB G M (pc + 3) ls st S d kc ks Q) : sB G M pc ls (vI a :: st) S d kc ks Q :=
  sB.br (P := 0 < a) (fun hs => ok_tl hs) (fun _ _ _ _ _ _ _ _ _ _ _ _ _ _ _ _ hx hb hs kt kf => lv_if_gt hx hb hd ht (fun q => kt ((i32_lt ok_0 (ok_hd hs)).mp q)) (fun q => kf (fun z => q ((i32_lt ok_0 (ok_hd hs)).mpr z)))) kt kf
theorem B_if_le {a : Int} {off : Int} {tgt : Nat} (hd : decode (mC M) pc = .ok (.ifCond .le off, 3)) (ht : (pc : Int) + off = (tgt : Int)) (kt : a ≤ 0 → sB G M tgt ls st S d kc ks Q) (kf : ¬ a ≤ 0 → sB G M (pc + 3) ls st S d kc ks Q) : sB G M pc ls (vI a :: st) S d kc ks Q :=
  sB.br (P := a ≤ 0) (fun hs => ok_tl hs) (fun _ _ _ _ _ _ _ _ _ _ _ _ _ _ _ _ hx hb hs kt kf => lv_if_le hx hb hd ht (fun q => kt ((i32_le (ok_hd hs) ok_0).mp q)) (fun q => kf (fun z => q ((i32_le (ok_hd hs) ok_0).mpr z)))) kt kf
theorem B_icmp_eq {a b : Int} {off : Int} {tgt : Nat} (hd : decode (mC M) pc = .ok (.if_icmp .eq off, 3)) (ht : (pc : Int) + off = (tgt : Int)) (kt : a = b → sB G M tgt ls st S d kc ks Q) (kf : ¬ a = b → sB G M (pc + 3) ls st S d kc ks Q) : sB G M pc ls (vI b :: vI a :: st) S d kc ks Q :=
  sB.br (P := a = b) (fun hs => ok_tl (ok_tl hs)) (fun _ _ _ _ _ _ _ _ _ _ _ _ _ _ _ _ hx hb hs kt kf => lv_icmp_eq hx hb hd ht (fun q => kt ((i32_eq (ok_hd (ok_tl hs)) (ok_hd hs)).mp q)) (fun q => kf (fun z => q ((i32_eq (ok_hd (ok_tl hs)) (ok_hd hs)).mpr z)))) kt kf
theorem B_icmp_ne {a b : Int} {off : Int} {tgt : Nat} (hd : decode (mC M) pc = .ok (.if_icmp .ne off, 3)) (ht : (pc : Int) + off = (tgt : Int)) (kt : ¬ a = b → sB G M tgt ls st S d kc ks Q) (kf : a = b → sB G M (pc + 3) ls st S d kc ks Q) : sB G M pc ls (vI b :: vI a :: st) S d kc ks Q :=
  sB.br (P := a = b) (pt := pc + 3) (pf := tgt) (fun hs => ok_tl (ok_tl hs)) (fun _ _ _ _ _ _ _ _ _ _ _ _ _ _ _ _ hx hb hs kt kf => lv_icmp_ne hx hb hd ht (fun q => kf (fun z => q ((i32_eq (ok_hd (ok_tl hs)) (ok_hd hs)).mpr z))) (fun q => kt ((i32_eq (ok_hd (ok_tl hs)) (ok_hd hs)).mp q))) kf kt
theorem B_icmp_lt {a b : Int} {off : Int} {tgt : Nat} (hd : decode (mC M) pc = .ok (.if_icmp .lt off, 3)) (ht : (pc : Int) + off = (tgt : Int)) (kt : a < b → sB G M tgt ls st S d kc ks Q) (kf : ¬ a < b → sB G M (pc + 3) ls st S d kc ks Q) : sB G M pc ls (vI b :: vI a :: st) S d kc ks Q :=
  sB.br (P := a < b) (fun hs => ok_tl (ok_tl hs)) (fun _ _ _ _ _ _ _ _ _ _ _ _ _ _ _ _ hx hb hs kt kf => lv_icmp_lt hx hb hd ht (fun q => kt ((i32_lt (ok_hd (ok_tl hs)) (ok_hd hs)).mp q)) (fun q => kf (fun z => q ((i32_lt (ok_hd (ok_tl hs)) (ok_hd hs)).mpr z)))) kt kf
theorem B_icmp_ge {a b : Int} {off : Int} {tgt : Nat} (hd : decode (mC M) pc = .ok (.if_icmp .ge off, 3)) (ht : (pc : Int) + off = (tgt : Int)) (kt : b ≤ a → sB G M tgt ls st S d kc ks Q) (kf : ¬ b ≤ a → sB G M (pc + 3) ls st S d kc ks Q) : sB G M pc ls (vI b :: vI a :: st) S d kc ks Q :=
  sB.br (P := b ≤ a) (fun hs => ok_tl (ok_tl hs)) (fun _ _ _ _ _ _ _ _ _ _ _ _ _ _ _ _ hx hb hs kt kf => lv_icmp_ge hx hb hd ht (fun q => kt ((i32_le (ok_hd hs) (ok_hd (ok_tl hs))).mp q)) (fun q => kf (fun z => q ((i32_le (ok_hd hs) (ok_hd (ok_tl hs))).mpr z)))) kt kf
theorem B_icmp_gt {a b : Int} {off : Int} {tgt : Nat} (hd : decode (mC M) pc = .ok (.if_icmp .gt off, 3)) (ht : (pc : Int) + off = (tgt : Int)) (kt : b < a → sB G M tgt ls st S d kc ks Q) (kf : ¬ b < a → sB G M (pc + 3) ls st S d kc ks Q) : sB G M pc ls (vI b :: vI a :: st) S d kc ks Q :=
  sB.br (P := b < a) (fun hs => ok_tl (ok_tl hs)) (fun _ _ _ _ _ _ _ _ _ _ _ _ _ _ _ _ hx hb hs kt kf => lv_icmp_gt hx hb hd ht (fun q => kt ((i32_lt (ok_hd hs) (ok_hd (ok_tl hs))).mp q)) (fun q => kf (fun z => q ((i32_lt (ok_hd hs) (ok_hd (ok_tl hs))).mpr z)))) kt kf
theorem B_icmp_le {a b : Int} {off : Int} {tgt : Nat} (hd : decode (mC M) pc = .ok (.if_icmp .le off, 3)) (ht : (pc : Int) + off = (tgt : Int)) (kt : a ≤ b → sB G M tgt ls st S d kc ks Q) (kf : ¬ a ≤ b → sB G M (pc + 3) ls st S d kc ks Q) : sB G M pc ls (vI b :: vI a :: st) S d kc ks Q :=
  sB.br (P := a ≤ b) (fun hs => ok_tl (ok_tl hs)) (fun _ _ _ _ _ _ _ _ _ _ _ _ _ _ _ _ hx hb hs kt kf => lv_icmp_le hx hb hd ht (fun q => kt ((i32_le (ok_hd (ok_tl hs)) (ok_hd hs)).mp q)) (fun q => kf (fun z => q ((i32_le (ok_hd (ok_tl hs)) (ok_hd hs)).mpr z)))) kt kf
theorem B_goto {off : Int} {tgt : Nat} (hd : decode (mC M) pc = .ok (.goto off, 3)) (ht : (pc : Int) + off = (tgt : Int)) (k : sB G M tgt ls st S d kc ks Q) : sB G M pc ls st S d kc ks Q :=
  sB.go (fun _ hs => hs) (fun _ _ _ _ _ _ _ _ _ _ _ _ _ _ _ _ hx hb _ _ _ _ k => lv_goto hx hb hd ht k) k
theorem B_ifnull {r : Nat} {off : Int} {tgt : Nat} (hd : decode (mC M) pc = .ok (.ifnull off, 3)) (ht : (pc : Int) + off = (tgt : Int)) (kt : r = 0 → sB G M tgt ls st S d kc ks Q) (kf : ¬ r = 0 → sB G M (pc + 3) ls st S d kc ks Q) : sB G M pc ls (vR r :: st) S d kc ks Q :=
  sB.br (P := r = 0) (fun hs => ok_tl hs) (fun _ _ _ _ _ _ _ _ _ _ _ _ _ _ _ _ hx hb hs kt kf => by
    rw [List.map_cons]
    by_cases h : r = 0
    · subst h; rw [rv_0]; exact lv_ifnullN hx hb hd ht (kt rfl)
    · rw [rv_r (by omega)]; exact lv_ifnull hx hb hd (kf h)) kt kf
theorem B_ifnonnull {r : Nat} {off : Int} {tgt : Nat} (hd : decode (mC M) pc = .ok (.ifnonnull off, 3)) (ht : (pc : Int) + off = (tgt : Int)) (kt : ¬ r = 0 → sB G M tgt ls st S d kc ks Q) (kf : r = 0 → sB G M (pc + 3) ls st S d kc ks Q) : sB G M pc ls (vR r :: st) S d kc ks Q :=
  sB.br (P := r = 0) (pt := pc + 3) (pf := tgt) (fun hs => ok_tl hs) (fun _ _ _ _ _ _ _ _ _ _ _ _ _ _ _ _ hx hb hs kt kf => by
    rw [List.map_cons]
    by_cases h : r = 0
    · subst h; rw [rv_0]; exact lv_ifnonnullN hx hb hd (kt rfl)
    · rw [rv_r (by omega)]; exact lv_ifnonnull hx hb hd ht (kf h)) kf kt
theorem B_tabIn {dflt lo hi : Int} {offs : Array Int} {len : Nat} {x : Int} {off : Int} {tgt : Nat} (hd : decode (mC M) pc = .ok (.tableswitch dflt lo hi offs, len)) (h1 : lo ≤ x) (h2 : x ≤ hi) (ho : offs[(x - lo).toNat]? = some off) (ht : (pc : Int) + off = (tgt : Int)) (k : sB G M tgt ls st S d kc ks Q) : sB G M pc ls (vI x :: st) S d kc ks Q :=
  sB.go (fun _ hs => ok_tl hs) (fun _ _ _ _ _ _ _ _ _ _ _ _ _ _ _ _ hx hb _ hs _ _ k => lv_tableIn hx hb hd (by rw [i32_t (ok_hd hs).1 (ok_hd hs).2]; omega) (by rw [i32_t (ok_hd hs).1 (ok_hd hs).2]; omega) (by rw [i32_t (ok_hd hs).1 (ok_hd hs).2]; exact ho) ht k) k
theorem B_tabOut {dflt lo hi : Int} {offs : Array Int} {len : Nat} {x : Int} {tgt : Nat} (hd : decode (mC M) pc = .ok (.tableswitch dflt lo hi offs, len)) (h : x < lo ∨ hi < x) (ht : (pc : Int) + dflt = (tgt : Int)) (k : sB G M tgt ls st S d kc ks Q) : sB G M pc ls (vI x :: st) S d kc ks Q :=
  sB.go (fun _ hs => ok_tl hs) (fun _ _ _ _ _ _ _ _ _ _ _ _ _ _ _ _ hx hb _ hs _ _ k => lv_tableOut hx hb hd (by rw [i32_t (ok_hd hs).1 (ok_hd hs).2]; exact h) ht k) k
/-- the ends -/
theorem B_ret {r : Option sV} (hi : RetI M pc r) (hst : st = r.toList) (hq : Q r S d) : sB G M pc ls st S d kc ks Q := by
  intro p l e R s m args below meth c H locs cells slots Z lsr C hH hl hL hs hc hk
  subst hst
  exact W.widen (by omega) (by omega) (C.2.2.2.2.2.2.2.2 r S d H locs pc lsr hq hH hl (fun v hv => hs v (by rw [hv]; exact List.mem_cons_self)) hi)
theorem B_return (hd : decode (mC M) pc = .ok (.return_, 1)) (hr : mR M = none) (hq : Q none S d) : sB G M pc ls [] S d kc ks Q := B_ret (r := none) ⟨hd, hr⟩ rfl hq
theorem B_ireturn {x : Int} (hd : decode (mC M) pc = .ok (.ireturn, 1)) (hr : mR M = some .int) (hq : Q (some (vI x)) S d) : sB G M pc ls [vI x] S d kc ks Q := B_ret (r := some (vI x)) ⟨hd, Or.inl hr⟩ rfl hq
theorem B_zreturn {x : Int} (hd : decode (mC M) pc = .ok (.ireturn, 1)) (hr : mR M = some .boolean) (hx : x = 0 ∨ x = 1) (hq : Q (some (vI x)) S d) : sB G M pc ls [vI x] S d kc ks Q := B_ret (r := some (vI x)) ⟨hd, Or.inr (Or.inl ⟨hr, hx⟩)⟩ rfl hq
theorem B_nreturn {x : Int} {ty : FieldType} (hd : decode (mC M) pc = .ok (.ireturn, 1)) (hr : mR M = some ty) (hx : narrow ty (.int (Int32.ofInt x)) = .int (Int32.ofInt x)) (hq : Q (some (vI x)) S d) : sB G M pc ls [vI x] S d kc ks Q := B_ret (r := some (vI x)) ⟨hd, Or.inr (Or.inr ⟨ty, hr, hx⟩)⟩ rfl hq
theorem B_lreturn {x : Int} (hd : decode (mC M) pc = .ok (.lreturn, 1)) (hr : mR M = some .long) (hq : Q (some (vL x)) S d) : sB G M pc ls [vL x] S d kc ks Q := B_ret (r := some (vL x)) ⟨hd, hr⟩ rfl hq
theorem B_areturn {x : Nat} {C : String} (hd : decode (mC M) pc = .ok (.areturn, 1)) (hr : mR M = some (.object C)) (hq : Q (some (vR x)) S d) : sB G M pc ls [vR x] S d kc ks Q := B_ret (r := some (vR x)) ⟨hd, C, hr⟩ rfl hq
end SB
