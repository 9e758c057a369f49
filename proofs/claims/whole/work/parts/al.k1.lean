/-! rows of rows are made -/
section MUL
variable {e : Env} {f : JFrame}
/-- under the frame f the action t goes from U to V and answers x, whatever was done before -/
def rn_ (e : Env) (f : JFrame) {α : Type} (t : Sem α) (U : State) (x : α) (V : State) : Prop :=
  ∀ (E : CtlPost) (Q : α → Pre) (b : Bool) (acts : List Action), (∀ b' acts', Q x b' acts' (V.setTop f)) → wp t Q E e b acts (U.setTop f)
theorem rn_ret {α : Type} (x : α) (U : State) : rn_ e f (Pure.pure x : Sem α) U x U := fun _ _ b acts h => h b acts
theorem rn_seq {α β : Type} {t : Sem α} {g : α → Sem β} {U V X : State} {x : α} {y : β} (h1 : rn_ e f t U x V) (h2 : rn_ e f (g x) V y X) : rn_ e f (t >>= g) U y X := by
  intro E Q b acts h
  rw [wp_bind']
  exact h1 E _ b acts (fun b' acts' => h2 E Q b' acts' h)
/-- turns of a loop: what holds between them leads to the end -/
theorem rn_for {N : Nat} {g : Nat → PUnit → Sem (ForInStep PUnit)} (I : Nat → State → Prop) (turn : ∀ i U, i < N → I i U → ∃ V, I (i + 1) V ∧ rn_ e f (g i PUnit.unit) U (.yield PUnit.unit) V) :
    ∀ (r i : Nat) (U : State), i + r = N → I i U → ∃ V, I N V ∧ rn_ e f (forIn (List.range' i r) PUnit.unit g) U PUnit.unit V
  | 0, i, U, h, hI => ⟨U, (show i = N from h) ▸ hI, rn_ret PUnit.unit U⟩
  | r + 1, i, U, h, hI => by
    obtain ⟨V, v1, v2⟩ := turn i U (by omega) hI
    obtain ⟨X, x1, x2⟩ := rn_for I turn r (i + 1) V (by omega) v1
    refine ⟨X, x1, ?_⟩
    rw [List.range'_succ, List.forIn_cons]
    exact rn_seq v2 x2
theorem rn_arr {c comp : ClassId} {k : Class} {ty : FieldType} {len : Nat} {v : Value} {U : State} (hk : U.vm.classes[c]? = some k) (hkind : k.kind = .array comp ty) (h1 : len ≤ e.platform.arrayLengthLimit) (h2 : len * componentBytes ty ≤ e.platform.maxHeapBytes) (hr : U.heap.size + 1 ≤ e.platform.maxCells ∧ U.slotsUsed + len ≤ e.platform.maxSlots) (hf : fits ty v = true) : rn_ e f (Jvm.newArray c len v) U U.heap.size (U.pushCell (arrV c len (fun _ => v))) := by
  intro E Q b acts h
  rw [← arrV_new] at h
  exact W.newArray_of (s := U.setTop f) hk hkind (by omega) (by omega) hr.1 hr.2 hf (fun acts' => h b acts')
theorem rn_put {a i : Nat} {v : Value} {cell : Cell} {U : State} (h1 : U.heap[a]? = some cell) (h2 : cell.vm = .none) (h3 : i < cell.slots.size) (h4 : U.fitsSlot cell.cls cell.vm i v = true) : rn_ e f (Jvm.writeLoc a i v) U () (U.setCell a (cell.setSlot i v)) :=
  fun _ _ _ _ h => ⟨cell, h1, (by rw [h2]; intro z; cases z), h3, h4, h _ _⟩
/-- one row of ints -/
theorem rn_row {c comp : ClassId} {k : Class} {n : Int32} {U : State} (hk : U.vm.classes[c]? = some k) (hkind : k.kind = .array comp .int) (hn : ¬ n < 0) (h1 : n.toNatClampNeg ≤ e.platform.arrayLengthLimit) (h2 : n.toNatClampNeg * componentBytes .int ≤ e.platform.maxHeapBytes) (hr : U.heap.size + 1 ≤ e.platform.maxCells ∧ U.slotsUsed + n.toNatClampNeg ≤ e.platform.maxSlots) : rn_ e f (multianewarray.make c [n]) U U.heap.size (U.pushCell (arrV c n.toNatClampNeg (fun _ => .int 0))) := by
  intro E Q b acts h
  unfold multianewarray.make
  rw [if_neg hn]
  simp only [pure_bind, wp_bind']
  refine (W.theClass c).mpr ⟨k, hk, ?_⟩
  rw [hkind]
  exact rn_arr hk hkind h1 h2 hr rfl E Q b acts h
/-- a row of rows: the first array, and turn by turn a row that is put into it -/
theorem rn_rows {c comp : ClassId} {ka : Class} {ty : FieldType} {n k : Int32} {U : State} (I : Nat → State → Prop) (hk : U.vm.classes[c]? = some ka) (hkind : ka.kind = .array comp ty) (hn : ¬ n < 0) (hk0 : ¬ k < 0) (hf : fits ty .null = true) (h1 : n.toNatClampNeg ≤ e.platform.arrayLengthLimit) (h2 : n.toNatClampNeg * componentBytes ty ≤ e.platform.maxHeapBytes) (hr : U.heap.size + 1 ≤ e.platform.maxCells ∧ U.slotsUsed + n.toNatClampNeg ≤ e.platform.maxSlots) (first : I 0 (U.pushCell (arrV c n.toNatClampNeg (fun _ => .null))))
    (turn : ∀ i V, i < n.toNatClampNeg → I i V → ∃ a Y X, rn_ e f (multianewarray.make comp [k]) V a Y ∧ rn_ e f (Jvm.writeLoc U.heap.size i (.ref a)) Y () X ∧ I (i + 1) X) : ∃ V, I n.toNatClampNeg V ∧ rn_ e f (multianewarray.make c [n, k]) U U.heap.size V := by
  obtain ⟨V, v1, v2⟩ := rn_for (e := e) (f := f) (g := fun i _ => multianewarray.make comp [k] >>= fun a => Jvm.writeLoc U.heap.size i (.ref a) >>= fun _ => Pure.pure (.yield PUnit.unit)) I (fun i V hi hI => by
    obtain ⟨a, Y, X, r1, r2, x⟩ := turn i V hi hI
    exact ⟨X, x, rn_seq r1 (rn_seq r2 (rn_ret _ X))⟩) n.toNatClampNeg 0 _ (Nat.zero_add _) first
  refine ⟨V, v1, fun E Q b acts h => ?_⟩
  unfold multianewarray.make
  rw [if_neg hn]
  simp only [pure_bind, wp_bind']
  refine (W.theClass c).mpr ⟨ka, hk, ?_⟩
  rw [hkind]
  dsimp only
  rw [wp_bind']
  refine rn_arr hk hkind h1 h2 hr hf E _ b acts (fun b' acts' => ?_)
  have no : [k].find? (fun x => decide (x < 0)) = none := by simp [hk0]
  simp only [no, ite_self]
  rw [wp_bind', Std.Legacy.Range.forIn_eq_forIn_range', show ([:n.toNatClampNeg] : Std.Legacy.Range).size = n.toNatClampNeg by simp [Std.Legacy.Range.size]]
  exact v2 E _ b' acts' h
/-- shape and memory of the simple machine behind i rows -/
def mS (S : sS) (n k : Nat) : Nat → sS
  | 0 => alS S 23 n
  | i + 1 => alS (mS S n k i) 13 k
def mD (S : sS) (d : sD) (n k : Nat) : Nat → sD
  | 0 => upA d (S.1 + 1) (fun _ => 0)
  | i + 1 => up (upA (mD S d n k i) ((mS S n k i).1 + 1) (fun _ => 0)) (S.1 + 1) i (((mS S n k i).1 + 1 : Nat) : Int)
theorem mS_n (S : sS) (n k : Nat) : ∀ i, (mS S n k i).1 = S.1 + 1 + i ∧ kn (mS S n k i) (S.1 + 1) = 23 ∧ ln (mS S n k i) (S.1 + 1) = n
  | 0 => ⟨rfl, if_pos rfl, if_pos rfl⟩
  | i + 1 => by
    obtain ⟨a, b, c⟩ := mS_n S n k i
    exact ⟨by show (mS S n k i).1 + 1 = _; omega, (if_neg (by omega)).trans b, (if_neg (by omega)).trans c⟩
/-- what holds between two rows: the method stands, its memory is the simple machine's, the classes are those of v -/
def mJ (G : sG) (S : sS) (d : sD) (n k : Nat) (p : Program) (l : Launch) (e : Env) (R : Room) (s : State) (m : MethodId) (args : Array Value) (below : List Frame) (meth : Method) (c : Code) (cells slots : Nat) (v : Vm) (i : Nat) (V : State) : Prop :=
  V.vm = v ∧ HR G (mS S n k i) (mD S d n k i) V.heap ∧ ∃ locs, (∀ q ∈ locs, gB G ≤ q.base) ∧ Stand p l e R s m args below meth c V locs (cells + (1 + i)) (slots + (n + i * k))
section
variable {G : sG} {S : sS} {d : sD} {n : Nat} {p : Program} {l : Launch} {R : Room} {s : State} {m : MethodId} {args : Array Value} {below : List Frame} {meth : Method} {c : Code} {cells slots : Nat} {v : Vm}
/-- the first array -/
theorem mJ_0 {k : Nat} {T : State} {locs : List Loc} (hv : T.vm = v) (hl : ∀ q ∈ locs, gB G ≤ q.base) (hH : HR G S d T.heap) (X : Stand p l e R s m args below meth c T locs cells slots) : mJ G S d n k p l e R s m args below meth c cells slots v 0 (T.pushCell (arrV (gA G 23) n (fun _ => .null))) := by
  refine ⟨hv, hH.new (by decide) (by simp) (fun q hq => State.heap_pushCell_of_lt _ _ hq) ?_, locs, hl, ?_⟩
  · unfold cellAt
    rw [if_neg (by decide), State.heap_pushCell_size]
    rfl
  · have h := X.pushed (arrV (gA G 23) n (fun _ => .null))
    rw [arrV_size] at h
    rw [Nat.zero_mul]
    exact h
/-- one turn: a row is made and put into its place -/
theorem mJ_1 {k : Int32} {kA kI : Class} {cc : ClassId} {i : Nat} {V : State} (hA : v.classes[gA G 23]? = some kA) (hA1 : kA.kind = .array (gA G 13) (.array .int)) (hI : v.classes[gA G 13]? = some kI) (hI1 : kI.kind = .array cc .int) (hk : ¬ k < 0) (hlim : k.toNatClampNeg ≤ e.platform.arrayLengthLimit ∧ k.toNatClampNeg * componentBytes .int ≤ e.platform.maxHeapBytes) (hc : cells + (1 + n) ≤ R.cells) (hs : slots + (n + n * k.toNatClampNeg) ≤ R.slots) (hi : i < n)
    (J : mJ G S d n k.toNatClampNeg p l e R s m args below meth c cells slots v i V) : ∃ a Y X, rn_ e f (multianewarray.make (gA G 13) [k]) V a Y ∧ rn_ e f (Jvm.writeLoc (adr G (S.1 + 1)) i (.ref a)) Y () X ∧ mJ G S d n k.toNatClampNeg p l e R s m args below meth c cells slots v (i + 1) X := by
  generalize hK : k.toNatClampNeg = K at *
  obtain ⟨j1, j2, locs, j3, j4⟩ := J
  have hmul : (i + 1) * K ≤ n * K := Nat.mul_le_mul_right K hi
  have hstep : (i + 1) * K = i * K + K := Nat.succ_mul i K
  obtain ⟨s1, s2, s3⟩ := mS_n S n K i
  have row := rn_row (f := f) (U := V) (by rw [j1]; exact hI) hI1 hk (by rw [hK]; exact hlim.1) (by rw [hK]; exact hlim.2) (by rw [hK]; exact j4.roomAbove (by omega) (by omega))
  rw [hK] at row
  have hY := j2.new (k := 13) (n := K) (H1 := (V.pushCell (arrV (gA G 13) K (fun _ => .int 0))).heap) (by decide) (by simp) (fun q hq => State.heap_pushCell_of_lt _ _ hq) (by
    unfold cellAt
    rw [if_neg (by decide), State.heap_pushCell_size]
    rfl)
  have hkn : kn (alS (mS S n K i) 13 K) (S.1 + 1) = 23 := (if_neg (by omega)).trans s2
  have hln : ln (alS (mS S n K i) 13 K) (S.1 + 1) = n := (if_neg (by omega)).trans s3
  have cell := hY.arr hkn (by decide) (by decide)
  have hsz : V.heap.size = gB G + (mS S n K i).1 := j2.1
  have hval : Value.ref V.heap.size = sv G (sat 23) (((mS S n K i).1 + 1 : Nat) : Int) := by
    rw [show sat 23 = 2 from rfl, sv_2]
    unfold rfo
    rw [if_neg (by omega), Int.toNat_natCast, hsz]
    rfl
  refine ⟨_, _, _, row, rn_put cell rfl (by rw [arrV_size, hln]; exact hi) ?_, j1, ?_, locs ++ [⟨adr G (S.1 + 1), i⟩], loc_ok j3, ?_⟩
  · simp [State.fitsSlot, State.slotType?, j1, arrV, hA, hA1, fits]
  · exact hY.ast hkn (by decide) (by decide) (by show (0 : Int) ≤ _; omega) (by rw [← hval]; exact State.heap_setCell_self cell) (by simp [State.setCell]) (fun q hq => State.heap_setCell_other (Ne.symm hq))
  · have h := (j4.pushed (arrV (gA G 13) K (fun _ => .int 0))).stored cell i (.ref V.heap.size)
    rw [arrV_size] at h
    rw [show cells + (1 + (i + 1)) = cells + (1 + i) + 1 by omega, show slots + (n + (i + 1) * K) = slots + (n + i * K) + K by omega]
    exact h
end
end MUL
section MULB
variable {G : sG} {M : sM} {pc idx : Nat} {ls st : List sV} {S : sS} {d : sD} {kc ks : Nat} {Q : Option sV → sS → sD → Prop}
theorem B_multi {n k : Int} (hd : decode (mC M) pc = .ok (.multianewarray idx 2, 4)) (hw : Cond.classLink (mY M).cls idx "[[I" ∈ gw) (hn : 0 ≤ n ∧ n < 100) (hk : 0 ≤ k ∧ k < 1000) (kk : sB G M (pc + 4) ls (vR (S.1 + 1) :: st) (mS S n.toNat k.toNat n.toNat) (mD S d n.toNat k.toNat n.toNat) kc ks Q) : sB G M pc ls (vI k :: vI n :: st) S d (kc + (1 + n.toNat)) (ks + (n.toNat + n.toNat * k.toNat)) Q := by
  intro p l e R s m args below meth c H locs cells slots Z lsr C hH hl hL hs hc hks T hT X
  subst hT
  have ok := ok_hd hs
  have on := ok_hd (ok_tl hs)
  have cn : (Int32.ofInt n).toNatClampNeg = n.toNat := clampI on
  have ck : (Int32.ofInt k).toNatClampNeg = k.toNat := clampI ok
  -- the entry of the class file
  obtain ⟨c0, q1, q2⟩ := Cond.classLink_spec C.2.2.2.1 (C.2.2.2.2.1 _ hw) e.platform (by rw [X.admits.platform])
  have q3 : c0 = gA G 23 := Option.some.inj (q1.symm.trans (C.2.2.2.2.2.2.1.arr (k := 23) (by decide) (by decide)).2)
  subst q3
  obtain ⟨g1, g2, -⟩ := State.classEntry (e := e) X.warmed q2
  generalize T.vm.noted m.cls idx (.cls (gA G 23)) = v at g1 g2
  have X1 := X.noted g2
  -- what is known of the two classes there
  have hKK : KK G (T.setVm v) := KK.warm g2 C.2.2.2.2.2.2.1
  obtain ⟨kA, a1, a2⟩ := hKK.2.2.1.2.2
  obtain ⟨-, kI, i1, cc, i2⟩ := (hKK.arr (k := 13) (by decide) (by decide)).1 0 (fun _ => .null)
  have lim : e.platform.arrayLengthLimit = _ := Launch.admits_arrayLengthLimit X.admits
  have byt : e.platform.maxHeapBytes = _ := Launch.admits_maxHeapBytes X.admits
  -- the frame without the two numbers, and the run of the rows under it
  obtain ⟨V, J, run⟩ := rn_rows (e := e) (f := F0 m pc lsr (st.map (rv G))) (n := Int32.ofInt n) (k := Int32.ofInt k) (U := T.setVm v) (mJ G S d (Int32.ofInt n).toNatClampNeg (Int32.ofInt k).toNatClampNeg p l e R s m args below meth c cells slots v) a1 a2 (fun z => (by have z := (i32_lt on ok_0).mp z; omega)) (fun z => (by have z := (i32_lt ok ok_0).mp z; omega)) rfl (by rw [cn, lim]; omega) (by rw [cn, byt]; show n.toNat * 4 ≤ _; omega) (by rw [cn]; exact X1.roomAbove (by omega) (by omega)) (mJ_0 rfl hl hH X1) (fun i W hi J => by
      rw [show (T.setVm v).heap.size = adr G (S.1 + 1) by show T.heap.size = _; rw [hH.1]; unfold adr; omega]
      exact mJ_1 a1 a2 i1 i2 (fun z => (by have z := (i32_lt ok ok_0).mp z; omega)) ⟨by rw [ck, lim]; omega, by rw [ck, byt]; show k.toNat * 4 ≤ _; omega⟩ (by rw [cn]; omega) (by rw [cn, ck]; omega) hi J)
  rw [cn, ck] at J
  obtain ⟨j1, j2, locs2, j3, j4⟩ := J
  obtain ⟨t, t1, t2⟩ := kk p l e R s m args below meth c V.heap locs2 _ _ Z lsr C j2 j3 hL (ok_cons (v := vR (S.1 + 1)) trivial (ok_tl (ok_tl hs))) (by omega) (by omega) V rfl j4
  refine ⟨t, ?_, t2⟩
  have hdg : decode c.code pc = .ok (.multianewarray idx 2, 4) := by rw [C.2.1]; exact hd
  jvm_step X.here [C.1, hdg]
  unfold multianewarray.sem
  simp only [wp_bind']
  refine (W.resolveClassAt_links (State.method?_setTop _ X.here.top) g1).mpr ?_
  rw [wp_bind']
  refine (popN_top (args := [.int (Int32.ofInt n), .int (Int32.ofInt k)]) (rest := st.map (rv G)) (s := T.setVm v) (f := F0 m pc lsr (rv G (vI k) :: rv G (vI n) :: st.map (rv G))) X1.here.top rfl).mpr ?_
  simp only [List.mapM_cons, List.mapM_nil, pure_bind]
  rw [wp_bind']
  refine run _ _ _ _ (fun b' acts' => ?_)
  rw [wp_bind']
  refine (W.mark _).mpr ((W.pushRef _).mpr ⟨_, State.topJava?_setTop' _ j4.here.top, fun acts2 => ?_⟩)
  have top : rv G (vR (S.1 + 1)) = .ref (T.setVm v).heap.size := (rv_r (by omega)).trans (congrArg Value.ref (show adr G (S.1 + 1) = T.heap.size by unfold adr; rw [hH.1]; omega))
  rw [List.map_cons, top] at t1
  simpa [jvm, j4.here.top] using t1
end MULB
