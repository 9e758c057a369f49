/-! rows of rows are made -/
section MUL
/-- the state behind i rows of a row of n rows of k ints -/
noncomputable def mlT (U : State) (cA cI : ClassId) (n k : Nat) : Nat → State
  | 0 => U.pushCell (arrV cA n (fun _ => .null))
  | i + 1 => ((mlT U cA cI n k i).pushCell (arrV cI k (fun _ => .int 0))).setCell U.heap.size ((arrV cA n (fun j => if j < i then .ref (U.heap.size + 1 + j) else .null)).setSlot i (.ref (U.heap.size + 1 + i)))
def mlO (cA : ClassId) (n h i : Nat) : Cell := arrV cA n (fun j => if j < i then .ref (h + 1 + j) else .null)
theorem mlO_s (cA : ClassId) (n h i : Nat) : (mlO cA n h i).setSlot i (.ref (h + 1 + i)) = mlO cA n h (i + 1) := by
  unfold mlO
  rw [arrV_store]
  congr 1
  funext j
  unfold updV
  by_cases z : j = i
  · rw [if_pos z, if_pos (by omega), z]
  · rw [if_neg z]
    dsimp only
    by_cases y : j < i
    · rw [if_pos y, if_pos (by omega)]
    · rw [if_neg y, if_neg (by omega)]
theorem mlO_0 (cA : ClassId) (n h : Nat) : arrV cA n (fun _ => .null) = mlO cA n h 0 := by
  unfold mlO
  congr 1
theorem mlT_f (U : State) (cA cI : ClassId) (n k : Nat) : ∀ i, (mlT U cA cI n k i).heap.size = U.heap.size + 1 + i ∧ (mlT U cA cI n k i).heap[U.heap.size]? = some (mlO cA n U.heap.size i) ∧ (mlT U cA cI n k i).vm = U.vm ∧ (mlT U cA cI n k i).slotsUsed = U.slotsUsed + n + i * k
  | 0 => ⟨by simp [mlT], by rw [← mlO_0]; simp [mlT], rfl, by simp [mlT, arrV_size]⟩
  | i + 1 => by
    obtain ⟨a, b, c, u⟩ := mlT_f U cA cI n k i
    have hlt : U.heap.size < (mlT U cA cI n k i).heap.size := by omega
    have hb : ((mlT U cA cI n k i).pushCell (arrV cI k (fun _ => .int 0))).heap[U.heap.size]? = some (mlO cA n U.heap.size i) := by rw [State.heap_pushCell_of_lt (h := hlt)]; exact b
    refine ⟨?_, ?_, by simp [mlT, c], ?_⟩
    · simp [mlT, State.setCell, a]; omega
    · rw [← mlO_s]; exact State.heap_setCell_self hb
    · simp [mlT, u, arrV_size, Nat.succ_mul]; omega
theorem mlT_top (U : State) (f : JFrame) (cA cI : ClassId) (n k : Nat) : ∀ i, mlT (U.setTop f) cA cI n k i = (mlT U cA cI n k i).setTop f
  | 0 => rfl
  | i + 1 => by simp only [mlT, mlT_top U f cA cI n k i, State.heap_setTop, State.pushCell_setTop, State.setCell_setTop]
section
variable {E : CtlPost} {e : Env} {d : Bool} {acts : List Action} {s : State}
theorem ml_new {c comp : ClassId} {k : Class} {type : FieldType} {len : Nat} {v : Value} (hk : s.vm.classes[c]? = some k) (hkind : k.kind = .array comp type) (hl : len < 10000) (hlim : ¬ len > e.platform.arrayLengthLimit) (hheap : ¬ len * componentBytes type > e.platform.maxHeapBytes) (hfit : fits type v = true) (hdef : v.isDefault = true) {Q : Addr → Pre} (h1 : s.heap.size < e.platform.maxCells) (h2 : s.slotsUsed + len ≤ e.platform.maxSlots) (hq : Q s.heap.size d acts (s.pushCell (arrV c len (fun _ => v)))) : wp (Jvm.newArray c len v) Q E e d acts s := by
  have hf : ∀ i w, (Array.replicate len v)[i]? = some w → s.fitsSlot c .none i w = true := by
    intro i w hw
    rw [Array.getElem?_replicate] at hw
    split at hw
    · cases hw; simp [State.fitsSlot, State.slotType?, hk, hkind, hfit]
    · cases hw
  have ha : allocActs (Array.replicate len v) s.heap.size acts = acts := by
    have h : ((Array.replicate len v).all (·.isDefault)) = true := by
      rw [Array.all_replicate]; split <;> simp [hdef]
    unfold allocActs; rw [if_pos h]
  rw [← arrV_new] at hq
  simp only [Jvm.newArray, Jvm.arrayFits, wp_bind', W.ask, W.ite, hlim, if_false, wp_pure', W.theClass, hk, hkind, hheap, W.alloc, W.stop, Option.some.injEq, exists_eq_left', Array.size_replicate, ha]
  rw [if_neg (by omega)]
  exact ⟨h1, h2, hf, hq⟩
theorem ml_make {cA cI cc : ClassId} {kA kI : Class} {n k : Int32} (hkA : s.vm.classes[cA]? = some kA) (hA : kA.kind = .array cI (.array .int)) (hkI : s.vm.classes[cI]? = some kI) (hI : kI.kind = .array cc .int) (hn : ¬ n < 0) (hk : ¬ k < 0) (n1 : n.toNatClampNeg < 100) (k1 : k.toNatClampNeg < 1000) (lim : 10000 ≤ e.platform.arrayLengthLimit) (mx : 100000 ≤ e.platform.maxHeapBytes) (hc : s.heap.size + 1 + n.toNatClampNeg ≤ e.platform.maxCells) (hs : s.slotsUsed + n.toNatClampNeg + n.toNatClampNeg * k.toNatClampNeg ≤ e.platform.maxSlots) {Q : Addr → Pre} (hq : ∀ d' acts', Q s.heap.size d' acts' (mlT s cA cI n.toNatClampNeg k.toNatClampNeg n.toNatClampNeg)) : wp (multianewarray.make cA [n, k]) Q E e d acts s := by
  have hfind : ([k].find? (· < 0)) = none := by simp [hk]
  generalize hN : n.toNatClampNeg = N at *
  generalize hK : k.toNatClampNeg = K at *
  rw [multianewarray.make]
  simp only [wp_bind', W.ite, hn, if_false, wp_pure', W.theClass, hkA, hA, Option.some.injEq, exists_eq_left', hN]
  refine ml_new hkA hA (by omega) (by omega) (by show ¬ N * 4 > _; omega) rfl rfl (by omega) (by have := Nat.zero_le (N * K); omega) ?_
  simp only [hfind]
  rw [ite_self, wp_bind', Std.Legacy.Range.forIn_eq_forIn_range']
  have hsz : ([:N] : Std.Legacy.Range).size = N := by simp [Std.Legacy.Range.size]
  rw [hsz]
  show wp (forIn (List.range' 0 N 1) PUnit.unit _) _ E e d acts _
  refine wp_forIn_inv (fun rest s' => ∃ i, i ≤ N ∧ rest = List.range' i (N - i) ∧ s' = mlT s cA cI N K i) _ _ ⟨0, Nat.zero_le _, rfl, rfl⟩ ?_ ?_
  · rintro x rest s' d' acts' Q' ⟨i, hi, hl, rfl⟩ hnext
    have hlt : i < N := by
      rcases Nat.lt_or_ge i N with h | h
      · exact h
      · rw [show N - i = 0 by omega] at hl; simp at hl
    rw [show N - i = (N - (i + 1)) + 1 by omega, List.range'_succ] at hl
    obtain ⟨rfl, hrest⟩ := List.cons.inj hl
    obtain ⟨f1, f2, f3, f4⟩ := mlT_f s cA cI N K x
    have hmul : x * K + K ≤ N * K := by
      have := Nat.mul_le_mul_right K (show x + 1 ≤ N from hlt)
      rw [Nat.succ_mul] at this; exact this
    simp only [wp_bind']
    rw [multianewarray.make]
    simp only [wp_bind', W.ite, hk, if_false, wp_pure', W.theClass, f3, hkI, hI, Option.some.injEq, exists_eq_left', hK]
    refine ml_new (by rw [f3]; exact hkI) hI (by omega) (by omega) (by show ¬ K * 4 > _; omega) rfl rfl (by rw [f1]; omega) (by rw [f4]; omega) ?_
    have hlt0 : s.heap.size < (mlT s cA cI N K x).heap.size := by rw [f1]; omega
    simp only [wp_bind', W.writeLoc, wp_pure']
    refine ⟨mlO cA N s.heap.size x, by rw [show defaultValue FieldType.int = .int 0 from rfl, State.heap_pushCell_of_lt (h := hlt0)]; exact f2, by simp [mlO, arrV], by unfold mlO; rw [arrV_size]; exact hlt, ?_, hnext _ _ _ ⟨x + 1, hlt, hrest, ?_⟩⟩
    · simp [State.fitsSlot, State.slotType?, f3, mlO, arrV, hkA, hA, fits]
    · rw [f1]; rfl
  · rintro s' d' acts' ⟨i, hi, hl, rfl⟩
    have hiN : i = N := by
      rcases Nat.lt_or_ge i N with h | h
      · rw [show N - i = (N - (i + 1)) + 1 by omega, List.range'_succ] at hl; cases hl
      · omega
    subst hiN
    simp only [wp_pure']
    exact hq _ _
end
theorem ml_stand {p : Program} {l : Launch} {e : Env} {R : Room} {s : State} {m : MethodId} {args : Array Value} {below : List Frame} {meth : Method} {c : Code} {T : State} {locs : List Loc} {cells slots : Nat} (X : Stand p l e R s m args below meth c T locs cells slots) (cA cI : ClassId) (n k : Nat) : ∀ i, Stand p l e R s m args below meth c (mlT T cA cI n k i) (locs ++ (List.range i).map fun j => ⟨T.heap.size, j⟩) (cells + 1 + i) (slots + n + i * k)
  | 0 => by
    have h := X.pushed (arrV cA n (fun _ => .null))
    rw [arrV_size] at h
    simpa [mlT] using h
  | i + 1 => by
    have Xi := ml_stand X cA cI n k i
    obtain ⟨f1, f2, f3, f4⟩ := mlT_f T cA cI n k i
    have hlt0 : T.heap.size < (mlT T cA cI n k i).heap.size := by rw [f1]; omega
    have hcell : ((mlT T cA cI n k i).pushCell (arrV cI k (fun _ => .int 0))).heap[T.heap.size]? = some (mlO cA n T.heap.size i) := by rw [State.heap_pushCell_of_lt (h := hlt0)]; exact f2
    have h := (Xi.pushed (arrV cI k (fun _ => .int 0))).stored hcell i (.ref (T.heap.size + 1 + i))
    rw [arrV_size] at h
    have e2 : (locs ++ (List.range (i + 1)).map fun j => (⟨T.heap.size, j⟩ : Loc)) = (locs ++ (List.range i).map fun j => (⟨T.heap.size, j⟩ : Loc)) ++ [⟨T.heap.size, i⟩] := by simp [List.range_succ, List.append_assoc]
    rw [e2, show slots + n + (i + 1) * k = slots + n + i * k + k by rw [Nat.succ_mul]; omega]
    exact h
/-- shape and memory behind i rows -/
def mS (S : sS) (n k : Nat) : Nat → sS
  | 0 => alS S 23 n
  | i + 1 => alS (mS S n k i) 13 k
def mD (S : sS) (d : sD) (n k : Nat) : Nat → sD
  | 0 => upA d (S.1 + 1) (fun _ => 0)
  | i + 1 => up (upA (mD S d n k i) ((mS S n k i).1 + 1) (fun _ => 0)) (S.1 + 1) i (((mS S n k i).1 + 1 : Nat) : Int)
theorem mS_n (S : sS) (n k : Nat) : ∀ i, (mS S n k i).1 = S.1 + 1 + i ∧ kn (mS S n k i) (S.1 + 1) = 23 ∧ ln (mS S n k i) (S.1 + 1) = n
  | 0 => ⟨rfl, if_pos rfl, if_pos rfl⟩
  | i + 1 => by
    obtain ⟨a, b, c⟩ := mS_n S n k i
    exact ⟨by show (mS S n k i).1 + 1 = _; omega, (if_neg (by omega)).trans b, (if_neg (by omega)).trans c⟩
theorem ml_HR {G : sG} {S : sS} {d : sD} {T : State} (n k : Nat) (h : HR G S d T.heap) : ∀ i, i ≤ n → HR G (mS S n k i) (mD S d n k i) (mlT T (gA G 23) (gA G 13) n k i).heap
  | 0, _ => by
    refine h.new (by decide) (by simp [mlT]) (fun q hq => State.heap_pushCell_of_lt _ _ hq) ?_
    unfold cellAt
    rw [if_neg (by decide)]
    show (T.pushCell _).heap[T.heap.size]? = _
    rw [State.heap_pushCell_size]
    rfl
  | i + 1, hi => by
    have hH := ml_HR n k h i (by omega)
    obtain ⟨f1, f2, f3, f4⟩ := mlT_f T (gA G 23) (gA G 13) n k i
    obtain ⟨s1, s2, s3⟩ := mS_n S n k i
    have hsz : T.heap.size = gB G + S.1 := h.1
    have h1 : HR G (alS (mS S n k i) 13 k) (upA (mD S d n k i) ((mS S n k i).1 + 1) (fun _ => 0)) ((mlT T (gA G 23) (gA G 13) n k i).pushCell (arrV (gA G 13) k (fun _ => .int 0))).heap := by
      refine hH.new (by decide) (by simp) (fun q hq => State.heap_pushCell_of_lt _ _ hq) ?_
      unfold cellAt
      rw [if_neg (by decide), State.heap_pushCell_size]
      rfl
    have hlt : T.heap.size < (mlT T (gA G 23) (gA G 13) n k i).heap.size := by omega
    have hb : ((mlT T (gA G 23) (gA G 13) n k i).pushCell (arrV (gA G 13) k (fun _ => .int 0))).heap[T.heap.size]? = some (mlO (gA G 23) n T.heap.size i) := by rw [State.heap_pushCell_of_lt (h := hlt)]; exact f2
    have had : adr G (S.1 + 1) = T.heap.size := by unfold adr; omega
    have hkn : kn (alS (mS S n k i) 13 k) (S.1 + 1) = 23 := (if_neg (by omega)).trans s2
    have hln : ln (alS (mS S n k i) 13 k) (S.1 + 1) = n := (if_neg (by omega)).trans s3
    have hcl := h1.arr hkn (by decide) (by decide)
    rw [had, hb] at hcl
    have hcl2 := Option.some.inj hcl
    refine h1.ast (k := 23) hkn (by decide) (by decide) (by show (0 : Int) ≤ _; omega) ?_ (by simp [mlT, State.setCell]) (fun q hq => ?_)
    · rw [had, ← hcl2, show sv G (sat 23) (((mS S n k i).1 + 1 : Nat) : Int) = .ref (T.heap.size + 1 + i) by
        rw [show sat 23 = 2 from rfl, sv_2]
        unfold rfo
        rw [if_neg (by omega)]
        exact congrArg Value.ref (show gB G + ((((mS S n k i).1 + 1 : Nat) : Int).toNat - 1) = T.heap.size + 1 + i by rw [Int.toNat_natCast, s1, hsz]; omega)]
      exact State.heap_setCell_self hb
    · exact State.heap_setCell_other (by rw [had] at hq; exact Ne.symm hq)
end MUL
section MULB
variable {G : sG} {M : sM} {pc idx : Nat} {ls st : List sV} {S : sS} {d : sD} {kc ks : Nat} {Q : Option sV → sS → sD → Prop}
theorem B_multi {n k : Int} (hd : decode (mC M) pc = .ok (.multianewarray idx 2, 4)) (hw : Cond.classLink (mY M).cls idx "[[I" ∈ gw) (hn : 0 ≤ n ∧ n < 100) (hk : 0 ≤ k ∧ k < 1000) (kk : sB G M (pc + 4) ls (vR (S.1 + 1) :: st) (mS S n.toNat k.toNat n.toNat) (mD S d n.toNat k.toNat n.toNat) kc ks Q) : sB G M pc ls (vI k :: vI n :: st) S d (kc + (1 + n.toNat)) (ks + (n.toNat + n.toNat * k.toNat)) Q := by
  intro p l e R s m args below meth c H locs cells slots Z lsr C hH hl hL hs hc hks
  have ok := ok_hd hs
  have on := ok_hd (ok_tl hs)
  have hKK := C.2.2.2.2.2.2.1
  obtain ⟨kA, hkA, hkindA⟩ := hKK.2.2.1.2.2
  obtain ⟨h13, n13⟩ := hKK.arr (k := 13) (by decide) (by decide)
  have n23 := (hKK.arr (k := 23) (by decide) (by decide)).2
  obtain ⟨-, kI, hkI, cc, hkindI⟩ := h13 0 (fun _ => .null)
  rw [List.map_cons, List.map_cons]
  intro T hT X
  subst hT
  have hpl : e.platform.magicAccessors = ({} : Platform).magicAccessors := by rw [X.admits.platform]
  obtain ⟨c0, hfc0, hcl⟩ := Cond.classLink_spec C.2.2.2.1 (C.2.2.2.2.1 _ hw) e.platform hpl
  have hc0 : c0 = gA G 23 := Option.some.inj (hfc0.symm.trans n23)
  subst hc0
  obtain ⟨hg1, hwarm, hready⟩ := State.classEntry (e := e) X.warmed hcl
  generalize T.vm.noted m.cls idx (.cls (gA G 23)) = vm1 at hg1 hwarm hready
  have hal : s.vm.Alike vm1 := hwarm.alike
  obtain ⟨kA1, hkA1, heA⟩ := hal.2.2 _ _ hkA
  obtain ⟨kI1, hkI1, heI⟩ := hal.2.2 _ _ hkI
  have X1 := X.noted hwarm
  have cn : (Int32.ofInt n).toNatClampNeg = n.toNat := clampI on
  have ck : (Int32.ofInt k).toNatClampNeg = k.toNat := clampI ok
  obtain ⟨hr1, hr2⟩ := X.roomAbove (a := 1 + n.toNat) (b := n.toNat + n.toNat * k.toNat) (by omega) (by omega)
  have XF := ml_stand X1 (gA G 23) (gA G 13) n.toNat k.toNat n.toNat
  have hHF := ml_HR n.toNat k.toNat (T := T.setVm vm1) hH n.toNat (Nat.le_refl _)
  obtain ⟨t, a1, b1⟩ := kk p l e R s m args below meth c (mlT (T.setVm vm1) (gA G 23) (gA G 13) n.toNat k.toNat n.toNat).heap _ (cells + 1 + n.toNat) (slots + n.toNat + n.toNat * k.toNat) Z lsr C hHF (fun q hq => by
    rcases List.mem_append.mp hq with h | h
    · exact hl q h
    · obtain ⟨j, -, rfl⟩ := List.mem_map.mp h
      show gB G ≤ T.heap.size
      have := hH.1
      omega) hL (ok_cons (v := vR (S.1 + 1)) trivial (ok_tl (ok_tl hs))) (by omega) (by omega) _ rfl XF
  refine ⟨t, ?_, b1⟩
  have hx := C.1
  have hb := C.2.1
  have hdg : decode c.code (F0 m pc lsr (rv G (vI k) :: rv G (vI n) :: st.map (rv G))).pc = .ok (.multianewarray idx 2, 4) := by rw [hb]; exact hd
  jvm_step X.here [hx, hdg]
  simp only [multianewarray.sem, wp_bind', W.resolveClassAt_links (t := T.setTop (F0 m pc lsr (rv G (vI k) :: rv G (vI n) :: st.map (rv G)))) (State.method?_setTop (F0 m pc lsr (rv G (vI k) :: rv G (vI n) :: st.map (rv G))) X.here.top) (show (resolveClass (JFrame.method (F0 m pc lsr (rv G (vI k) :: rv G (vI n) :: st.map (rv G)))).cls idx).Gives e.toSetting (T.setTop (F0 m pc lsr (rv G (vI k) :: rv G (vI n) :: st.map (rv G)))).vm (Except.ok (gA G 23)) vm1 from hg1)]
  rw [W.popN, if_neg (by decide)]
  refine ⟨(F0 m pc lsr (rv G (vI k) :: rv G (vI n) :: st.map (rv G))), State.topJava?_setTop' (s := T.setVm vm1) _ X.here.top, [.int (Int32.ofInt n), .int (Int32.ofInt k)], st.map (rv G), rfl, rfl, ?_⟩
  simp only [List.mapM_cons, List.mapM_nil, wp_bind', wp_pure']
  refine ml_make (kA := kA1) (kI := kI1) (cI := gA G 13) (cc := cc) hkA1 (by rw [heA]; exact hkindA) hkI1 (by rw [heI]; exact hkindI) (fun z => (by have z := (i32_lt on ok_0).mp z; omega)) (fun z => (by have z := (i32_lt ok ok_0).mp z; omega)) (by rw [cn]; omega) (by rw [ck]; omega) (by rw [Launch.admits_arrayLengthLimit X.admits]; decide) (by rw [Launch.admits_maxHeapBytes X.admits]; decide) (by rw [cn]; show T.heap.size + 1 + _ ≤ _; omega) (by rw [cn, ck]; show T.slotsUsed + _ + _ ≤ _; omega) (fun d' acts' => ?_)
  rw [cn, ck]
  have eS : ((T.setTop (F0 m pc lsr (rv G (vI k) :: rv G (vI n) :: st.map (rv G)))).setVm vm1).setTop { (F0 m pc lsr (rv G (vI k) :: rv G (vI n) :: st.map (rv G))) with stack := st.map (rv G) } = (T.setVm vm1).setTop { (F0 m pc lsr (rv G (vI k) :: rv G (vI n) :: st.map (rv G))) with stack := st.map (rv G) } := by
    show ((T.setVm vm1).setTop _).setTop _ = _
    rw [State.setTop_setTop]
  rw [eS, mlT_top]
  simp only [wp_bind', W.mark, W.pushRef, State.topJava?_setTop' _ XF.here.top, Option.some.injEq, exists_eq_left', State.setTop_setTop, State.heap_setTop]
  intro acts
  have ev : Value.ref T.heap.size = rv G (vR (S.1 + 1)) := by rw [rv_r (by omega), hH.1]; rfl
  simp [jvm, XF.here.top]
  rw [List.map_cons, ← ev] at a1
  exact a1
end MULB
