/-! THE CLAIM OUT OF ONE WALK OF THE LAW'S BODY. Your part is whole_start (and what it stands on); all else here is the same for every law, but numbers. -/
def R_law : String := "OneDrumLaw"
def lw_P (b : Addr) (xs : List Int32) (args : Array Value) (s : State) : Prop := args = #[.ref b] ∧ s.IntsAt b xs ∧ xs.length ≤ 3072 ∧ (Jvm.Cond.and given_1 narrow_1).before args s = true
def lw_Q (_ : Array Value) (s : State) (o : Outcome) (t : State) : Prop := o = .returned (some (.int 1)) ∧ Framed s o t [] 600000 7302250
def lw_Z (below : List Frame) (a : Array Value) (s : State) : State → Prop := fun t => ∃ o, t.status = .running ∧ Ended t below o ∧ lw_Q a s o t
/-- the law's own end, with 1 on the stack, nothing written that was there before, its room as the claim has it -/
theorem lw_ret {p : Program} {l : Launch} {e : Env} {s : State} {m : MethodId} {below : List Frame} {meth : Method} {c : Code} {b : Nat} (hx : p.tables.exec = Jvm.exec) (hb : c.code = code) (hr : meth.sig.returnType = ret) (hlocks : meth.locks = false) {pc : Nat} {H : Heap} {ls : Array Slot} (hdg : decode code pc = .ok (.ireturn, 1)) : W p l e room_1 s m #[Value.ref b] below meth c H [] 600000 7302250 (lw_Z below #[Value.ref b] s) (F0 m pc ls [.int 1]) := by
  intro T hT X
  obtain ⟨fs, hret, hrun, hended, hW, hframe⟩ := X.leave (v := some (.int 1)) (hlocks := hlocks) (fun h => by rw [hr] at h; cases h)
  have hmeth' : T.vm.method? m = some meth := X.method'
  refine ⟨T.setFrames fs, ?_, .returned (some (.int 1)), hrun, hended, rfl, ⟨_, rfl⟩, hW, hframe⟩
  jvm_step X.here [X.here.top, hx, hb, hdg, hmeth', hr, ret, narrow_b1]
  (try refine ⟨rfl, ?_⟩); (try refine ⟨rfl, ?_⟩)
  first | (intro acts; rw [hret _ acts rfl rfl rfl]) | rw [hret _ _ rfl rfl rfl]
  exact Steps.refl _
/-- what holds at the law's entry: the machine, the code, the tables' words (any of lw_tbl by 'hts w (by decide +kernel)'), the script of L ints xs at the cell b, what the Statement gives of the start (any of its parts by flat_of_before) -/
def lw_At (p : Program) (s : State) (m : MethodId) (meth : Method) (c : Code) (b L : Nat) (xs : Nat → Int32) : Prop :=
  p.tables.exec = Jvm.exec ∧ c.code = code ∧ meth.sig.returnType = ret ∧ c.maxLocals = 4 ∧ s.vm.findClass R_law = some m.cls ∧ (∀ w ∈ lw_tbl, w.before #[Value.ref b] s = true) ∧ va_X b L xs s s.heap ∧ b < s.heap.size ∧ meth.locks = false ∧ (Jvm.Cond.and given_1 narrow_1).before #[Value.ref b] s = true
-- ===== the law's entry, from the simple machine =====
abbrev mL_law : sM := (yL_law, code, 4, some .boolean, 12, 476)
def S00 : sS := (0, fun _ => 99, fun _ => 0)
def d00 : sD := fun _ _ => 0
theorem cl_inst {k : Nat} {q : vw_C} (h : vwCl[k]? = some q) : Cond.instantiable q.1 q.2.2 ∈ gw := by
  match k, h with
  | 0, h => cases h; exact gw_in (by decide +kernel) rfl
  | 1, h => cases h; exact gw_in (by decide +kernel) rfl
  | 2, h => cases h; exact gw_in (by decide +kernel) rfl
  | 3, h => cases h; exact gw_in (by decide +kernel) rfl
  | 4, h => cases h; exact gw_in (by decide +kernel) rfl
  | 5, h => cases h; exact gw_in (by decide +kernel) rfl
  | 6, h => cases h; exact gw_in (by decide +kernel) rfl
  | 7, h => cases h; exact gw_in (by decide +kernel) rfl
  | 8, h => cases h; exact gw_in (by decide +kernel) rfl
  | 9, h => cases h; exact gw_in (by decide +kernel) rfl
  | 10, h => cases h; exact gw_in (by decide +kernel) rfl
  | 11, h => cases h; exact gw_in (by decide +kernel) rfl
  | 12, h => cases h; exact gw_in (by decide +kernel) rfl
  | k + 13, h => simp [vwCl] at h
theorem ent_cls {s : State} {args : Array Value} (hts : ∀ w ∈ gw, w.before args s = true) : ∃ (dC : Nat → ClassId) (dI : Nat → Nat → Nat), ∀ (k : Nat) (q : vw_C), vwCl[k]? = some q → u_Kn s q.1 q.2.1 q.2.2 (dC k) (dI k) := by
  have h : ∀ k : Nat, ∃ x : ClassId × (Nat → Nat), ∀ q : vw_C, vwCl[k]? = some q → u_Kn s q.1 q.2.1 q.2.2 x.1 x.2 := by
    intro k
    cases hq : vwCl[k]? with
    | none => exact ⟨(0, fun _ => 0), fun q h => by cases h⟩
    | some q =>
      obtain ⟨c, i, hK⟩ := u_known (C := q.1) (T := q.2.1) (N := q.2.2) (n := q.2.2) hts (cl_ok hq).1 (hts _ (cl_inst hq))
      exact ⟨(c, i), fun q' h => by cases h; exact hK⟩
  obtain ⟨f, hf⟩ := Classical.axiomOfChoice h
  exact ⟨fun k => (f k).1, fun k => (f k).2, fun k q hq => hf k q hq⟩
theorem ent_arrP {s : State} {args : Array Value} {t : FieldType} (h : (Cond.arrayClass t).before args s = true) (hp : ∀ C, t ≠ .object C) : ∃ cA : ClassId, ArrOfT s cA t ∧ va_RA s cA t := by
  obtain ⟨c, k, comp, h1, h2, h3⟩ := Cond.arrayClass_spec h
  refine ⟨c, fun n z => ⟨fun q h => (by cases h), k, h2, comp, h3⟩, ?_⟩
  cases t with
  | object C => exact absurd rfl (hp C)
  | _ => exact h1
theorem ent_arrO {s : State} {args : Array Value} {C : String} (h : (Cond.arrayOver (.object C)).before args s = true) : ∃ cA : ClassId, ArrOfT s cA (.object C) ∧ va_RA s cA (.object C) := by
  obtain ⟨comp, c, k, h1, h2, h3, h4, h5⟩ := Cond.arrayOver_spec h
  exact ⟨c, fun n z => ⟨fun q h => (by cases h), k, h3, comp, h4⟩, k, comp, h3, h4, h1, h5⟩
theorem ent_arrA {s : State} {args : Array Value} {t : FieldType} (h : (Cond.arrayOver (.array t)).before args s = true) : ∃ cA : ClassId, ArrOfT s cA (.array t) ∧ va_RA s cA (.array t) := by
  obtain ⟨comp, c, k, -, -, h3, h4, h5⟩ := arrayOverA_spec h
  exact ⟨c, fun n z => ⟨fun q h => (by cases h), k, h3, comp, h4⟩, h5⟩
theorem ent_arr {s : State} {args : Array Value} (hts : ∀ w ∈ lw_tbl, w.before args s = true) : ∃ cA : Nat → ClassId, ∀ i : Nat, i < 11 → ArrOfT s (cA (13 + i)) (aty (13 + i)) ∧ va_RA s (cA (13 + i)) (aty (13 + i)) := by
  have h : ∀ i : Nat, ∃ c : ClassId, i < 11 → ArrOfT s c (aty (13 + i)) ∧ va_RA s c (aty (13 + i)) := by
    intro i
    match i with
    | 0 => obtain ⟨c, h⟩ := ent_arrP (t := .int) (hts _ (by decide +kernel)) (fun C h => by cases h); exact ⟨c, fun _ => h⟩
    | 1 => obtain ⟨c, h⟩ := ent_arrP (t := .byte) (hts _ (by decide +kernel)) (fun C h => by cases h); exact ⟨c, fun _ => h⟩
    | 2 => obtain ⟨c, h⟩ := ent_arrP (t := .boolean) (hts _ (by decide +kernel)) (fun C h => by cases h); exact ⟨c, fun _ => h⟩
    | 3 => obtain ⟨c, h⟩ := ent_arrP (t := .long) (hts _ (by decide +kernel)) (fun C h => by cases h); exact ⟨c, fun _ => h⟩
    | 4 => obtain ⟨c, h⟩ := ent_arrO (C := "OneDrum$War") (hts _ (by decide +kernel)); exact ⟨c, fun _ => h⟩
    | 5 => obtain ⟨c, h⟩ := ent_arrO (C := "OneDrum$Score") (hts _ (by decide +kernel)); exact ⟨c, fun _ => h⟩
    | 6 => obtain ⟨c, h⟩ := ent_arrO (C := "OneDrum$Hearing") (hts _ (by decide +kernel)); exact ⟨c, fun _ => h⟩
    | 7 => obtain ⟨c, h⟩ := ent_arrO (C := "OneDrum$Villages") (hts _ (by decide +kernel)); exact ⟨c, fun _ => h⟩
    | 8 => obtain ⟨c, h⟩ := ent_arrO (C := "OneDrum$Told") (hts _ (by decide +kernel)); exact ⟨c, fun _ => h⟩
    | 9 => obtain ⟨c, h⟩ := ent_arrO (C := "OneDrum$Ear") (hts _ (by decide +kernel)); exact ⟨c, fun _ => h⟩
    | 10 => obtain ⟨c, h⟩ := ent_arrA (t := .int) (hts _ (by decide +kernel)); exact ⟨c, fun _ => h⟩
    | i + 11 => exact ⟨0, fun h => by omega⟩
  obtain ⟨f, hf⟩ := Classical.axiomOfChoice h
  refine ⟨fun k => f (k - 13), fun i hi => ?_⟩
  have := hf i hi
  have e : 13 + i - 13 = i := by omega
  simp only [e]
  exact this
theorem ent_mul {s : State} {args : Array Value} {cA : Nat → ClassId} (h : (Cond.arrayOver (.array .int)).before args s = true) (h13 : va_RA s (cA 13) (aty 13)) (h23 : va_RA s (cA 23) (aty 23)) : ∃ k : Class, s.vm.classes[cA 23]? = some k ∧ k.kind = .array (cA 13) (.array .int) := by
  obtain ⟨comp, c, k, h1, -, h3, h4, h5⟩ := arrayOverA_spec h
  have e13 : s.vm.findClass (FieldType.array .int).toString = some (cA 13) := h13
  have e23 : s.vm.findClass ("[" ++ (FieldType.array .int).toString) = some (cA 23) := h23
  rw [Option.some.inj (e13.symm.trans h1), Option.some.inj (e23.symm.trans h5)]
  exact ⟨k, h3, h4⟩
theorem ent_txt {s : State} {args : Array Value} (hts : ∀ w ∈ lw_tbl, w.before args s = true) (hgv : (Jvm.Cond.and given_1 narrow_1).before args s = true) : ∃ a adV : Nat, vk_R "OneDrum$Reader" 250 txS a s ∧ va_O "java/lang/String" a (fun q => s.heap.size ≤ q) s s.heap ∧ va_OF "java/lang/String" "coder" "B" (.int 0) a (fun q => s.heap.size ≤ q) s s.heap ∧ va_OF "java/lang/String" "value" "[B" (.ref adV) a (fun q => s.heap.size ≤ q) s s.heap ∧ va_T .byte adV 128 (fun j => .int (txW.getD j 0)) (fun q => s.heap.size ≤ q) s s.heap ∧ va_Z "java/lang/String" "COMPACT_STRINGS" "Z" (.int 1) (fun q => s.heap.size ≤ q) s s.heap ∧ va_Zq "jdk/internal/util/Preconditions" "SIOOBE_FORMATTER" "Ljava/util/function/BiFunction;" (fun q => s.heap.size ≤ q) s s.heap := by
  have hs := flat_of_before _ hgv
  have hA : ∀ a : Nat, a < s.heap.size → ¬ s.heap.size ≤ a := fun a h => by omega
  have hel : ∀ j : Nat, j < 128 → (Cond.eq (.elem (.field (.string "OneDrum$Reader" 250) "java/lang/String" "value" "[B") (.int (Int32.ofNat j))) (.int (txW.getD j 0))) ∈ flatC (Jvm.Cond.and given_1 narrow_1) := by decide +kernel
  obtain ⟨adK, adV, hS, hev⟩ := vk_Sof (args := args) (s := s) (N := 1) (tm := fun _ => .string "OneDrum$Reader" 250) (len := [128]) (byt := [txW]) (A := fun q => s.heap.size ≤ q) (fun i hi => by rw [show i = 0 by omega]; decide) (fun i hi => hs _ (by decide +kernel)) (fun i hi => hs _ (by decide +kernel)) (fun i hi => hs _ (by decide +kernel)) (fun i hi => by rw [show i = 0 by omega]; exact hs _ (by decide +kernel)) (fun i hi j hj => by rw [show i = 0 by omega] at hj ⊢; exact hs _ (hel j hj)) (fun i j hi hj hij => absurd (show i = j by omega) hij) hA
  obtain ⟨h2, h3, h4, h5⟩ := hS.1 0 (by decide)
  exact ⟨adK 0, adV 0, vk_R.of (A := args) (hts _ (by decide +kernel)) (hev 0 (by decide)), h2, h3, h4, h5, va_Zof (hts _ (by decide +kernel)) (hts _ (by decide +kernel)) (va_eqi (hs _ (by decide +kernel))) hA, va_Zqof (hts _ (by decide +kernel)) (hts _ (by decide +kernel)) (hs _ (by decide +kernel)) hA⟩
/-- THE LAW, from its entry: what is to be shown of it on the simple machine -/
theorem law_enter {p : Program} {e : Env} {s : State} {m : MethodId} {below : List Frame} {meth : Method} {c : Code} (l : Launch) {b L : Nat} {xs : Nat → Int32} (hL : L ≤ 3072) (C0 : lw_At p s m meth c b L xs)
    (hB : ∀ G : sG, G.2.2.1 ≤ 3072 → sB G mL_law 0 [vU 1, vU 0, vU 0, vU 0] [] S00 d00 600000 7302250 (fun r _ _ => r = some (vI 1))) :
    W p l e room_1 s m #[Value.ref b] below meth c s.heap [] 0 0 (lw_Z below #[Value.ref b] s) (entryFrame m ([Value.ref b] : List Value).toArray 4) := by
  obtain ⟨hx, hb, hr, hml, hown, hts, hX, hbl, hlocks, hgv⟩ := id C0
  have htg : ∀ w ∈ gw, w.before #[Value.ref b] s = true := fun w hw => hts w (List.mem_filter.mp hw).1
  obtain ⟨dC, dI, hcls⟩ := ent_cls htg
  obtain ⟨cA, harr⟩ := ent_arr hts
  obtain ⟨sa, sv, t1, t2, t3, t4, t5, t6, t7⟩ := ent_txt hts hgv
  obtain ⟨fm, hfm⟩ : ∃ fm : Nat, va_Z "jdk/internal/util/Preconditions" "SIOOBE_FORMATTER" "Ljava/util/function/BiFunction;" (if fm = 0 then .null else .ref (fm - 1)) (fun q => s.heap.size ≤ q) s s.heap := by
    rcases t7 with h | ⟨t, h⟩
    · exact ⟨0, h⟩
    · exact ⟨t + 1, h⟩
  have hcls0 := hcls
  have hMl := ent_mul (cA := cA) (hts _ (by decide +kernel)) (harr 0 (by decide)).2 (harr 10 (by decide)).2
  have hK : KK ((s.heap.size, b, sa, s.heap), (dC, (fun k => if k = 99 then (fun j => if j = 0 then sv else fm) else dI k), cA), L, xs) s := by
    refine ⟨⟨fun k q hq => ?_, fun k q hq => ?_⟩, fun w hw => ?_, ⟨fun C hC => ?_, ⟨t1, t2, t3, t4, t5, t6, hfm⟩, hMl⟩, hX, hbl⟩
    · have h := hcls k q hq
      have hk : ¬ k = 99 := fun e => by rw [e] at hq; simp [vwCl] at hq
      show u_Kn s q.1 q.2.1 q.2.2 (dC k) (if k = 99 then (fun j => if j = 0 then sv else fm) else dI k)
      rw [if_neg hk]; exact h
    · unfold tyl at hq
      rw [List.getElem?_map] at hq
      by_cases hk : k < 11
      · rw [List.getElem?_range hk] at hq
        cases hq
        exact harr k hk
      · rw [List.getElem?_eq_none (by rw [List.length_range]; omega)] at hq
        cases hq
    · obtain ⟨h1, h2⟩ := List.mem_filter.mp hw
      have h3 := hts w h1
      cases w <;> first | exact va_Nw.of rfl h3 | cases h2
    · simp only [List.mem_cons, List.not_mem_nil, or_false] at hC
      rcases hC with rfl | rfl | rfl | rfl | rfl | rfl <;> exact va_AO.of (hts _ (by decide +kernel))
  rw [lg_entry_eq]
  have hB1 := hB ((s.heap.size, b, sa, s.heap), (dC, (fun k => if k = 99 then (fun j => if j = 0 then sv else fm) else dI k), cA), L, xs) hL
  refine hB1 p l e room_1 s m #[Value.ref b] below meth c s.heap [] 0 0 (lw_Z below #[Value.ref b] s) _ ⟨hx, hb, hml, hown, htg, ?_, hK, ⟨by decide, by decide⟩, ?_⟩ ?_ (fun q hq => by cases hq) ?_ (fun q hq => by cases hq) (by decide) (by decide)
  · intro h; exact absurd h (by decide)
  · intro r S d H locs pc lsr hq hH hl hok hi
    subst hq
    refine va_forget (fun q hq => hl q hq) ?_
    exact lw_ret hx hb hr hlocks hi.1
  · exact ⟨rfl, rfl, fun q _ => rfl, fun a j h => absurd rfl h, fun a h => absurd rfl h, fun a h => absurd rfl h⟩
  · exact ent_LR (G := ((s.heap.size, b, sa, s.heap), (dC, (fun k => if k = 99 then (fun j => if j = 0 then sv else fm) else dI k), cA), L, xs)) (n := 4) (As := [vU 1]) (fun v hv => by rw [List.mem_singleton] at hv; subst hv; trivial) (by decide)
