/-! A simple machine beside the real one: words are whole numbers, memory is a function of a cell's number and a place; sB says that the real machine comes, from a frame of a method, to an end of the method with a post. -/
abbrev sV : Type := Int ⊕ (Int ⊕ (Nat ⊕ Nat))
abbrev vI (x : Int) : sV := .inl x
abbrev vL (x : Int) : sV := .inr (.inl x)
abbrev vR (r : Nat) : sV := .inr (.inr (.inl r))
abbrev vU (k : Nat) : sV := .inr (.inr (.inr k))
abbrev sD : Type := Nat → Nat → Int
abbrev sS : Type := Nat × (Nat → Nat) × (Nat → Nat)
abbrev sG : Type := (Nat × Nat × Nat × Heap) × ((Nat → ClassId) × (Nat → Nat → Nat) × (Nat → ClassId)) × Nat × (Nat → Int32)
abbrev gB (G : sG) : Nat := G.1.1
abbrev gH (G : sG) : Heap := G.1.2.2.2
abbrev gC (G : sG) : Nat → ClassId := G.2.1.1
abbrev gI (G : sG) : Nat → Nat → Nat := G.2.1.2.1
abbrev gA (G : sG) : Nat → ClassId := G.2.1.2.2
abbrev kn (S : sS) : Nat → Nat := S.2.1
abbrev ln (S : sS) : Nat → Nat := S.2.2
def w32 (x : Int) : Int := x.bmod 4294967296
def w64 (x : Int) : Int := x.bmod 18446744073709551616
theorem w32_id {x : Int} (h1 : -2147483648 ≤ x) (h2 : x < 2147483648) : w32 x = x := by
  unfold w32 Int.bmod
  simp only
  split <;> omega
theorem w32_rg (x : Int) : -2147483648 ≤ w32 x ∧ w32 x < 2147483648 := by
  unfold w32 Int.bmod
  simp only
  split <;> omega
theorem w64_id {x : Int} (h1 : -9223372036854775808 ≤ x) (h2 : x < 9223372036854775808) : w64 x = x := by
  unfold w64 Int.bmod
  simp only
  split <;> omega
theorem w64_rg (x : Int) : -9223372036854775808 ≤ w64 x ∧ w64 x < 9223372036854775808 := by
  unfold w64 Int.bmod
  simp only
  split <;> omega
theorem i32_w (x : Int) : Int32.ofInt (w32 x) = Int32.ofInt x := by
  have h : w32 x = (Int32.ofInt x).toInt := by rw [Int32.toInt_ofInt]; rfl
  rw [h, Int32.ofInt_toInt]
theorem i64_w (x : Int) : Int64.ofInt (w64 x) = Int64.ofInt x := by
  have h : w64 x = (Int64.ofInt x).toInt := by rw [Int64.toInt_ofInt]; rfl
  rw [h, Int64.ofInt_toInt]
theorem i32_t {x : Int} (h1 : -2147483648 ≤ x) (h2 : x < 2147483648) : (Int32.ofInt x).toInt = x := by
  rw [Int32.toInt_ofInt]; exact w32_id h1 h2
theorem i64_t {x : Int} (h1 : -9223372036854775808 ≤ x) (h2 : x < 9223372036854775808) : (Int64.ofInt x).toInt = x := by
  rw [Int64.toInt_ofInt]; exact w64_id h1 h2
def okV (v : sV) : Prop := match v with
  | .inl x => -2147483648 ≤ x ∧ x < 2147483648
  | .inr (.inl x) => -9223372036854775808 ≤ x ∧ x < 9223372036854775808
  | _ => True
theorem okV_i {x : Int} (h : okV (vI x)) : -2147483648 ≤ x ∧ x < 2147483648 := h
theorem okV_l {x : Int} (h : okV (vL x)) : -9223372036854775808 ≤ x ∧ x < 9223372036854775808 := h
theorem okV_w (x : Int) : okV (vI (w32 x)) := w32_rg x
theorem okV_lw (x : Int) : okV (vL (w64 x)) := w64_rg x
def rfo (G : sG) (x : Int) : Option Nat := if x = 0 then none else some (gB G + (x.toNat - 1))
/-- what stands by for a wrong index of a text -/
def fmV (G : sG) : Value := if gI G 99 1 = 0 then .null else .ref (gI G 99 1 - 1)
/-- a word as a value of the real machine -/
def rv (G : sG) (v : sV) : Value := match v with
  | .inl x => .int (Int32.ofInt x)
  | .inr (.inl x) => .long (Int64.ofInt x)
  | .inr (.inr (.inl r)) => va_rf (rfo G (r : Int))
  | .inr (.inr (.inr k)) => if k = 1 then .ref G.1.2.1 else if k = 2 then .ref G.1.2.2.1 else if k = 3 then .ref (gI G 99 0) else if k = 4 then fmV G else .null
theorem rv_cat (G : sG) (v : sV) : (rv G v).category = match v with | .inr (.inl _) => 2 | _ => 1 := by
  rcases v with x | x | r | k
  · rfl
  · rfl
  · simp only [rv, rfo]
    by_cases h : (r : Int) = 0
    · rw [if_pos h]; rfl
    · rw [if_neg h]; rfl
  · simp only [rv]
    by_cases h : k = 1
    · rw [if_pos h]; rfl
    · rw [if_neg h]
      by_cases h2 : k = 2
      · rw [if_pos h2]; rfl
      · rw [if_neg h2]
        by_cases h3 : k = 3
        · rw [if_pos h3]; rfl
        · rw [if_neg h3]
          by_cases h4 : k = 4
          · rw [if_pos h4]; unfold fmV; split <;> rfl
          · rw [if_neg h4]; rfl
theorem rv_r {G : sG} {a : Nat} (h : 1 ≤ a) : rv G (vR a) = .ref (gB G + (a - 1)) := by
  simp only [rv, rfo]
  rw [if_neg (by omega)]
  rfl
theorem rv_0 {G : sG} : rv G (vR 0) = .null := rfl
/-- what a slot holds, by its sort: 1 long, 2 reference, else int -/
def sv (G : sG) (t : Nat) (x : Int) : Value := if t = 1 then .long (Int64.ofInt x) else if t = 2 then va_rf (rfo G x) else .int (Int32.ofInt x)
theorem sv_0 (G : sG) (x : Int) : sv G 0 x = .int (Int32.ofInt x) := rfl
theorem sv_1 (G : sG) (x : Int) : sv G 1 x = .long (Int64.ofInt x) := rfl
theorem sv_2 (G : sG) (x : Int) : sv G 2 x = va_rf (rfo G x) := rfl
theorem sv_3 (G : sG) (x : Int) : sv G 3 x = .int (Int32.ofInt x) := rfl
theorem sv_4 (G : sG) (x : Int) : sv G 4 x = .int (Int32.ofInt x) := rfl
def okS (t : Nat) (x : Int) : Prop := if t = 1 then -9223372036854775808 ≤ x ∧ x < 9223372036854775808 else if t = 2 then 0 ≤ x else if t = 3 then -128 ≤ x ∧ x < 128 else if t = 4 then 0 ≤ x ∧ x < 2 else -2147483648 ≤ x ∧ x < 2147483648
/-- the sorts of the fields of the thirteen classes: 0 int, 2 reference, 4 boolean -/
def sftab : List (List Nat) := [[2, 2, 2, 2, 2, 2, 0], [2, 2, 2, 2, 2, 0], [2, 0, 2, 2, 2, 2, 0, 0, 0, 0], [2, 2, 0], [2, 2], [2, 2, 2, 2, 0, 0, 2, 2, 2, 0, 0, 0, 0, 0, 0], [2, 2], [2, 2], [2, 0, 0, 0, 2, 2, 2, 2, 2], [0, 2, 2, 2, 2], [0, 0, 0, 2, 2, 2, 2, 2, 2, 2, 2, 2], [2, 2, 2, 2, 2, 2, 2, 2, 2, 2, 2], [2, 2, 0, 0, 0, 0, 0, 0, 4, 2, 0, 0, 2, 2, 2, 2, 2, 2, 0, 2, 2, 2, 2, 2, 2, 0, 2, 2, 2, 0, 2, 2, 2, 0, 2, 2, 2, 2]]
def sft (k j : Nat) : Nat := (sftab.getD k []).getD j 0
def snf (k : Nat) : Nat := (sftab.getD k []).length
/-- the sorts of an array's places: 13 int, 14 byte, 15 boolean, 16 long, then references -/
def sat (k : Nat) : Nat := if k = 13 then 0 else if k = 14 then 3 else if k = 15 then 4 else if k = 16 then 1 else 2
def aty (k : Nat) : FieldType := if k = 13 then .int else if k = 14 then .byte else if k = 15 then .boolean else if k = 16 then .long else if k = 17 then .object "OneDrum$War" else if k = 18 then .object "OneDrum$Score" else if k = 19 then .object "OneDrum$Hearing" else if k = 20 then .object "OneDrum$Villages" else if k = 21 then .object "OneDrum$Told" else if k = 22 then .object "OneDrum$Ear" else .array .int
def slT (k j : Nat) : Nat := if k < 13 then sft k j else sat k
/-- a cell of the simple machine is held by a cell of the real heap -/
def cellAt (G : sG) (k n : Nat) (f : Nat → Int) (a : Nat) (H : Heap) : Prop :=
  if k < 13 then t_OB a (gC G k) (snf k) (gI G k) H (fun j => sv G (sft k j) (f j)) else H[a]? = some (arrV (gA G k) n (fun j => sv G (sat k) (f j)))
def adr (G : sG) (a : Nat) : Nat := gB G + (a - 1)
def MemOk (S : sS) (d : sD) : Prop := ∀ a j : Nat, kn S a ≠ 99 → okS (slT (kn S a) j) (d a j)
def KindOk (S : sS) : Prop := ∀ a : Nat, kn S a ≠ 99 → 1 ≤ a ∧ a ≤ S.1 ∧ kn S a < 24
def HR (G : sG) (S : sS) (d : sD) (H : Heap) : Prop :=
  H.size = gB G + S.1 ∧ (gH G).size = gB G ∧ (∀ q : Nat, q < gB G → H[q]? = (gH G)[q]?) ∧ MemOk S d ∧ KindOk S ∧ ∀ a : Nat, kn S a ≠ 99 → cellAt G (kn S a) (ln S a) (d a) (adr G a) H
/-- memory with one cell's places changed; one place changed -/
def upA (d : sD) (a : Nat) (f : Nat → Int) : sD := fun b => if b = a then f else d b
def up (d : sD) (a j : Nat) (x : Int) : sD := fun b k => if b = a ∧ k = j then x else d b k
theorem up_upA (d : sD) (a j : Nat) (x : Int) : up d a j x = upA d a (fun k => if k = j then x else d a k) := by
  funext b k
  unfold up upA
  by_cases hb : b = a
  · subst hb
    simp
  · simp [hb]
def tyl (G : sG) : List (ClassId × FieldType) := (List.range 11).map (fun i => (gA G (13 + i), aty (13 + i)))
/-- the text of the words, and its bytes -/
abbrev txS : String := "rest tap flam roll halt left right charge retreat turn tired echo wet from step lag place order gives made drop swap twice last "
def txW : List Int32 := [114, 101, 115, 116, 32, 116, 97, 112, 32, 102, 108, 97, 109, 32, 114, 111, 108, 108, 32, 104, 97, 108, 116, 32, 108, 101, 102, 116, 32, 114, 105, 103, 104, 116, 32, 99, 104, 97, 114, 103, 101, 32, 114, 101, 116, 114, 101, 97, 116, 32, 116, 117, 114, 110, 32, 116, 105, 114, 101, 100, 32, 101, 99, 104, 111, 32, 119, 101, 116, 32, 102, 114, 111, 109, 32, 115, 116, 101, 112, 32, 108, 97, 103, 32, 112, 108, 97, 99, 101, 32, 111, 114, 100, 101, 114, 32, 103, 105, 118, 101, 115, 32, 109, 97, 100, 101, 32, 100, 114, 111, 112, 32, 115, 119, 97, 112, 32, 116, 119, 105, 99, 101, 32, 108, 97, 115, 116, 32]
/-- the text constant, and that texts are kept as bytes -/
def SK (G : sG) (U : State) : Prop := vk_R "OneDrum$Reader" 250 txS G.1.2.2.1 U ∧ va_O "java/lang/String" G.1.2.2.1 (fun q => gB G ≤ q) U (gH G) ∧ va_OF "java/lang/String" "coder" "B" (.int 0) G.1.2.2.1 (fun q => gB G ≤ q) U (gH G) ∧ va_OF "java/lang/String" "value" "[B" (.ref (gI G 99 0)) G.1.2.2.1 (fun q => gB G ≤ q) U (gH G) ∧ va_T .byte (gI G 99 0) 128 (fun j => .int (txW.getD j 0)) (fun q => gB G ≤ q) U (gH G) ∧ va_Z "java/lang/String" "COMPACT_STRINGS" "Z" (.int 1) (fun q => gB G ≤ q) U (gH G) ∧ va_Z "jdk/internal/util/Preconditions" "SIOOBE_FORMATTER" "Ljava/util/function/BiFunction;" (fmV G) (fun q => gB G ≤ q) U (gH G)
theorem SK.moved {G : sG} {s U : State} (hR : ∀ a, vk_R "OneDrum$Reader" 250 txS a s → vk_R "OneDrum$Reader" 250 txS a U) (hA : s.vm.Alike U.vm) (h : SK G s) : SK G U := by
  obtain ⟨h1, h2, h3, h4, h5, h6, h7⟩ := h
  exact ⟨hR _ h1, va_O.moved hA h2, va_OF.moved hA h3, va_OF.moved hA h4, va_T.moved hA h5, va_Z.moved hA h6, va_Z.moved hA h7⟩
/-- rows of rows of ints -/
def MK (G : sG) (U : State) : Prop := ∃ k : Class, U.vm.classes[gA G 23]? = some k ∧ k.kind = .array (gA G 13) (.array .int)
theorem MK.moved {G : sG} {s U : State} (hA : s.vm.Alike U.vm) (h : MK G s) : MK G U := by
  obtain ⟨k, h1, h2⟩ := h
  obtain ⟨k', h3, h4⟩ := hA.2.2 _ _ h1
  exact ⟨k', h3, by rw [h4]; exact h2⟩
def KK (G : sG) (U : State) : Prop :=
  va_K (gC G, gI G) vwCl (tyl G) U ∧ (∀ w ∈ nestL, va_Nw w U) ∧ ((∀ C ∈ ["OneDrum$War", "OneDrum$Score", "OneDrum$Hearing", "OneDrum$Villages", "OneDrum$Told", "OneDrum$Ear"], va_AO C U) ∧ SK G U ∧ MK G U) ∧ va_X G.1.2.1 G.2.2.1 G.2.2.2 U (gH G) ∧ G.1.2.1 < gB G
theorem KK.warm {G : sG} {s U : State} (hW : s.WarmedH U.vm) (h : KK G s) : KK G U := by
  refine ⟨va_K.moved hW.alike h.1, fun w hw => ?_, ⟨fun C hC => va_AO.moved hW.alike (h.2.2.1.1 C hC), SK.moved (fun _ z => vk_R.warm hW z) hW.alike h.2.2.1.2.1, MK.moved hW.alike h.2.2.1.2.2⟩, va_X.moved hW.alike h.2.2.2.1, h.2.2.2.2⟩
  have h1 := h.2.1 w hw
  have h2 := (List.mem_filter.mp hw).2
  cases w <;> first | exact va_Nw.warmM hW h1 | cases h2
theorem KK.same {G : sG} {s U : State} (hv : s.vm = U.vm) (h : KK G s) : KK G U := by
  refine ⟨va_K.moved (by rw [hv]; exact Vm.Alike.refl _) h.1, fun w hw => ?_, ⟨fun C hC => va_AO.moved (by rw [hv]; exact Vm.Alike.refl _) (h.2.2.1.1 C hC), SK.moved (fun _ z => vk_R.same hv.symm z) (by rw [hv]; exact Vm.Alike.refl _) h.2.2.1.2.1, MK.moved (by rw [hv]; exact Vm.Alike.refl _) h.2.2.1.2.2⟩, va_X.moved (by rw [hv]; exact Vm.Alike.refl _) h.2.2.2.1, h.2.2.2.2⟩
  have h2 := (List.mem_filter.mp hw).2
  have h1 := h.2.1 w hw
  cases w <;> first | exact va_Nw.same rfl hv h1 | cases h2
theorem KK.arr {G : sG} {U : State} (h : KK G U) {k : Nat} (h1 : 13 ≤ k) (h2 : k < 24) : ArrOfT U (gA G k) (aty k) ∧ va_RA U (gA G k) (aty k) := by
  refine h.1.2 (k - 13) (gA G k, aty k) ?_
  unfold tyl
  rw [List.getElem?_map, List.getElem?_range (by omega)]
  simp only [Option.map_some]
  rw [show 13 + (k - 13) = k by omega]
/-- the locals: those that are set stand in the frame -/
def LR (G : sG) (n : Nat) (ls : List sV) (lsr : Array Slot) : Prop := lsr.size = n ∧ ls.length = n ∧ lv_wf lsr ∧ (∀ v ∈ ls, okV v) ∧ ∀ (i : Nat) (v : sV), ls[i]? = some v → v ≠ vU 0 → lsr[i]? = some (.val (rv G v))
def lof (G : sG) : Nat → List sV → List (Nat × Value)
  | _, [] => []
  | i, v :: r => if v = vU 0 then lof G (i + 1) r else (i, rv G v) :: lof G (i + 1) r
theorem lof_mem (G : sG) : ∀ (ls : List sV) (i : Nat) (q : Nat × Value), q ∈ lof G i ls → ∃ (j : Nat) (v : sV), ls[j]? = some v ∧ v ≠ vU 0 ∧ q = (i + j, rv G v)
  | [], _, q, h => by cases h
  | v :: r, i, q, h => by
    unfold lof at h
    by_cases hv : v = vU 0
    · rw [if_pos hv] at h
      obtain ⟨j, w, h1, h2, h3⟩ := lof_mem G r (i + 1) q h
      exact ⟨j + 1, w, by simpa using h1, h2, by rw [h3]; congr 1; omega⟩
    · rw [if_neg hv] at h
      rcases List.mem_cons.mp h with h | h
      · exact ⟨0, v, rfl, hv, by rw [h]; rfl⟩
      · obtain ⟨j, w, h1, h2, h3⟩ := lof_mem G r (i + 1) q h
        exact ⟨j + 1, w, by simpa using h1, h2, by rw [h3]; congr 1; omega⟩
theorem lof_in (G : sG) : ∀ (ls : List sV) (i j : Nat) (v : sV), ls[j]? = some v → v ≠ vU 0 → (i + j, rv G v) ∈ lof G i ls
  | [], _, j, v, h, _ => by simp at h
  | w :: r, i, 0, v, h, hv => by
    have e : w = v := by simpa using h
    subst e
    unfold lof
    rw [if_neg hv]
    exact List.mem_cons_self
  | w :: r, i, j + 1, v, h, hv => by
    have h1 := lof_in G r (i + 1) j v (by simpa using h) hv
    unfold lof
    rw [show i + (j + 1) = i + 1 + j by omega]
    by_cases hw : w = vU 0
    · rw [if_pos hw]; exact h1
    · rw [if_neg hw]; exact List.mem_cons_of_mem _ h1
theorem LR.has {G : sG} {n : Nat} {ls : List sV} {lsr : Array Slot} (h : LR G n ls lsr) : lv_has lsr n (lof G 0 ls) := by
  refine ⟨h.1, h.2.2.1, fun q hq => ?_⟩
  obtain ⟨j, v, h1, h2, h3⟩ := lof_mem G ls 0 q hq
  rw [h3]
  simp only [Nat.zero_add]
  exact h.2.2.2.2 j v h1 h2
theorem LR.of {G : sG} {n : Nat} {ls : List sV} {lsr : Array Slot} (hl : ls.length = n) (hok : ∀ v ∈ ls, okV v) {L : List (Nat × Value)} (h : lv_has lsr n L) (hin : ∀ (i : Nat) (v : sV), ls[i]? = some v → v ≠ vU 0 → (i, rv G v) ∈ L) : LR G n ls lsr :=
  ⟨h.1, hl, h.2.1, hok, fun i v h1 h2 => h.2.2 _ (hin i v h1 h2)⟩
def isL (v : sV) : Bool := match v with | .inr (.inl _) => true | _ => false
/-- storing a word of one slot: a long that stood just below is lost -/
def sto : List sV → Nat → sV → List sV
  | [], _, _ => []
  | _ :: l, 0, v => v :: l
  | a :: l, 1, v => (if isL a then vU 0 else a) :: sto l 0 v
  | a :: l, i + 2, v => a :: sto l (i + 1) v
theorem sto_len : ∀ (l : List sV) (i : Nat) (v : sV), (sto l i v).length = l.length
  | [], _, _ => rfl
  | _ :: l, 0, v => rfl
  | a :: l, 1, v => by simp [sto, sto_len l 0 v]
  | a :: l, i + 2, v => by simp [sto, sto_len l (i + 1) v]
theorem sto_ok : ∀ (l : List sV) (i : Nat) (v : sV), (∀ w ∈ l, okV w) → okV v → ∀ w ∈ sto l i v, okV w
  | [], _, _, _, _ => by intro w h; cases h
  | a :: l, 0, v, h, hv => by
    intro w hw
    rcases List.mem_cons.mp hw with rfl | hw
    · exact hv
    · exact h w (List.mem_cons_of_mem _ hw)
  | a :: l, 1, v, h, hv => by
    intro w hw
    rcases List.mem_cons.mp hw with rfl | hw
    · split
      · trivial
      · exact h a List.mem_cons_self
    · exact sto_ok l 0 v (fun w hw => h w (List.mem_cons_of_mem _ hw)) hv w hw
  | a :: l, i + 2, v, h, hv => by
    intro w hw
    rcases List.mem_cons.mp hw with rfl | hw
    · exact h w List.mem_cons_self
    · exact sto_ok l (i + 1) v (fun w hw => h w (List.mem_cons_of_mem _ hw)) hv w hw
theorem sto_get : ∀ (l : List sV) (i : Nat) (v : sV) (j : Nat) (w : sV), (sto l i v)[j]? = some w → w ≠ vU 0 → (j = i ∧ w = v) ∨ (j ≠ i ∧ l[j]? = some w ∧ ¬ (j + 1 = i ∧ isL w = true))
  | [], _, _, j, w, h, _ => by simp [sto] at h
  | a :: l, 0, v, 0, w, h, _ => Or.inl ⟨rfl, by simpa [sto] using h.symm⟩
  | a :: l, 0, v, j + 1, w, h, _ => Or.inr ⟨by omega, by simpa [sto] using h, by omega⟩
  | a :: l, 1, v, 0, w, h, hw => by
    right
    simp only [sto, List.getElem?_cons_zero, Option.some.injEq] at h
    by_cases ha : isL a = true
    · rw [if_pos ha] at h; exact absurd h.symm hw
    · rw [if_neg ha] at h
      subst h
      exact ⟨by omega, by simp, fun q => ha q.2⟩
  | a :: l, 1, v, j + 1, w, h, hw => by
    have h1 : (sto l 0 v)[j]? = some w := by simpa [sto] using h
    rcases sto_get l 0 v j w h1 hw with ⟨q1, q2⟩ | ⟨q1, q2, q3⟩
    · exact Or.inl ⟨by omega, q2⟩
    · exact Or.inr ⟨by omega, by simpa using q2, by omega⟩
  | a :: l, i + 2, v, 0, w, h, _ => Or.inr ⟨by omega, by simpa [sto] using h, by omega⟩
  | a :: l, i + 2, v, j + 1, w, h, hw => by
    have h1 : (sto l (i + 1) v)[j]? = some w := by simpa [sto] using h
    rcases sto_get l (i + 1) v j w h1 hw with ⟨q1, q2⟩ | ⟨q1, q2, q3⟩
    · exact Or.inl ⟨by omega, q2⟩
    · exact Or.inr ⟨by omega, by simpa using q2, fun q => q3 ⟨by omega, q.2⟩⟩
theorem isL_cat {G : sG} {v : sV} : (rv G v).category = 2 ↔ isL v = true := by
  rw [rv_cat]
  rcases v with x | x | r | k <;> simp [isL]
theorem LR.sto {G : sG} {n : Nat} {ls : List sV} {lsr lsr' : Array Slot} {i : Nat} {v : sV} (h : LR G n ls lsr) (hv : okV v) (hh : lv_has lsr' n ((i, rv G v) :: (lof G 0 ls).filter (fun q => !(q.1 == i) && !(q.1 + 1 == i && q.2.category == 2)))) : LR G n (sto ls i v) lsr' := by
  refine LR.of (by rw [sto_len]; exact h.2.1) (sto_ok ls i v h.2.2.2.1 hv) hh (fun j w h1 h2 => ?_)
  rcases sto_get ls i v j w h1 h2 with ⟨rfl, rfl⟩ | ⟨q1, q2, q3⟩
  · exact List.mem_cons_self
  · refine List.mem_cons_of_mem _ (List.mem_filter.mpr ⟨?_, ?_⟩)
    · have := lof_in G ls 0 j w q2 h2
      rwa [Nat.zero_add] at this
    · simp only [Bool.and_eq_true, Bool.not_eq_true', beq_eq_false_iff_ne, ne_eq, Bool.and_eq_false_iff]
      refine ⟨q1, ?_⟩
      by_cases e : j + 1 = i
      · right
        intro hc
        exact q3 ⟨e, isL_cat.mp hc⟩
      · exact Or.inl e
/-- storing a long: two slots -/
def stoL (l : List sV) (i : Nat) (x : Int) : List sV := sto (sto l (i + 1) (vU 0)) i (vL x)
