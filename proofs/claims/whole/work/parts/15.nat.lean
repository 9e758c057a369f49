/-! the JDK's own: Math.max, Math.min, System.arraycopy; the script -/
theorem sys_copy : Cond.native arraycopyName ∈ gw ∧ Cond.static arraycopyName ∈ gw ∧ Cond.initialized "java/lang/System" ∈ gw := ⟨gw_in (by decide +kernel) (by decide +kernel), gw_in (by decide +kernel) (by decide +kernel), gw_in (by decide +kernel) (by decide +kernel)⟩
theorem cat_sum (G : sG) : ∀ l : List sV, ((l.map (rv G)).map fun v => v.category).sum ≤ 2 * l.length
  | [] => Nat.le_refl _
  | v :: r => by
    rw [List.map_cons, List.map_cons, List.sum_cons, List.length_cons]
    have := lv_cat (rv G v)
    have := cat_sum G r
    omega
section SBN
variable {G : sG} {M : sM} {pc idx : Nat} {ls st : List sV} {S : sS} {d : sD} {kc ks : Nat} {Q : Option sV → sS → sD → Prop}
theorem B_max {x y : Int} (hd : decode (mC M) pc = .ok (.invokestatic idx, 3)) (hw : Cond.methodLink (mY M).cls idx Lib.Math.max.name ∈ gw) (hrm : 1 ≤ mF M ∧ 21 ≤ mO M) (hrest : st.length ≤ 4) (kk : sB G M (pc + 3) ls (vI (max x y) :: st) S d kc ks Q) : sB G M pc ls (vI y :: vI x :: st) S d kc ks Q := by
  intro p l e R s m args below meth c H locs cells slots Z lsr C hH hl hL hs hc hks
  have hts := C.2.2.2.2.1
  have hr := C.2.2.2.2.2.2.2.1
  have hcs := cat_sum G st
  have hx := ok_hd (ok_tl hs)
  have hy := ok_hd hs
  refine va_mmax (x := Int32.ofInt x) (y := Int32.ofInt y) (rest := st.map (rv G)) C.1 C.2.1 (C.2.2.1.trans hL.1.symm) C.2.2.2.1 (hts _ hw) (hts _ math_max.1) (hts _ math_max.2.1) (hts _ math_max.2.2) (by omega) (by omega) (by omega) (by omega) hd ?_
  have ev : (if Int32.ofInt x < Int32.ofInt y then Int32.ofInt y else Int32.ofInt x) = Int32.ofInt (max x y) := by
    by_cases h : x < y
    · rw [if_pos ((i32_lt hx hy).mpr h)]; congr 1; omega
    · rw [if_neg (fun q => h ((i32_lt hx hy).mp q))]; congr 1; omega
  rw [ev]
  exact kk p l e R s m args below meth c H locs cells slots Z lsr C hH hl hL (ok_cons (v := vI (max x y)) ⟨by have := hx.1; omega, by have := hx.2; have := hy.2; omega⟩ (ok_tl (ok_tl hs))) hc hks
theorem B_min {x y : Int} (hd : decode (mC M) pc = .ok (.invokestatic idx, 3)) (hw : Cond.methodLink (mY M).cls idx Lib.Math.min.name ∈ gw) (hrm : 1 ≤ mF M ∧ 21 ≤ mO M) (hrest : st.length ≤ 4) (kk : sB G M (pc + 3) ls (vI (min x y) :: st) S d kc ks Q) : sB G M pc ls (vI y :: vI x :: st) S d kc ks Q := by
  intro p l e R s m args below meth c H locs cells slots Z lsr C hH hl hL hs hc hks
  have hts := C.2.2.2.2.1
  have hr := C.2.2.2.2.2.2.2.1
  have hcs := cat_sum G st
  have hx := ok_hd (ok_tl hs)
  have hy := ok_hd hs
  refine va_mmin (x := Int32.ofInt x) (y := Int32.ofInt y) (rest := st.map (rv G)) C.1 C.2.1 (C.2.2.1.trans hL.1.symm) C.2.2.2.1 (hts _ hw) (hts _ math_min.1) (hts _ math_min.2.1) (hts _ math_min.2.2) (by omega) (by omega) (by omega) (by omega) hd ?_
  have ev : (if Int32.ofInt y < Int32.ofInt x then Int32.ofInt y else Int32.ofInt x) = Int32.ofInt (min x y) := by
    by_cases h : y < x
    · rw [if_pos ((i32_lt hy hx).mpr h)]; congr 1; omega
    · rw [if_neg (fun q => h ((i32_lt hy hx).mp q))]; congr 1; omega
  rw [ev]
  exact kk p l e R s m args below meth c H locs cells slots Z lsr C hH hl hL (ok_cons (v := vI (min x y)) ⟨by have := hx.1; have := hy.1; omega, by have := hx.2; omega⟩ (ok_tl (ok_tl hs))) hc hks
theorem B_slen (hd : decode (mC M) pc = .ok (.arraylength, 1)) (hn : G.2.2.1 < 2147483648) (kk : sB G M (pc + 1) ls (vI (G.2.2.1 : Int) :: st) S d kc ks Q) : sB G M pc ls (vU 1 :: st) S d kc ks Q := by
  intro p l e R s m args below meth c H locs cells slots Z lsr C hH hl hL hs hc hks
  obtain ⟨⟨scr, h1, h2, h3, h4, h5⟩, hb⟩ := C.2.2.2.2.2.2.1.2.2.2
  refine W.alen (n := Int32.ofInt (G.2.2.1 : Int)) C.1 C.2.1 (a := G.1.2.1) (by rw [hH.2.2.1 _ hb]; exact h1) h2 (by rw [h4]; rfl) rfl rfl hd ?_
  exact kk p l e R s m args below meth c H locs cells slots Z lsr C hH hl hL (ok_cons (v := vI (G.2.2.1 : Int)) ⟨by omega, by omega⟩ (ok_tl hs)) hc hks
theorem B_sld {i : Int} (hd : decode (mC M) pc = .ok (.iaload, 1)) (hi1 : 0 ≤ i) (hi2 : i < G.2.2.1) (kk : sB G M (pc + 1) ls (vI (G.2.2.2 i.toNat).toInt :: st) S d kc ks Q) : sB G M pc ls (vI i :: vU 1 :: st) S d kc ks Q := by
  intro p l e R s m args below meth c H locs cells slots Z lsr C hH hl hL hs hc hks
  obtain ⟨⟨scr, h1, h2, h3, h4, h5⟩, hb⟩ := C.2.2.2.2.2.2.1.2.2.2
  have hi := ok_hd hs
  refine W.iald (v := rv G (vI (G.2.2.2 i.toNat).toInt)) C.1 C.2.1 (a := G.1.2.1) (by rw [hH.2.2.1 _ hb]; exact h1) h2 h3 (by rw [h4]; exact inI hi hi1 hi2) (by rw [clampI hi, h5 _ (by omega)]; show _ = some (Value.int (Int32.ofInt _)); rw [Int32.ofInt_toInt]) rfl rfl hd ?_
  exact kk p l e R s m args below meth c H locs cells slots Z lsr C hH hl hL (ok_cons (v := vI (G.2.2.2 i.toNat).toInt) (i32_rg _) (ok_tl (ok_tl hs))) hc hks
def cpyD (d : sD) (a b sp dp n : Nat) : sD := upA d b (fun j => if dp ≤ j ∧ j < dp + n then d a (sp + (j - dp)) else d b j)
theorem B_copy {a b k : Nat} {sp dp n : Int} (hd : decode (mC M) pc = .ok (.invokestatic idx, 3)) (hw : Cond.methodLink (mY M).cls idx arraycopyName ∈ gw) (hrm : 1 ≤ mF M ∧ 60 ≤ mO M) (hrest : st.length ≤ 4) (hk : k = 13 ∨ k = 14) (ha : kn S a = k) (hb : kn S b = k) (h1 : 0 ≤ sp) (h2 : 0 ≤ dp) (h3 : 0 ≤ n) (h4 : sp + n ≤ ln S a) (h5 : dp + n ≤ ln S b)
    (kk : sB G M (pc + 3) ls st S (cpyD d a b sp.toNat dp.toNat n.toNat) kc ks Q) : sB G M pc ls (vI n :: vI dp :: vR b :: vI sp :: vR a :: st) S d kc ks Q := by
  intro p l e R s m args below meth c H locs cells slots Z lsr C hH hl hL hs hc hks
  have hts := C.2.2.2.2.1
  have hr := C.2.2.2.2.2.2.2.1
  have hcs := cat_sum G st
  have on := ok_hd hs
  have odp := ok_hd (ok_tl hs)
  have osp := ok_hd (ok_tl (ok_tl (ok_tl hs)))
  have hka : kn S a ≠ 99 := by omega
  have hkb : kn S b ≠ 99 := by omega
  have h13 : ¬ k < 13 := by omega
  have hsat : ∀ x, okS (sat k) x → fits (aty k) (sv G (sat k) x) = true ∧ (sat k = 0 ∨ sat k = 3) := by
    intro x hx
    rcases hk with rfl | rfl
    · exact ⟨rfl, Or.inl rfl⟩
    · have hx : -128 ≤ x ∧ x < 128 := hx
      refine ⟨?_, Or.inr rfl⟩
      show (decide ((-128 : Int32) ≤ Int32.ofInt x) && decide (Int32.ofInt x ≤ (127 : Int32))) = true
      rw [Bool.and_eq_true, decide_eq_true_eq, decide_eq_true_eq, show (-128 : Int32) = Int32.ofInt (-128) from rfl, show (127 : Int32) = Int32.ofInt 127 from rfl, i32_le ⟨by decide, by decide⟩ ⟨by omega, by omega⟩, i32_le ⟨by omega, by omega⟩ ⟨by decide, by decide⟩]
      omega
  rw [List.map_cons, List.map_cons, List.map_cons, List.map_cons, List.map_cons, hH.rv hkb, hH.rv hka]
  intro T hT X
  have hc0 := hH.arr ha h13 (by omega)
  have hc1 := hH.arr hb h13 (by omega)
  have hArr := (C.2.2.2.2.2.2.1.arr (k := k) (by omega) (by omega)).1
  obtain ⟨-, k0, hk0, cm0, hkk0⟩ := hArr (ln S a) (fun j => sv G (sat k) (d a j))
  obtain ⟨-, k1, hk1, cm1, hkk1⟩ := hArr (ln S b) (fun j => sv G (sat k) (d b j))
  have tsp := i32_t osp.1 osp.2
  have tdp := i32_t odp.1 odp.2
  have tn := i32_t on.1 on.2
  obtain ⟨vm', X', step⟩ := X.arraycopy C.1 C.2.2.2.1 (hts _ hw) (hts _ sys_copy.1) (hts _ sys_copy.2.1) (hts _ sys_copy.2.2) (src := adr G a) (dst := adr G b) (cs := arrV (gA G k) (ln S a) (fun j => sv G (sat k) (d a j))) (cd := arrV (gA G k) (ln S b) (fun j => sv G (sat k) (d b j))) (srcPos := Int32.ofInt sp) (destPos := Int32.ofInt dp) (n := Int32.ofInt n) (by rw [hT]; exact hc0) (by rw [hT]; exact hc1)
    (fun _ h => by cases h) (fun _ h => by cases h) (fun h => by cases h) (fun h => by cases h) hk0 hk1 hkk0 hkk1 (by rcases hk with rfl | rfl <;> decide) (fun z => by have := (i32_lt osp ok_0).mp z; omega) (fun z => by have := (i32_lt odp ok_0).mp z; omega) (fun z => by have := (i32_lt on ok_0).mp z; omega)
    (by rw [tsp, tn, arrV_size]; omega)
    (by rw [tdp, tn, arrV_size]; omega)
    (fun vm₁ _ i hi => by
      rw [clampI on] at hi
      have e : (arrV (gA G k) (ln S a) (fun j => sv G (sat k) (d a j))).slots.getD ((Int32.ofInt sp).toNatClampNeg + i) .null = sv G (sat k) (d a (sp.toNat + i)) := by
        rw [clampI osp, Array.getD_eq_getD_getElem?, arrV_read _ _ (by omega)]
        rfl
      have hok := hH.ok ha (by omega) (sp.toNat + i)
      rw [show slT k (sp.toNat + i) = sat k from if_neg h13] at hok
      obtain ⟨hf, hz⟩ := hsat _ hok
      refine ⟨?_, ?_⟩
      · rw [e]
        exact hf
      · rw [e]
        rcases hz with hz | hz <;> rw [hz] <;> exact trivial)
    (g := F0 m pc lsr (rv G (vI n) :: rv G (vI dp) :: .ref (adr G b) :: rv G (vI sp) :: .ref (adr G a) :: st.map (rv G))) rfl (hL.1.trans C.2.2.1.symm) (rest := st.map (rv G)) rfl (by rw [C.2.1]; exact hd) (by omega) (by show 2 * 0 + _ + (5 + 2 + 11) ≤ _; omega)
  have e1 : copied (arrV (gA G k) (ln S a) (fun j => sv G (sat k) (d a j))) (arrV (gA G k) (ln S b) (fun j => sv G (sat k) (d b j))) (Int32.ofInt sp) (Int32.ofInt dp) (Int32.ofInt n) = arrV (gA G k) (ln S b) (fun j => sv G (sat k) (va_cpy (d a) (d b) sp.toNat dp.toNat n.toNat j)) := by
    have h := va_copied (fun z => sv G (sat k) z) (gA G k) (gA G k) (n0 := ln S a) (n1 := ln S b) (sp := sp.toNat) (dp := dp.toNat) (n := n.toNat) (d a) (d b) (by omega)
    unfold copied
    rw [clampI osp, clampI odp, clampI on]
    exact h
  rw [e1] at X' step
  have hlt : adr G b < H.size := (Array.getElem?_eq_some_iff.mp hc1).1
  have hH1 : HR G S (cpyD d a b sp.toNat dp.toNat n.toNat) (H.setIfInBounds (adr G b) (arrV (gA G k) (ln S b) (fun j => sv G (sat k) (va_cpy (d a) (d b) sp.toNat dp.toNat n.toNat j)))) := by
    refine hH.put hkb (fun j => ?_) (by simp) (fun q hq => by simp [Array.getElem?_setIfInBounds, Ne.symm hq]) ?_
    · rw [hb]
      split
      · have := hH.ok ha (by omega) (sp.toNat + (j - dp.toNat)); rw [show slT k j = sat k from if_neg h13]; rw [show slT k (sp.toNat + (j - dp.toNat)) = sat k from if_neg h13] at this; exact this
      · exact hH.ok hb (by omega) j
    · unfold cellAt
      rw [hb, if_neg h13]
      simp only [Array.getElem?_setIfInBounds, hlt, if_true]
      rfl
  obtain ⟨t, a1, b1⟩ := kk p l e R s m args below meth c (H.setIfInBounds (adr G b) (arrV (gA G k) (ln S b) (fun j => sv G (sat k) (va_cpy (d a) (d b) sp.toNat dp.toNat n.toNat j)))) _ cells slots Z lsr C hH1 (fun q hq => by
      rcases List.mem_append.mp hq with h | h
      · exact hl q h
      · obtain ⟨z, -, hz⟩ := List.mem_map.mp h
        rw [← hz]
        unfold adr
        exact Nat.le_add_right _ _) hL (ok_tl (ok_tl (ok_tl (ok_tl (ok_tl hs))))) hc hks _ (by rw [← hT]; rfl) X'
  exact ⟨t, step t a1, b1⟩
end SBN
