/-! the layout behind the two constructors: it never changes again -/
def kT : List Nat := [99, 11, 8, 14, 13, 17, 18, 19, 20, 10, 13, 13, 13, 13, 13, 13, 13, 13, 13, 6, 13, 13, 4, 13, 13, 9, 13, 13, 13, 13, 10, 13, 13, 13, 13, 13, 13, 13, 13, 13, 6, 13, 13, 4, 13, 13, 9, 13, 13, 13, 13, 21, 15, 5, 10, 13, 13, 13, 13, 13, 13, 13, 13, 13, 6, 13, 13, 4, 13, 13, 9, 13, 13, 13, 13, 13, 13, 13, 6, 13, 13, 1, 13, 13, 13, 13, 15, 22, 3, 13, 13, 7, 23, 13, 13, 13, 13, 13, 13, 13, 13, 13, 0, 16, 13, 23, 13, 13, 13, 13, 13, 13, 8, 14, 13, 17, 18, 19, 20, 10, 13, 13, 13, 13, 13, 13, 13, 13, 13, 6, 13, 13, 4, 13, 13, 9, 13, 13, 13, 13, 10, 13, 13, 13, 13, 13, 13, 13, 13, 13, 6, 13, 13, 4, 13, 13, 9, 13, 13, 13, 13, 8, 14, 13, 17, 18, 19, 20, 10, 13, 13, 13, 13, 13, 13, 13, 13, 13, 6, 13, 13, 4, 13, 13, 9, 13, 13, 13, 13, 10, 13, 13, 13, 13, 13, 13, 13, 13, 13, 6, 13, 13, 4, 13, 13, 9, 13, 13, 13, 13, 8, 14, 13, 17, 18, 19, 20, 10, 13, 13, 13, 13, 13, 13, 13, 13, 13, 6, 13, 13, 4, 13, 13, 9, 13, 13, 13, 13, 10, 13, 13, 13, 13, 13, 13, 13, 13, 13, 6, 13, 13, 4, 13, 13, 9, 13, 13, 13, 13, 2, 13, 13, 13, 13, 13, 2, 13, 13, 13, 13, 13, 12, 13, 15, 13, 13, 13, 13, 13, 13, 15, 13, 13, 13, 13, 13, 13, 13, 13, 13, 13, 13, 13, 13, 16, 13, 13]
def lT : List Nat := [0, 0, 0, 600, 4, 2, 2, 2, 2, 0, 4, 2, 2, 2, 2, 2, 12, 12, 48, 0, 2, 24, 0, 2, 12, 0, 8, 8, 8, 8, 0, 4, 2, 2, 2, 2, 2, 12, 12, 48, 0, 2, 24, 0, 2, 12, 0, 8, 8, 8, 8, 3, 3, 0, 0, 4, 2, 2, 2, 2, 2, 12, 12, 48, 0, 2, 24, 0, 2, 12, 0, 8, 8, 8, 8, 601, 601, 601, 0, 2, 24, 0, 24, 24, 24, 24, 24, 2, 0, 25, 25, 0, 8, 60, 60, 60, 60, 60, 60, 60, 60, 8, 0, 25, 25, 2, 60, 60, 2, 61, 24, 10, 0, 600, 4, 2, 2, 2, 2, 0, 4, 2, 2, 2, 2, 2, 12, 12, 48, 0, 2, 24, 0, 2, 12, 0, 8, 8, 8, 8, 0, 4, 2, 2, 2, 2, 2, 12, 12, 48, 0, 2, 24, 0, 2, 12, 0, 8, 8, 8, 8, 0, 600, 4, 2, 2, 2, 2, 0, 4, 2, 2, 2, 2, 2, 12, 12, 48, 0, 2, 24, 0, 2, 12, 0, 8, 8, 8, 8, 0, 4, 2, 2, 2, 2, 2, 12, 12, 48, 0, 2, 24, 0, 2, 12, 0, 8, 8, 8, 8, 0, 600, 4, 2, 2, 2, 2, 0, 4, 2, 2, 2, 2, 2, 12, 12, 48, 0, 2, 24, 0, 2, 12, 0, 8, 8, 8, 8, 0, 4, 2, 2, 2, 2, 2, 12, 12, 48, 0, 2, 24, 0, 2, 12, 0, 8, 8, 8, 8, 0, 24, 24, 24, 24, 24, 0, 24, 24, 24, 24, 24, 0, 3736, 3, 89, 24, 2, 24, 24, 24, 24, 48, 48, 48, 2, 2, 2, 64, 64, 65, 480, 8, 128, 10, 25, 25, 30]
def rT : List (List Nat) := [[], [2, 51, 52, 53, 78, 81, 87, 88, 91, 102, 111], [3, 0, 0, 0, 4, 5, 6, 7, 8], [], [], [9, 30], [19, 40], [22, 43], [25, 46], [0, 0, 0, 10, 11, 12, 13, 14, 15, 16, 17, 18], [], [], [], [], [], [], [], [], [], [20, 21], [], [], [23, 24], [], [], [0, 26, 27, 28, 29], [], [], [], [], [0, 0, 0, 31, 32, 33, 34, 35, 36, 37, 38, 39], [], [], [], [], [], [], [], [], [], [41, 42], [], [], [44, 45], [], [], [0, 47, 48, 49, 50], [], [], [], [], [112, 161, 210], [], [54, 64, 67, 70, 0, 0, 75, 76, 77, 0, 0, 0, 0, 0, 0], [0, 0, 0, 55, 56, 57, 58, 59, 60, 61, 62, 63], [], [], [], [], [], [], [], [], [], [65, 66], [], [], [68, 69], [], [], [0, 71, 72, 73, 74], [], [], [], [], [], [], [], [79, 80], [], [], [82, 83, 84, 85, 86, 0], [], [], [], [], [], [259, 265], [89, 90, 0], [], [], [92, 101], [93, 94, 95, 96, 97, 98, 99, 100], [], [], [], [], [], [], [], [], [], [103, 104, 105, 108, 109, 110, 0], [], [], [106, 107], [], [], [], [], [], [], [113, 0, 0, 0, 114, 115, 116, 117, 118], [], [], [119, 140], [129, 150], [132, 153], [135, 156], [0, 0, 0, 120, 121, 122, 123, 124, 125, 126, 127, 128], [], [], [], [], [], [], [], [], [], [130, 131], [], [], [133, 134], [], [], [0, 136, 137, 138, 139], [], [], [], [], [0, 0, 0, 141, 142, 143, 144, 145, 146, 147, 148, 149], [], [], [], [], [], [], [], [], [], [151, 152], [], [], [154, 155], [], [], [0, 157, 158, 159, 160], [], [], [], [], [162, 0, 0, 0, 163, 164, 165, 166, 167], [], [], [168, 189], [178, 199], [181, 202], [184, 205], [0, 0, 0, 169, 170, 171, 172, 173, 174, 175, 176, 177], [], [], [], [], [], [], [], [], [], [179, 180], [], [], [182, 183], [], [], [0, 185, 186, 187, 188], [], [], [], [], [0, 0, 0, 190, 191, 192, 193, 194, 195, 196, 197, 198], [], [], [], [], [], [], [], [], [], [200, 201], [], [], [203, 204], [], [], [0, 206, 207, 208, 209], [], [], [], [], [211, 0, 0, 0, 212, 213, 214, 215, 216], [], [], [217, 238], [227, 248], [230, 251], [233, 254], [0, 0, 0, 218, 219, 220, 221, 222, 223, 224, 225, 226], [], [], [], [], [], [], [], [], [], [228, 229], [], [], [231, 232], [], [], [0, 234, 235, 236, 237], [], [], [], [], [0, 0, 0, 239, 240, 241, 242, 243, 244, 245, 246, 247], [], [], [], [], [], [], [], [], [], [249, 250], [], [], [252, 253], [], [], [0, 255, 256, 257, 258], [], [], [], [], [260, 0, 261, 262, 263, 264, 0, 0, 0, 0], [], [], [], [], [], [266, 0, 267, 268, 269, 270, 0, 0, 0, 0], [], [], [], [], [], [272, 273, 0, 0, 0, 0, 0, 0, 0, 274, 0, 0, 275, 276, 277, 278, 279, 280, 0, 281, 282, 283, 284, 285, 286, 0, 287, 288, 289, 0, 290, 291, 292, 0, 293, 294, 295, 296], [], [], [], [], [], [], [], [], [], [], [], [], [], [], [], [], [], [], [], [], [], [], [], [], []]
def S0 : sS := (296, fun a => kT.getD a 99, fun a => lT.getD a 0)
def rf0 (a j : Nat) : Nat := (rT.getD a []).getD j 0
def RO (d : sD) : Prop := ∀ a j : Nat, kn S0 a ≠ 99 → slT (kn S0 a) j = 2 → d a j = (rf0 a j : Int)
/-- the judgement over the fixed layout: nothing is made, references stay -/
def tB (G : sG) (M : sM) (pc : Nat) (ls st : List sV) (d : sD) (Q : Option sV → sD → Prop) : Prop := RO d → sB G M pc ls st S0 d 0 0 (fun r S d' => S = S0 ∧ RO d' ∧ Q r d')
theorem RO_up {d : sD} {a j : Nat} {x : Int} (h : RO d) (hs : slT (kn S0 a) j ≠ 2) : RO (up d a j x) := by
  intro b i hb hi
  unfold up
  by_cases e : b = a ∧ i = j
  · obtain ⟨rfl, rfl⟩ := e; exact absurd hi hs
  · rw [if_neg e]; exact h b i hb hi
theorem sto_set : ∀ (ls : List sV) (i : Nat) (v : sV), ls.any isL = false → sto ls i v = ls.set i v
  | [], _, _, _ => rfl
  | _ :: _, 0, _, _ => rfl
  | a :: l, 1, v, h => by
    simp only [List.any_cons, Bool.or_eq_false_iff] at h
    show (if isL a = true then vU 0 else a) :: sto l 0 v = a :: l.set 0 v
    rw [h.1, sto_set l 0 v h.2]
    rfl
  | a :: l, i + 2, v, h => by
    simp only [List.any_cons, Bool.or_eq_false_iff] at h
    show a :: sto l (i + 1) v = a :: l.set (i + 1) v
    rw [sto_set l (i + 1) v h.2]
section TB
variable {G : sG} {M : sM} {pc : Nat} {ls st : List sV} {d : sD} {Q : Option sV → sD → Prop}
theorem tB.mono {Q' : Option sV → sD → Prop} (h : tB G M pc ls st d Q) (hq : ∀ r d', Q r d' → Q' r d') : tB G M pc ls st d Q' := fun hR => (h hR).mono (fun r S d' q => ⟨q.1, q.2.1, hq r d' q.2.2⟩)
theorem tB.mem (h : MemOk S0 d → tB G M pc ls st d Q) : tB G M pc ls st d Q := fun hR => sB.mem (fun hm => h hm hR)
theorem tB.rgl (h : (∀ v ∈ ls, okV v) → tB G M pc ls st d Q) : tB G M pc ls st d Q := fun hR => sB.rgl (fun hm => h hm hR)
theorem tB.rgs (h : (∀ v ∈ st, okV v) → tB G M pc ls st d Q) : tB G M pc ls st d Q := fun hR => sB.rgs (fun hm => h hm hR)
theorem tB.ro (h : RO d → tB G M pc ls st d Q) : tB G M pc ls st d Q := fun hR => h hR hR
theorem T_iconst {n : Int} (hd : decode (mC M) pc = .ok (.iconst n, 1)) (hn : -2147483648 ≤ n ∧ n < 2147483648 := by decide) (k : tB G M (pc + 1) ls (vI n :: st) d Q) : tB G M pc ls st d Q := fun hR => B_iconst hd hn (k hR)
theorem T_bipush {n : Int} (hd : decode (mC M) pc = .ok (.bipush n, 2)) (hn : (-2147483648 ≤ n ∧ n < 2147483648) ∧ (Int8.ofInt n).toInt32 = Int32.ofInt n := by decide) (k : tB G M (pc + 2) ls (vI n :: st) d Q) : tB G M pc ls st d Q := fun hR => B_bipush hd hn (k hR)
theorem T_sipush {n : Int} (hd : decode (mC M) pc = .ok (.sipush n, 3)) (hn : (-2147483648 ≤ n ∧ n < 2147483648) ∧ (Int16.ofInt n).toInt32 = Int32.ofInt n := by decide) (k : tB G M (pc + 3) ls (vI n :: st) d Q) : tB G M pc ls st d Q := fun hR => B_sipush hd hn (k hR)
theorem T_ldc {n : Int} {i : Nat} (hd : decode (mC M) pc = .ok (.ldc i, 2)) (hn : -2147483648 ≤ n ∧ n < 2147483648) (hw : Cond.constant (mY M).cls i (Int32.ofInt n) ∈ gw) (k : tB G M (pc + 2) ls (vI n :: st) d Q) : tB G M pc ls st d Q := fun hR => B_ldc hd hn hw (k hR)
theorem T_ldcw {n : Int} {i : Nat} (hd : decode (mC M) pc = .ok (.ldc_w i, 3)) (hn : -2147483648 ≤ n ∧ n < 2147483648) (hw : Cond.constant (mY M).cls i (Int32.ofInt n) ∈ gw) (k : tB G M (pc + 3) ls (vI n :: st) d Q) : tB G M pc ls st d Q := fun hR => B_ldcw hd hn hw (k hR)
theorem T_ldc2 {n : Int} {i : Nat} (hd : decode (mC M) pc = .ok (.ldc2_w i, 3)) (hn : -9223372036854775808 ≤ n ∧ n < 9223372036854775808) (hw : Cond.constantLong (mY M).cls i (Int64.ofInt n) ∈ gw) (k : tB G M (pc + 3) ls (vL n :: st) d Q) : tB G M pc ls st d Q := fun hR => B_ldc2 hd hn hw (k hR)
theorem T_lconst0 (hd : decode (mC M) pc = .ok (.lconst 0, 1)) (k : tB G M (pc + 1) ls (vL 0 :: st) d Q) : tB G M pc ls st d Q := fun hR => B_lconst0 hd (k hR)
theorem T_lconst1 (hd : decode (mC M) pc = .ok (.lconst 1, 1)) (k : tB G M (pc + 1) ls (vL 1 :: st) d Q) : tB G M pc ls st d Q := fun hR => B_lconst1 hd (k hR)
theorem T_null (hd : decode (mC M) pc = .ok (.aconst_null, 1)) (k : tB G M (pc + 1) ls (vR 0 :: st) d Q) : tB G M pc ls st d Q := fun hR => B_null hd (k hR)
theorem T_iload_n {k : Fin 4} {x : Int} (hd : decode (mC M) pc = .ok (.iload_n k, 1)) (h : ls[k.val]? = some (vI x)) (k : tB G M (pc + 1) ls (vI x :: st) d Q) : tB G M pc ls st d Q := fun hR => B_iload_n hd h (k hR)
theorem T_iload {i : Nat} {x : Int} (hd : decode (mC M) pc = .ok (.iload i, 2)) (h : ls[i]? = some (vI x)) (k : tB G M (pc + 2) ls (vI x :: st) d Q) : tB G M pc ls st d Q := fun hR => B_iload hd h (k hR)
theorem T_lload_n {k : Fin 4} {x : Int} (hd : decode (mC M) pc = .ok (.lload_n k, 1)) (h : ls[k.val]? = some (vL x)) (k : tB G M (pc + 1) ls (vL x :: st) d Q) : tB G M pc ls st d Q := fun hR => B_lload_n hd h (k hR)
theorem T_lload {i : Nat} {x : Int} (hd : decode (mC M) pc = .ok (.lload i, 2)) (h : ls[i]? = some (vL x)) (k : tB G M (pc + 2) ls (vL x :: st) d Q) : tB G M pc ls st d Q := fun hR => B_lload hd h (k hR)
theorem T_aload_n {k : Fin 4} {r : Nat} (hd : decode (mC M) pc = .ok (.aload_n k, 1)) (h : ls[k.val]? = some (vR r)) (k : tB G M (pc + 1) ls (vR r :: st) d Q) : tB G M pc ls st d Q := fun hR => B_aload_n hd h (k hR)
theorem T_aload {i : Nat} {r : Nat} (hd : decode (mC M) pc = .ok (.aload i, 2)) (h : ls[i]? = some (vR r)) (k : tB G M (pc + 2) ls (vR r :: st) d Q) : tB G M pc ls st d Q := fun hR => B_aload hd h (k hR)
theorem T_aload_s (hd : decode (mC M) pc = .ok (.aload_n 0, 1)) (h : ls[0]? = some (vU 1)) (k : tB G M (pc + 1) ls (vU 1 :: st) d Q) : tB G M pc ls st d Q := fun hR => B_aload_s hd h (k hR)
theorem T_pop {v : sV} (hd : decode (mC M) pc = .ok (.pop, 1)) (hv : isL v = false) (k : tB G M (pc + 1) ls st d Q) : tB G M pc ls (v :: st) d Q := fun hR => B_pop hd hv (k hR)
theorem T_dup {v : sV} (hd : decode (mC M) pc = .ok (.dup, 1)) (hv : isL v = false) (k : tB G M (pc + 1) ls (v :: v :: st) d Q) : tB G M pc ls (v :: st) d Q := fun hR => B_dup hd hv (k hR)
theorem T_dup2 {v w : sV} (hd : decode (mC M) pc = .ok (.dup2, 1)) (hv : isL v = false) (hw : isL w = false) (k : tB G M (pc + 1) ls (v :: w :: v :: w :: st) d Q) : tB G M pc ls (v :: w :: st) d Q := fun hR => B_dup2 hd hv hw (k hR)
theorem T_iadd {a b : Int} (hd : decode (mC M) pc = .ok (.iadd, 1)) (k : tB G M (pc + 1) ls (vI (w32 (a + b)) :: st) d Q) : tB G M pc ls (vI b :: vI a :: st) d Q := fun hR => B_iadd hd (k hR)
theorem T_isub {a b : Int} (hd : decode (mC M) pc = .ok (.isub, 1)) (k : tB G M (pc + 1) ls (vI (w32 (a - b)) :: st) d Q) : tB G M pc ls (vI b :: vI a :: st) d Q := fun hR => B_isub hd (k hR)
theorem T_imul {a b : Int} (hd : decode (mC M) pc = .ok (.imul, 1)) (k : tB G M (pc + 1) ls (vI (w32 (a * b)) :: st) d Q) : tB G M pc ls (vI b :: vI a :: st) d Q := fun hR => B_imul hd (k hR)
theorem T_ladd {a b : Int} (hd : decode (mC M) pc = .ok (.ladd, 1)) (k : tB G M (pc + 1) ls (vL (w64 (a + b)) :: st) d Q) : tB G M pc ls (vL b :: vL a :: st) d Q := fun hR => B_ladd hd (k hR)
theorem T_lsub {a b : Int} (hd : decode (mC M) pc = .ok (.lsub, 1)) (k : tB G M (pc + 1) ls (vL (w64 (a - b)) :: st) d Q) : tB G M pc ls (vL b :: vL a :: st) d Q := fun hR => B_lsub hd (k hR)
theorem T_lmul {a b : Int} (hd : decode (mC M) pc = .ok (.lmul, 1)) (k : tB G M (pc + 1) ls (vL (w64 (a * b)) :: st) d Q) : tB G M pc ls (vL b :: vL a :: st) d Q := fun hR => B_lmul hd (k hR)
theorem T_iand {a b : Int} (hd : decode (mC M) pc = .ok (.iand, 1)) (k : tB G M (pc + 1) ls (vI (i_and a b) :: st) d Q) : tB G M pc ls (vI b :: vI a :: st) d Q := fun hR => B_iand hd (k hR)
theorem T_ior {a b : Int} (hd : decode (mC M) pc = .ok (.ior, 1)) (k : tB G M (pc + 1) ls (vI (i_or a b) :: st) d Q) : tB G M pc ls (vI b :: vI a :: st) d Q := fun hR => B_ior hd (k hR)
theorem T_ishl {a b : Int} (hd : decode (mC M) pc = .ok (.ishl, 1)) (k : tB G M (pc + 1) ls (vI (i_shl a b) :: st) d Q) : tB G M pc ls (vI b :: vI a :: st) d Q := fun hR => B_ishl hd (k hR)
theorem T_ishr {a b : Int} (hd : decode (mC M) pc = .ok (.ishr, 1)) (k : tB G M (pc + 1) ls (vI (i_shr a b) :: st) d Q) : tB G M pc ls (vI b :: vI a :: st) d Q := fun hR => B_ishr hd (k hR)
theorem T_iushr {a b : Int} (hd : decode (mC M) pc = .ok (.iushr, 1)) (k : tB G M (pc + 1) ls (vI (i_ushr a b) :: st) d Q) : tB G M pc ls (vI b :: vI a :: st) d Q := fun hR => B_iushr hd (k hR)
theorem T_ineg {a : Int} (hd : decode (mC M) pc = .ok (.ineg, 1)) (k : tB G M (pc + 1) ls (vI (w32 (-a)) :: st) d Q) : tB G M pc ls (vI a :: st) d Q := fun hR => B_ineg hd (k hR)
theorem T_idiv {a b : Int} (hd : decode (mC M) pc = .ok (.idiv, 1)) (hne : b ≠ 0) (k : tB G M (pc + 1) ls (vI (w32 (a.tdiv b)) :: st) d Q) : tB G M pc ls (vI b :: vI a :: st) d Q := fun hR => B_idiv hd hne (k hR)
theorem T_irem {a b : Int} (hd : decode (mC M) pc = .ok (.irem, 1)) (hne : b ≠ 0) (k : tB G M (pc + 1) ls (vI (w32 (a.tmod b)) :: st) d Q) : tB G M pc ls (vI b :: vI a :: st) d Q := fun hR => B_irem hd hne (k hR)
theorem T_i2l {a : Int} (hd : decode (mC M) pc = .ok (.i2l, 1)) (k : tB G M (pc + 1) ls (vL a :: st) d Q) : tB G M pc ls (vI a :: st) d Q := fun hR => B_i2l hd (k hR)
theorem T_i2b {a : Int} (hd : decode (mC M) pc = .ok (.i2b, 1)) (k : tB G M (pc + 1) ls (vI (w8 a) :: st) d Q) : tB G M pc ls (vI a :: st) d Q := fun hR => B_i2b hd (k hR)
theorem T_lcmp {a b : Int} (hd : decode (mC M) pc = .ok (.lcmp, 1)) (k : tB G M (pc + 1) ls (vI (cmpZ a b) :: st) d Q) : tB G M pc ls (vL b :: vL a :: st) d Q := fun hR => B_lcmp hd (k hR)
theorem T_if_eq {a : Int} {off : Int} {tgt : Nat} (hd : decode (mC M) pc = .ok (.ifCond .eq off, 3)) (ht : (pc : Int) + off = (tgt : Int)) (kt : a = 0 → tB G M tgt ls st d Q) (kf : ¬ a = 0 → tB G M (pc + 3) ls st d Q) : tB G M pc ls (vI a :: st) d Q := fun hR => B_if_eq hd ht (fun q => kt q hR) (fun q => kf q hR)
theorem T_if_ne {a : Int} {off : Int} {tgt : Nat} (hd : decode (mC M) pc = .ok (.ifCond .ne off, 3)) (ht : (pc : Int) + off = (tgt : Int)) (kt : ¬ a = 0 → tB G M tgt ls st d Q) (kf : a = 0 → tB G M (pc + 3) ls st d Q) : tB G M pc ls (vI a :: st) d Q := fun hR => B_if_ne hd ht (fun q => kt q hR) (fun q => kf q hR)
theorem T_if_lt {a : Int} {off : Int} {tgt : Nat} (hd : decode (mC M) pc = .ok (.ifCond .lt off, 3)) (ht : (pc : Int) + off = (tgt : Int)) (kt : a < 0 → tB G M tgt ls st d Q) (kf : ¬ a < 0 → tB G M (pc + 3) ls st d Q) : tB G M pc ls (vI a :: st) d Q := fun hR => B_if_lt hd ht (fun q => kt q hR) (fun q => kf q hR)
theorem T_if_ge {a : Int} {off : Int} {tgt : Nat} (hd : decode (mC M) pc = .ok (.ifCond .ge off, 3)) (ht : (pc : Int) + off = (tgt : Int)) (kt : 0 ≤ a → tB G M tgt ls st d Q) (kf : ¬ 0 ≤ a → tB G M (pc + 3) ls st d Q) : tB G M pc ls (vI a :: st) d Q := fun hR => B_if_ge hd ht (fun q => kt q hR) (fun q => kf q hR)
theorem T_if_gt {a : Int} {off : Int} {tgt : Nat} (hd : decode (mC M) pc = .ok (.ifCond .gt off, 3)) (ht : (pc : Int) + off = (tgt : Int)) (kt : 0 < a → tB G M tgt ls st d Q) (kf : ¬ 0 < a → tB G M (pc + 3) ls st d Q) : tB G M pc ls (vI a :: st) d Q := fun hR => B_if_gt hd ht (fun q => kt q hR) (fun q => kf q hR)
theorem T_if_le {a : Int} {off : Int} {tgt : Nat} (hd : decode (mC M) pc = .ok (.ifCond .le off, 3)) (ht : (pc : Int) + off = (tgt : Int)) (kt : a ≤ 0 → tB G M tgt ls st d Q) (kf : ¬ a ≤ 0 → tB G M (pc + 3) ls st d Q) : tB G M pc ls (vI a :: st) d Q := fun hR => B_if_le hd ht (fun q => kt q hR) (fun q => kf q hR)
theorem T_icmp_eq {a b : Int} {off : Int} {tgt : Nat} (hd : decode (mC M) pc = .ok (.if_icmp .eq off, 3)) (ht : (pc : Int) + off = (tgt : Int)) (kt : a = b → tB G M tgt ls st d Q) (kf : ¬ a = b → tB G M (pc + 3) ls st d Q) : tB G M pc ls (vI b :: vI a :: st) d Q := fun hR => B_icmp_eq hd ht (fun q => kt q hR) (fun q => kf q hR)
theorem T_icmp_ne {a b : Int} {off : Int} {tgt : Nat} (hd : decode (mC M) pc = .ok (.if_icmp .ne off, 3)) (ht : (pc : Int) + off = (tgt : Int)) (kt : ¬ a = b → tB G M tgt ls st d Q) (kf : a = b → tB G M (pc + 3) ls st d Q) : tB G M pc ls (vI b :: vI a :: st) d Q := fun hR => B_icmp_ne hd ht (fun q => kt q hR) (fun q => kf q hR)
theorem T_icmp_lt {a b : Int} {off : Int} {tgt : Nat} (hd : decode (mC M) pc = .ok (.if_icmp .lt off, 3)) (ht : (pc : Int) + off = (tgt : Int)) (kt : a < b → tB G M tgt ls st d Q) (kf : ¬ a < b → tB G M (pc + 3) ls st d Q) : tB G M pc ls (vI b :: vI a :: st) d Q := fun hR => B_icmp_lt hd ht (fun q => kt q hR) (fun q => kf q hR)
theorem T_icmp_ge {a b : Int} {off : Int} {tgt : Nat} (hd : decode (mC M) pc = .ok (.if_icmp .ge off, 3)) (ht : (pc : Int) + off = (tgt : Int)) (kt : b ≤ a → tB G M tgt ls st d Q) (kf : ¬ b ≤ a → tB G M (pc + 3) ls st d Q) : tB G M pc ls (vI b :: vI a :: st) d Q := fun hR => B_icmp_ge hd ht (fun q => kt q hR) (fun q => kf q hR)
theorem T_icmp_gt {a b : Int} {off : Int} {tgt : Nat} (hd : decode (mC M) pc = .ok (.if_icmp .gt off, 3)) (ht : (pc : Int) + off = (tgt : Int)) (kt : b < a → tB G M tgt ls st d Q) (kf : ¬ b < a → tB G M (pc + 3) ls st d Q) : tB G M pc ls (vI b :: vI a :: st) d Q := fun hR => B_icmp_gt hd ht (fun q => kt q hR) (fun q => kf q hR)
theorem T_icmp_le {a b : Int} {off : Int} {tgt : Nat} (hd : decode (mC M) pc = .ok (.if_icmp .le off, 3)) (ht : (pc : Int) + off = (tgt : Int)) (kt : a ≤ b → tB G M tgt ls st d Q) (kf : ¬ a ≤ b → tB G M (pc + 3) ls st d Q) : tB G M pc ls (vI b :: vI a :: st) d Q := fun hR => B_icmp_le hd ht (fun q => kt q hR) (fun q => kf q hR)
theorem T_goto {off : Int} {tgt : Nat} (hd : decode (mC M) pc = .ok (.goto off, 3)) (ht : (pc : Int) + off = (tgt : Int)) (k : tB G M tgt ls st d Q) : tB G M pc ls st d Q := fun hR => B_goto hd ht (k hR)
theorem T_ifnull {r : Nat} {off : Int} {tgt : Nat} (hd : decode (mC M) pc = .ok (.ifnull off, 3)) (ht : (pc : Int) + off = (tgt : Int)) (kt : r = 0 → tB G M tgt ls st d Q) (kf : ¬ r = 0 → tB G M (pc + 3) ls st d Q) : tB G M pc ls (vR r :: st) d Q := fun hR => B_ifnull hd ht (fun q => kt q hR) (fun q => kf q hR)
theorem T_ifnonnull {r : Nat} {off : Int} {tgt : Nat} (hd : decode (mC M) pc = .ok (.ifnonnull off, 3)) (ht : (pc : Int) + off = (tgt : Int)) (kt : ¬ r = 0 → tB G M tgt ls st d Q) (kf : r = 0 → tB G M (pc + 3) ls st d Q) : tB G M pc ls (vR r :: st) d Q := fun hR => B_ifnonnull hd ht (fun q => kt q hR) (fun q => kf q hR)
theorem T_tabIn {dflt lo hi : Int} {offs : Array Int} {len : Nat} {x : Int} {off : Int} {tgt : Nat} (hd : decode (mC M) pc = .ok (.tableswitch dflt lo hi offs, len)) (h1 : lo ≤ x) (h2 : x ≤ hi) (ho : offs[(x - lo).toNat]? = some off) (ht : (pc : Int) + off = (tgt : Int)) (k : tB G M tgt ls st d Q) : tB G M pc ls (vI x :: st) d Q := fun hR => B_tabIn hd h1 h2 ho ht (k hR)
theorem T_tabOut {dflt lo hi : Int} {offs : Array Int} {len : Nat} {x : Int} {tgt : Nat} (hd : decode (mC M) pc = .ok (.tableswitch dflt lo hi offs, len)) (h : x < lo ∨ hi < x) (ht : (pc : Int) + dflt = (tgt : Int)) (k : tB G M tgt ls st d Q) : tB G M pc ls (vI x :: st) d Q := fun hR => B_tabOut hd h ht (k hR)
theorem T_ist_n {k : Fin 4} {x : Int} (hd : decode (mC M) pc = .ok (.istore_n k, 1)) (hn : k.val < mL M) (hl : ls.any isL = false) (kk : tB G M (pc + 1) (ls.set k.val (vI x)) st d Q) : tB G M pc ls (vI x :: st) d Q := fun hR => B_istore_n hd hn (by rw [sto_set _ _ _ hl]; exact kk hR)
theorem T_ist {i : Nat} {x : Int} (hd : decode (mC M) pc = .ok (.istore i, 2)) (hn : i < mL M) (hl : ls.any isL = false) (kk : tB G M (pc + 2) (ls.set i (vI x)) st d Q) : tB G M pc ls (vI x :: st) d Q := fun hR => B_istore hd hn (by rw [sto_set _ _ _ hl]; exact kk hR)
theorem T_ast_n {k : Fin 4} {r : Nat} (hd : decode (mC M) pc = .ok (.astore_n k, 1)) (hn : k.val < mL M) (hl : ls.any isL = false) (kk : tB G M (pc + 1) (ls.set k.val (vR r)) st d Q) : tB G M pc ls (vR r :: st) d Q := fun hR => B_astore_n hd hn (by rw [sto_set _ _ _ hl]; exact kk hR)
theorem T_ast {i : Nat} {r : Nat} (hd : decode (mC M) pc = .ok (.astore i, 2)) (hn : i < mL M) (hl : ls.any isL = false) (kk : tB G M (pc + 2) (ls.set i (vR r)) st d Q) : tB G M pc ls (vR r :: st) d Q := fun hR => B_astore hd hn (by rw [sto_set _ _ _ hl]; exact kk hR)
theorem T_inc {i : Nat} {n x : Int} (hd : decode (mC M) pc = .ok (.iinc i n, 3)) (h : ls[i]? = some (vI x)) (hn : i < mL M) (hl : ls.any isL = false) (hr : -2147483648 ≤ x + n ∧ x + n < 2147483648) (kk : tB G M (pc + 3) (ls.set i (vI (x + n))) st d Q) : tB G M pc ls st d Q := fun hR => B_iinc hd h hn (by rw [sto_set _ _ _ hl, w32_id hr.1 hr.2]; exact kk hR)
theorem T_istL_n {k : Fin 4} {x : Int} (hd : decode (mC M) pc = .ok (.istore_n k, 1)) (hn : k.val < mL M) (kk : tB G M (pc + 1) (sto ls k.val (vI x)) st d Q) : tB G M pc ls (vI x :: st) d Q := fun hR => B_istore_n hd hn (kk hR)
theorem T_lst_n {k : Fin 4} {x : Int} (hd : decode (mC M) pc = .ok (.lstore_n k, 1)) (hn : k.val + 1 < mL M) (kk : tB G M (pc + 1) (stoL ls k.val x) st d Q) : tB G M pc ls (vL x :: st) d Q := fun hR => B_lstore_n hd hn (kk hR)
theorem T_return (hd : decode (mC M) pc = .ok (.return_, 1)) (hr : mR M = none) (hq : Q none d) : tB G M pc ls [] d Q := fun hR => B_return hd hr ⟨rfl, hR, hq⟩
theorem T_ireturn {x : Int} (hd : decode (mC M) pc = .ok (.ireturn, 1)) (hr : mR M = some .int) (hq : Q (some (vI x)) d) : tB G M pc ls [vI x] d Q := fun hR => B_ireturn hd hr ⟨rfl, hR, hq⟩
theorem T_zreturn {x : Int} (hd : decode (mC M) pc = .ok (.ireturn, 1)) (hr : mR M = some .boolean) (hx : x = 0 ∨ x = 1) (hq : Q (some (vI x)) d) : tB G M pc ls [vI x] d Q := fun hR => B_zreturn hd hr hx ⟨rfl, hR, hq⟩
theorem T_lreturn {x : Int} (hd : decode (mC M) pc = .ok (.lreturn, 1)) (hr : mR M = some .long) (hq : Q (some (vL x)) d) : tB G M pc ls [vL x] d Q := fun hR => B_lreturn hd hr ⟨rfl, hR, hq⟩
theorem T_areturn {x : Nat} {C : String} (hd : decode (mC M) pc = .ok (.areturn, 1)) (hr : mR M = some (.object C)) (hq : Q (some (vR x)) d) : tB G M pc ls [vR x] d Q := fun hR => B_areturn hd hr ⟨rfl, hR, hq⟩
theorem T_add {a b : Int} (hd : decode (mC M) pc = .ok (.iadd, 1)) (hr : -2147483648 ≤ a + b ∧ a + b < 2147483648) (k : tB G M (pc + 1) ls (vI (a + b) :: st) d Q) : tB G M pc ls (vI b :: vI a :: st) d Q := T_iadd hd (by rw [w32_id hr.1 hr.2]; exact k)
theorem T_sub {a b : Int} (hd : decode (mC M) pc = .ok (.isub, 1)) (hr : -2147483648 ≤ a - b ∧ a - b < 2147483648) (k : tB G M (pc + 1) ls (vI (a - b) :: st) d Q) : tB G M pc ls (vI b :: vI a :: st) d Q := T_isub hd (by rw [w32_id hr.1 hr.2]; exact k)
theorem T_mul {a b : Int} (hd : decode (mC M) pc = .ok (.imul, 1)) (hr : -2147483648 ≤ a * b ∧ a * b < 2147483648) (k : tB G M (pc + 1) ls (vI (a * b) :: st) d Q) : tB G M pc ls (vI b :: vI a :: st) d Q := T_imul hd (by rw [w32_id hr.1 hr.2]; exact k)
theorem T_div {a b : Int} (hd : decode (mC M) pc = .ok (.idiv, 1)) (h0 : 0 < b) (h1 : 0 ≤ a) (k : tB G M (pc + 1) ls (vI (a / b) :: st) d Q) : tB G M pc ls (vI b :: vI a :: st) d Q := tB.rgs (fun hs => T_idiv hd (by omega) (by
  have h2 := (ok_hd (ok_tl hs)).2
  have e : a.tdiv b = a / b := Int.tdiv_eq_ediv_of_nonneg h1
  have h3 : a / b ≤ a := Int.ediv_le_self b h1
  have h4 : 0 ≤ a / b := Int.ediv_nonneg h1 (by omega)
  rw [e, w32_id (by omega) (by omega)]; exact k))
theorem T_rem {a b : Int} (hd : decode (mC M) pc = .ok (.irem, 1)) (h0 : 0 < b) (h1 : 0 ≤ a) (k : tB G M (pc + 1) ls (vI (a % b) :: st) d Q) : tB G M pc ls (vI b :: vI a :: st) d Q := tB.rgs (fun hs => T_irem hd (by omega) (by
  have h2 := (ok_hd hs).2
  have e : a.tmod b = a % b := Int.tmod_eq_emod_of_nonneg h1
  have h3 : a % b < b := Int.emod_lt_of_pos a h0
  have h4 : 0 ≤ a % b := Int.emod_nonneg a (by omega)
  rw [e, w32_id (by omega) (by omega)]; exact k))
theorem T_getI {k j idx a : Nat} {fin : Bool} (hd : decode (mC M) pc = .ok (.getfield idx, 3)) (hf : Fld (mY M).cls idx k j fin) (ht : (sft k j == 0 || sft k j == 4) = true) (hk : kn S0 a = k) (kk : tB G M (pc + 3) ls (vI (d a j) :: st) d Q) : tB G M pc ls (vR a :: st) d Q := fun hR => B_getI hd hf ht hk (kk hR)
theorem Fld_13 {own : String} {idx k j : Nat} {fin : Bool} (hf : Fld own idx k j fin) : k < 13 := by
  obtain ⟨q, hq, -⟩ := hf
  exact (cl_ok hq).2.2.2.2.2
theorem T_getR {k j idx a r : Nat} {fin : Bool} (hd : decode (mC M) pc = .ok (.getfield idx, 3)) (hf : Fld (mY M).cls idx k j fin) (ht : sft k j = 2) (hk : kn S0 a = k) (hr : rf0 a j = r) (kk : tB G M (pc + 3) ls (vR r :: st) d Q) : tB G M pc ls (vR a :: st) d Q := fun hR => B_getR hd hf ht hk (by
  have h13 := Fld_13 hf
  rw [← hr]
  exact hR a j (by omega) (by rw [hk, slT, if_pos h13]; exact ht)) (kk hR)
theorem T_putI {k j idx a : Nat} {x : Int} (hd : decode (mC M) pc = .ok (.putfield idx, 3)) (hf : Fld (mY M).cls idx k j false) (ht : sft k j = 0) (hk : kn S0 a = k) (kk : tB G M (pc + 3) ls st (up d a j x) Q) : tB G M pc ls (vI x :: vR a :: st) d Q := fun hR => B_putI hd hf ht hk (kk (RO_up hR (by have h13 := Fld_13 hf; rw [hk, slT, if_pos h13, ht]; decide)))
theorem T_putZ {k j idx a : Nat} {x : Int} (hd : decode (mC M) pc = .ok (.putfield idx, 3)) (hf : Fld (mY M).cls idx k j false) (ht : sft k j = 4) (hx : x = 0 ∨ x = 1) (hk : kn S0 a = k) (kk : tB G M (pc + 3) ls st (up d a j x) Q) : tB G M pc ls (vI x :: vR a :: st) d Q := fun hR => B_putZ hd hf ht hx hk (kk (RO_up hR (by have h13 := Fld_13 hf; rw [hk, slT, if_pos h13, ht]; decide)))
theorem T_iald {a n j : Nat} {i : Int} (hd : decode (mC M) pc = .ok (.iaload, 1)) (hk : kn S0 a = 13) (hn : ln S0 a = n) (h : 0 ≤ i ∧ i < n) (hj : i.toNat = j) (kk : tB G M (pc + 1) ls (vI (d a j) :: st) d Q) : tB G M pc ls (vI i :: vR a :: st) d Q := fun hR => B_iald hd hk h.1 (by rw [hn]; exact h.2) (by rw [hj]; exact kk hR)
theorem T_bald {a n j : Nat} {i : Int} (hd : decode (mC M) pc = .ok (.baload, 1)) (hk : kn S0 a = 14) (hn : ln S0 a = n) (h : 0 ≤ i ∧ i < n) (hj : i.toNat = j) (kk : tB G M (pc + 1) ls (vI (d a j) :: st) d Q) : tB G M pc ls (vI i :: vR a :: st) d Q := fun hR => B_bald hd hk h.1 (by rw [hn]; exact h.2) (by rw [hj]; exact kk hR)
theorem T_zald {a n j : Nat} {i : Int} (hd : decode (mC M) pc = .ok (.baload, 1)) (hk : kn S0 a = 15) (hn : ln S0 a = n) (h : 0 ≤ i ∧ i < n) (hj : i.toNat = j) (kk : tB G M (pc + 1) ls (vI (d a j) :: st) d Q) : tB G M pc ls (vI i :: vR a :: st) d Q := fun hR => B_zald hd hk h.1 (by rw [hn]; exact h.2) (by rw [hj]; exact kk hR)
theorem T_lald {a n j : Nat} {i : Int} (hd : decode (mC M) pc = .ok (.laload, 1)) (hk : kn S0 a = 16) (hn : ln S0 a = n) (h : 0 ≤ i ∧ i < n) (hj : i.toNat = j) (kk : tB G M (pc + 1) ls (vL (d a j) :: st) d Q) : tB G M pc ls (vI i :: vR a :: st) d Q := fun hR => B_lald hd hk h.1 (by rw [hn]; exact h.2) (by rw [hj]; exact kk hR)
theorem T_aald {a n k r : Nat} {i : Int} (hd : decode (mC M) pc = .ok (.aaload, 1)) (hk : kn S0 a = k) (hk2 : 17 ≤ k ∧ k < 24) (hn : ln S0 a = n) (h : 0 ≤ i ∧ i < n) (hr : rf0 a i.toNat = r) (kk : tB G M (pc + 1) ls (vR r :: st) d Q) : tB G M pc ls (vI i :: vR a :: st) d Q := fun hR => B_aald hd hk hk2.1 hk2.2 h.1 (by rw [hn]; exact h.2) (by
  rw [← hr]
  exact hR a i.toNat (by omega) (by rw [hk, slT, if_neg (by omega)]; exact sat_ref hk2.1)) (kk hR)
theorem T_alen {a n k : Nat} (hd : decode (mC M) pc = .ok (.arraylength, 1)) (hk : kn S0 a = k) (hk2 : 13 ≤ k ∧ k < 24) (hn : ln S0 a = n) (hn2 : n < 2147483648) (kk : tB G M (pc + 1) ls (vI (n : Int) :: st) d Q) : tB G M pc ls (vR a :: st) d Q := fun hR => B_alen hd hk hk2.1 hk2.2 (by omega) (by rw [hn]; exact kk hR)
theorem T_iast {a n j : Nat} {i x : Int} (hd : decode (mC M) pc = .ok (.iastore, 1)) (hk : kn S0 a = 13) (hn : ln S0 a = n) (h : 0 ≤ i ∧ i < n) (hj : i.toNat = j) (kk : tB G M (pc + 1) ls st (up d a j x) Q) : tB G M pc ls (vI x :: vI i :: vR a :: st) d Q := fun hR => B_iast hd hk h.1 (by rw [hn]; exact h.2) ((by rw [hj]; exact kk : tB G M (pc + 1) ls st (up d a i.toNat x) Q) (RO_up hR (by rw [hk, slT, if_neg (by decide)]; decide)))
theorem T_bast {a n j : Nat} {i x : Int} (hd : decode (mC M) pc = .ok (.bastore, 1)) (hk : kn S0 a = 14) (hn : ln S0 a = n) (h : 0 ≤ i ∧ i < n) (hj : i.toNat = j) (kk : tB G M (pc + 1) ls st (up d a j (w8 x)) Q) : tB G M pc ls (vI x :: vI i :: vR a :: st) d Q := fun hR => B_bast hd hk h.1 (by rw [hn]; exact h.2) ((by rw [hj]; exact kk : tB G M (pc + 1) ls st (up d a i.toNat (w8 x)) Q) (RO_up hR (by rw [hk, slT, if_neg (by decide)]; decide)))
theorem T_zast {a n j : Nat} {i x : Int} (hd : decode (mC M) pc = .ok (.bastore, 1)) (hk : kn S0 a = 15) (hn : ln S0 a = n) (h : 0 ≤ i ∧ i < n) (hj : i.toNat = j) (hx : x = 0 ∨ x = 1) (kk : tB G M (pc + 1) ls st (up d a j x) Q) : tB G M pc ls (vI x :: vI i :: vR a :: st) d Q := fun hR => B_zast hd hk h.1 (by rw [hn]; exact h.2) hx ((by rw [hj]; exact kk : tB G M (pc + 1) ls st (up d a i.toNat x) Q) (RO_up hR (by rw [hk, slT, if_neg (by decide)]; decide)))
theorem T_last {a n j : Nat} {i x : Int} (hd : decode (mC M) pc = .ok (.lastore, 1)) (hk : kn S0 a = 16) (hn : ln S0 a = n) (h : 0 ≤ i ∧ i < n) (hj : i.toNat = j) (kk : tB G M (pc + 1) ls st (up d a j x) Q) : tB G M pc ls (vL x :: vI i :: vR a :: st) d Q := fun hR => B_last hd hk h.1 (by rw [hn]; exact h.2) ((by rw [hj]; exact kk : tB G M (pc + 1) ls st (up d a i.toNat x) Q) (RO_up hR (by rw [hk, slT, if_neg (by decide)]; decide)))
theorem T_callV {M' : sM} {idx n k a : Nat} {As rest : List sV} {Q' : Option sV → sD → Prop} (hd : decode (mC M) pc = .ok (.invokevirtual idx, 3)) (hk : LkV (mY M).cls idx M' n k) (hst : st = As.reverse ++ vR a :: rest) (hn : As.length = n) (hka : kn S0 a = k) (hrm : mF M' + 1 ≤ mF M ∧ 8 + (mL M' + 11) + mO M' ≤ mO M) (hrest : rest.length ≤ 4) (hlen : (entl (vR a :: As)).length ≤ mL M')
    (hB : tB G M' 0 (ent (mL M') (vR a :: As)) [] d Q') (kk : ∀ r d', Q' r d' → tB G M (pc + 3) ls (r.toList ++ rest) d' Q) : tB G M pc ls st d Q := fun hR => B_callV (kc' := 0) (ks' := 0) (kc := 0) (ks := 0) hd hk hst hn hka hrm hrest hlen (hB hR) (fun r S' d' q => by obtain ⟨rfl, hR', q⟩ := q; exact kk r d' q hR')
theorem T_callS {M' : sM} {idx n : Nat} {As rest : List sV} {Q' : Option sV → sD → Prop} (hd : decode (mC M) pc = .ok (.invokestatic idx, 3)) (hk : LkS (mY M).cls idx M' n) (hst : st = As.reverse ++ rest) (hn : As.length = n) (hrm : mF M' + 1 ≤ mF M ∧ 8 + (mL M' + 11) + mO M' ≤ mO M) (hrest : rest.length ≤ 4) (hlen : (entl As).length ≤ mL M')
    (hB : tB G M' 0 (ent (mL M') As) [] d Q') (kk : ∀ r d', Q' r d' → tB G M (pc + 3) ls (r.toList ++ rest) d' Q) : tB G M pc ls st d Q := fun hR => B_callS (kc' := 0) (ks' := 0) (kc := 0) (ks := 0) hd hk hst hn hrm hrest hlen (hB hR) (fun r S' d' q => by obtain ⟨rfl, hR', q⟩ := q; exact kk r d' q hR')
theorem T_max {x y : Int} {idx : Nat} (hd : decode (mC M) pc = .ok (.invokestatic idx, 3)) (hw : Cond.methodLink (mY M).cls idx Lib.Math.max.name ∈ gw) (hrm : 1 ≤ mF M ∧ 21 ≤ mO M) (hrest : st.length ≤ 4) (kk : tB G M (pc + 3) ls (vI (max x y) :: st) d Q) : tB G M pc ls (vI y :: vI x :: st) d Q := fun hR => B_max hd hw hrm hrest (kk hR)
theorem T_min {x y : Int} {idx : Nat} (hd : decode (mC M) pc = .ok (.invokestatic idx, 3)) (hw : Cond.methodLink (mY M).cls idx Lib.Math.min.name ∈ gw) (hrm : 1 ≤ mF M ∧ 21 ≤ mO M) (hrest : st.length ≤ 4) (kk : tB G M (pc + 3) ls (vI (min x y) :: st) d Q) : tB G M pc ls (vI y :: vI x :: st) d Q := fun hR => B_min hd hw hrm hrest (kk hR)
theorem T_copy {a b k na nb idx : Nat} {sp dp n : Int} (hd : decode (mC M) pc = .ok (.invokestatic idx, 3)) (hw : Cond.methodLink (mY M).cls idx arraycopyName ∈ gw) (hrm : 1 ≤ mF M ∧ 60 ≤ mO M) (hrest : st.length ≤ 4) (hk : k = 13 ∨ k = 14) (ha : kn S0 a = k) (hb : kn S0 b = k) (hna : ln S0 a = na) (hnb : ln S0 b = nb) (h : 0 ≤ sp ∧ 0 ≤ dp ∧ 0 ≤ n ∧ sp + n ≤ na ∧ dp + n ≤ nb)
    (kk : tB G M (pc + 3) ls st (cpyD d a b sp.toNat dp.toNat n.toNat) Q) : tB G M pc ls (vI n :: vI dp :: vR b :: vI sp :: vR a :: st) d Q := fun hR => B_copy hd hw hrm hrest hk ha hb h.1 h.2.1 h.2.2.1 (by rw [hna]; exact h.2.2.2.1) (by rw [hnb]; exact h.2.2.2.2) (kk (fun c j hc hj => by
  unfold cpyD upA
  by_cases e : c = b
  · subst e
    rw [hb, slT, if_neg (by omega)] at hj
    rcases hk with rfl | rfl <;> exact absurd hj (by decide)
  · rw [if_neg e]; exact hR c j hc hj))
end TB
theorem k1 : kn S0 1 = 11 := by decide +kernel
theorem k2 : kn S0 2 = 8 := by decide +kernel
theorem k3 : kn S0 3 = 14 := by decide +kernel
theorem l3 : ln S0 3 = 600 := by decide +kernel
theorem k4 : kn S0 4 = 13 := by decide +kernel
theorem l4 : ln S0 4 = 4 := by decide +kernel
theorem k5 : kn S0 5 = 17 := by decide +kernel
theorem l5 : ln S0 5 = 2 := by decide +kernel
theorem k6 : kn S0 6 = 18 := by decide +kernel
theorem l6 : ln S0 6 = 2 := by decide +kernel
theorem k7 : kn S0 7 = 19 := by decide +kernel
theorem l7 : ln S0 7 = 2 := by decide +kernel
theorem k8 : kn S0 8 = 20 := by decide +kernel
theorem l8 : ln S0 8 = 2 := by decide +kernel
theorem k9 : kn S0 9 = 10 := by decide +kernel
theorem k10 : kn S0 10 = 13 := by decide +kernel
theorem l10 : ln S0 10 = 4 := by decide +kernel
theorem k11 : kn S0 11 = 13 := by decide +kernel
theorem l11 : ln S0 11 = 2 := by decide +kernel
theorem k12 : kn S0 12 = 13 := by decide +kernel
theorem l12 : ln S0 12 = 2 := by decide +kernel
theorem k13 : kn S0 13 = 13 := by decide +kernel
theorem l13 : ln S0 13 = 2 := by decide +kernel
theorem k14 : kn S0 14 = 13 := by decide +kernel
theorem l14 : ln S0 14 = 2 := by decide +kernel
theorem k15 : kn S0 15 = 13 := by decide +kernel
theorem l15 : ln S0 15 = 2 := by decide +kernel
theorem k16 : kn S0 16 = 13 := by decide +kernel
theorem l16 : ln S0 16 = 12 := by decide +kernel
theorem k17 : kn S0 17 = 13 := by decide +kernel
theorem l17 : ln S0 17 = 12 := by decide +kernel
theorem k18 : kn S0 18 = 13 := by decide +kernel
theorem l18 : ln S0 18 = 48 := by decide +kernel
theorem k19 : kn S0 19 = 6 := by decide +kernel
theorem k20 : kn S0 20 = 13 := by decide +kernel
theorem l20 : ln S0 20 = 2 := by decide +kernel
theorem k21 : kn S0 21 = 13 := by decide +kernel
theorem l21 : ln S0 21 = 24 := by decide +kernel
theorem k22 : kn S0 22 = 4 := by decide +kernel
theorem k23 : kn S0 23 = 13 := by decide +kernel
theorem l23 : ln S0 23 = 2 := by decide +kernel
theorem k24 : kn S0 24 = 13 := by decide +kernel
theorem l24 : ln S0 24 = 12 := by decide +kernel
theorem k25 : kn S0 25 = 9 := by decide +kernel
theorem k26 : kn S0 26 = 13 := by decide +kernel
theorem l26 : ln S0 26 = 8 := by decide +kernel
theorem k27 : kn S0 27 = 13 := by decide +kernel
theorem l27 : ln S0 27 = 8 := by decide +kernel
theorem k28 : kn S0 28 = 13 := by decide +kernel
theorem l28 : ln S0 28 = 8 := by decide +kernel
theorem k29 : kn S0 29 = 13 := by decide +kernel
theorem l29 : ln S0 29 = 8 := by decide +kernel
theorem k30 : kn S0 30 = 10 := by decide +kernel
theorem k31 : kn S0 31 = 13 := by decide +kernel
theorem l31 : ln S0 31 = 4 := by decide +kernel
theorem k32 : kn S0 32 = 13 := by decide +kernel
theorem l32 : ln S0 32 = 2 := by decide +kernel
theorem k33 : kn S0 33 = 13 := by decide +kernel
theorem l33 : ln S0 33 = 2 := by decide +kernel
theorem k34 : kn S0 34 = 13 := by decide +kernel
theorem l34 : ln S0 34 = 2 := by decide +kernel
theorem k35 : kn S0 35 = 13 := by decide +kernel
theorem l35 : ln S0 35 = 2 := by decide +kernel
theorem k36 : kn S0 36 = 13 := by decide +kernel
theorem l36 : ln S0 36 = 2 := by decide +kernel
theorem k37 : kn S0 37 = 13 := by decide +kernel
theorem l37 : ln S0 37 = 12 := by decide +kernel
theorem k38 : kn S0 38 = 13 := by decide +kernel
theorem l38 : ln S0 38 = 12 := by decide +kernel
theorem k39 : kn S0 39 = 13 := by decide +kernel
theorem l39 : ln S0 39 = 48 := by decide +kernel
theorem k40 : kn S0 40 = 6 := by decide +kernel
theorem k41 : kn S0 41 = 13 := by decide +kernel
theorem l41 : ln S0 41 = 2 := by decide +kernel
theorem k42 : kn S0 42 = 13 := by decide +kernel
theorem l42 : ln S0 42 = 24 := by decide +kernel
theorem k43 : kn S0 43 = 4 := by decide +kernel
theorem k44 : kn S0 44 = 13 := by decide +kernel
theorem l44 : ln S0 44 = 2 := by decide +kernel
theorem k45 : kn S0 45 = 13 := by decide +kernel
theorem l45 : ln S0 45 = 12 := by decide +kernel
theorem k46 : kn S0 46 = 9 := by decide +kernel
theorem k47 : kn S0 47 = 13 := by decide +kernel
theorem l47 : ln S0 47 = 8 := by decide +kernel
theorem k48 : kn S0 48 = 13 := by decide +kernel
theorem l48 : ln S0 48 = 8 := by decide +kernel
theorem k49 : kn S0 49 = 13 := by decide +kernel
theorem l49 : ln S0 49 = 8 := by decide +kernel
theorem k50 : kn S0 50 = 13 := by decide +kernel
theorem l50 : ln S0 50 = 8 := by decide +kernel
theorem k51 : kn S0 51 = 21 := by decide +kernel
theorem l51 : ln S0 51 = 3 := by decide +kernel
theorem k52 : kn S0 52 = 15 := by decide +kernel
theorem l52 : ln S0 52 = 3 := by decide +kernel
theorem k53 : kn S0 53 = 5 := by decide +kernel
theorem k54 : kn S0 54 = 10 := by decide +kernel
theorem k55 : kn S0 55 = 13 := by decide +kernel
theorem l55 : ln S0 55 = 4 := by decide +kernel
theorem k56 : kn S0 56 = 13 := by decide +kernel
theorem l56 : ln S0 56 = 2 := by decide +kernel
theorem k57 : kn S0 57 = 13 := by decide +kernel
theorem l57 : ln S0 57 = 2 := by decide +kernel
theorem k58 : kn S0 58 = 13 := by decide +kernel
theorem l58 : ln S0 58 = 2 := by decide +kernel
theorem k59 : kn S0 59 = 13 := by decide +kernel
theorem l59 : ln S0 59 = 2 := by decide +kernel
theorem k60 : kn S0 60 = 13 := by decide +kernel
theorem l60 : ln S0 60 = 2 := by decide +kernel
theorem k61 : kn S0 61 = 13 := by decide +kernel
theorem l61 : ln S0 61 = 12 := by decide +kernel
theorem k62 : kn S0 62 = 13 := by decide +kernel
theorem l62 : ln S0 62 = 12 := by decide +kernel
theorem k63 : kn S0 63 = 13 := by decide +kernel
theorem l63 : ln S0 63 = 48 := by decide +kernel
theorem k64 : kn S0 64 = 6 := by decide +kernel
theorem k65 : kn S0 65 = 13 := by decide +kernel
theorem l65 : ln S0 65 = 2 := by decide +kernel
theorem k66 : kn S0 66 = 13 := by decide +kernel
theorem l66 : ln S0 66 = 24 := by decide +kernel
theorem k67 : kn S0 67 = 4 := by decide +kernel
theorem k68 : kn S0 68 = 13 := by decide +kernel
theorem l68 : ln S0 68 = 2 := by decide +kernel
theorem k69 : kn S0 69 = 13 := by decide +kernel
theorem l69 : ln S0 69 = 12 := by decide +kernel
theorem k70 : kn S0 70 = 9 := by decide +kernel
theorem k71 : kn S0 71 = 13 := by decide +kernel
theorem l71 : ln S0 71 = 8 := by decide +kernel
theorem k72 : kn S0 72 = 13 := by decide +kernel
theorem l72 : ln S0 72 = 8 := by decide +kernel
theorem k73 : kn S0 73 = 13 := by decide +kernel
theorem l73 : ln S0 73 = 8 := by decide +kernel
theorem k74 : kn S0 74 = 13 := by decide +kernel
theorem l74 : ln S0 74 = 8 := by decide +kernel
theorem k75 : kn S0 75 = 13 := by decide +kernel
theorem l75 : ln S0 75 = 601 := by decide +kernel
theorem k76 : kn S0 76 = 13 := by decide +kernel
theorem l76 : ln S0 76 = 601 := by decide +kernel
theorem k77 : kn S0 77 = 13 := by decide +kernel
theorem l77 : ln S0 77 = 601 := by decide +kernel
theorem k78 : kn S0 78 = 6 := by decide +kernel
theorem k79 : kn S0 79 = 13 := by decide +kernel
theorem l79 : ln S0 79 = 2 := by decide +kernel
theorem k80 : kn S0 80 = 13 := by decide +kernel
theorem l80 : ln S0 80 = 24 := by decide +kernel
theorem k81 : kn S0 81 = 1 := by decide +kernel
theorem k82 : kn S0 82 = 13 := by decide +kernel
theorem l82 : ln S0 82 = 24 := by decide +kernel
theorem k83 : kn S0 83 = 13 := by decide +kernel
theorem l83 : ln S0 83 = 24 := by decide +kernel
theorem k84 : kn S0 84 = 13 := by decide +kernel
theorem l84 : ln S0 84 = 24 := by decide +kernel
theorem k85 : kn S0 85 = 13 := by decide +kernel
theorem l85 : ln S0 85 = 24 := by decide +kernel
theorem k86 : kn S0 86 = 15 := by decide +kernel
theorem l86 : ln S0 86 = 24 := by decide +kernel
theorem k87 : kn S0 87 = 22 := by decide +kernel
theorem l87 : ln S0 87 = 2 := by decide +kernel
theorem k88 : kn S0 88 = 3 := by decide +kernel
theorem k89 : kn S0 89 = 13 := by decide +kernel
theorem l89 : ln S0 89 = 25 := by decide +kernel
theorem k90 : kn S0 90 = 13 := by decide +kernel
theorem l90 : ln S0 90 = 25 := by decide +kernel
theorem k91 : kn S0 91 = 7 := by decide +kernel
theorem k92 : kn S0 92 = 23 := by decide +kernel
theorem l92 : ln S0 92 = 8 := by decide +kernel
theorem k93 : kn S0 93 = 13 := by decide +kernel
theorem l93 : ln S0 93 = 60 := by decide +kernel
theorem k94 : kn S0 94 = 13 := by decide +kernel
theorem l94 : ln S0 94 = 60 := by decide +kernel
theorem k95 : kn S0 95 = 13 := by decide +kernel
theorem l95 : ln S0 95 = 60 := by decide +kernel
theorem k96 : kn S0 96 = 13 := by decide +kernel
theorem l96 : ln S0 96 = 60 := by decide +kernel
theorem k97 : kn S0 97 = 13 := by decide +kernel
theorem l97 : ln S0 97 = 60 := by decide +kernel
theorem k98 : kn S0 98 = 13 := by decide +kernel
theorem l98 : ln S0 98 = 60 := by decide +kernel
theorem k99 : kn S0 99 = 13 := by decide +kernel
theorem l99 : ln S0 99 = 60 := by decide +kernel
theorem k100 : kn S0 100 = 13 := by decide +kernel
theorem l100 : ln S0 100 = 60 := by decide +kernel
theorem k101 : kn S0 101 = 13 := by decide +kernel
theorem l101 : ln S0 101 = 8 := by decide +kernel
theorem k102 : kn S0 102 = 0 := by decide +kernel
theorem k103 : kn S0 103 = 16 := by decide +kernel
theorem l103 : ln S0 103 = 25 := by decide +kernel
theorem k104 : kn S0 104 = 13 := by decide +kernel
theorem l104 : ln S0 104 = 25 := by decide +kernel
theorem k105 : kn S0 105 = 23 := by decide +kernel
theorem l105 : ln S0 105 = 2 := by decide +kernel
theorem k106 : kn S0 106 = 13 := by decide +kernel
theorem l106 : ln S0 106 = 60 := by decide +kernel
theorem k107 : kn S0 107 = 13 := by decide +kernel
theorem l107 : ln S0 107 = 60 := by decide +kernel
theorem k108 : kn S0 108 = 13 := by decide +kernel
theorem l108 : ln S0 108 = 2 := by decide +kernel
theorem k109 : kn S0 109 = 13 := by decide +kernel
theorem l109 : ln S0 109 = 61 := by decide +kernel
theorem k110 : kn S0 110 = 13 := by decide +kernel
theorem l110 : ln S0 110 = 24 := by decide +kernel
theorem k111 : kn S0 111 = 13 := by decide +kernel
theorem l111 : ln S0 111 = 10 := by decide +kernel
theorem k112 : kn S0 112 = 8 := by decide +kernel
theorem k113 : kn S0 113 = 14 := by decide +kernel
theorem l113 : ln S0 113 = 600 := by decide +kernel
theorem k114 : kn S0 114 = 13 := by decide +kernel
theorem l114 : ln S0 114 = 4 := by decide +kernel
theorem k115 : kn S0 115 = 17 := by decide +kernel
theorem l115 : ln S0 115 = 2 := by decide +kernel
theorem k116 : kn S0 116 = 18 := by decide +kernel
theorem l116 : ln S0 116 = 2 := by decide +kernel
theorem k117 : kn S0 117 = 19 := by decide +kernel
theorem l117 : ln S0 117 = 2 := by decide +kernel
theorem k118 : kn S0 118 = 20 := by decide +kernel
theorem l118 : ln S0 118 = 2 := by decide +kernel
theorem k119 : kn S0 119 = 10 := by decide +kernel
theorem k120 : kn S0 120 = 13 := by decide +kernel
theorem l120 : ln S0 120 = 4 := by decide +kernel
theorem k121 : kn S0 121 = 13 := by decide +kernel
theorem l121 : ln S0 121 = 2 := by decide +kernel
theorem k122 : kn S0 122 = 13 := by decide +kernel
theorem l122 : ln S0 122 = 2 := by decide +kernel
theorem k123 : kn S0 123 = 13 := by decide +kernel
theorem l123 : ln S0 123 = 2 := by decide +kernel
theorem k124 : kn S0 124 = 13 := by decide +kernel
theorem l124 : ln S0 124 = 2 := by decide +kernel
theorem k125 : kn S0 125 = 13 := by decide +kernel
theorem l125 : ln S0 125 = 2 := by decide +kernel
theorem k126 : kn S0 126 = 13 := by decide +kernel
theorem l126 : ln S0 126 = 12 := by decide +kernel
theorem k127 : kn S0 127 = 13 := by decide +kernel
theorem l127 : ln S0 127 = 12 := by decide +kernel
theorem k128 : kn S0 128 = 13 := by decide +kernel
theorem l128 : ln S0 128 = 48 := by decide +kernel
theorem k129 : kn S0 129 = 6 := by decide +kernel
theorem k130 : kn S0 130 = 13 := by decide +kernel
theorem l130 : ln S0 130 = 2 := by decide +kernel
theorem k131 : kn S0 131 = 13 := by decide +kernel
theorem l131 : ln S0 131 = 24 := by decide +kernel
theorem k132 : kn S0 132 = 4 := by decide +kernel
theorem k133 : kn S0 133 = 13 := by decide +kernel
theorem l133 : ln S0 133 = 2 := by decide +kernel
theorem k134 : kn S0 134 = 13 := by decide +kernel
theorem l134 : ln S0 134 = 12 := by decide +kernel
theorem k135 : kn S0 135 = 9 := by decide +kernel
theorem k136 : kn S0 136 = 13 := by decide +kernel
theorem l136 : ln S0 136 = 8 := by decide +kernel
theorem k137 : kn S0 137 = 13 := by decide +kernel
theorem l137 : ln S0 137 = 8 := by decide +kernel
theorem k138 : kn S0 138 = 13 := by decide +kernel
theorem l138 : ln S0 138 = 8 := by decide +kernel
theorem k139 : kn S0 139 = 13 := by decide +kernel
theorem l139 : ln S0 139 = 8 := by decide +kernel
theorem k140 : kn S0 140 = 10 := by decide +kernel
theorem k141 : kn S0 141 = 13 := by decide +kernel
theorem l141 : ln S0 141 = 4 := by decide +kernel
theorem k142 : kn S0 142 = 13 := by decide +kernel
theorem l142 : ln S0 142 = 2 := by decide +kernel
theorem k143 : kn S0 143 = 13 := by decide +kernel
theorem l143 : ln S0 143 = 2 := by decide +kernel
theorem k144 : kn S0 144 = 13 := by decide +kernel
theorem l144 : ln S0 144 = 2 := by decide +kernel
theorem k145 : kn S0 145 = 13 := by decide +kernel
theorem l145 : ln S0 145 = 2 := by decide +kernel
theorem k146 : kn S0 146 = 13 := by decide +kernel
theorem l146 : ln S0 146 = 2 := by decide +kernel
theorem k147 : kn S0 147 = 13 := by decide +kernel
theorem l147 : ln S0 147 = 12 := by decide +kernel
theorem k148 : kn S0 148 = 13 := by decide +kernel
theorem l148 : ln S0 148 = 12 := by decide +kernel
theorem k149 : kn S0 149 = 13 := by decide +kernel
theorem l149 : ln S0 149 = 48 := by decide +kernel
theorem k150 : kn S0 150 = 6 := by decide +kernel
theorem k151 : kn S0 151 = 13 := by decide +kernel
theorem l151 : ln S0 151 = 2 := by decide +kernel
theorem k152 : kn S0 152 = 13 := by decide +kernel
theorem l152 : ln S0 152 = 24 := by decide +kernel
theorem k153 : kn S0 153 = 4 := by decide +kernel
theorem k154 : kn S0 154 = 13 := by decide +kernel
theorem l154 : ln S0 154 = 2 := by decide +kernel
theorem k155 : kn S0 155 = 13 := by decide +kernel
theorem l155 : ln S0 155 = 12 := by decide +kernel
theorem k156 : kn S0 156 = 9 := by decide +kernel
theorem k157 : kn S0 157 = 13 := by decide +kernel
theorem l157 : ln S0 157 = 8 := by decide +kernel
theorem k158 : kn S0 158 = 13 := by decide +kernel
theorem l158 : ln S0 158 = 8 := by decide +kernel
theorem k159 : kn S0 159 = 13 := by decide +kernel
theorem l159 : ln S0 159 = 8 := by decide +kernel
theorem k160 : kn S0 160 = 13 := by decide +kernel
theorem l160 : ln S0 160 = 8 := by decide +kernel
theorem k161 : kn S0 161 = 8 := by decide +kernel
theorem k162 : kn S0 162 = 14 := by decide +kernel
theorem l162 : ln S0 162 = 600 := by decide +kernel
theorem k163 : kn S0 163 = 13 := by decide +kernel
theorem l163 : ln S0 163 = 4 := by decide +kernel
theorem k164 : kn S0 164 = 17 := by decide +kernel
theorem l164 : ln S0 164 = 2 := by decide +kernel
theorem k165 : kn S0 165 = 18 := by decide +kernel
theorem l165 : ln S0 165 = 2 := by decide +kernel
theorem k166 : kn S0 166 = 19 := by decide +kernel
theorem l166 : ln S0 166 = 2 := by decide +kernel
theorem k167 : kn S0 167 = 20 := by decide +kernel
theorem l167 : ln S0 167 = 2 := by decide +kernel
theorem k168 : kn S0 168 = 10 := by decide +kernel
theorem k169 : kn S0 169 = 13 := by decide +kernel
theorem l169 : ln S0 169 = 4 := by decide +kernel
theorem k170 : kn S0 170 = 13 := by decide +kernel
theorem l170 : ln S0 170 = 2 := by decide +kernel
theorem k171 : kn S0 171 = 13 := by decide +kernel
theorem l171 : ln S0 171 = 2 := by decide +kernel
theorem k172 : kn S0 172 = 13 := by decide +kernel
theorem l172 : ln S0 172 = 2 := by decide +kernel
theorem k173 : kn S0 173 = 13 := by decide +kernel
theorem l173 : ln S0 173 = 2 := by decide +kernel
theorem k174 : kn S0 174 = 13 := by decide +kernel
theorem l174 : ln S0 174 = 2 := by decide +kernel
theorem k175 : kn S0 175 = 13 := by decide +kernel
theorem l175 : ln S0 175 = 12 := by decide +kernel
theorem k176 : kn S0 176 = 13 := by decide +kernel
theorem l176 : ln S0 176 = 12 := by decide +kernel
theorem k177 : kn S0 177 = 13 := by decide +kernel
theorem l177 : ln S0 177 = 48 := by decide +kernel
theorem k178 : kn S0 178 = 6 := by decide +kernel
theorem k179 : kn S0 179 = 13 := by decide +kernel
theorem l179 : ln S0 179 = 2 := by decide +kernel
theorem k180 : kn S0 180 = 13 := by decide +kernel
theorem l180 : ln S0 180 = 24 := by decide +kernel
theorem k181 : kn S0 181 = 4 := by decide +kernel
theorem k182 : kn S0 182 = 13 := by decide +kernel
theorem l182 : ln S0 182 = 2 := by decide +kernel
theorem k183 : kn S0 183 = 13 := by decide +kernel
theorem l183 : ln S0 183 = 12 := by decide +kernel
theorem k184 : kn S0 184 = 9 := by decide +kernel
theorem k185 : kn S0 185 = 13 := by decide +kernel
theorem l185 : ln S0 185 = 8 := by decide +kernel
theorem k186 : kn S0 186 = 13 := by decide +kernel
theorem l186 : ln S0 186 = 8 := by decide +kernel
theorem k187 : kn S0 187 = 13 := by decide +kernel
theorem l187 : ln S0 187 = 8 := by decide +kernel
theorem k188 : kn S0 188 = 13 := by decide +kernel
theorem l188 : ln S0 188 = 8 := by decide +kernel
theorem k189 : kn S0 189 = 10 := by decide +kernel
theorem k190 : kn S0 190 = 13 := by decide +kernel
theorem l190 : ln S0 190 = 4 := by decide +kernel
theorem k191 : kn S0 191 = 13 := by decide +kernel
theorem l191 : ln S0 191 = 2 := by decide +kernel
theorem k192 : kn S0 192 = 13 := by decide +kernel
theorem l192 : ln S0 192 = 2 := by decide +kernel
theorem k193 : kn S0 193 = 13 := by decide +kernel
theorem l193 : ln S0 193 = 2 := by decide +kernel
theorem k194 : kn S0 194 = 13 := by decide +kernel
theorem l194 : ln S0 194 = 2 := by decide +kernel
theorem k195 : kn S0 195 = 13 := by decide +kernel
theorem l195 : ln S0 195 = 2 := by decide +kernel
theorem k196 : kn S0 196 = 13 := by decide +kernel
theorem l196 : ln S0 196 = 12 := by decide +kernel
theorem k197 : kn S0 197 = 13 := by decide +kernel
theorem l197 : ln S0 197 = 12 := by decide +kernel
theorem k198 : kn S0 198 = 13 := by decide +kernel
theorem l198 : ln S0 198 = 48 := by decide +kernel
theorem k199 : kn S0 199 = 6 := by decide +kernel
theorem k200 : kn S0 200 = 13 := by decide +kernel
theorem l200 : ln S0 200 = 2 := by decide +kernel
theorem k201 : kn S0 201 = 13 := by decide +kernel
theorem l201 : ln S0 201 = 24 := by decide +kernel
theorem k202 : kn S0 202 = 4 := by decide +kernel
theorem k203 : kn S0 203 = 13 := by decide +kernel
theorem l203 : ln S0 203 = 2 := by decide +kernel
theorem k204 : kn S0 204 = 13 := by decide +kernel
theorem l204 : ln S0 204 = 12 := by decide +kernel
theorem k205 : kn S0 205 = 9 := by decide +kernel
theorem k206 : kn S0 206 = 13 := by decide +kernel
theorem l206 : ln S0 206 = 8 := by decide +kernel
theorem k207 : kn S0 207 = 13 := by decide +kernel
theorem l207 : ln S0 207 = 8 := by decide +kernel
theorem k208 : kn S0 208 = 13 := by decide +kernel
theorem l208 : ln S0 208 = 8 := by decide +kernel
theorem k209 : kn S0 209 = 13 := by decide +kernel
theorem l209 : ln S0 209 = 8 := by decide +kernel
theorem k210 : kn S0 210 = 8 := by decide +kernel
theorem k211 : kn S0 211 = 14 := by decide +kernel
theorem l211 : ln S0 211 = 600 := by decide +kernel
theorem k212 : kn S0 212 = 13 := by decide +kernel
theorem l212 : ln S0 212 = 4 := by decide +kernel
theorem k213 : kn S0 213 = 17 := by decide +kernel
theorem l213 : ln S0 213 = 2 := by decide +kernel
theorem k214 : kn S0 214 = 18 := by decide +kernel
theorem l214 : ln S0 214 = 2 := by decide +kernel
theorem k215 : kn S0 215 = 19 := by decide +kernel
theorem l215 : ln S0 215 = 2 := by decide +kernel
theorem k216 : kn S0 216 = 20 := by decide +kernel
theorem l216 : ln S0 216 = 2 := by decide +kernel
theorem k217 : kn S0 217 = 10 := by decide +kernel
theorem k218 : kn S0 218 = 13 := by decide +kernel
theorem l218 : ln S0 218 = 4 := by decide +kernel
theorem k219 : kn S0 219 = 13 := by decide +kernel
theorem l219 : ln S0 219 = 2 := by decide +kernel
theorem k220 : kn S0 220 = 13 := by decide +kernel
theorem l220 : ln S0 220 = 2 := by decide +kernel
theorem k221 : kn S0 221 = 13 := by decide +kernel
theorem l221 : ln S0 221 = 2 := by decide +kernel
theorem k222 : kn S0 222 = 13 := by decide +kernel
theorem l222 : ln S0 222 = 2 := by decide +kernel
theorem k223 : kn S0 223 = 13 := by decide +kernel
theorem l223 : ln S0 223 = 2 := by decide +kernel
theorem k224 : kn S0 224 = 13 := by decide +kernel
theorem l224 : ln S0 224 = 12 := by decide +kernel
theorem k225 : kn S0 225 = 13 := by decide +kernel
theorem l225 : ln S0 225 = 12 := by decide +kernel
theorem k226 : kn S0 226 = 13 := by decide +kernel
theorem l226 : ln S0 226 = 48 := by decide +kernel
theorem k227 : kn S0 227 = 6 := by decide +kernel
theorem k228 : kn S0 228 = 13 := by decide +kernel
theorem l228 : ln S0 228 = 2 := by decide +kernel
theorem k229 : kn S0 229 = 13 := by decide +kernel
theorem l229 : ln S0 229 = 24 := by decide +kernel
theorem k230 : kn S0 230 = 4 := by decide +kernel
theorem k231 : kn S0 231 = 13 := by decide +kernel
theorem l231 : ln S0 231 = 2 := by decide +kernel
theorem k232 : kn S0 232 = 13 := by decide +kernel
theorem l232 : ln S0 232 = 12 := by decide +kernel
theorem k233 : kn S0 233 = 9 := by decide +kernel
theorem k234 : kn S0 234 = 13 := by decide +kernel
theorem l234 : ln S0 234 = 8 := by decide +kernel
theorem k235 : kn S0 235 = 13 := by decide +kernel
theorem l235 : ln S0 235 = 8 := by decide +kernel
theorem k236 : kn S0 236 = 13 := by decide +kernel
theorem l236 : ln S0 236 = 8 := by decide +kernel
theorem k237 : kn S0 237 = 13 := by decide +kernel
theorem l237 : ln S0 237 = 8 := by decide +kernel
theorem k238 : kn S0 238 = 10 := by decide +kernel
theorem k239 : kn S0 239 = 13 := by decide +kernel
theorem l239 : ln S0 239 = 4 := by decide +kernel
theorem k240 : kn S0 240 = 13 := by decide +kernel
theorem l240 : ln S0 240 = 2 := by decide +kernel
theorem k241 : kn S0 241 = 13 := by decide +kernel
theorem l241 : ln S0 241 = 2 := by decide +kernel
theorem k242 : kn S0 242 = 13 := by decide +kernel
theorem l242 : ln S0 242 = 2 := by decide +kernel
theorem k243 : kn S0 243 = 13 := by decide +kernel
theorem l243 : ln S0 243 = 2 := by decide +kernel
theorem k244 : kn S0 244 = 13 := by decide +kernel
theorem l244 : ln S0 244 = 2 := by decide +kernel
theorem k245 : kn S0 245 = 13 := by decide +kernel
theorem l245 : ln S0 245 = 12 := by decide +kernel
theorem k246 : kn S0 246 = 13 := by decide +kernel
theorem l246 : ln S0 246 = 12 := by decide +kernel
theorem k247 : kn S0 247 = 13 := by decide +kernel
theorem l247 : ln S0 247 = 48 := by decide +kernel
theorem k248 : kn S0 248 = 6 := by decide +kernel
theorem k249 : kn S0 249 = 13 := by decide +kernel
theorem l249 : ln S0 249 = 2 := by decide +kernel
theorem k250 : kn S0 250 = 13 := by decide +kernel
theorem l250 : ln S0 250 = 24 := by decide +kernel
theorem k251 : kn S0 251 = 4 := by decide +kernel
theorem k252 : kn S0 252 = 13 := by decide +kernel
theorem l252 : ln S0 252 = 2 := by decide +kernel
theorem k253 : kn S0 253 = 13 := by decide +kernel
theorem l253 : ln S0 253 = 12 := by decide +kernel
theorem k254 : kn S0 254 = 9 := by decide +kernel
theorem k255 : kn S0 255 = 13 := by decide +kernel
theorem l255 : ln S0 255 = 8 := by decide +kernel
theorem k256 : kn S0 256 = 13 := by decide +kernel
theorem l256 : ln S0 256 = 8 := by decide +kernel
theorem k257 : kn S0 257 = 13 := by decide +kernel
theorem l257 : ln S0 257 = 8 := by decide +kernel
theorem k258 : kn S0 258 = 13 := by decide +kernel
theorem l258 : ln S0 258 = 8 := by decide +kernel
theorem k259 : kn S0 259 = 2 := by decide +kernel
theorem k260 : kn S0 260 = 13 := by decide +kernel
theorem l260 : ln S0 260 = 24 := by decide +kernel
theorem k261 : kn S0 261 = 13 := by decide +kernel
theorem l261 : ln S0 261 = 24 := by decide +kernel
theorem k262 : kn S0 262 = 13 := by decide +kernel
theorem l262 : ln S0 262 = 24 := by decide +kernel
theorem k263 : kn S0 263 = 13 := by decide +kernel
theorem l263 : ln S0 263 = 24 := by decide +kernel
theorem k264 : kn S0 264 = 13 := by decide +kernel
theorem l264 : ln S0 264 = 24 := by decide +kernel
theorem k265 : kn S0 265 = 2 := by decide +kernel
theorem k266 : kn S0 266 = 13 := by decide +kernel
theorem l266 : ln S0 266 = 24 := by decide +kernel
theorem k267 : kn S0 267 = 13 := by decide +kernel
theorem l267 : ln S0 267 = 24 := by decide +kernel
theorem k268 : kn S0 268 = 13 := by decide +kernel
theorem l268 : ln S0 268 = 24 := by decide +kernel
theorem k269 : kn S0 269 = 13 := by decide +kernel
theorem l269 : ln S0 269 = 24 := by decide +kernel
theorem k270 : kn S0 270 = 13 := by decide +kernel
theorem l270 : ln S0 270 = 24 := by decide +kernel
theorem k271 : kn S0 271 = 12 := by decide +kernel
theorem k272 : kn S0 272 = 13 := by decide +kernel
theorem l272 : ln S0 272 = 3736 := by decide +kernel
theorem k273 : kn S0 273 = 15 := by decide +kernel
theorem l273 : ln S0 273 = 3 := by decide +kernel
theorem k274 : kn S0 274 = 13 := by decide +kernel
theorem l274 : ln S0 274 = 89 := by decide +kernel
theorem k275 : kn S0 275 = 13 := by decide +kernel
theorem l275 : ln S0 275 = 24 := by decide +kernel
theorem k276 : kn S0 276 = 13 := by decide +kernel
theorem l276 : ln S0 276 = 2 := by decide +kernel
theorem k277 : kn S0 277 = 13 := by decide +kernel
theorem l277 : ln S0 277 = 24 := by decide +kernel
theorem k278 : kn S0 278 = 13 := by decide +kernel
theorem l278 : ln S0 278 = 24 := by decide +kernel
theorem k279 : kn S0 279 = 13 := by decide +kernel
theorem l279 : ln S0 279 = 24 := by decide +kernel
theorem k280 : kn S0 280 = 15 := by decide +kernel
theorem l280 : ln S0 280 = 24 := by decide +kernel
theorem k281 : kn S0 281 = 13 := by decide +kernel
theorem l281 : ln S0 281 = 48 := by decide +kernel
theorem k282 : kn S0 282 = 13 := by decide +kernel
theorem l282 : ln S0 282 = 48 := by decide +kernel
theorem k283 : kn S0 283 = 13 := by decide +kernel
theorem l283 : ln S0 283 = 48 := by decide +kernel
theorem k284 : kn S0 284 = 13 := by decide +kernel
theorem l284 : ln S0 284 = 2 := by decide +kernel
theorem k285 : kn S0 285 = 13 := by decide +kernel
theorem l285 : ln S0 285 = 2 := by decide +kernel
theorem k286 : kn S0 286 = 13 := by decide +kernel
theorem l286 : ln S0 286 = 2 := by decide +kernel
theorem k287 : kn S0 287 = 13 := by decide +kernel
theorem l287 : ln S0 287 = 64 := by decide +kernel
theorem k288 : kn S0 288 = 13 := by decide +kernel
theorem l288 : ln S0 288 = 64 := by decide +kernel
theorem k289 : kn S0 289 = 13 := by decide +kernel
theorem l289 : ln S0 289 = 65 := by decide +kernel
theorem k290 : kn S0 290 = 13 := by decide +kernel
theorem l290 : ln S0 290 = 480 := by decide +kernel
theorem k291 : kn S0 291 = 13 := by decide +kernel
theorem l291 : ln S0 291 = 8 := by decide +kernel
theorem k292 : kn S0 292 = 13 := by decide +kernel
theorem l292 : ln S0 292 = 128 := by decide +kernel
theorem k293 : kn S0 293 = 13 := by decide +kernel
theorem l293 : ln S0 293 = 10 := by decide +kernel
theorem k294 : kn S0 294 = 16 := by decide +kernel
theorem l294 : ln S0 294 = 25 := by decide +kernel
theorem k295 : kn S0 295 = 13 := by decide +kernel
theorem l295 : ln S0 295 = 25 := by decide +kernel
theorem k296 : kn S0 296 = 13 := by decide +kernel
theorem l296 : ln S0 296 = 30 := by decide +kernel
theorem r1_0 : rf0 1 0 = 2 := by decide +kernel
theorem r1_1 : rf0 1 1 = 51 := by decide +kernel
theorem r1_2 : rf0 1 2 = 52 := by decide +kernel
theorem r1_3 : rf0 1 3 = 53 := by decide +kernel
theorem r1_4 : rf0 1 4 = 78 := by decide +kernel
theorem r1_5 : rf0 1 5 = 81 := by decide +kernel
theorem r1_6 : rf0 1 6 = 87 := by decide +kernel
theorem r1_7 : rf0 1 7 = 88 := by decide +kernel
theorem r1_8 : rf0 1 8 = 91 := by decide +kernel
theorem r1_9 : rf0 1 9 = 102 := by decide +kernel
theorem r1_10 : rf0 1 10 = 111 := by decide +kernel
theorem r2_0 : rf0 2 0 = 3 := by decide +kernel
theorem r2_4 : rf0 2 4 = 4 := by decide +kernel
theorem r2_5 : rf0 2 5 = 5 := by decide +kernel
theorem r2_6 : rf0 2 6 = 6 := by decide +kernel
theorem r2_7 : rf0 2 7 = 7 := by decide +kernel
theorem r2_8 : rf0 2 8 = 8 := by decide +kernel
theorem r5_0 : rf0 5 0 = 9 := by decide +kernel
theorem r5_1 : rf0 5 1 = 30 := by decide +kernel
theorem r6_0 : rf0 6 0 = 19 := by decide +kernel
theorem r6_1 : rf0 6 1 = 40 := by decide +kernel
theorem r7_0 : rf0 7 0 = 22 := by decide +kernel
theorem r7_1 : rf0 7 1 = 43 := by decide +kernel
theorem r8_0 : rf0 8 0 = 25 := by decide +kernel
theorem r8_1 : rf0 8 1 = 46 := by decide +kernel
theorem r9_3 : rf0 9 3 = 10 := by decide +kernel
theorem r9_4 : rf0 9 4 = 11 := by decide +kernel
theorem r9_5 : rf0 9 5 = 12 := by decide +kernel
theorem r9_6 : rf0 9 6 = 13 := by decide +kernel
theorem r9_7 : rf0 9 7 = 14 := by decide +kernel
theorem r9_8 : rf0 9 8 = 15 := by decide +kernel
theorem r9_9 : rf0 9 9 = 16 := by decide +kernel
theorem r9_10 : rf0 9 10 = 17 := by decide +kernel
theorem r9_11 : rf0 9 11 = 18 := by decide +kernel
theorem r19_0 : rf0 19 0 = 20 := by decide +kernel
theorem r19_1 : rf0 19 1 = 21 := by decide +kernel
theorem r22_0 : rf0 22 0 = 23 := by decide +kernel
theorem r22_1 : rf0 22 1 = 24 := by decide +kernel
theorem r25_1 : rf0 25 1 = 26 := by decide +kernel
theorem r25_2 : rf0 25 2 = 27 := by decide +kernel
theorem r25_3 : rf0 25 3 = 28 := by decide +kernel
theorem r25_4 : rf0 25 4 = 29 := by decide +kernel
theorem r30_3 : rf0 30 3 = 31 := by decide +kernel
theorem r30_4 : rf0 30 4 = 32 := by decide +kernel
theorem r30_5 : rf0 30 5 = 33 := by decide +kernel
theorem r30_6 : rf0 30 6 = 34 := by decide +kernel
theorem r30_7 : rf0 30 7 = 35 := by decide +kernel
theorem r30_8 : rf0 30 8 = 36 := by decide +kernel
theorem r30_9 : rf0 30 9 = 37 := by decide +kernel
theorem r30_10 : rf0 30 10 = 38 := by decide +kernel
theorem r30_11 : rf0 30 11 = 39 := by decide +kernel
theorem r40_0 : rf0 40 0 = 41 := by decide +kernel
theorem r40_1 : rf0 40 1 = 42 := by decide +kernel
theorem r43_0 : rf0 43 0 = 44 := by decide +kernel
theorem r43_1 : rf0 43 1 = 45 := by decide +kernel
theorem r46_1 : rf0 46 1 = 47 := by decide +kernel
theorem r46_2 : rf0 46 2 = 48 := by decide +kernel
theorem r46_3 : rf0 46 3 = 49 := by decide +kernel
theorem r46_4 : rf0 46 4 = 50 := by decide +kernel
theorem r51_0 : rf0 51 0 = 112 := by decide +kernel
theorem r51_1 : rf0 51 1 = 161 := by decide +kernel
theorem r51_2 : rf0 51 2 = 210 := by decide +kernel
theorem r53_0 : rf0 53 0 = 54 := by decide +kernel
theorem r53_1 : rf0 53 1 = 64 := by decide +kernel
theorem r53_2 : rf0 53 2 = 67 := by decide +kernel
theorem r53_3 : rf0 53 3 = 70 := by decide +kernel
theorem r53_6 : rf0 53 6 = 75 := by decide +kernel
theorem r53_7 : rf0 53 7 = 76 := by decide +kernel
theorem r53_8 : rf0 53 8 = 77 := by decide +kernel
theorem r54_3 : rf0 54 3 = 55 := by decide +kernel
theorem r54_4 : rf0 54 4 = 56 := by decide +kernel
theorem r54_5 : rf0 54 5 = 57 := by decide +kernel
theorem r54_6 : rf0 54 6 = 58 := by decide +kernel
theorem r54_7 : rf0 54 7 = 59 := by decide +kernel
theorem r54_8 : rf0 54 8 = 60 := by decide +kernel
theorem r54_9 : rf0 54 9 = 61 := by decide +kernel
theorem r54_10 : rf0 54 10 = 62 := by decide +kernel
theorem r54_11 : rf0 54 11 = 63 := by decide +kernel
theorem r64_0 : rf0 64 0 = 65 := by decide +kernel
theorem r64_1 : rf0 64 1 = 66 := by decide +kernel
theorem r67_0 : rf0 67 0 = 68 := by decide +kernel
theorem r67_1 : rf0 67 1 = 69 := by decide +kernel
theorem r70_1 : rf0 70 1 = 71 := by decide +kernel
theorem r70_2 : rf0 70 2 = 72 := by decide +kernel
theorem r70_3 : rf0 70 3 = 73 := by decide +kernel
theorem r70_4 : rf0 70 4 = 74 := by decide +kernel
theorem r78_0 : rf0 78 0 = 79 := by decide +kernel
theorem r78_1 : rf0 78 1 = 80 := by decide +kernel
theorem r81_0 : rf0 81 0 = 82 := by decide +kernel
theorem r81_1 : rf0 81 1 = 83 := by decide +kernel
theorem r81_2 : rf0 81 2 = 84 := by decide +kernel
theorem r81_3 : rf0 81 3 = 85 := by decide +kernel
theorem r81_4 : rf0 81 4 = 86 := by decide +kernel
theorem r87_0 : rf0 87 0 = 259 := by decide +kernel
theorem r87_1 : rf0 87 1 = 265 := by decide +kernel
theorem r88_0 : rf0 88 0 = 89 := by decide +kernel
theorem r88_1 : rf0 88 1 = 90 := by decide +kernel
theorem r91_0 : rf0 91 0 = 92 := by decide +kernel
theorem r91_1 : rf0 91 1 = 101 := by decide +kernel
theorem r92_0 : rf0 92 0 = 93 := by decide +kernel
theorem r92_1 : rf0 92 1 = 94 := by decide +kernel
theorem r92_2 : rf0 92 2 = 95 := by decide +kernel
theorem r92_3 : rf0 92 3 = 96 := by decide +kernel
theorem r92_4 : rf0 92 4 = 97 := by decide +kernel
theorem r92_5 : rf0 92 5 = 98 := by decide +kernel
theorem r92_6 : rf0 92 6 = 99 := by decide +kernel
theorem r92_7 : rf0 92 7 = 100 := by decide +kernel
theorem r102_0 : rf0 102 0 = 103 := by decide +kernel
theorem r102_1 : rf0 102 1 = 104 := by decide +kernel
theorem r102_2 : rf0 102 2 = 105 := by decide +kernel
theorem r102_3 : rf0 102 3 = 108 := by decide +kernel
theorem r102_4 : rf0 102 4 = 109 := by decide +kernel
theorem r102_5 : rf0 102 5 = 110 := by decide +kernel
theorem r105_0 : rf0 105 0 = 106 := by decide +kernel
theorem r105_1 : rf0 105 1 = 107 := by decide +kernel
theorem r112_0 : rf0 112 0 = 113 := by decide +kernel
theorem r112_4 : rf0 112 4 = 114 := by decide +kernel
theorem r112_5 : rf0 112 5 = 115 := by decide +kernel
theorem r112_6 : rf0 112 6 = 116 := by decide +kernel
theorem r112_7 : rf0 112 7 = 117 := by decide +kernel
theorem r112_8 : rf0 112 8 = 118 := by decide +kernel
theorem r115_0 : rf0 115 0 = 119 := by decide +kernel
theorem r115_1 : rf0 115 1 = 140 := by decide +kernel
theorem r116_0 : rf0 116 0 = 129 := by decide +kernel
theorem r116_1 : rf0 116 1 = 150 := by decide +kernel
theorem r117_0 : rf0 117 0 = 132 := by decide +kernel
theorem r117_1 : rf0 117 1 = 153 := by decide +kernel
theorem r118_0 : rf0 118 0 = 135 := by decide +kernel
theorem r118_1 : rf0 118 1 = 156 := by decide +kernel
theorem r119_3 : rf0 119 3 = 120 := by decide +kernel
theorem r119_4 : rf0 119 4 = 121 := by decide +kernel
theorem r119_5 : rf0 119 5 = 122 := by decide +kernel
theorem r119_6 : rf0 119 6 = 123 := by decide +kernel
theorem r119_7 : rf0 119 7 = 124 := by decide +kernel
theorem r119_8 : rf0 119 8 = 125 := by decide +kernel
theorem r119_9 : rf0 119 9 = 126 := by decide +kernel
theorem r119_10 : rf0 119 10 = 127 := by decide +kernel
theorem r119_11 : rf0 119 11 = 128 := by decide +kernel
theorem r129_0 : rf0 129 0 = 130 := by decide +kernel
theorem r129_1 : rf0 129 1 = 131 := by decide +kernel
theorem r132_0 : rf0 132 0 = 133 := by decide +kernel
theorem r132_1 : rf0 132 1 = 134 := by decide +kernel
theorem r135_1 : rf0 135 1 = 136 := by decide +kernel
theorem r135_2 : rf0 135 2 = 137 := by decide +kernel
theorem r135_3 : rf0 135 3 = 138 := by decide +kernel
theorem r135_4 : rf0 135 4 = 139 := by decide +kernel
theorem r140_3 : rf0 140 3 = 141 := by decide +kernel
theorem r140_4 : rf0 140 4 = 142 := by decide +kernel
theorem r140_5 : rf0 140 5 = 143 := by decide +kernel
theorem r140_6 : rf0 140 6 = 144 := by decide +kernel
theorem r140_7 : rf0 140 7 = 145 := by decide +kernel
theorem r140_8 : rf0 140 8 = 146 := by decide +kernel
theorem r140_9 : rf0 140 9 = 147 := by decide +kernel
theorem r140_10 : rf0 140 10 = 148 := by decide +kernel
theorem r140_11 : rf0 140 11 = 149 := by decide +kernel
theorem r150_0 : rf0 150 0 = 151 := by decide +kernel
theorem r150_1 : rf0 150 1 = 152 := by decide +kernel
theorem r153_0 : rf0 153 0 = 154 := by decide +kernel
theorem r153_1 : rf0 153 1 = 155 := by decide +kernel
theorem r156_1 : rf0 156 1 = 157 := by decide +kernel
theorem r156_2 : rf0 156 2 = 158 := by decide +kernel
theorem r156_3 : rf0 156 3 = 159 := by decide +kernel
theorem r156_4 : rf0 156 4 = 160 := by decide +kernel
theorem r161_0 : rf0 161 0 = 162 := by decide +kernel
theorem r161_4 : rf0 161 4 = 163 := by decide +kernel
theorem r161_5 : rf0 161 5 = 164 := by decide +kernel
theorem r161_6 : rf0 161 6 = 165 := by decide +kernel
theorem r161_7 : rf0 161 7 = 166 := by decide +kernel
theorem r161_8 : rf0 161 8 = 167 := by decide +kernel
theorem r164_0 : rf0 164 0 = 168 := by decide +kernel
theorem r164_1 : rf0 164 1 = 189 := by decide +kernel
theorem r165_0 : rf0 165 0 = 178 := by decide +kernel
theorem r165_1 : rf0 165 1 = 199 := by decide +kernel
theorem r166_0 : rf0 166 0 = 181 := by decide +kernel
theorem r166_1 : rf0 166 1 = 202 := by decide +kernel
theorem r167_0 : rf0 167 0 = 184 := by decide +kernel
theorem r167_1 : rf0 167 1 = 205 := by decide +kernel
theorem r168_3 : rf0 168 3 = 169 := by decide +kernel
theorem r168_4 : rf0 168 4 = 170 := by decide +kernel
theorem r168_5 : rf0 168 5 = 171 := by decide +kernel
theorem r168_6 : rf0 168 6 = 172 := by decide +kernel
theorem r168_7 : rf0 168 7 = 173 := by decide +kernel
theorem r168_8 : rf0 168 8 = 174 := by decide +kernel
theorem r168_9 : rf0 168 9 = 175 := by decide +kernel
theorem r168_10 : rf0 168 10 = 176 := by decide +kernel
theorem r168_11 : rf0 168 11 = 177 := by decide +kernel
theorem r178_0 : rf0 178 0 = 179 := by decide +kernel
theorem r178_1 : rf0 178 1 = 180 := by decide +kernel
theorem r181_0 : rf0 181 0 = 182 := by decide +kernel
theorem r181_1 : rf0 181 1 = 183 := by decide +kernel
theorem r184_1 : rf0 184 1 = 185 := by decide +kernel
theorem r184_2 : rf0 184 2 = 186 := by decide +kernel
theorem r184_3 : rf0 184 3 = 187 := by decide +kernel
theorem r184_4 : rf0 184 4 = 188 := by decide +kernel
theorem r189_3 : rf0 189 3 = 190 := by decide +kernel
theorem r189_4 : rf0 189 4 = 191 := by decide +kernel
theorem r189_5 : rf0 189 5 = 192 := by decide +kernel
theorem r189_6 : rf0 189 6 = 193 := by decide +kernel
theorem r189_7 : rf0 189 7 = 194 := by decide +kernel
theorem r189_8 : rf0 189 8 = 195 := by decide +kernel
theorem r189_9 : rf0 189 9 = 196 := by decide +kernel
theorem r189_10 : rf0 189 10 = 197 := by decide +kernel
theorem r189_11 : rf0 189 11 = 198 := by decide +kernel
theorem r199_0 : rf0 199 0 = 200 := by decide +kernel
theorem r199_1 : rf0 199 1 = 201 := by decide +kernel
theorem r202_0 : rf0 202 0 = 203 := by decide +kernel
theorem r202_1 : rf0 202 1 = 204 := by decide +kernel
theorem r205_1 : rf0 205 1 = 206 := by decide +kernel
theorem r205_2 : rf0 205 2 = 207 := by decide +kernel
theorem r205_3 : rf0 205 3 = 208 := by decide +kernel
theorem r205_4 : rf0 205 4 = 209 := by decide +kernel
theorem r210_0 : rf0 210 0 = 211 := by decide +kernel
theorem r210_4 : rf0 210 4 = 212 := by decide +kernel
theorem r210_5 : rf0 210 5 = 213 := by decide +kernel
theorem r210_6 : rf0 210 6 = 214 := by decide +kernel
theorem r210_7 : rf0 210 7 = 215 := by decide +kernel
theorem r210_8 : rf0 210 8 = 216 := by decide +kernel
theorem r213_0 : rf0 213 0 = 217 := by decide +kernel
theorem r213_1 : rf0 213 1 = 238 := by decide +kernel
theorem r214_0 : rf0 214 0 = 227 := by decide +kernel
theorem r214_1 : rf0 214 1 = 248 := by decide +kernel
theorem r215_0 : rf0 215 0 = 230 := by decide +kernel
theorem r215_1 : rf0 215 1 = 251 := by decide +kernel
theorem r216_0 : rf0 216 0 = 233 := by decide +kernel
theorem r216_1 : rf0 216 1 = 254 := by decide +kernel
theorem r217_3 : rf0 217 3 = 218 := by decide +kernel
theorem r217_4 : rf0 217 4 = 219 := by decide +kernel
theorem r217_5 : rf0 217 5 = 220 := by decide +kernel
theorem r217_6 : rf0 217 6 = 221 := by decide +kernel
theorem r217_7 : rf0 217 7 = 222 := by decide +kernel
theorem r217_8 : rf0 217 8 = 223 := by decide +kernel
theorem r217_9 : rf0 217 9 = 224 := by decide +kernel
theorem r217_10 : rf0 217 10 = 225 := by decide +kernel
theorem r217_11 : rf0 217 11 = 226 := by decide +kernel
theorem r227_0 : rf0 227 0 = 228 := by decide +kernel
theorem r227_1 : rf0 227 1 = 229 := by decide +kernel
theorem r230_0 : rf0 230 0 = 231 := by decide +kernel
theorem r230_1 : rf0 230 1 = 232 := by decide +kernel
theorem r233_1 : rf0 233 1 = 234 := by decide +kernel
theorem r233_2 : rf0 233 2 = 235 := by decide +kernel
theorem r233_3 : rf0 233 3 = 236 := by decide +kernel
theorem r233_4 : rf0 233 4 = 237 := by decide +kernel
theorem r238_3 : rf0 238 3 = 239 := by decide +kernel
theorem r238_4 : rf0 238 4 = 240 := by decide +kernel
theorem r238_5 : rf0 238 5 = 241 := by decide +kernel
theorem r238_6 : rf0 238 6 = 242 := by decide +kernel
theorem r238_7 : rf0 238 7 = 243 := by decide +kernel
theorem r238_8 : rf0 238 8 = 244 := by decide +kernel
theorem r238_9 : rf0 238 9 = 245 := by decide +kernel
theorem r238_10 : rf0 238 10 = 246 := by decide +kernel
theorem r238_11 : rf0 238 11 = 247 := by decide +kernel
theorem r248_0 : rf0 248 0 = 249 := by decide +kernel
theorem r248_1 : rf0 248 1 = 250 := by decide +kernel
theorem r251_0 : rf0 251 0 = 252 := by decide +kernel
theorem r251_1 : rf0 251 1 = 253 := by decide +kernel
theorem r254_1 : rf0 254 1 = 255 := by decide +kernel
theorem r254_2 : rf0 254 2 = 256 := by decide +kernel
theorem r254_3 : rf0 254 3 = 257 := by decide +kernel
theorem r254_4 : rf0 254 4 = 258 := by decide +kernel
theorem r259_0 : rf0 259 0 = 260 := by decide +kernel
theorem r259_2 : rf0 259 2 = 261 := by decide +kernel
theorem r259_3 : rf0 259 3 = 262 := by decide +kernel
theorem r259_4 : rf0 259 4 = 263 := by decide +kernel
theorem r259_5 : rf0 259 5 = 264 := by decide +kernel
theorem r265_0 : rf0 265 0 = 266 := by decide +kernel
theorem r265_2 : rf0 265 2 = 267 := by decide +kernel
theorem r265_3 : rf0 265 3 = 268 := by decide +kernel
theorem r265_4 : rf0 265 4 = 269 := by decide +kernel
theorem r265_5 : rf0 265 5 = 270 := by decide +kernel
theorem r271_0 : rf0 271 0 = 272 := by decide +kernel
theorem r271_1 : rf0 271 1 = 273 := by decide +kernel
theorem r271_9 : rf0 271 9 = 274 := by decide +kernel
theorem r271_12 : rf0 271 12 = 275 := by decide +kernel
theorem r271_13 : rf0 271 13 = 276 := by decide +kernel
theorem r271_14 : rf0 271 14 = 277 := by decide +kernel
theorem r271_15 : rf0 271 15 = 278 := by decide +kernel
theorem r271_16 : rf0 271 16 = 279 := by decide +kernel
theorem r271_17 : rf0 271 17 = 280 := by decide +kernel
theorem r271_19 : rf0 271 19 = 281 := by decide +kernel
theorem r271_20 : rf0 271 20 = 282 := by decide +kernel
theorem r271_21 : rf0 271 21 = 283 := by decide +kernel
theorem r271_22 : rf0 271 22 = 284 := by decide +kernel
theorem r271_23 : rf0 271 23 = 285 := by decide +kernel
theorem r271_24 : rf0 271 24 = 286 := by decide +kernel
theorem r271_26 : rf0 271 26 = 287 := by decide +kernel
theorem r271_27 : rf0 271 27 = 288 := by decide +kernel
theorem r271_28 : rf0 271 28 = 289 := by decide +kernel
theorem r271_30 : rf0 271 30 = 290 := by decide +kernel
theorem r271_31 : rf0 271 31 = 291 := by decide +kernel
theorem r271_32 : rf0 271 32 = 292 := by decide +kernel
theorem r271_34 : rf0 271 34 = 293 := by decide +kernel
theorem r271_35 : rf0 271 35 = 294 := by decide +kernel
theorem r271_36 : rf0 271 36 = 295 := by decide +kernel
theorem r271_37 : rf0 271 37 = 296 := by decide +kernel
theorem kT_len : kT.length = 297 := by decide +kernel
theorem kn_lt {w : Nat} (h : kn S0 w ≠ 99) : w < 297 := by
  rcases Nat.lt_or_ge w 297 with q | q
  · exact q
  · exfalso
    apply h
    show kT.getD w 99 = 99
    rw [List.getD_eq_getElem?_getD, List.getElem?_eq_none (by rw [kT_len]; exact q)]
    rfl
theorem qW3 : ∀ w, w < 297 → kn S0 w = 10 → rf0 w 3 = w + 1 ∧ kn S0 (w + 1) = 13 ∧ ln S0 (w + 1) = 4 := by decide +kernel
theorem rW3 {w : Nat} (h : kn S0 w = 10) : rf0 w 3 = w + 1 := (qW3 w (kn_lt (by rw [h]; decide)) h).1
theorem kW3 {w : Nat} (h : kn S0 w = 10) : kn S0 (w + 1) = 13 := (qW3 w (kn_lt (by rw [h]; decide)) h).2.1
theorem lW3 {w : Nat} (h : kn S0 w = 10) : ln S0 (w + 1) = 4 := (qW3 w (kn_lt (by rw [h]; decide)) h).2.2
theorem qW4 : ∀ w, w < 297 → kn S0 w = 10 → rf0 w 4 = w + 2 ∧ kn S0 (w + 2) = 13 ∧ ln S0 (w + 2) = 2 := by decide +kernel
theorem rW4 {w : Nat} (h : kn S0 w = 10) : rf0 w 4 = w + 2 := (qW4 w (kn_lt (by rw [h]; decide)) h).1
theorem kW4 {w : Nat} (h : kn S0 w = 10) : kn S0 (w + 2) = 13 := (qW4 w (kn_lt (by rw [h]; decide)) h).2.1
theorem lW4 {w : Nat} (h : kn S0 w = 10) : ln S0 (w + 2) = 2 := (qW4 w (kn_lt (by rw [h]; decide)) h).2.2
theorem qW5 : ∀ w, w < 297 → kn S0 w = 10 → rf0 w 5 = w + 3 ∧ kn S0 (w + 3) = 13 ∧ ln S0 (w + 3) = 2 := by decide +kernel
theorem rW5 {w : Nat} (h : kn S0 w = 10) : rf0 w 5 = w + 3 := (qW5 w (kn_lt (by rw [h]; decide)) h).1
theorem kW5 {w : Nat} (h : kn S0 w = 10) : kn S0 (w + 3) = 13 := (qW5 w (kn_lt (by rw [h]; decide)) h).2.1
theorem lW5 {w : Nat} (h : kn S0 w = 10) : ln S0 (w + 3) = 2 := (qW5 w (kn_lt (by rw [h]; decide)) h).2.2
theorem qW6 : ∀ w, w < 297 → kn S0 w = 10 → rf0 w 6 = w + 4 ∧ kn S0 (w + 4) = 13 ∧ ln S0 (w + 4) = 2 := by decide +kernel
theorem rW6 {w : Nat} (h : kn S0 w = 10) : rf0 w 6 = w + 4 := (qW6 w (kn_lt (by rw [h]; decide)) h).1
theorem kW6 {w : Nat} (h : kn S0 w = 10) : kn S0 (w + 4) = 13 := (qW6 w (kn_lt (by rw [h]; decide)) h).2.1
theorem lW6 {w : Nat} (h : kn S0 w = 10) : ln S0 (w + 4) = 2 := (qW6 w (kn_lt (by rw [h]; decide)) h).2.2
theorem qW7 : ∀ w, w < 297 → kn S0 w = 10 → rf0 w 7 = w + 5 ∧ kn S0 (w + 5) = 13 ∧ ln S0 (w + 5) = 2 := by decide +kernel
theorem rW7 {w : Nat} (h : kn S0 w = 10) : rf0 w 7 = w + 5 := (qW7 w (kn_lt (by rw [h]; decide)) h).1
theorem kW7 {w : Nat} (h : kn S0 w = 10) : kn S0 (w + 5) = 13 := (qW7 w (kn_lt (by rw [h]; decide)) h).2.1
theorem lW7 {w : Nat} (h : kn S0 w = 10) : ln S0 (w + 5) = 2 := (qW7 w (kn_lt (by rw [h]; decide)) h).2.2
theorem qW8 : ∀ w, w < 297 → kn S0 w = 10 → rf0 w 8 = w + 6 ∧ kn S0 (w + 6) = 13 ∧ ln S0 (w + 6) = 2 := by decide +kernel
theorem rW8 {w : Nat} (h : kn S0 w = 10) : rf0 w 8 = w + 6 := (qW8 w (kn_lt (by rw [h]; decide)) h).1
theorem kW8 {w : Nat} (h : kn S0 w = 10) : kn S0 (w + 6) = 13 := (qW8 w (kn_lt (by rw [h]; decide)) h).2.1
theorem lW8 {w : Nat} (h : kn S0 w = 10) : ln S0 (w + 6) = 2 := (qW8 w (kn_lt (by rw [h]; decide)) h).2.2
theorem qW9 : ∀ w, w < 297 → kn S0 w = 10 → rf0 w 9 = w + 7 ∧ kn S0 (w + 7) = 13 ∧ ln S0 (w + 7) = 12 := by decide +kernel
theorem rW9 {w : Nat} (h : kn S0 w = 10) : rf0 w 9 = w + 7 := (qW9 w (kn_lt (by rw [h]; decide)) h).1
theorem kW9 {w : Nat} (h : kn S0 w = 10) : kn S0 (w + 7) = 13 := (qW9 w (kn_lt (by rw [h]; decide)) h).2.1
theorem lW9 {w : Nat} (h : kn S0 w = 10) : ln S0 (w + 7) = 12 := (qW9 w (kn_lt (by rw [h]; decide)) h).2.2
theorem qW10 : ∀ w, w < 297 → kn S0 w = 10 → rf0 w 10 = w + 8 ∧ kn S0 (w + 8) = 13 ∧ ln S0 (w + 8) = 12 := by decide +kernel
theorem rW10 {w : Nat} (h : kn S0 w = 10) : rf0 w 10 = w + 8 := (qW10 w (kn_lt (by rw [h]; decide)) h).1
theorem kW10 {w : Nat} (h : kn S0 w = 10) : kn S0 (w + 8) = 13 := (qW10 w (kn_lt (by rw [h]; decide)) h).2.1
theorem lW10 {w : Nat} (h : kn S0 w = 10) : ln S0 (w + 8) = 12 := (qW10 w (kn_lt (by rw [h]; decide)) h).2.2
theorem qW11 : ∀ w, w < 297 → kn S0 w = 10 → rf0 w 11 = w + 9 ∧ kn S0 (w + 9) = 13 ∧ ln S0 (w + 9) = 48 := by decide +kernel
theorem rW11 {w : Nat} (h : kn S0 w = 10) : rf0 w 11 = w + 9 := (qW11 w (kn_lt (by rw [h]; decide)) h).1
theorem kW11 {w : Nat} (h : kn S0 w = 10) : kn S0 (w + 9) = 13 := (qW11 w (kn_lt (by rw [h]; decide)) h).2.1
theorem lW11 {w : Nat} (h : kn S0 w = 10) : ln S0 (w + 9) = 48 := (qW11 w (kn_lt (by rw [h]; decide)) h).2.2
theorem qS0 : ∀ w, w < 297 → kn S0 w = 6 → rf0 w 0 = w + 1 ∧ kn S0 (w + 1) = 13 ∧ ln S0 (w + 1) = 2 := by decide +kernel
theorem rS0 {w : Nat} (h : kn S0 w = 6) : rf0 w 0 = w + 1 := (qS0 w (kn_lt (by rw [h]; decide)) h).1
theorem kS0 {w : Nat} (h : kn S0 w = 6) : kn S0 (w + 1) = 13 := (qS0 w (kn_lt (by rw [h]; decide)) h).2.1
theorem lS0 {w : Nat} (h : kn S0 w = 6) : ln S0 (w + 1) = 2 := (qS0 w (kn_lt (by rw [h]; decide)) h).2.2
theorem qS1 : ∀ w, w < 297 → kn S0 w = 6 → rf0 w 1 = w + 2 ∧ kn S0 (w + 2) = 13 ∧ ln S0 (w + 2) = 24 := by decide +kernel
theorem rS1 {w : Nat} (h : kn S0 w = 6) : rf0 w 1 = w + 2 := (qS1 w (kn_lt (by rw [h]; decide)) h).1
theorem kS1 {w : Nat} (h : kn S0 w = 6) : kn S0 (w + 2) = 13 := (qS1 w (kn_lt (by rw [h]; decide)) h).2.1
theorem lS1 {w : Nat} (h : kn S0 w = 6) : ln S0 (w + 2) = 24 := (qS1 w (kn_lt (by rw [h]; decide)) h).2.2
theorem qH0 : ∀ w, w < 297 → kn S0 w = 4 → rf0 w 0 = w + 1 ∧ kn S0 (w + 1) = 13 ∧ ln S0 (w + 1) = 2 := by decide +kernel
theorem rH0 {w : Nat} (h : kn S0 w = 4) : rf0 w 0 = w + 1 := (qH0 w (kn_lt (by rw [h]; decide)) h).1
theorem kH0 {w : Nat} (h : kn S0 w = 4) : kn S0 (w + 1) = 13 := (qH0 w (kn_lt (by rw [h]; decide)) h).2.1
theorem lH0 {w : Nat} (h : kn S0 w = 4) : ln S0 (w + 1) = 2 := (qH0 w (kn_lt (by rw [h]; decide)) h).2.2
theorem qH1 : ∀ w, w < 297 → kn S0 w = 4 → rf0 w 1 = w + 2 ∧ kn S0 (w + 2) = 13 ∧ ln S0 (w + 2) = 12 := by decide +kernel
theorem rH1 {w : Nat} (h : kn S0 w = 4) : rf0 w 1 = w + 2 := (qH1 w (kn_lt (by rw [h]; decide)) h).1
theorem kH1 {w : Nat} (h : kn S0 w = 4) : kn S0 (w + 2) = 13 := (qH1 w (kn_lt (by rw [h]; decide)) h).2.1
theorem lH1 {w : Nat} (h : kn S0 w = 4) : ln S0 (w + 2) = 12 := (qH1 w (kn_lt (by rw [h]; decide)) h).2.2
theorem qV1 : ∀ w, w < 297 → kn S0 w = 9 → rf0 w 1 = w + 1 ∧ kn S0 (w + 1) = 13 ∧ ln S0 (w + 1) = 8 := by decide +kernel
theorem rV1 {w : Nat} (h : kn S0 w = 9) : rf0 w 1 = w + 1 := (qV1 w (kn_lt (by rw [h]; decide)) h).1
theorem kV1 {w : Nat} (h : kn S0 w = 9) : kn S0 (w + 1) = 13 := (qV1 w (kn_lt (by rw [h]; decide)) h).2.1
theorem lV1 {w : Nat} (h : kn S0 w = 9) : ln S0 (w + 1) = 8 := (qV1 w (kn_lt (by rw [h]; decide)) h).2.2
theorem qV2 : ∀ w, w < 297 → kn S0 w = 9 → rf0 w 2 = w + 2 ∧ kn S0 (w + 2) = 13 ∧ ln S0 (w + 2) = 8 := by decide +kernel
theorem rV2 {w : Nat} (h : kn S0 w = 9) : rf0 w 2 = w + 2 := (qV2 w (kn_lt (by rw [h]; decide)) h).1
theorem kV2 {w : Nat} (h : kn S0 w = 9) : kn S0 (w + 2) = 13 := (qV2 w (kn_lt (by rw [h]; decide)) h).2.1
theorem lV2 {w : Nat} (h : kn S0 w = 9) : ln S0 (w + 2) = 8 := (qV2 w (kn_lt (by rw [h]; decide)) h).2.2
theorem qV3 : ∀ w, w < 297 → kn S0 w = 9 → rf0 w 3 = w + 3 ∧ kn S0 (w + 3) = 13 ∧ ln S0 (w + 3) = 8 := by decide +kernel
theorem rV3 {w : Nat} (h : kn S0 w = 9) : rf0 w 3 = w + 3 := (qV3 w (kn_lt (by rw [h]; decide)) h).1
theorem kV3 {w : Nat} (h : kn S0 w = 9) : kn S0 (w + 3) = 13 := (qV3 w (kn_lt (by rw [h]; decide)) h).2.1
theorem lV3 {w : Nat} (h : kn S0 w = 9) : ln S0 (w + 3) = 8 := (qV3 w (kn_lt (by rw [h]; decide)) h).2.2
theorem qV4 : ∀ w, w < 297 → kn S0 w = 9 → rf0 w 4 = w + 4 ∧ kn S0 (w + 4) = 13 ∧ ln S0 (w + 4) = 8 := by decide +kernel
theorem rV4 {w : Nat} (h : kn S0 w = 9) : rf0 w 4 = w + 4 := (qV4 w (kn_lt (by rw [h]; decide)) h).1
theorem kV4 {w : Nat} (h : kn S0 w = 9) : kn S0 (w + 4) = 13 := (qV4 w (kn_lt (by rw [h]; decide)) h).2.1
theorem lV4 {w : Nat} (h : kn S0 w = 9) : ln S0 (w + 4) = 8 := (qV4 w (kn_lt (by rw [h]; decide)) h).2.2
theorem qO0 : ∀ w, w < 297 → kn S0 w = 8 → rf0 w 0 = w + 1 ∧ kn S0 (w + 1) = 14 ∧ ln S0 (w + 1) = 600 := by decide +kernel
theorem rO0 {w : Nat} (h : kn S0 w = 8) : rf0 w 0 = w + 1 := (qO0 w (kn_lt (by rw [h]; decide)) h).1
theorem kO0 {w : Nat} (h : kn S0 w = 8) : kn S0 (w + 1) = 14 := (qO0 w (kn_lt (by rw [h]; decide)) h).2.1
theorem lO0 {w : Nat} (h : kn S0 w = 8) : ln S0 (w + 1) = 600 := (qO0 w (kn_lt (by rw [h]; decide)) h).2.2
theorem qO4 : ∀ w, w < 297 → kn S0 w = 8 → rf0 w 4 = w + 2 ∧ kn S0 (w + 2) = 13 ∧ ln S0 (w + 2) = 4 := by decide +kernel
theorem rO4 {w : Nat} (h : kn S0 w = 8) : rf0 w 4 = w + 2 := (qO4 w (kn_lt (by rw [h]; decide)) h).1
theorem kO4 {w : Nat} (h : kn S0 w = 8) : kn S0 (w + 2) = 13 := (qO4 w (kn_lt (by rw [h]; decide)) h).2.1
theorem lO4 {w : Nat} (h : kn S0 w = 8) : ln S0 (w + 2) = 4 := (qO4 w (kn_lt (by rw [h]; decide)) h).2.2
theorem qO5 : ∀ w, w < 297 → kn S0 w = 8 → rf0 w 5 = w + 3 ∧ kn S0 (w + 3) = 17 ∧ ln S0 (w + 3) = 2 := by decide +kernel
theorem rO5 {w : Nat} (h : kn S0 w = 8) : rf0 w 5 = w + 3 := (qO5 w (kn_lt (by rw [h]; decide)) h).1
theorem kO5 {w : Nat} (h : kn S0 w = 8) : kn S0 (w + 3) = 17 := (qO5 w (kn_lt (by rw [h]; decide)) h).2.1
theorem lO5 {w : Nat} (h : kn S0 w = 8) : ln S0 (w + 3) = 2 := (qO5 w (kn_lt (by rw [h]; decide)) h).2.2
theorem qO6 : ∀ w, w < 297 → kn S0 w = 8 → rf0 w 6 = w + 4 ∧ kn S0 (w + 4) = 18 ∧ ln S0 (w + 4) = 2 := by decide +kernel
theorem rO6 {w : Nat} (h : kn S0 w = 8) : rf0 w 6 = w + 4 := (qO6 w (kn_lt (by rw [h]; decide)) h).1
theorem kO6 {w : Nat} (h : kn S0 w = 8) : kn S0 (w + 4) = 18 := (qO6 w (kn_lt (by rw [h]; decide)) h).2.1
theorem lO6 {w : Nat} (h : kn S0 w = 8) : ln S0 (w + 4) = 2 := (qO6 w (kn_lt (by rw [h]; decide)) h).2.2
theorem qO7 : ∀ w, w < 297 → kn S0 w = 8 → rf0 w 7 = w + 5 ∧ kn S0 (w + 5) = 19 ∧ ln S0 (w + 5) = 2 := by decide +kernel
theorem rO7 {w : Nat} (h : kn S0 w = 8) : rf0 w 7 = w + 5 := (qO7 w (kn_lt (by rw [h]; decide)) h).1
theorem kO7 {w : Nat} (h : kn S0 w = 8) : kn S0 (w + 5) = 19 := (qO7 w (kn_lt (by rw [h]; decide)) h).2.1
theorem lO7 {w : Nat} (h : kn S0 w = 8) : ln S0 (w + 5) = 2 := (qO7 w (kn_lt (by rw [h]; decide)) h).2.2
theorem qO8 : ∀ w, w < 297 → kn S0 w = 8 → rf0 w 8 = w + 6 ∧ kn S0 (w + 6) = 20 ∧ ln S0 (w + 6) = 2 := by decide +kernel
theorem rO8 {w : Nat} (h : kn S0 w = 8) : rf0 w 8 = w + 6 := (qO8 w (kn_lt (by rw [h]; decide)) h).1
theorem kO8 {w : Nat} (h : kn S0 w = 8) : kn S0 (w + 6) = 20 := (qO8 w (kn_lt (by rw [h]; decide)) h).2.1
theorem lO8 {w : Nat} (h : kn S0 w = 8) : ln S0 (w + 6) = 2 := (qO8 w (kn_lt (by rw [h]; decide)) h).2.2
theorem qE0 : ∀ w, w < 297 → kn S0 w = 2 → rf0 w 0 = w + 1 ∧ kn S0 (w + 1) = 13 ∧ ln S0 (w + 1) = 24 := by decide +kernel
theorem rE0 {w : Nat} (h : kn S0 w = 2) : rf0 w 0 = w + 1 := (qE0 w (kn_lt (by rw [h]; decide)) h).1
theorem kE0 {w : Nat} (h : kn S0 w = 2) : kn S0 (w + 1) = 13 := (qE0 w (kn_lt (by rw [h]; decide)) h).2.1
theorem lE0 {w : Nat} (h : kn S0 w = 2) : ln S0 (w + 1) = 24 := (qE0 w (kn_lt (by rw [h]; decide)) h).2.2
theorem qE2 : ∀ w, w < 297 → kn S0 w = 2 → rf0 w 2 = w + 2 ∧ kn S0 (w + 2) = 13 ∧ ln S0 (w + 2) = 24 := by decide +kernel
theorem rE2 {w : Nat} (h : kn S0 w = 2) : rf0 w 2 = w + 2 := (qE2 w (kn_lt (by rw [h]; decide)) h).1
theorem kE2 {w : Nat} (h : kn S0 w = 2) : kn S0 (w + 2) = 13 := (qE2 w (kn_lt (by rw [h]; decide)) h).2.1
theorem lE2 {w : Nat} (h : kn S0 w = 2) : ln S0 (w + 2) = 24 := (qE2 w (kn_lt (by rw [h]; decide)) h).2.2
theorem qE3 : ∀ w, w < 297 → kn S0 w = 2 → rf0 w 3 = w + 3 ∧ kn S0 (w + 3) = 13 ∧ ln S0 (w + 3) = 24 := by decide +kernel
theorem rE3 {w : Nat} (h : kn S0 w = 2) : rf0 w 3 = w + 3 := (qE3 w (kn_lt (by rw [h]; decide)) h).1
theorem kE3 {w : Nat} (h : kn S0 w = 2) : kn S0 (w + 3) = 13 := (qE3 w (kn_lt (by rw [h]; decide)) h).2.1
theorem lE3 {w : Nat} (h : kn S0 w = 2) : ln S0 (w + 3) = 24 := (qE3 w (kn_lt (by rw [h]; decide)) h).2.2
theorem qE4 : ∀ w, w < 297 → kn S0 w = 2 → rf0 w 4 = w + 4 ∧ kn S0 (w + 4) = 13 ∧ ln S0 (w + 4) = 24 := by decide +kernel
theorem rE4 {w : Nat} (h : kn S0 w = 2) : rf0 w 4 = w + 4 := (qE4 w (kn_lt (by rw [h]; decide)) h).1
theorem kE4 {w : Nat} (h : kn S0 w = 2) : kn S0 (w + 4) = 13 := (qE4 w (kn_lt (by rw [h]; decide)) h).2.1
theorem lE4 {w : Nat} (h : kn S0 w = 2) : ln S0 (w + 4) = 24 := (qE4 w (kn_lt (by rw [h]; decide)) h).2.2
theorem qE5 : ∀ w, w < 297 → kn S0 w = 2 → rf0 w 5 = w + 5 ∧ kn S0 (w + 5) = 13 ∧ ln S0 (w + 5) = 24 := by decide +kernel
theorem rE5 {w : Nat} (h : kn S0 w = 2) : rf0 w 5 = w + 5 := (qE5 w (kn_lt (by rw [h]; decide)) h).1
theorem kE5 {w : Nat} (h : kn S0 w = 2) : kn S0 (w + 5) = 13 := (qE5 w (kn_lt (by rw [h]; decide)) h).2.1
theorem lE5 {w : Nat} (h : kn S0 w = 2) : ln S0 (w + 5) = 24 := (qE5 w (kn_lt (by rw [h]; decide)) h).2.2
