/-! constructors: a small program that runs them, and what it tells is so -/
section CON
abbrev Row : Type := Nat × Nat × Nat × Nat × Int
abbrev Ce : Type := List (Nat × Nat)
abbrev Wr : Type := List (Nat × Nat × Int)
def mt (m : Nat) : sM := [mX0_init, mX1_init, mX2_init, mX3_init, mX4_init, mX5_init, mX6_init, mX7_init, mX8_init, mX9_init, mX10_init, mX11_init, mX12_init, mX10_reset, mX4_reset].getD m mX12_init
def shpK (n : Nat) (K : Ce) : sS := (n, fun a => if 1 ≤ a ∧ a ≤ n then (K.getD (n - a) (99, 0)).1 else 99, fun a => if 1 ≤ a ∧ a ≤ n then (K.getD (n - a) (99, 0)).2 else 0)
def mm : Wr → sD
  | [] => fun _ _ => 0
  | e :: W => up (mm W) e.1 e.2.1 e.2.2
theorem mm_z {n : Nat} : ∀ (W : Wr), (∀ e ∈ W, e.1 ≤ n) → ∀ b j, n < b → mm W b j = 0
  | [], _, _, _, _ => rfl
  | e :: W, h, b, j, hb => by
    have h1 := h e List.mem_cons_self
    show up (mm W) e.1 e.2.1 e.2.2 b j = 0
    rw [up_nea (by omega)]
    exact mm_z W (fun x hx => h x (List.mem_cons_of_mem _ hx)) b j hb
theorem mm_f {n : Nat} {W : Wr} (h : ∀ e ∈ W, e.1 ≤ n) : upA (mm W) (n + 1) (fun _ => 0) = mm W := by
  funext b
  unfold upA
  by_cases z : b = n + 1
  · rw [if_pos z]; funext j; exact (mm_z W h b j (by omega)).symm
  · rw [if_neg z]
theorem alK {n k l : Nat} {K : Ce} : alS (shpK n K) k l = shpK (n + 1) ((k, l) :: K) := by
  unfold alS shpK
  refine Prod.ext rfl (Prod.ext ?_ ?_)
  · funext a
    show (if a = n + 1 then k else if 1 ≤ a ∧ a ≤ n then _ else 99) = if 1 ≤ a ∧ a ≤ n + 1 then (((k, l) :: K).getD (n + 1 - a) (99, 0)).1 else 99
    by_cases z : a = n + 1
    · rw [if_pos z, if_pos (by omega), z, Nat.sub_self]; rfl
    · rw [if_neg z]
      by_cases y : 1 ≤ a ∧ a ≤ n
      · rw [if_pos y, if_pos (by omega), show n + 1 - a = (n - a) + 1 by omega, List.getD_cons_succ]
      · rw [if_neg y, if_neg (by omega)]
  · funext a
    show (if a = n + 1 then l else if 1 ≤ a ∧ a ≤ n then _ else 0) = if 1 ≤ a ∧ a ≤ n + 1 then (((k, l) :: K).getD (n + 1 - a) (99, 0)).2 else 0
    by_cases z : a = n + 1
    · rw [if_pos z, if_pos (by omega), z, Nat.sub_self]; rfl
    · rw [if_neg z]
      by_cases y : 1 ≤ a ∧ a ≤ n
      · rw [if_pos y, if_pos (by omega), show n + 1 - a = (n - a) + 1 by omega, List.getD_cons_succ]
      · rw [if_neg y, if_neg (by omega)]
/-- the rule of an instruction -/
def rOK (m pc op a b : Nat) (n : Int) : Prop := ∀ (G : sG) (ls st : List sV) (S : sS) (d : sD) (kc ks : Nat) (Q : Option sV → sS → sD → Prop), match op with
  | 0 => ∀ x : Nat, ls[a]? = some (vR x) → sB G (mt m) (pc + 1) ls (vR x :: st) S d kc ks Q → sB G (mt m) pc ls st S d kc ks Q
  | 1 => ∀ x : Int, ls[a]? = some (vI x) → sB G (mt m) (pc + 1) ls (vI x :: st) S d kc ks Q → sB G (mt m) pc ls st S d kc ks Q
  | 2 => sB G (mt m) (pc + b) ls (vI n :: st) S d kc ks Q → sB G (mt m) pc ls st S d kc ks Q
  | 3 => ∀ x : Nat, sB G (mt m) (pc + 1) ls (vR x :: vR x :: st) S d kc ks Q → sB G (mt m) pc ls (vR x :: st) S d kc ks Q
  | 4 => sB G (mt m) (pc + 3) ls (vR (S.1 + 1) :: st) (alS S a 0) (upA d (S.1 + 1) (fun _ => 0)) kc ks Q → sB G (mt m) pc ls st S d (kc + 1) (ks + b) Q
  | 5 => ∀ x : Int, 0 ≤ x → x < 10000 → sB G (mt m) (pc + b) ls (vR (S.1 + 1) :: st) (alS S a x.toNat) (upA d (S.1 + 1) (fun _ => 0)) kc ks Q → sB G (mt m) pc ls (vI x :: st) S d (kc + 1) (ks + x.toNat) Q
  | 7 => ∀ x y : Int, (0 ≤ x ∧ x < 100) → (0 ≤ y ∧ y < 1000) → sB G (mt m) (pc + 4) ls (vR (S.1 + 1) :: st) (mS S x.toNat y.toNat x.toNat) (mD S d x.toNat y.toNat x.toNat) kc ks Q → sB G (mt m) pc ls (vI y :: vI x :: st) S d (kc + (1 + x.toNat)) (ks + (x.toNat + x.toNat * y.toNat)) Q
  | 8 => ∀ x r : Nat, kn S r = a → sB G (mt m) (pc + 3) ls st S (up d r b (x : Int)) kc ks Q → sB G (mt m) pc ls (vR x :: vR r :: st) S d kc ks Q
  | 9 => ∀ (x : Int) (r : Nat), kn S r = a → sB G (mt m) (pc + 3) ls st S (up d r b x) kc ks Q → sB G (mt m) pc ls (vI x :: vR r :: st) S d kc ks Q
  | 10 => ∀ x r : Nat, kn S r = a → d r b = (x : Int) → sB G (mt m) (pc + 3) ls (vR x :: st) S d kc ks Q → sB G (mt m) pc ls (vR r :: st) S d kc ks Q
  | 11 => ∀ (x i : Int) (r : Nat), kn S r = 13 → 0 ≤ i → i < ln S r → sB G (mt m) (pc + 1) ls st S (up d r i.toNat x) kc ks Q → sB G (mt m) pc ls (vI x :: vI i :: vR r :: st) S d kc ks Q
  | 12 => ∀ (x r : Nat) (i : Int), kn S r = a → kn S x = b → 0 ≤ i → i < ln S r → sB G (mt m) (pc + 1) ls st S (up d r i.toNat (x : Int)) kc ks Q → sB G (mt m) pc ls (vR x :: vI i :: vR r :: st) S d kc ks Q
  | 13 => ∀ x : Int, ls[a]? = some (vI x) → sB G (mt m) (pc + 3) (sto ls a (vI (w32 (x + n)))) st S d kc ks Q → sB G (mt m) pc ls st S d kc ks Q
  | 14 => ∀ x y : Int, sB G (mt m) (pc + 1) ls (vI (w32 (x * y)) :: st) S d kc ks Q → sB G (mt m) pc ls (vI y :: vI x :: st) S d kc ks Q
  | 15 => sB G (mt m) a ls st S d kc ks Q → sB G (mt m) pc ls st S d kc ks Q
  | 16 => ∀ x y : Int, (y ≤ x → sB G (mt m) a ls st S d kc ks Q) → (¬ y ≤ x → sB G (mt m) (pc + 3) ls st S d kc ks Q) → sB G (mt m) pc ls (vI y :: vI x :: st) S d kc ks Q
  | 17 => ∀ r : Nat, kn S r ≠ 99 → st.length ≤ 4 → sB G (mt m) (pc + 3) ls st S d kc ks Q → sB G (mt m) pc ls (vR r :: st) S d kc ks Q
  | 18 => ∀ (r kc' ks' : Nat) (Q' : Option sV → sS → sD → Prop), kn S r = b → st.length ≤ 4 → sB G (mt a) 0 (ent (mL (mt a)) [vR r]) [] S d kc' ks' Q' → (∀ q S' d', Q' q S' d' → sB G (mt m) (pc + 3) ls (q.toList ++ st) S' d' kc ks Q) → sB G (mt m) pc ls (vR r :: st) S d (kc' + kc) (ks' + ks) Q
  | 20 => st = [] → Q none S d → sB G (mt m) pc ls st S d kc ks Q
  | 21 => ∀ x : Int, sB G (mt m) (pc + 1) (sto ls a (vI x)) st S d kc ks Q → sB G (mt m) pc ls (vI x :: st) S d kc ks Q
  | _ => True
abbrev Xs : Type := Nat × Nat × List sV × List sV × Nat × Ce × Wr × Nat × Nat
abbrev Rs : Type := Nat × Ce × Wr × Nat × Nat
def kd (n : Nat) (K : Ce) (r : Nat) : Nat × Nat := if 1 ≤ r ∧ r ≤ n then K.getD (n - r) (99, 0) else (99, 0)
theorem kd_k {n r : Nat} {K : Ce} : kn (shpK n K) r = (kd n K r).1 ∧ ln (shpK n K) r = (kd n K r).2 := by
  unfold kd
  by_cases z : 1 ≤ r ∧ r ≤ n
  · rw [if_pos z]; exact ⟨if_pos z, if_pos z⟩
  · rw [if_neg z]; exact ⟨if_neg z, if_neg z⟩
/-- rows of a row of rows -/
def mlK (k : Nat) : Nat → Nat → Ce → Wr → Nat → Nat × Ce × Wr
  | 0, n, K, W, _ => (n, K, W)
  | f + 1, n, K, W, q => mlK k f (n + 1) ((13, k) :: K) ((q, n - q, ((n + 1 : Nat) : Int)) :: W) q
noncomputable def s_0 (ih : Xs → Option Rs) (m pc a b : Nat) (v : Int) (ls st : List sV) (n : Nat) (K : Ce) (W : Wr) (c s : Nat) : Option Rs := match ls[a]? with
      | some (.inr (.inr (.inl x))) => ih (m, pc + 1, ls, vR x :: st, n, K, W, c, s)
      | _ => none
noncomputable def s_1 (ih : Xs → Option Rs) (m pc a b : Nat) (v : Int) (ls st : List sV) (n : Nat) (K : Ce) (W : Wr) (c s : Nat) : Option Rs := match ls[a]? with
      | some (.inl x) => ih (m, pc + 1, ls, vI x :: st, n, K, W, c, s)
      | _ => none
noncomputable def s_2 (ih : Xs → Option Rs) (m pc a b : Nat) (v : Int) (ls st : List sV) (n : Nat) (K : Ce) (W : Wr) (c s : Nat) : Option Rs := ih (m, pc + b, ls, vI v :: st, n, K, W, c, s)
noncomputable def s_3 (ih : Xs → Option Rs) (m pc a b : Nat) (v : Int) (ls st : List sV) (n : Nat) (K : Ce) (W : Wr) (c s : Nat) : Option Rs := match st with
      | .inr (.inr (.inl x)) :: st => ih (m, pc + 1, ls, vR x :: vR x :: st, n, K, W, c, s)
      | _ => none
noncomputable def s_4 (ih : Xs → Option Rs) (m pc a b : Nat) (v : Int) (ls st : List sV) (n : Nat) (K : Ce) (W : Wr) (c s : Nat) : Option Rs := ih (m, pc + 3, ls, vR (n + 1) :: st, n + 1, (a, 0) :: K, W, c + 1, s + b)
noncomputable def s_5 (ih : Xs → Option Rs) (m pc a b : Nat) (v : Int) (ls st : List sV) (n : Nat) (K : Ce) (W : Wr) (c s : Nat) : Option Rs := match st with
      | .inl x :: st => if 0 ≤ x ∧ x < 10000 then ih (m, pc + b, ls, vR (n + 1) :: st, n + 1, (a, x.toNat) :: K, W, c + 1, s + x.toNat) else none
      | _ => none
noncomputable def s_7 (ih : Xs → Option Rs) (m pc a b : Nat) (v : Int) (ls st : List sV) (n : Nat) (K : Ce) (W : Wr) (c s : Nat) : Option Rs := match st with
      | .inl y :: .inl x :: st => if (0 ≤ x ∧ x < 100) ∧ (0 ≤ y ∧ y < 1000) then ih (m, pc + 4, ls, vR (n + 1) :: st, (mlK y.toNat x.toNat (n + 1) ((23, x.toNat) :: K) W (n + 1)).1, (mlK y.toNat x.toNat (n + 1) ((23, x.toNat) :: K) W (n + 1)).2.1, (mlK y.toNat x.toNat (n + 1) ((23, x.toNat) :: K) W (n + 1)).2.2, c + (1 + x.toNat), s + (x.toNat + x.toNat * y.toNat)) else none
      | _ => none
noncomputable def s_8 (ih : Xs → Option Rs) (m pc a b : Nat) (v : Int) (ls st : List sV) (n : Nat) (K : Ce) (W : Wr) (c s : Nat) : Option Rs := match st with
      | .inr (.inr (.inl x)) :: .inr (.inr (.inl r)) :: st => if (kd n K r).1 = a ∧ r ≤ n then ih (m, pc + 3, ls, st, n, K, (r, b, (x : Int)) :: W, c, s) else none
      | _ => none
noncomputable def s_9 (ih : Xs → Option Rs) (m pc a b : Nat) (v : Int) (ls st : List sV) (n : Nat) (K : Ce) (W : Wr) (c s : Nat) : Option Rs := match st with
      | .inl x :: .inr (.inr (.inl r)) :: st => if (kd n K r).1 = a ∧ r ≤ n then ih (m, pc + 3, ls, st, n, K, (r, b, x) :: W, c, s) else none
      | _ => none
noncomputable def s_10 (ih : Xs → Option Rs) (m pc a b : Nat) (v : Int) (ls st : List sV) (n : Nat) (K : Ce) (W : Wr) (c s : Nat) : Option Rs := match st with
      | .inr (.inr (.inl r)) :: st => if (kd n K r).1 = a then (match mm W r b with | .ofNat x => ih (m, pc + 3, ls, vR x :: st, n, K, W, c, s) | _ => none) else none
      | _ => none
noncomputable def s_11 (ih : Xs → Option Rs) (m pc a b : Nat) (v : Int) (ls st : List sV) (n : Nat) (K : Ce) (W : Wr) (c s : Nat) : Option Rs := match st with
      | .inl x :: .inl i :: .inr (.inr (.inl r)) :: st => if ((kd n K r).1 = 13 ∧ r ≤ n) ∧ 0 ≤ i ∧ i < ((kd n K r).2 : Int) then ih (m, pc + 1, ls, st, n, K, (r, i.toNat, x) :: W, c, s) else none
      | _ => none
noncomputable def s_12 (ih : Xs → Option Rs) (m pc a b : Nat) (v : Int) (ls st : List sV) (n : Nat) (K : Ce) (W : Wr) (c s : Nat) : Option Rs := match st with
      | .inr (.inr (.inl x)) :: .inl i :: .inr (.inr (.inl r)) :: st => if ((kd n K r).1 = a ∧ r ≤ n) ∧ (kd n K x).1 = b ∧ 0 ≤ i ∧ i < ((kd n K r).2 : Int) then ih (m, pc + 1, ls, st, n, K, (r, i.toNat, (x : Int)) :: W, c, s) else none
      | _ => none
noncomputable def s_13 (ih : Xs → Option Rs) (m pc a b : Nat) (v : Int) (ls st : List sV) (n : Nat) (K : Ce) (W : Wr) (c s : Nat) : Option Rs := match ls[a]? with
      | some (.inl x) => ih (m, pc + 3, sto ls a (vI (w32 (x + v))), st, n, K, W, c, s)
      | _ => none
noncomputable def s_14 (ih : Xs → Option Rs) (m pc a b : Nat) (v : Int) (ls st : List sV) (n : Nat) (K : Ce) (W : Wr) (c s : Nat) : Option Rs := match st with
      | .inl y :: .inl x :: st => ih (m, pc + 1, ls, vI (w32 (x * y)) :: st, n, K, W, c, s)
      | _ => none
noncomputable def s_15 (ih : Xs → Option Rs) (m pc a b : Nat) (v : Int) (ls st : List sV) (n : Nat) (K : Ce) (W : Wr) (c s : Nat) : Option Rs := ih (m, a, ls, st, n, K, W, c, s)
noncomputable def s_16 (ih : Xs → Option Rs) (m pc a b : Nat) (v : Int) (ls st : List sV) (n : Nat) (K : Ce) (W : Wr) (c s : Nat) : Option Rs := match st with
      | .inl y :: .inl x :: st => if y ≤ x then ih (m, a, ls, st, n, K, W, c, s) else ih (m, pc + 3, ls, st, n, K, W, c, s)
      | _ => none
noncomputable def s_17 (ih : Xs → Option Rs) (m pc a b : Nat) (v : Int) (ls st : List sV) (n : Nat) (K : Ce) (W : Wr) (c s : Nat) : Option Rs := match st with
      | .inr (.inr (.inl r)) :: st => if (kd n K r).1 ≠ 99 ∧ st.length ≤ 4 then ih (m, pc + 3, ls, st, n, K, W, c, s) else none
      | _ => none
noncomputable def s_18 (ih : Xs → Option Rs) (m pc a b : Nat) (v : Int) (ls st : List sV) (n : Nat) (K : Ce) (W : Wr) (c s : Nat) : Option Rs := match st with
      | .inr (.inr (.inl r)) :: st => if (kd n K r).1 = b ∧ st.length ≤ 4 then (match ih (a, 0, ent (mL (mt a)) [vR r], [], n, K, W, c, s) with | some (n1, K1, W1, c1, s1) => ih (m, pc + 3, ls, st, n1, K1, W1, c1, s1) | none => none) else none
      | _ => none
noncomputable def s_20 (ih : Xs → Option Rs) (m pc a b : Nat) (v : Int) (ls st : List sV) (n : Nat) (K : Ce) (W : Wr) (c s : Nat) : Option Rs := match st with
      | [] => some (n, K, W, c, s)
      | _ => none
noncomputable def s_21 (ih : Xs → Option Rs) (m pc a b : Nat) (v : Int) (ls st : List sV) (n : Nat) (K : Ce) (W : Wr) (c s : Nat) : Option Rs := match st with
      | .inl x :: st => ih (m, pc + 1, sto ls a (vI x), st, n, K, W, c, s)
      | _ => none
noncomputable def stp (tab : Nat → List Row) (ih : Xs → Option Rs) (m pc : Nat) (ls st : List sV) (n : Nat) (K : Ce) (W : Wr) (c s : Nat) : Option Rs :=
  match (tab m).find? (fun r => r.1 == pc) with
  | none => none
  | some (_, op, a, b, v) => match op with
    | 0 => s_0 ih m pc a b v ls st n K W c s
    | 1 => s_1 ih m pc a b v ls st n K W c s
    | 2 => s_2 ih m pc a b v ls st n K W c s
    | 3 => s_3 ih m pc a b v ls st n K W c s
    | 4 => s_4 ih m pc a b v ls st n K W c s
    | 5 => s_5 ih m pc a b v ls st n K W c s
    | 7 => s_7 ih m pc a b v ls st n K W c s
    | 8 => s_8 ih m pc a b v ls st n K W c s
    | 9 => s_9 ih m pc a b v ls st n K W c s
    | 10 => s_10 ih m pc a b v ls st n K W c s
    | 11 => s_11 ih m pc a b v ls st n K W c s
    | 12 => s_12 ih m pc a b v ls st n K W c s
    | 13 => s_13 ih m pc a b v ls st n K W c s
    | 14 => s_14 ih m pc a b v ls st n K W c s
    | 15 => s_15 ih m pc a b v ls st n K W c s
    | 16 => s_16 ih m pc a b v ls st n K W c s
    | 17 => s_17 ih m pc a b v ls st n K W c s
    | 18 => s_18 ih m pc a b v ls st n K W c s
    | 20 => s_20 ih m pc a b v ls st n K W c s
    | 21 => s_21 ih m pc a b v ls st n K W c s
    | _ => none
noncomputable def run (tab : Nat → List Row) (f : Nat) : Xs → Option Rs := Nat.rec (motive := fun _ => Xs → Option Rs) (fun _ => none) (fun _ ih x => stp tab ih x.1 x.2.1 x.2.2.1 x.2.2.2.1 x.2.2.2.2.1 x.2.2.2.2.2.1 x.2.2.2.2.2.2.1 x.2.2.2.2.2.2.2.1 x.2.2.2.2.2.2.2.2) f
/-- what a run tells -/
def Tl (m pc : Nat) (ls st : List sV) (n : Nat) (K : Ce) (W : Wr) (c s : Nat) (R : Rs) : Prop := (∀ e ∈ W, e.1 ≤ n) → c ≤ R.2.2.2.1 ∧ s ≤ R.2.2.2.2 ∧ (∀ e ∈ R.2.2.1, e.1 ≤ R.1) ∧ ∀ (G : sG) (Q : Option sV → sS → sD → Prop), Q none (shpK R.1 R.2.1) (mm R.2.2.1) → sB G (mt m) pc ls st (shpK n K) (mm W) (R.2.2.2.1 - c) (R.2.2.2.2 - s) Q
theorem mlK_s (S0' : sS) (d0 : sD) (k q N : Nat) : ∀ (f i n : Nat) (K : Ce) (W : Wr), mS S0' N k i = shpK n K → mD S0' d0 N k i = mm W → S0'.1 + 1 = q → n = q + i → (∀ e ∈ W, e.1 ≤ n) → mS S0' N k (i + f) = shpK (mlK k f n K W q).1 (mlK k f n K W q).2.1 ∧ mD S0' d0 N k (i + f) = mm (mlK k f n K W q).2.2 ∧ (∀ e ∈ (mlK k f n K W q).2.2, e.1 ≤ (mlK k f n K W q).1) ∧ (mlK k f n K W q).1 = n + f
  | 0, i, n, K, W, h1, h2, _, _, h3 => ⟨h1, h2, h3, rfl⟩
  | f + 1, i, n, K, W, h1, h2, hq, hn, h3 => by
    have e1 : (mS S0' N k i).1 = n := by rw [h1]; rfl
    have g1 : mS S0' N k (i + 1) = shpK (n + 1) ((13, k) :: K) := by
      show alS (mS S0' N k i) 13 k = _
      rw [h1]; exact alK
    have g2 : mD S0' d0 N k (i + 1) = mm ((q, n - q, ((n + 1 : Nat) : Int)) :: W) := by
      show up (upA (mD S0' d0 N k i) ((mS S0' N k i).1 + 1) (fun _ => 0)) (S0'.1 + 1) i (((mS S0' N k i).1 + 1 : Nat) : Int) = up (mm W) q (n - q) ((n + 1 : Nat) : Int)
      rw [h2, e1, mm_f h3, hq, show n - q = i by omega]
    have g3 := mlK_s S0' d0 k q N f (i + 1) (n + 1) ((13, k) :: K) ((q, n - q, ((n + 1 : Nat) : Int)) :: W) g1 g2 hq (by omega) (fun e he => by
      rcases List.mem_cons.mp he with rfl | z
      · show q ≤ n + 1; omega
      · have := h3 e z; omega)
    rw [show i + 1 + f = i + (f + 1) by omega] at g3
    exact ⟨g3.1, g3.2.1, g3.2.2.1, by rw [show n + (f + 1) = n + 1 + f by omega]; exact g3.2.2.2⟩
end CON
