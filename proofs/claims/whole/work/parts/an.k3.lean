/-! constructors: what a run tells is so -/
section CON2
theorem w_cons {n r j : Nat} {x : Int} {W : Wr} (h : ∀ e ∈ W, e.1 ≤ n) (hr : r ≤ n) : ∀ e ∈ (r, j, x) :: W, e.1 ≤ n := fun e he => by
  rcases List.mem_cons.mp he with rfl | z
  · exact hr
  · exact h e z
theorem w_up {n k : Nat} {W : Wr} (h : ∀ e ∈ W, e.1 ≤ n) (hk : n ≤ k) : ∀ e ∈ W, e.1 ≤ k := fun e he => Nat.le_trans (h e he) hk
theorem tl_0 {ih : Xs → Option Rs} (hih : ∀ (m pc : Nat) (ls st : List sV) (n : Nat) (K : Ce) (W : Wr) (c s : Nat) (R : Rs), ih (m, pc, ls, st, n, K, W, c, s) = some R → Tl m pc ls st n K W c s R) {m pc' a b : Nat} {v : Int} {ls st : List sV} {n : Nat} {K : Ce} {W : Wr} {c s : Nat} {R : Rs} (hr : rOK m pc' 0 a b v) (h : s_0 ih m pc' a b v ls st n K W c s = some R) : Tl m pc' ls st n K W c s R := by
  intro hW
  unfold s_0 at h
  unfold rOK at hr
  try dsimp only at hr
  split at h
  · next x hx =>
    obtain ⟨c1, c2, c3, c4⟩ := hih _ _ _ _ _ _ _ _ _ _ h hW
    exact ⟨c1, c2, c3, fun G Q hQ => hr G ls st _ _ _ _ Q x hx (c4 G Q hQ)⟩
  · cases h
theorem tl_1 {ih : Xs → Option Rs} (hih : ∀ (m pc : Nat) (ls st : List sV) (n : Nat) (K : Ce) (W : Wr) (c s : Nat) (R : Rs), ih (m, pc, ls, st, n, K, W, c, s) = some R → Tl m pc ls st n K W c s R) {m pc' a b : Nat} {v : Int} {ls st : List sV} {n : Nat} {K : Ce} {W : Wr} {c s : Nat} {R : Rs} (hr : rOK m pc' 1 a b v) (h : s_1 ih m pc' a b v ls st n K W c s = some R) : Tl m pc' ls st n K W c s R := by
  intro hW
  unfold s_1 at h
  unfold rOK at hr
  try dsimp only at hr
  split at h
  · next x hx =>
    obtain ⟨c1, c2, c3, c4⟩ := hih _ _ _ _ _ _ _ _ _ _ h hW
    exact ⟨c1, c2, c3, fun G Q hQ => hr G ls st _ _ _ _ Q x hx (c4 G Q hQ)⟩
  · cases h
theorem tl_2 {ih : Xs → Option Rs} (hih : ∀ (m pc : Nat) (ls st : List sV) (n : Nat) (K : Ce) (W : Wr) (c s : Nat) (R : Rs), ih (m, pc, ls, st, n, K, W, c, s) = some R → Tl m pc ls st n K W c s R) {m pc' a b : Nat} {v : Int} {ls st : List sV} {n : Nat} {K : Ce} {W : Wr} {c s : Nat} {R : Rs} (hr : rOK m pc' 2 a b v) (h : s_2 ih m pc' a b v ls st n K W c s = some R) : Tl m pc' ls st n K W c s R := by
  intro hW
  unfold s_2 at h
  unfold rOK at hr
  try dsimp only at hr
  obtain ⟨c1, c2, c3, c4⟩ := hih _ _ _ _ _ _ _ _ _ _ h hW
  exact ⟨c1, c2, c3, fun G Q hQ => hr G ls st _ _ _ _ Q (c4 G Q hQ)⟩
theorem tl_3 {ih : Xs → Option Rs} (hih : ∀ (m pc : Nat) (ls st : List sV) (n : Nat) (K : Ce) (W : Wr) (c s : Nat) (R : Rs), ih (m, pc, ls, st, n, K, W, c, s) = some R → Tl m pc ls st n K W c s R) {m pc' a b : Nat} {v : Int} {ls st : List sV} {n : Nat} {K : Ce} {W : Wr} {c s : Nat} {R : Rs} (hr : rOK m pc' 3 a b v) (h : s_3 ih m pc' a b v ls st n K W c s = some R) : Tl m pc' ls st n K W c s R := by
  intro hW
  unfold s_3 at h
  unfold rOK at hr
  try dsimp only at hr
  split at h
  · next x st' =>
    obtain ⟨c1, c2, c3, c4⟩ := hih _ _ _ _ _ _ _ _ _ _ h hW
    exact ⟨c1, c2, c3, fun G Q hQ => hr G ls st' _ _ _ _ Q x (c4 G Q hQ)⟩
  · cases h
theorem tl_4 {ih : Xs → Option Rs} (hih : ∀ (m pc : Nat) (ls st : List sV) (n : Nat) (K : Ce) (W : Wr) (c s : Nat) (R : Rs), ih (m, pc, ls, st, n, K, W, c, s) = some R → Tl m pc ls st n K W c s R) {m pc' a b : Nat} {v : Int} {ls st : List sV} {n : Nat} {K : Ce} {W : Wr} {c s : Nat} {R : Rs} (hr : rOK m pc' 4 a b v) (h : s_4 ih m pc' a b v ls st n K W c s = some R) : Tl m pc' ls st n K W c s R := by
  intro hW
  unfold s_4 at h
  unfold rOK at hr
  try dsimp only at hr
  obtain ⟨c1, c2, c3, c4⟩ := hih _ _ _ _ _ _ _ _ _ _ h (w_up hW (Nat.le_succ n))
  refine ⟨by omega, by omega, c3, fun G Q hQ => ?_⟩
  rw [show R.2.2.2.1 - c = R.2.2.2.1 - (c + 1) + 1 by omega, show R.2.2.2.2 - s = R.2.2.2.2 - (s + b) + b by omega]
  refine hr G ls st (shpK n K) (mm W) _ _ Q ?_
  rw [alK]
  show sB G (mt m) (pc' + 3) ls (vR (n + 1) :: st) _ (upA (mm W) (n + 1) (fun _ => 0)) _ _ Q
  rw [mm_f hW]
  exact c4 G Q hQ
theorem tl_5 {ih : Xs → Option Rs} (hih : ∀ (m pc : Nat) (ls st : List sV) (n : Nat) (K : Ce) (W : Wr) (c s : Nat) (R : Rs), ih (m, pc, ls, st, n, K, W, c, s) = some R → Tl m pc ls st n K W c s R) {m pc' a b : Nat} {v : Int} {ls st : List sV} {n : Nat} {K : Ce} {W : Wr} {c s : Nat} {R : Rs} (hr : rOK m pc' 5 a b v) (h : s_5 ih m pc' a b v ls st n K W c s = some R) : Tl m pc' ls st n K W c s R := by
  intro hW
  unfold s_5 at h
  unfold rOK at hr
  try dsimp only at hr
  split at h
  · next x st' =>
    split at h
    · next hx =>
      obtain ⟨c1, c2, c3, c4⟩ := hih _ _ _ _ _ _ _ _ _ _ h (w_up hW (Nat.le_succ n))
      refine ⟨by omega, by omega, c3, fun G Q hQ => ?_⟩
      rw [show R.2.2.2.1 - c = R.2.2.2.1 - (c + 1) + 1 by omega, show R.2.2.2.2 - s = R.2.2.2.2 - (s + x.toNat) + x.toNat by omega]
      refine hr G ls st' (shpK n K) (mm W) _ _ Q x hx.1 hx.2 ?_
      rw [alK]
      show sB G (mt m) (pc' + b) ls (vR (n + 1) :: st') _ (upA (mm W) (n + 1) (fun _ => 0)) _ _ Q
      rw [mm_f hW]
      exact c4 G Q hQ
    · cases h
  · cases h
theorem tl_7 {ih : Xs → Option Rs} (hih : ∀ (m pc : Nat) (ls st : List sV) (n : Nat) (K : Ce) (W : Wr) (c s : Nat) (R : Rs), ih (m, pc, ls, st, n, K, W, c, s) = some R → Tl m pc ls st n K W c s R) {m pc' a b : Nat} {v : Int} {ls st : List sV} {n : Nat} {K : Ce} {W : Wr} {c s : Nat} {R : Rs} (hr : rOK m pc' 7 a b v) (h : s_7 ih m pc' a b v ls st n K W c s = some R) : Tl m pc' ls st n K W c s R := by
  intro hW
  unfold s_7 at h
  unfold rOK at hr
  try dsimp only at hr
  split at h
  · next y x st' =>
    split at h
    · next hx =>
      have g0 : mS (shpK n K) x.toNat y.toNat 0 = shpK (n + 1) ((23, x.toNat) :: K) := alK
      have g1 : mD (shpK n K) (mm W) x.toNat y.toNat 0 = mm W := mm_f hW
      obtain ⟨k1, k2, k3, k4⟩ := mlK_s (shpK n K) (mm W) y.toNat (n + 1) x.toNat x.toNat 0 (n + 1) ((23, x.toNat) :: K) W g0 g1 rfl rfl (w_up hW (Nat.le_succ n))
      rw [Nat.zero_add] at k1 k2
      obtain ⟨c1, c2, c3, c4⟩ := hih _ _ _ _ _ _ _ _ _ _ h k3
      refine ⟨by omega, by omega, c3, fun G Q hQ => ?_⟩
      rw [show R.2.2.2.1 - c = R.2.2.2.1 - (c + (1 + x.toNat)) + (1 + x.toNat) by omega, show R.2.2.2.2 - s = R.2.2.2.2 - (s + (x.toNat + x.toNat * y.toNat)) + (x.toNat + x.toNat * y.toNat) by omega]
      refine hr G ls st' (shpK n K) (mm W) _ _ Q x y hx.1 hx.2 ?_
      rw [k1, k2]
      exact c4 G Q hQ
    · cases h
  · cases h
theorem tl_8 {ih : Xs → Option Rs} (hih : ∀ (m pc : Nat) (ls st : List sV) (n : Nat) (K : Ce) (W : Wr) (c s : Nat) (R : Rs), ih (m, pc, ls, st, n, K, W, c, s) = some R → Tl m pc ls st n K W c s R) {m pc' a b : Nat} {v : Int} {ls st : List sV} {n : Nat} {K : Ce} {W : Wr} {c s : Nat} {R : Rs} (hr : rOK m pc' 8 a b v) (h : s_8 ih m pc' a b v ls st n K W c s = some R) : Tl m pc' ls st n K W c s R := by
  intro hW
  unfold s_8 at h
  unfold rOK at hr
  try dsimp only at hr
  split at h
  · next x r st' =>
    split at h
    · next hx =>
      obtain ⟨c1, c2, c3, c4⟩ := hih _ _ _ _ _ _ _ _ _ _ h (w_cons hW hx.2)
      exact ⟨c1, c2, c3, fun G Q hQ => hr G ls st' _ _ _ _ Q x r (kd_k.1.trans hx.1) (c4 G Q hQ)⟩
    · cases h
  · cases h
theorem tl_9 {ih : Xs → Option Rs} (hih : ∀ (m pc : Nat) (ls st : List sV) (n : Nat) (K : Ce) (W : Wr) (c s : Nat) (R : Rs), ih (m, pc, ls, st, n, K, W, c, s) = some R → Tl m pc ls st n K W c s R) {m pc' a b : Nat} {v : Int} {ls st : List sV} {n : Nat} {K : Ce} {W : Wr} {c s : Nat} {R : Rs} (hr : rOK m pc' 9 a b v) (h : s_9 ih m pc' a b v ls st n K W c s = some R) : Tl m pc' ls st n K W c s R := by
  intro hW
  unfold s_9 at h
  unfold rOK at hr
  try dsimp only at hr
  split at h
  · next x r st' =>
    split at h
    · next hx =>
      obtain ⟨c1, c2, c3, c4⟩ := hih _ _ _ _ _ _ _ _ _ _ h (w_cons hW hx.2)
      exact ⟨c1, c2, c3, fun G Q hQ => hr G ls st' _ _ _ _ Q x r (kd_k.1.trans hx.1) (c4 G Q hQ)⟩
    · cases h
  · cases h
theorem tl_10 {ih : Xs → Option Rs} (hih : ∀ (m pc : Nat) (ls st : List sV) (n : Nat) (K : Ce) (W : Wr) (c s : Nat) (R : Rs), ih (m, pc, ls, st, n, K, W, c, s) = some R → Tl m pc ls st n K W c s R) {m pc' a b : Nat} {v : Int} {ls st : List sV} {n : Nat} {K : Ce} {W : Wr} {c s : Nat} {R : Rs} (hr : rOK m pc' 10 a b v) (h : s_10 ih m pc' a b v ls st n K W c s = some R) : Tl m pc' ls st n K W c s R := by
  intro hW
  unfold s_10 at h
  unfold rOK at hr
  try dsimp only at hr
  split at h
  · next r st' =>
    split at h
    · next hx =>
      split at h
      · next x hy =>
        obtain ⟨c1, c2, c3, c4⟩ := hih _ _ _ _ _ _ _ _ _ _ h hW
        exact ⟨c1, c2, c3, fun G Q hQ => hr G ls st' _ _ _ _ Q x r (kd_k.1.trans hx) hy (c4 G Q hQ)⟩
      · cases h
    · cases h
  · cases h
theorem tl_11 {ih : Xs → Option Rs} (hih : ∀ (m pc : Nat) (ls st : List sV) (n : Nat) (K : Ce) (W : Wr) (c s : Nat) (R : Rs), ih (m, pc, ls, st, n, K, W, c, s) = some R → Tl m pc ls st n K W c s R) {m pc' a b : Nat} {v : Int} {ls st : List sV} {n : Nat} {K : Ce} {W : Wr} {c s : Nat} {R : Rs} (hr : rOK m pc' 11 a b v) (h : s_11 ih m pc' a b v ls st n K W c s = some R) : Tl m pc' ls st n K W c s R := by
  intro hW
  unfold s_11 at h
  unfold rOK at hr
  try dsimp only at hr
  split at h
  · next x i r st' =>
    split at h
    · next hx =>
      obtain ⟨c1, c2, c3, c4⟩ := hih _ _ _ _ _ _ _ _ _ _ h (w_cons hW hx.1.2)
      exact ⟨c1, c2, c3, fun G Q hQ => hr G ls st' _ _ _ _ Q x i r (kd_k.1.trans hx.1.1) hx.2.1 (by rw [kd_k.2]; exact hx.2.2) (c4 G Q hQ)⟩
    · cases h
  · cases h
theorem tl_12 {ih : Xs → Option Rs} (hih : ∀ (m pc : Nat) (ls st : List sV) (n : Nat) (K : Ce) (W : Wr) (c s : Nat) (R : Rs), ih (m, pc, ls, st, n, K, W, c, s) = some R → Tl m pc ls st n K W c s R) {m pc' a b : Nat} {v : Int} {ls st : List sV} {n : Nat} {K : Ce} {W : Wr} {c s : Nat} {R : Rs} (hr : rOK m pc' 12 a b v) (h : s_12 ih m pc' a b v ls st n K W c s = some R) : Tl m pc' ls st n K W c s R := by
  intro hW
  unfold s_12 at h
  unfold rOK at hr
  try dsimp only at hr
  split at h
  · next x i r st' =>
    split at h
    · next hx =>
      obtain ⟨c1, c2, c3, c4⟩ := hih _ _ _ _ _ _ _ _ _ _ h (w_cons hW hx.1.2)
      exact ⟨c1, c2, c3, fun G Q hQ => hr G ls st' _ _ _ _ Q x r i (kd_k.1.trans hx.1.1) (kd_k.1.trans hx.2.1) hx.2.2.1 (by rw [kd_k.2]; exact hx.2.2.2) (c4 G Q hQ)⟩
    · cases h
  · cases h
theorem tl_13 {ih : Xs → Option Rs} (hih : ∀ (m pc : Nat) (ls st : List sV) (n : Nat) (K : Ce) (W : Wr) (c s : Nat) (R : Rs), ih (m, pc, ls, st, n, K, W, c, s) = some R → Tl m pc ls st n K W c s R) {m pc' a b : Nat} {v : Int} {ls st : List sV} {n : Nat} {K : Ce} {W : Wr} {c s : Nat} {R : Rs} (hr : rOK m pc' 13 a b v) (h : s_13 ih m pc' a b v ls st n K W c s = some R) : Tl m pc' ls st n K W c s R := by
  intro hW
  unfold s_13 at h
  unfold rOK at hr
  try dsimp only at hr
  split at h
  · next x hx =>
    obtain ⟨c1, c2, c3, c4⟩ := hih _ _ _ _ _ _ _ _ _ _ h hW
    exact ⟨c1, c2, c3, fun G Q hQ => hr G ls st _ _ _ _ Q x hx (c4 G Q hQ)⟩
  · cases h
theorem tl_14 {ih : Xs → Option Rs} (hih : ∀ (m pc : Nat) (ls st : List sV) (n : Nat) (K : Ce) (W : Wr) (c s : Nat) (R : Rs), ih (m, pc, ls, st, n, K, W, c, s) = some R → Tl m pc ls st n K W c s R) {m pc' a b : Nat} {v : Int} {ls st : List sV} {n : Nat} {K : Ce} {W : Wr} {c s : Nat} {R : Rs} (hr : rOK m pc' 14 a b v) (h : s_14 ih m pc' a b v ls st n K W c s = some R) : Tl m pc' ls st n K W c s R := by
  intro hW
  unfold s_14 at h
  unfold rOK at hr
  try dsimp only at hr
  split at h
  · next y x st' =>
    obtain ⟨c1, c2, c3, c4⟩ := hih _ _ _ _ _ _ _ _ _ _ h hW
    exact ⟨c1, c2, c3, fun G Q hQ => hr G ls st' _ _ _ _ Q x y (c4 G Q hQ)⟩
  · cases h
theorem tl_15 {ih : Xs → Option Rs} (hih : ∀ (m pc : Nat) (ls st : List sV) (n : Nat) (K : Ce) (W : Wr) (c s : Nat) (R : Rs), ih (m, pc, ls, st, n, K, W, c, s) = some R → Tl m pc ls st n K W c s R) {m pc' a b : Nat} {v : Int} {ls st : List sV} {n : Nat} {K : Ce} {W : Wr} {c s : Nat} {R : Rs} (hr : rOK m pc' 15 a b v) (h : s_15 ih m pc' a b v ls st n K W c s = some R) : Tl m pc' ls st n K W c s R := by
  intro hW
  unfold s_15 at h
  unfold rOK at hr
  try dsimp only at hr
  obtain ⟨c1, c2, c3, c4⟩ := hih _ _ _ _ _ _ _ _ _ _ h hW
  exact ⟨c1, c2, c3, fun G Q hQ => hr G ls st _ _ _ _ Q (c4 G Q hQ)⟩
theorem tl_16 {ih : Xs → Option Rs} (hih : ∀ (m pc : Nat) (ls st : List sV) (n : Nat) (K : Ce) (W : Wr) (c s : Nat) (R : Rs), ih (m, pc, ls, st, n, K, W, c, s) = some R → Tl m pc ls st n K W c s R) {m pc' a b : Nat} {v : Int} {ls st : List sV} {n : Nat} {K : Ce} {W : Wr} {c s : Nat} {R : Rs} (hr : rOK m pc' 16 a b v) (h : s_16 ih m pc' a b v ls st n K W c s = some R) : Tl m pc' ls st n K W c s R := by
  intro hW
  unfold s_16 at h
  unfold rOK at hr
  try dsimp only at hr
  split at h
  · next y x st' =>
    split at h
    · next hx =>
      obtain ⟨c1, c2, c3, c4⟩ := hih _ _ _ _ _ _ _ _ _ _ h hW
      exact ⟨c1, c2, c3, fun G Q hQ => hr G ls st' _ _ _ _ Q x y (fun _ => c4 G Q hQ) (fun z => absurd hx z)⟩
    · next hx =>
      obtain ⟨c1, c2, c3, c4⟩ := hih _ _ _ _ _ _ _ _ _ _ h hW
      exact ⟨c1, c2, c3, fun G Q hQ => hr G ls st' _ _ _ _ Q x y (fun z => absurd z hx) (fun _ => c4 G Q hQ)⟩
  · cases h
theorem tl_17 {ih : Xs → Option Rs} (hih : ∀ (m pc : Nat) (ls st : List sV) (n : Nat) (K : Ce) (W : Wr) (c s : Nat) (R : Rs), ih (m, pc, ls, st, n, K, W, c, s) = some R → Tl m pc ls st n K W c s R) {m pc' a b : Nat} {v : Int} {ls st : List sV} {n : Nat} {K : Ce} {W : Wr} {c s : Nat} {R : Rs} (hr : rOK m pc' 17 a b v) (h : s_17 ih m pc' a b v ls st n K W c s = some R) : Tl m pc' ls st n K W c s R := by
  intro hW
  unfold s_17 at h
  unfold rOK at hr
  try dsimp only at hr
  split at h
  · next r st' =>
    split at h
    · next hx =>
      obtain ⟨c1, c2, c3, c4⟩ := hih _ _ _ _ _ _ _ _ _ _ h hW
      exact ⟨c1, c2, c3, fun G Q hQ => hr G ls st' _ _ _ _ Q r (fun z => hx.1 (kd_k.1.symm.trans z)) hx.2 (c4 G Q hQ)⟩
    · cases h
  · cases h
theorem tl_18 {ih : Xs → Option Rs} (hih : ∀ (m pc : Nat) (ls st : List sV) (n : Nat) (K : Ce) (W : Wr) (c s : Nat) (R : Rs), ih (m, pc, ls, st, n, K, W, c, s) = some R → Tl m pc ls st n K W c s R) {m pc' a b : Nat} {v : Int} {ls st : List sV} {n : Nat} {K : Ce} {W : Wr} {c s : Nat} {R : Rs} (hr : rOK m pc' 18 a b v) (h : s_18 ih m pc' a b v ls st n K W c s = some R) : Tl m pc' ls st n K W c s R := by
  intro hW
  unfold s_18 at h
  unfold rOK at hr
  try dsimp only at hr
  split at h
  · next r st' =>
    split at h
    · next hx =>
      split at h
      · next n1 K1 W1 c1 s1 hy =>
        obtain ⟨e1, e2, e3, e4⟩ := hih _ _ _ _ _ _ _ _ _ _ hy hW
        dsimp only at e1 e2 e3 e4
        obtain ⟨g1, g2, g3, g4⟩ := hih _ _ _ _ _ _ _ _ _ _ h e3
        refine ⟨by omega, by omega, g3, fun G Q hQ => ?_⟩
        rw [show R.2.2.2.1 - c = (c1 - c) + (R.2.2.2.1 - c1) by omega, show R.2.2.2.2 - s = (s1 - s) + (R.2.2.2.2 - s1) by omega]
        refine hr G ls st' (shpK n K) (mm W) _ _ Q r (c1 - c) (s1 - s) (fun q S' d' => q = none ∧ shpK n1 K1 = S' ∧ mm W1 = d') (kd_k.1.trans hx.1) hx.2 (e4 G _ ⟨rfl, rfl, rfl⟩) ?_
        rintro _ _ _ ⟨rfl, rfl, rfl⟩
        exact g4 G Q hQ
      · cases h
    · cases h
  · cases h
theorem tl_20 {ih : Xs → Option Rs} (hih : ∀ (m pc : Nat) (ls st : List sV) (n : Nat) (K : Ce) (W : Wr) (c s : Nat) (R : Rs), ih (m, pc, ls, st, n, K, W, c, s) = some R → Tl m pc ls st n K W c s R) {m pc' a b : Nat} {v : Int} {ls st : List sV} {n : Nat} {K : Ce} {W : Wr} {c s : Nat} {R : Rs} (hr : rOK m pc' 20 a b v) (h : s_20 ih m pc' a b v ls st n K W c s = some R) : Tl m pc' ls st n K W c s R := by
  intro hW
  unfold s_20 at h
  unfold rOK at hr
  try dsimp only at hr
  split at h
  · cases h
    exact ⟨Nat.le_refl _, Nat.le_refl _, hW, fun G Q hQ => hr G ls [] _ _ _ _ Q rfl hQ⟩
  · cases h
theorem tl_21 {ih : Xs → Option Rs} (hih : ∀ (m pc : Nat) (ls st : List sV) (n : Nat) (K : Ce) (W : Wr) (c s : Nat) (R : Rs), ih (m, pc, ls, st, n, K, W, c, s) = some R → Tl m pc ls st n K W c s R) {m pc' a b : Nat} {v : Int} {ls st : List sV} {n : Nat} {K : Ce} {W : Wr} {c s : Nat} {R : Rs} (hr : rOK m pc' 21 a b v) (h : s_21 ih m pc' a b v ls st n K W c s = some R) : Tl m pc' ls st n K W c s R := by
  intro hW
  unfold s_21 at h
  unfold rOK at hr
  try dsimp only at hr
  split at h
  · next x st' =>
    obtain ⟨c1, c2, c3, c4⟩ := hih _ _ _ _ _ _ _ _ _ _ h hW
    exact ⟨c1, c2, c3, fun G Q hQ => hr G ls st' _ _ _ _ Q x (c4 G Q hQ)⟩
  · cases h
theorem stp_tl (tab : Nat → List Row) (hR : ∀ m r, r ∈ tab m → rOK m r.1 r.2.1 r.2.2.1 r.2.2.2.1 r.2.2.2.2) (ih : Xs → Option Rs) (hih : ∀ (m pc : Nat) (ls st : List sV) (n : Nat) (K : Ce) (W : Wr) (c s : Nat) (R : Rs), ih (m, pc, ls, st, n, K, W, c, s) = some R → Tl m pc ls st n K W c s R) (m pc : Nat) (ls st : List sV) (n : Nat) (K : Ce) (W : Wr) (c s : Nat) (R : Rs) (h : stp tab ih m pc ls st n K W c s = some R) : Tl m pc ls st n K W c s R := by
  unfold stp at h
  cases hf : (tab m).find? (fun r => r.1 == pc) with
  | none => rw [hf] at h; cases h
  | some r =>
    obtain ⟨pc', op, a, b, v⟩ := r
    have hmem := List.mem_of_find?_eq_some hf
    have hpc : pc' = pc := by have := List.find?_some hf; simpa using this
    subst hpc
    have hr : rOK m pc' op a b v := hR m _ hmem
    rw [hf] at h
    dsimp only at h
    match op, h, hr with
    | 0, h, hr => exact tl_0 hih hr h
    | 1, h, hr => exact tl_1 hih hr h
    | 2, h, hr => exact tl_2 hih hr h
    | 3, h, hr => exact tl_3 hih hr h
    | 4, h, hr => exact tl_4 hih hr h
    | 5, h, hr => exact tl_5 hih hr h
    | 7, h, hr => exact tl_7 hih hr h
    | 8, h, hr => exact tl_8 hih hr h
    | 9, h, hr => exact tl_9 hih hr h
    | 10, h, hr => exact tl_10 hih hr h
    | 11, h, hr => exact tl_11 hih hr h
    | 12, h, hr => exact tl_12 hih hr h
    | 13, h, hr => exact tl_13 hih hr h
    | 14, h, hr => exact tl_14 hih hr h
    | 15, h, hr => exact tl_15 hih hr h
    | 16, h, hr => exact tl_16 hih hr h
    | 17, h, hr => exact tl_17 hih hr h
    | 18, h, hr => exact tl_18 hih hr h
    | 20, h, hr => exact tl_20 hih hr h
    | 21, h, hr => exact tl_21 hih hr h
    | 6, h, hr => cases h
    | 19, h, hr => cases h
    | k + 22, h, hr => cases h
theorem run_tl (tab : Nat → List Row) (hR : ∀ m r, r ∈ tab m → rOK m r.1 r.2.1 r.2.2.1 r.2.2.2.1 r.2.2.2.2) : ∀ (f m pc : Nat) (ls st : List sV) (n : Nat) (K : Ce) (W : Wr) (c s : Nat) (R : Rs), run tab f (m, pc, ls, st, n, K, W, c, s) = some R → Tl m pc ls st n K W c s R
  | 0, _, _, _, _, _, _, _, _, _, _, h => by cases h
  | f + 1, m, pc, ls, st, n, K, W, c, s, R, h => stp_tl tab hR (run tab f) (run_tl tab hR f) m pc ls st n K W c s R h
end CON2
