/-! the law: text -/
section C66
variable {G : sG} {d d' d1 d2 e : sD} {n : Nat}
theorem okTx_cg {f g : Nat → Int} {s at1 : Int} (h : ∀ j, j < 4 → f j = g j) : okTx f s at1 ↔ okTx g s at1 := by
  unfold okTx
  constructor
  · rintro ⟨h1, h2⟩; rw [h s.toNat (by omega)] at h2; exact ⟨h1, h2⟩
  · rintro ⟨h1, h2⟩; rw [← h s.toNat (by omega)] at h2; exact ⟨h1, h2⟩
theorem kTx_cg {f g : Nat → Int} {s at1 : Int} (hs : 0 ≤ s ∧ s ≤ 3) (h : ∀ j, j < 4 → f j = g j) : kTx f s at1 = kTx g s at1 := by unfold kTx; rw [h s.toNat (by omega)]
theorem psS_cg {f g : Nat → Int} {s : Nat} (h : ∀ i, i < n → f (10 + i) = g (10 + i)) : psS f n s = psS g n s := by
  have e : tpS f n = tpS g n := funext fun i => by
    unfold tpS
    by_cases z : i < n
    · rw [if_pos z, if_pos z, h i z]
    · rw [if_neg z, if_neg z]
  unfold psS; rw [e]
theorem w8_t : ∀ x : Nat, x < 256 → (w8 (x : Int) = (x : Int) ∧ x < 128) ∨ (w8 (x : Int) < 0 ∧ 128 ≤ x) := by decide +kernel
theorem IV.tpc (h : IV d) (hn : d 272 4 = (n : Int)) : TpC d n (tpS (d 272) n) := by
  have h1 := h.1.1.1
  have h2 := h.1.2.1
  have tp : ∀ i, i < n → tpS (d 272) n i = d 272 (10 + i) := fun i hi => if_pos hi
  refine ⟨⟨by omega, fun i hi => ?_, fun i hi => if_neg (by omega)⟩, fun i hi => ?_⟩
  · rw [tp i hi]; exact (h2 i (by omega)).2
  · obtain ⟨q1, q2, q3⟩ := h2 i (by omega)
    rw [tp i hi]
    obtain ⟨x, hx⟩ : ∃ x : Nat, d 272 (10 + i) = (x : Int) := ⟨(d 272 (10 + i)).toNat, by omega⟩
    show (d (2 + 1) i = d 272 (10 + i) ∧ _) ∨ (d (2 + 1) i < 0 ∧ _)
    rw [q1, hx]
    have := w8_t x (by omega)
    omega

theorem IV_keep {s k : Nat} {w : Nat → Int} {new : Prop} [Decidable new] (h : IV d) (hs : s < 4) (hk : k < 2) (hn : new → d 272 s = (k : Int)) (ho : ¬ new → (k : Int) < d 272 s) (hV : SV s w) (he : ∀ b j, b ≠ 2 → ¬ (53 ≤ b ∧ b ≤ 77) → e b j = d b j) (hK : KpC e d1 s k new w) (q1 : d1 2 1 = 0) (q2 : d1 2 2 = 0) (q3 : d1 2 3 = -1) (hQ : KeQ (tx0 d1 n) s k new w d2) : IV d2 := by
  obtain ⟨⟨h1, h2, h3, h4, h5, h6, h7⟩, hI⟩ := h
  obtain ⟨k1, k2, k3⟩ := hK
  obtain ⟨r1, r2, r5, r6, rs, rr, ro⟩ := hQ
  have b0 := (h3 0 (by decide)).2
  have b1 := (h3 1 (by decide)).2
  have b2 := (h3 2 (by decide)).2
  have b3 := (h3 3 (by decide)).2
  have x1 : ∀ b j, b ≠ 271 → b ≠ 272 → b ≠ 274 → d2 b j = d1 b j := fun b j z1 z2 z3 => by
    rw [r1 b j z1 z2 z3]; unfold tx0; rw [up_nea z2, up_nea z2, up_nea z2, up_nea z1]
  have x2 : ∀ j, j ≠ 4 → j ≠ 5 → j ≠ 6 → tx0 d1 n 272 j = d 272 j := fun j z4 z5 z6 => by
    unfold tx0; rw [up_nej z6, up_nej z5, up_nej z4, up_nea (by decide), k3 272 j (by decide) (by unfold slO slL; (repeat' split) <;> omega)]; exact he 272 j (by decide) (by decide)
  have x4 : tx0 d1 n 272 4 = 0 := by unfold tx0; rw [up_nej (by decide), up_nej (by decide), up_same]
  have xs : d2 272 s = if new then d 272 s + 1 else d 272 s := by rw [rs, x2 s (by omega) (by omega) (by omega)]
  have x5 : d2 272 4 = 0 := by rw [ro 4 (by decide) (by decide) (by omega) (by unfold plN szN; (repeat' split) <;> omega)]; exact x4
  have F : ∀ j, j ≠ 4 → j ≠ 5 → j ≠ 6 → j ≠ s → ¬ (plN s k ≤ j ∧ j < plN s k + szN s) → d2 272 j = d 272 j := fun j z4 z5 z6 zs zz => (ro j z5 z6 zs zz).trans (x2 j z4 z5 z6)
  have Cc : ∀ b j, b ≠ 4 → b ≠ 2 → b < 259 → ¬ (53 ≤ b ∧ b ≤ 77) → ¬ (slO s k ≤ b ∧ b ≤ slO s k + slL s) → d2 b j = d b j := fun b j z4 z2 zb z5 zz => by
    rw [x1 b j (by omega) (by omega) (by omega), k3 b j z4 zz]; exact he b j z2 z5
  have pl : plN s k + szN s ≤ 934 ∧ 610 ≤ plN s k ∧ 9 ≤ slO s k ∧ slO s k + slL s ≤ 50 := by unfold plN szN slO slL; (repeat' split) <;> omega
  have T1 : (d2 2 1 = d2 272 4 ∧ 0 ≤ d2 272 4 ∧ d2 272 4 ≤ 600) ∧ d2 2 2 = d2 272 5 ∧ d2 2 3 = d2 272 6 := by
    rw [x1 2 1 (by decide) (by decide) (by decide), x1 2 2 (by decide) (by decide) (by decide), x1 2 3 (by decide) (by decide) (by decide), x5, r5, r6, q1, q2, q3]
    exact ⟨⟨rfl, by decide, by decide⟩, rfl, rfl⟩
  have T2 : ∀ i, i < 600 → d2 (2 + 1) i = w8 (d2 272 (10 + i)) ∧ 0 ≤ d2 272 (10 + i) ∧ d2 272 (10 + i) ≤ 255 := fun i hi => by
    rw [F (10 + i) (by omega) (by omega) (by omega) (by omega) (by omega), Cc (2 + 1) i (by decide) (by decide) (by decide) (by decide) (by omega)]; exact h2 i hi
  have T3 : ∀ s', s' < 4 → d2 (2 + 2) s' = d2 272 s' ∧ 0 ≤ d2 272 s' ∧ d2 272 s' ≤ 2 := fun s' hs' => by
    have q := h3 s' hs'
    have q4 : e 4 s' = d 4 s' := he 4 s' (by decide) (by decide)
    have q5 : d 4 s' = d 272 s' := q.1
    show d2 4 s' = _ ∧ _
    rw [x1 4 s' (by decide) (by decide) (by decide), k2 s']
    by_cases y : s' = s
    · subst y
      rw [xs]
      by_cases z : new
      · rw [if_pos z, if_pos ⟨z, rfl⟩, hn z]; omega
      · rw [if_neg z, if_neg (fun u => z u.1), q4, q5]; exact ⟨rfl, q.2⟩
    · rw [if_neg (fun u => y u.2), q4, q5, F s' (by omega) (by omega) (by omega) y (by omega)]; exact ⟨rfl, q.2⟩
  have hlt : ∀ k' : Nat, (k' : Int) < d2 272 s → ¬ k' = k → (k' : Int) < d 272 s := fun k' hk' hne => by
    rw [xs] at hk'
    by_cases z : new
    · rw [if_pos z] at hk'; have := hn z; omega
    · rw [if_neg z] at hk'; exact hk'
  refine ⟨⟨T1, T2, T3, ?_⟩, fun i hi => ⟨?_, fun hne => ?_⟩⟩
  · rcases (show s = 0 ∨ s = 1 ∨ s = 2 ∨ s = 3 by omega) with rfl | rfl | rfl | rfl
    · have F2 : ∀ j, 610 ≤ j → ¬ (610 + 89 * k ≤ j ∧ j < 610 + 89 * k + 89) → d2 272 j = d 272 j := fun j z1 z2 => F j (by omega) (by omega) (by omega) (by omega) z2
      have C2 : ∀ b j, 9 ≤ b ∧ b ≤ 50 → ¬ (9 + 21 * k ≤ b ∧ b ≤ 9 + 21 * k + 9) → d2 b j = d b j := fun b j z1 z2 => Cc b j (by omega) (by omega) (by omega) (by omega) z2
      refine ⟨fun k' hk' => ?_, fun k' hk' => ?_, fun k' hk' => ?_, fun k' hk' => ?_⟩
      · by_cases y : k' = k
        · subst y
          have z : ∀ x, x < 89 → w x = (fun x => d2 272 (610 + 89 * k' + x)) x := fun x hx => (rr x hx).symm
          exact ⟨Wo_cg z hV (Wo_eq (show Wo d1 (2 + 7 + 21 * k') w from k1) (fun x j hx => x1 _ j (by omega) (by omega) (by omega))), WV_cg z hV⟩
        · have hq := hlt k' hk' y
          have q := h4 k' hq
          have z : ∀ x, x < 89 → (fun x => d 272 (610 + 89 * k' + x)) x = (fun x => d2 272 (610 + 89 * k' + x)) x := fun x hx => (F2 _ (by omega) (by omega)).symm
          exact ⟨Wo_cg z q.2 (Wo_eq q.1 (fun x j hx => C2 _ j (by omega) (by omega))), WV_cg z q.2⟩
      · have hq : (k' : Int) < d 272 1 := by rw [F 1 (by decide) (by decide) (by decide) (by decide) (by omega)] at hk'; exact hk'
        have q := h5 k' hq
        have z : ∀ x, x < 26 → (fun x => d 272 (788 + 26 * k' + x)) x = (fun x => d2 272 (788 + 26 * k' + x)) x := fun x hx => (F2 _ (by omega) (by omega)).symm
        exact ⟨So_cg z q.2 (So_eq q.1 (fun x j hx => C2 _ j (by omega) (by omega))), GV_cg z q.2⟩
      · have hq : (k' : Int) < d 272 2 := by rw [F 2 (by decide) (by decide) (by decide) (by decide) (by omega)] at hk'; exact hk'
        have q := h6 k' hq
        have z : ∀ x, x < 14 → (fun x => d 272 (840 + 14 * k' + x)) x = (fun x => d2 272 (840 + 14 * k' + x)) x := fun x hx => (F2 _ (by omega) (by omega)).symm
        exact ⟨Ho_cg z q.2 (Ho_eq q.1 (fun x j hx => C2 _ j (by omega) (by omega))), HV_cg z q.2⟩
      · have hq : (k' : Int) < d 272 3 := by rw [F 3 (by decide) (by decide) (by decide) (by decide) (by omega)] at hk'; exact hk'
        have q := h7 k' hq
        have z : ∀ x, x < 33 → (fun x => d 272 (868 + 33 * k' + x)) x = (fun x => d2 272 (868 + 33 * k' + x)) x := fun x hx => (F2 _ (by omega) (by omega)).symm
        exact ⟨Vo_cg z q.2 (Vo_eq q.1 (fun x j hx => C2 _ j (by omega) (by omega))), VV_cg z q.2⟩
    · have F2 : ∀ j, 610 ≤ j → ¬ (788 + 26 * k ≤ j ∧ j < 788 + 26 * k + 26) → d2 272 j = d 272 j := fun j z1 z2 => F j (by omega) (by omega) (by omega) (by omega) z2
      have C2 : ∀ b j, 9 ≤ b ∧ b ≤ 50 → ¬ (19 + 21 * k ≤ b ∧ b ≤ 19 + 21 * k + 2) → d2 b j = d b j := fun b j z1 z2 => Cc b j (by omega) (by omega) (by omega) (by omega) z2
      refine ⟨fun k' hk' => ?_, fun k' hk' => ?_, fun k' hk' => ?_, fun k' hk' => ?_⟩
      · have hq : (k' : Int) < d 272 0 := by rw [F 0 (by decide) (by decide) (by decide) (by decide) (by omega)] at hk'; exact hk'
        have q := h4 k' hq
        have z : ∀ x, x < 89 → (fun x => d 272 (610 + 89 * k' + x)) x = (fun x => d2 272 (610 + 89 * k' + x)) x := fun x hx => (F2 _ (by omega) (by omega)).symm
        exact ⟨Wo_cg z q.2 (Wo_eq q.1 (fun x j hx => C2 _ j (by omega) (by omega))), WV_cg z q.2⟩
      · by_cases y : k' = k
        · subst y
          have z : ∀ x, x < 26 → w x = (fun x => d2 272 (788 + 26 * k' + x)) x := fun x hx => (rr x hx).symm
          exact ⟨So_cg z hV (So_eq (show So d1 (2 + 17 + 21 * k') w from k1) (fun x j hx => x1 _ j (by omega) (by omega) (by omega))), GV_cg z hV⟩
        · have hq := hlt k' hk' y
          have q := h5 k' hq
          have z : ∀ x, x < 26 → (fun x => d 272 (788 + 26 * k' + x)) x = (fun x => d2 272 (788 + 26 * k' + x)) x := fun x hx => (F2 _ (by omega) (by omega)).symm
          exact ⟨So_cg z q.2 (So_eq q.1 (fun x j hx => C2 _ j (by omega) (by omega))), GV_cg z q.2⟩
      · have hq : (k' : Int) < d 272 2 := by rw [F 2 (by decide) (by decide) (by decide) (by decide) (by omega)] at hk'; exact hk'
        have q := h6 k' hq
        have z : ∀ x, x < 14 → (fun x => d 272 (840 + 14 * k' + x)) x = (fun x => d2 272 (840 + 14 * k' + x)) x := fun x hx => (F2 _ (by omega) (by omega)).symm
        exact ⟨Ho_cg z q.2 (Ho_eq q.1 (fun x j hx => C2 _ j (by omega) (by omega))), HV_cg z q.2⟩
      · have hq : (k' : Int) < d 272 3 := by rw [F 3 (by decide) (by decide) (by decide) (by decide) (by omega)] at hk'; exact hk'
        have q := h7 k' hq
        have z : ∀ x, x < 33 → (fun x => d 272 (868 + 33 * k' + x)) x = (fun x => d2 272 (868 + 33 * k' + x)) x := fun x hx => (F2 _ (by omega) (by omega)).symm
        exact ⟨Vo_cg z q.2 (Vo_eq q.1 (fun x j hx => C2 _ j (by omega) (by omega))), VV_cg z q.2⟩
    · have F2 : ∀ j, 610 ≤ j → ¬ (840 + 14 * k ≤ j ∧ j < 840 + 14 * k + 14) → d2 272 j = d 272 j := fun j z1 z2 => F j (by omega) (by omega) (by omega) (by omega) z2
      have C2 : ∀ b j, 9 ≤ b ∧ b ≤ 50 → ¬ (22 + 21 * k ≤ b ∧ b ≤ 22 + 21 * k + 2) → d2 b j = d b j := fun b j z1 z2 => Cc b j (by omega) (by omega) (by omega) (by omega) z2
      refine ⟨fun k' hk' => ?_, fun k' hk' => ?_, fun k' hk' => ?_, fun k' hk' => ?_⟩
      · have hq : (k' : Int) < d 272 0 := by rw [F 0 (by decide) (by decide) (by decide) (by decide) (by omega)] at hk'; exact hk'
        have q := h4 k' hq
        have z : ∀ x, x < 89 → (fun x => d 272 (610 + 89 * k' + x)) x = (fun x => d2 272 (610 + 89 * k' + x)) x := fun x hx => (F2 _ (by omega) (by omega)).symm
        exact ⟨Wo_cg z q.2 (Wo_eq q.1 (fun x j hx => C2 _ j (by omega) (by omega))), WV_cg z q.2⟩
      · have hq : (k' : Int) < d 272 1 := by rw [F 1 (by decide) (by decide) (by decide) (by decide) (by omega)] at hk'; exact hk'
        have q := h5 k' hq
        have z : ∀ x, x < 26 → (fun x => d 272 (788 + 26 * k' + x)) x = (fun x => d2 272 (788 + 26 * k' + x)) x := fun x hx => (F2 _ (by omega) (by omega)).symm
        exact ⟨So_cg z q.2 (So_eq q.1 (fun x j hx => C2 _ j (by omega) (by omega))), GV_cg z q.2⟩
      · by_cases y : k' = k
        · subst y
          have z : ∀ x, x < 14 → w x = (fun x => d2 272 (840 + 14 * k' + x)) x := fun x hx => (rr x hx).symm
          exact ⟨Ho_cg z hV (Ho_eq (show Ho d1 (2 + 20 + 21 * k') w from k1) (fun x j hx => x1 _ j (by omega) (by omega) (by omega))), HV_cg z hV⟩
        · have hq := hlt k' hk' y
          have q := h6 k' hq
          have z : ∀ x, x < 14 → (fun x => d 272 (840 + 14 * k' + x)) x = (fun x => d2 272 (840 + 14 * k' + x)) x := fun x hx => (F2 _ (by omega) (by omega)).symm
          exact ⟨Ho_cg z q.2 (Ho_eq q.1 (fun x j hx => C2 _ j (by omega) (by omega))), HV_cg z q.2⟩
      · have hq : (k' : Int) < d 272 3 := by rw [F 3 (by decide) (by decide) (by decide) (by decide) (by omega)] at hk'; exact hk'
        have q := h7 k' hq
        have z : ∀ x, x < 33 → (fun x => d 272 (868 + 33 * k' + x)) x = (fun x => d2 272 (868 + 33 * k' + x)) x := fun x hx => (F2 _ (by omega) (by omega)).symm
        exact ⟨Vo_cg z q.2 (Vo_eq q.1 (fun x j hx => C2 _ j (by omega) (by omega))), VV_cg z q.2⟩
    · have F2 : ∀ j, 610 ≤ j → ¬ (868 + 33 * k ≤ j ∧ j < 868 + 33 * k + 33) → d2 272 j = d 272 j := fun j z1 z2 => F j (by omega) (by omega) (by omega) (by omega) z2
      have C2 : ∀ b j, 9 ≤ b ∧ b ≤ 50 → ¬ (25 + 21 * k ≤ b ∧ b ≤ 25 + 21 * k + 4) → d2 b j = d b j := fun b j z1 z2 => Cc b j (by omega) (by omega) (by omega) (by omega) z2
      refine ⟨fun k' hk' => ?_, fun k' hk' => ?_, fun k' hk' => ?_, fun k' hk' => ?_⟩
      · have hq : (k' : Int) < d 272 0 := by rw [F 0 (by decide) (by decide) (by decide) (by decide) (by omega)] at hk'; exact hk'
        have q := h4 k' hq
        have z : ∀ x, x < 89 → (fun x => d 272 (610 + 89 * k' + x)) x = (fun x => d2 272 (610 + 89 * k' + x)) x := fun x hx => (F2 _ (by omega) (by omega)).symm
        exact ⟨Wo_cg z q.2 (Wo_eq q.1 (fun x j hx => C2 _ j (by omega) (by omega))), WV_cg z q.2⟩
      · have hq : (k' : Int) < d 272 1 := by rw [F 1 (by decide) (by decide) (by decide) (by decide) (by omega)] at hk'; exact hk'
        have q := h5 k' hq
        have z : ∀ x, x < 26 → (fun x => d 272 (788 + 26 * k' + x)) x = (fun x => d2 272 (788 + 26 * k' + x)) x := fun x hx => (F2 _ (by omega) (by omega)).symm
        exact ⟨So_cg z q.2 (So_eq q.1 (fun x j hx => C2 _ j (by omega) (by omega))), GV_cg z q.2⟩
      · have hq : (k' : Int) < d 272 2 := by rw [F 2 (by decide) (by decide) (by decide) (by decide) (by omega)] at hk'; exact hk'
        have q := h6 k' hq
        have z : ∀ x, x < 14 → (fun x => d 272 (840 + 14 * k' + x)) x = (fun x => d2 272 (840 + 14 * k' + x)) x := fun x hx => (F2 _ (by omega) (by omega)).symm
        exact ⟨Ho_cg z q.2 (Ho_eq q.1 (fun x j hx => C2 _ j (by omega) (by omega))), HV_cg z q.2⟩
      · by_cases y : k' = k
        · subst y
          have z : ∀ x, x < 33 → w x = (fun x => d2 272 (868 + 33 * k' + x)) x := fun x hx => (rr x hx).symm
          exact ⟨Vo_cg z hV (Vo_eq (show Vo d1 (2 + 23 + 21 * k') w from k1) (fun x j hx => x1 _ j (by omega) (by omega) (by omega))), VV_cg z hV⟩
        · have hq := hlt k' hk' y
          have q := h7 k' hq
          have z : ∀ x, x < 33 → (fun x => d 272 (868 + 33 * k' + x)) x = (fun x => d2 272 (868 + 33 * k' + x)) x := fun x hx => (F2 _ (by omega) (by omega)).symm
          exact ⟨Vo_cg z q.2 (Vo_eq q.1 (fun x j hx => C2 _ j (by omega) (by omega))), VV_cg z q.2⟩
  · have g := hI i hi
    rw [r1 273 i (by decide) (by decide) (by decide)]
    have z1 : tx0 d1 n 273 i = d 273 i := by unfold tx0; rw [up_nea (by decide), up_nea (by decide), up_nea (by decide), up_nea (by decide), k3 273 i (by decide) (by omega)]; exact he 273 i (by decide) (by decide)
    rw [z1, Cc 52 i (by decide) (by decide) (by decide) (by decide) (by omega)]
    exact g.1
  · have g := hI i hi
    rw [r1 273 i (by decide) (by decide) (by decide)] at hne
    have z1 : tx0 d1 n 273 i = d 273 i := by unfold tx0; rw [up_nea (by decide), up_nea (by decide), up_nea (by decide), up_nea (by decide), k3 273 i (by decide) (by omega)]; exact he 273 i (by decide) (by decide)
    rw [z1] at hne
    have q := g.2 hne
    have z2 : blk d2 (934 * (i + 1)) = blk d (934 * (i + 1)) := funext fun x => F _ (by omega) (by omega) (by omega) (by omega) (by omega)
    rw [z2]
    exact TRf_eq q (fun x j hx => Cc _ j (by omega) (by omega) (by omega) (by omega) (by omega))

theorem lc_text {k : Nat} (h : IV d) (hL : G.2.2.1 ≤ 3072) (hk : k + 6 ≤ G.2.2.1) (kk : ∀ d2, IV d2 → tB G mL_law 1718 (lwL k) [] d2 lwR) : tB G mL_law 258 (lwL k) [] d lwR := by
  obtain ⟨n, hn⟩ : ∃ n : Nat, d 272 4 = (n : Int) := ⟨(d 272 4).toNat, by have := h.1.1.1; omega⟩
  have h4 := h.1.1.1
  have hn6 : n ≤ 600 := by omega
  have hc4 : ∀ j, j < 4 → d 4 j = d 272 j := fun j hj => (h.1.2.2.1 j hj).1
  have hM4 : ∀ j, j < 4 → 0 ≤ d 4 j ∧ d 4 j ≤ 2 := fun j hj => by rw [hc4 j hj]; exact (h.1.2.2.1 j hj).2
  have hb : ∀ i, i < 600 → 0 ≤ d 272 (10 + i) ∧ d 272 (10 + i) ≤ 255 := fun i hi => (h.1.2.1 i hi).2
  have hX : ∀ e : sD, (∀ j, e 272 j = d 272 j) → ∀ s at1 : Int, tB G mX12_text 0 [vR 271, vI s, vI at1, vU 0, vU 0] [] e _ := fun e he s at1 => t_X12_text (s := s) (at1 := at1) (n := n) (fun j hj => by rw [he]; exact (h.1.2.2.1 j hj).2) (by rw [he]; exact hn) hn6 (fun i hi => by rw [he]; exact hb i hi)
  refine T_aload_n dL_law_258 rfl ?_
  refine T_aload_s dL_law_259 rfl ?_
  refine T_iload_n dL_law_260 rfl ?_
  refine T_iconst dL_law_261 (by decide) ?_
  refine T_add dL_law_262 (by omega) ?_
  refine T_sld (j := k + 1) dL_law_263 (by omega) (by omega) ?_
  refine T_aload_s dL_law_264 rfl ?_
  refine T_iload_n dL_law_265 rfl ?_
  refine T_iconst dL_law_266 (by decide) ?_
  refine T_add dL_law_267 (by omega) ?_
  refine T_sld (j := k + 2) dL_law_268 (by omega) (by omega) ?_
  refine T_callV dL_law_269 lL_23 (As := [_, _]) (rest := _) rfl rfl k1 (by decide) (Nat.le_of_ble_eq_true rfl) (Nat.le_of_ble_eq_true rfl) (t_C_text (n := n) hM4 (h4.1.trans hn) (h.tpc hn)) ?_
  rintro _ d1 (⟨hv, rfl, rfl⟩ | ⟨hv, (⟨rfl, hz, g1, g2, g3, gF⟩ | ⟨hz, rfl, hV, g1, g2, g3, e, gF, hK⟩)⟩)
  · have f272 : ∀ j, up (up (up d 2 1 0) 2 2 0) 2 3 (-1) 272 j = d 272 j := fun j => by rw [up_nea (by decide), up_nea (by decide), up_nea (by decide)]
    have hok : ¬ okTx (up (up (up d 2 1 0) 2 2 0) 2 3 (-1) 272) (sc G (k + 1)) (sc G (k + 2)) := fun z => hv ((okTx_cg (fun j hj => by rw [hc4 j hj, f272])).mp z)
    refine T_aload_n dL_law_272 rfl ?_
    refine T_aload_s dL_law_273 rfl ?_
    refine T_iload_n dL_law_274 rfl ?_
    refine T_iconst dL_law_275 (by decide) ?_
    refine T_add dL_law_276 (by omega) ?_
    refine T_sld (j := k + 1) dL_law_277 (by omega) (by omega) ?_
    refine T_aload_s dL_law_278 rfl ?_
    refine T_iload_n dL_law_279 rfl ?_
    refine T_iconst dL_law_280 (by decide) ?_
    refine T_add dL_law_281 (by omega) ?_
    refine T_sld (j := k + 2) dL_law_282 (by omega) (by omega) ?_
    refine T_callV dL_law_283 lL_27 (As := [_, _]) (rest := _) rfl rfl k271 (by decide) (Nat.le_of_ble_eq_true rfl) (Nat.le_of_ble_eq_true rfl) (hX _ f272 _ _) ?_
    rintro _ d2 (⟨hv2, rfl, rfl⟩ | ⟨hv2, _⟩)
    ·
      have hIV : IV (tx0 (up (up (up d 2 1 0) 2 2 0) 2 3 (-1)) n) := by
        refine (IV_now h (fun b j hb => ?_) (fun x hx => ?_) ?_ ?_ (fun i hi => ?_))
        · unfold tx0; rw [up_nea (by omega), up_nea (by omega), up_nea (by omega), up_nea (by omega), up_nea (by omega), up_nea (by omega), up_nea (by omega)]
        · unfold tx0; rw [up_nej (by omega), up_nej (by omega), up_nej (by omega), up_nea (by decide)]; exact f272 x
        · funext j; unfold tx0; rw [up_nea (by decide), up_nea (by decide), up_nea (by decide), up_nea (by decide), up_nea (by decide), up_nea (by decide), up_nea (by decide)]
        · unfold tx0
          rw [up_nea (by decide), up_nea (by decide), up_nea (by decide), up_nea (by decide), up_nej (by decide), up_nej (by decide), up_same, up_nej (by decide), up_nej (by decide), up_same]
          rw [up_nea (by decide), up_nea (by decide), up_nea (by decide), up_nea (by decide), up_nej (by decide), up_same, up_nej (by decide), up_same]
          rw [up_nea (by decide), up_nea (by decide), up_nea (by decide), up_nea (by decide), up_same, up_same]
          exact ⟨⟨rfl, by decide, by decide⟩, rfl, rfl⟩
        · have e3 : tx0 (up (up (up d 2 1 0) 2 2 0) 2 3 (-1)) n 3 i = d 3 i := by unfold tx0; rw [up_nea (by decide), up_nea (by decide), up_nea (by decide), up_nea (by decide), up_nea (by decide), up_nea (by decide), up_nea (by decide)]
          have e4 : tx0 (up (up (up d 2 1 0) 2 2 0) 2 3 (-1)) n 272 (10 + i) = d 272 (10 + i) := by unfold tx0; rw [up_nej (by omega), up_nej (by omega), up_nej (by omega), up_nea (by decide)]; exact f272 _
          rw [e3, e4]
          exact h.1.2.1 i hi
      refine T_icmp_eq (tgt := 1718) dL_law_286 (by decide) (fun c286 => ?_) (fun c286 => absurd rfl c286)
      exact kk _ hIV
    · exact absurd hv2 hok
  · have f272 : ∀ j, d1 272 j = d 272 j := fun j => gF 272 j (by decide) (by decide)
    have hok : okTx (d1 272) (sc G (k + 1)) (sc G (k + 2)) := (okTx_cg (fun j hj => by rw [hc4 j hj, f272])).mp hv
    have hps : psS (d1 272) n (sc G (k + 1)).toNat = psS (d 272) n (sc G (k + 1)).toNat := psS_cg (fun i _ => f272 _)
    have hkx : kTx (d1 272) (sc G (k + 1)) (sc G (k + 2)) = kTx (d 4) (sc G (k + 1)) (sc G (k + 2)) := kTx_cg hok.1 (fun j hj => by rw [hc4 j hj, f272])
    refine T_aload_n dL_law_272 rfl ?_
    refine T_aload_s dL_law_273 rfl ?_
    refine T_iload_n dL_law_274 rfl ?_
    refine T_iconst dL_law_275 (by decide) ?_
    refine T_add dL_law_276 (by omega) ?_
    refine T_sld (j := k + 1) dL_law_277 (by omega) (by omega) ?_
    refine T_aload_s dL_law_278 rfl ?_
    refine T_iload_n dL_law_279 rfl ?_
    refine T_iconst dL_law_280 (by decide) ?_
    refine T_add dL_law_281 (by omega) ?_
    refine T_sld (j := k + 2) dL_law_282 (by omega) (by omega) ?_
    refine T_callV dL_law_283 lL_27 (As := [_, _]) (rest := _) rfl rfl k271 (by decide) (Nat.le_of_ble_eq_true rfl) (Nat.le_of_ble_eq_true rfl) (hX _ f272 _ _) ?_
    rintro _ d2 (⟨hv2, rfl, _⟩ | ⟨hv2, (⟨rfl, hz2, hRF, y1, y2⟩ | ⟨hz2, rfl, hQ⟩)⟩)
    · exact absurd hok hv2
    ·
      have x1 : ∀ b j, b ≠ 271 → b ≠ 272 → b ≠ 274 → d2 b j = d1 b j := fun b j z1 z2 z3 => by rw [hRF.1 b j z1 z2 z3]; unfold tx0; rw [up_nea z2, up_nea z2, up_nea z2, up_nea z1]
      have x2 : ∀ j, j ≠ 4 → j ≠ 5 → j ≠ 6 → d2 272 j = d 272 j := fun j z4 z5 z6 => by rw [hRF.2.2 j z5 z6]; unfold tx0; rw [up_nej z6, up_nej z5, up_nej z4, up_nea (by decide)]; exact f272 j
      have x4 : d2 272 4 = 0 := by rw [hRF.2.2 4 (by decide) (by decide)]; unfold tx0; rw [up_nej (by decide), up_nej (by decide), up_same]
      have hIV : IV d2 := by
        refine (IV_now h (fun b j hb => ?_) (fun x hx => x2 x (by omega) (by omega) (by omega)) ?_ ?_ (fun i hi => ?_))
        · rw [x1 b j (by omega) (by omega) (by omega)]; exact gF b j (by omega) (by omega)
        · funext j; rw [x1 273 j (by decide) (by decide) (by decide)]; exact gF 273 j (by decide) (by decide)
        · rw [x1 2 1 (by decide) (by decide) (by decide), x1 2 2 (by decide) (by decide) (by decide), x1 2 3 (by decide) (by decide) (by decide), g1, g2, g3, y1, y2, x4, hps]
          exact ⟨⟨rfl, by decide, by decide⟩, rfl, rfl⟩
        · rw [x1 3 i (by decide) (by decide) (by decide), gF 3 i (by decide) (by decide), x2 (10 + i) (by omega) (by omega) (by omega)]; exact h.1.2.1 i hi
      refine T_icmp_eq (tgt := 1718) dL_law_286 (by decide) (fun c286 => ?_) (fun c286 => absurd rfl c286)
      exact kk _ hIV
    · rw [hps] at hz2; exact absurd hz2 hz
  · have f272 : ∀ j, d1 272 j = d 272 j := fun j => by rw [hK.2.2 272 j (by decide) (by have hs3 := hv.1; have hat := hv.2; have hcs := hM4 (sc G (k + 1)).toNat (by omega); unfold slO slL kTx; (repeat' split) <;> omega)]; exact gF 272 j (by decide) (by decide)
    have hok : okTx (d1 272) (sc G (k + 1)) (sc G (k + 2)) := (okTx_cg (fun j hj => by rw [hc4 j hj, f272])).mp hv
    have hps : psS (d1 272) n (sc G (k + 1)).toNat = psS (d 272) n (sc G (k + 1)).toNat := psS_cg (fun i _ => f272 _)
    have hkx : kTx (d1 272) (sc G (k + 1)) (sc G (k + 2)) = kTx (d 4) (sc G (k + 1)) (sc G (k + 2)) := kTx_cg hok.1 (fun j hj => by rw [hc4 j hj, f272])
    refine T_aload_n dL_law_272 rfl ?_
    refine T_aload_s dL_law_273 rfl ?_
    refine T_iload_n dL_law_274 rfl ?_
    refine T_iconst dL_law_275 (by decide) ?_
    refine T_add dL_law_276 (by omega) ?_
    refine T_sld (j := k + 1) dL_law_277 (by omega) (by omega) ?_
    refine T_aload_s dL_law_278 rfl ?_
    refine T_iload_n dL_law_279 rfl ?_
    refine T_iconst dL_law_280 (by decide) ?_
    refine T_add dL_law_281 (by omega) ?_
    refine T_sld (j := k + 2) dL_law_282 (by omega) (by omega) ?_
    refine T_callV dL_law_283 lL_27 (As := [_, _]) (rest := _) rfl rfl k271 (by decide) (Nat.le_of_ble_eq_true rfl) (Nat.le_of_ble_eq_true rfl) (hX _ f272 _ _) ?_
    rintro _ d2 (⟨hv2, rfl, _⟩ | ⟨hv2, (⟨rfl, hz2, hRF, y1, y2⟩ | ⟨hz2, rfl, hQ⟩)⟩)
    · exact absurd hok hv2
    · rw [hps] at hz2; exact absurd hz hz2
    · rw [hkx] at hQ ⊢
      rw [hps] at hQ
      have hs3 := hok.1
      have hcs := hM4 (sc G (k + 1)).toNat (by omega)
      have hcd := hc4 (sc G (k + 1)).toNat (by omega)
      obtain ⟨-, hat⟩ := hv
      have hIV : IV d2 := by
        refine (IV_keep h (by omega) ?_ (fun z => ?_) (fun z => ?_) hV gF hK g1 g2 g3 hQ)
        · unfold kTx
          rcases hat with ⟨z, y⟩ | ⟨z, y⟩
          · rw [if_pos z]; omega
          · rw [if_neg z]; omega
        · rw [← hcd]; unfold kTx; rw [if_pos z]; omega
        · rw [← hcd]; unfold kTx; rw [if_neg z]
          have := hat.resolve_left (fun u => z u.1)
          omega
      refine T_icmp_eq (tgt := 1718) dL_law_286 (by decide) (fun c286 => ?_) (fun c286 => absurd rfl c286)
      exact kk _ hIV

end C66
