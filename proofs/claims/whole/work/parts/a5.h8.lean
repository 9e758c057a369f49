/-! the class: numbers, beats, moves and semicolons are taken -/
section C51
variable {G : sG} {d d' d0 e : sD} {T : Nat → Int} {n p q : Nat} {x : Int × Int} {dr : Nat → Int}
/-- only the reader's own fields change -/
def NF (d d' : sD) : Prop := ∀ b j, b ≠ 53 → d' b j = d b j
theorem NF.rf : NF d d := fun _ _ _ => rfl
theorem NF.trans {d1 d2 : sD} (h1 : NF d d1) (h2 : NF d1 d2) : NF d d2 := fun b j hb => (h2 b j hb).trans (h1 b j hb)
theorem NF.fr (h : NF d d') : Fr 53 77 d d' := fun b j hb => h b j (by omega)
/-- the class reads at a token with a note -/
def CR (d0 d : sD) (T : Nat → Int) (n p : Nat) (x : Int × Int) : Prop := CTk d T n p ∧ d 53 4 = x.1 ∧ d 53 5 = x.2 ∧ Fr 53 77 d0 d
theorem CR.tv (h : CR d0 d T n p x) : TV n T := h.1.1
theorem CR.le (h : CR d0 d T n p x) : p ≤ n := h.1.le
theorem CR.ck (h : CR d0 d T n p x) : CK T n p (d 53 11) (d 53 13) := by obtain ⟨⟨_, _, _, _, _, _, _, _, _, z⟩, _⟩ := h; exact z
theorem CR.pl (h : CR d0 d T n p x) : d 53 12 = (p : Int) := by obtain ⟨⟨_, _, _, _, _, _, _, _, z, _⟩, _⟩ := h; exact z
theorem CR_14 {v : Int} (h : CR d0 d T n p x) : CR d0 (up d 53 14 v) T n p x := ⟨CTk_eq h.1 (fun j hj => up_nej (fun z => hj (by rw [z]; decide))) (fun b j hb => up_nea (by omega)), by rw [up_nej (by decide)]; exact h.2.1, by rw [up_nej (by decide)]; exact h.2.2.1, h.2.2.2.up (by decide)⟩
/-- a draft's cell is written -/
theorem CR_df {b j : Nat} {v : Int} (h : CR d0 d T n p x) (hb : 54 ≤ b ∧ b ≤ 74) : CR d0 (up d b j v) T n p x := ⟨CTk_eq h.1 (fun i hi => up_nea (by omega)) (fun c i hc => up_nea (by omega)), by rw [up_nea (by omega)]; exact h.2.1, by rw [up_nea (by omega)]; exact h.2.2.1, h.2.2.2.up (by omega)⟩
theorem c_nextR (h : CR d0 d T n p x) : tB G mX5_next 0 [vR 53] [] d (fun r d' => r = none ∧ CR d0 d' T n (avT T n p) x ∧ NF d d' ∧ d' 53 14 = d 53 14) := (c_next h.1).mono (by
  rintro r d' ⟨rfl, h1, h2⟩
  exact ⟨rfl, ⟨h1, (h2.2 4 (by decide)).trans h.2.1, (h2.2 5 (by decide)).trans h.2.2.1, h.2.2.2.trans (fun b j hb => h2.1 b j (by omega))⟩, h2.1, h2.2 14 (by decide)⟩)
theorem c_noteR {k a : Int} (h : CR d0 d T n p x) (hx : NL x a) : tB G mX5_note 0 [vR 53, vI k, vI a, vU 0] [] d (fun r d' => r = none ∧ CR d0 d' T n p (ntA x k a) ∧ NF d d' ∧ d' 53 14 = d 53 14) := (c_note h.2.1 h.2.2.1 hx).mono (by
  rintro r d' ⟨rfl, h1, h2, h3⟩
  exact ⟨rfl, ⟨CTk_eq h.1 (fun j hj => h3.2 j (fun z => hj (by simp at z ⊢; omega))) (fun b j hb => h3.1 b j (by omega)), h1, h2, h.2.2.2.trans (fun b j hb => h3.1 b j (by omega))⟩, h3.1, h3.2 14 (by decide)⟩)
theorem c_beatR (h : CR d0 d T n p x) : tB G mX5_isBeatHere 0 [vR 53] [] d (fun r d' => r = some (vI (bI (isW T n p 10 13))) ∧ d = d') := c_isBeatHere h.1
theorem c_moveR (h : CR d0 d T n p x) : tB G mX5_isMoveHere 0 [vR 53] [] d (fun r d' => r = some (vI (bI (isW T n p 14 18))) ∧ d = d') := c_isMoveHere h.1

theorem c_takeNumber {lo hi : Int} (h : CR d0 d T n p x) (hx : NL x p) : tB G mX5_takeNumber 0 [vR 53, vI lo, vI hi] [] d (fun r d' => (kdT T n p = 1 ∧ r = some (vI 1) ∧ CR d0 d' T n (avT T n p) (xNum T n x p lo hi) ∧ NF d d' ∧ d' 53 14 = (if inR (nmT T n p) lo hi then nmT T n p else -1)) ∨ (¬ kdT T n p = 1 ∧ r = some (vI 0) ∧ d = d')) := by
  obtain ⟨n1, n2, n3, n4⟩ := CK_n h.ck
  have hpl := h.pl
  have h48 : ∀ (e : sD), d 53 11 = 2 → CR d0 e T n p (xNum T n x p lo hi) → NF d e → e 53 14 = (if inR (nmT T n p) lo hi then nmT T n p else -1) → tB G mX5_takeNumber 48 [vR 53, vI lo, vI hi] [] e (fun r d' => (kdT T n p = 1 ∧ r = some (vI 1) ∧ CR d0 d' T n (avT T n p) (xNum T n x p lo hi) ∧ NF d d' ∧ d' 53 14 = (if inR (nmT T n p) lo hi then nmT T n p else -1)) ∨ (¬ kdT T n p = 1 ∧ r = some (vI 0) ∧ d = d')) := by
    intro e hk hR hN h14
    refine T_aload_n dX5_takeNumber_48 rfl ?_
    refine T_callV dX5_takeNumber_49 lX5_87 (As := []) (rest := _) rfl rfl k53 (by decide) (Nat.le_of_ble_eq_true rfl) (Nat.le_of_ble_eq_true rfl) (c_nextR hR) ?_
    rintro _ e2 ⟨rfl, hR2, hN2, h14b⟩
    refine T_iconst dX5_takeNumber_52 (by decide) ?_
    exact T_zreturn dX5_takeNumber_53 rfl (by omega) (Or.inl ⟨n1.mp hk, rfl, hR2, hN.trans hN2, h14b.trans h14⟩)
  have h34 : d 53 11 = 2 → ¬ inR (nmT T n p) lo hi → tB G mX5_takeNumber 34 [vR 53, vI lo, vI hi] [] (up d 53 14 (nmT T n p)) (fun r d' => (kdT T n p = 1 ∧ r = some (vI 1) ∧ CR d0 d' T n (avT T n p) (xNum T n x p lo hi) ∧ NF d d' ∧ d' 53 14 = (if inR (nmT T n p) lo hi then nmT T n p else -1)) ∨ (¬ kdT T n p = 1 ∧ r = some (vI 0) ∧ d = d')) := by
    intro hk hn
    have hR1 : CR d0 (up (up d 53 14 (nmT T n p)) 53 14 (-1)) T n p x := CR_14 (CR_14 h)
    refine T_aload_n dX5_takeNumber_34 rfl ?_
    refine T_iconst dX5_takeNumber_35 (by decide) ?_
    refine T_putI dX5_takeNumber_36 fX5_71 rfl k53 ?_
    refine T_aload_n dX5_takeNumber_39 rfl ?_
    refine T_iconst dX5_takeNumber_40 (by decide) ?_
    refine T_aload_n dX5_takeNumber_41 rfl ?_
    refine T_getIv dX5_takeNumber_42 fX5_65 rfl k53 (x := (p : Int)) hR1.pl ?_
    refine T_callV dX5_takeNumber_45 lX5_170 (As := [_, _]) (rest := _) rfl rfl k53 (by decide) (Nat.le_of_ble_eq_true rfl) (Nat.le_of_ble_eq_true rfl) (c_noteR hR1 hx) ?_
    rintro _ e2 ⟨rfl, hR2, hN2, h14b⟩
    refine h48 e2 hk (by unfold xNum; rw [if_neg hn]; exact hR2) (NF.trans (fun b j hb => by rw [up_nea hb, up_nea hb]) hN2) (by rw [h14b, up_same, if_neg hn])
  refine T_aload_n dX5_takeNumber_0 rfl ?_
  refine T_getIv dX5_takeNumber_1 fX5_62 rfl k53 (x := d 53 11) rfl ?_
  refine T_iconst dX5_takeNumber_4 (by decide) ?_
  refine T_icmp_eq (tgt := 10) dX5_takeNumber_5 (by decide) (fun c5 => ?_) (fun c5 => ?_)
  · refine T_aload_n dX5_takeNumber_10 rfl ?_
    refine T_aload_n dX5_takeNumber_11 rfl ?_
    refine T_getIv dX5_takeNumber_12 fX5_68 rfl k53 (x := nmT T n p) (n2 c5) ?_
    refine T_putI dX5_takeNumber_15 fX5_71 rfl k53 ?_
    refine T_aload_n dX5_takeNumber_18 rfl ?_
    refine T_getIv dX5_takeNumber_19 fX5_68 rfl k53 (x := nmT T n p) (by rw [up_nej (by decide)]; exact n2 c5) ?_
    refine T_iload_n dX5_takeNumber_22 rfl ?_
    refine T_icmp_lt (tgt := 34) dX5_takeNumber_23 (by decide) (fun c23 => ?_) (fun c23 => ?_)
    · exact h34 c5 (fun z => by omega)
    · refine T_aload_n dX5_takeNumber_26 rfl ?_
      refine T_getIv dX5_takeNumber_27 fX5_68 rfl k53 (x := nmT T n p) (by rw [up_nej (by decide)]; exact n2 c5) ?_
      refine T_iload_n dX5_takeNumber_30 rfl ?_
      refine T_icmp_le (tgt := 48) dX5_takeNumber_31 (by decide) (fun c31 => ?_) (fun c31 => ?_)
      · refine h48 _ c5 (by unfold xNum; rw [if_pos ⟨by omega, by omega⟩]; exact CR_14 h) (fun b j hb => up_nea hb) (by rw [up_same, if_pos ⟨by omega, by omega⟩])
      · exact h34 c5 (fun z => by omega)
  · refine T_iconst dX5_takeNumber_8 (by decide) ?_
    exact T_zreturn dX5_takeNumber_9 rfl (by omega) (Or.inr ⟨fun z => c5 (n1.mpr z), rfl, rfl⟩)

theorem c_takeBeat (h : CR d0 d T n p x) : tB G mX5_takeBeat 0 [vR 53] [] d (fun r d' => (isW T n p 10 13 ∧ r = some (vI 1) ∧ CR d0 d' T n (avT T n p) x ∧ NF d d' ∧ d' 53 14 = woT T n p - 10) ∨ (¬ isW T n p 10 13 ∧ r = some (vI 0) ∧ d = d')) := by
  refine T_aload_n dX5_takeBeat_0 rfl ?_
  refine T_callV dX5_takeBeat_1 lX5_177 (As := []) (rest := _) rfl rfl k53 (by decide) (Nat.le_of_ble_eq_true rfl) (Nat.le_of_ble_eq_true rfl) (c_beatR h) ?_
  rintro _ _ ⟨rfl, rfl⟩
  refine T_if_ne (tgt := 9) dX5_takeBeat_4 (by decide) (fun c4 => ?_) (fun c4 => ?_)
  · have hw5 := (bI_1 c4).2
    refine T_aload_n dX5_takeBeat_9 rfl ?_
    refine T_aload_n dX5_takeBeat_10 rfl ?_
    refine T_getIv dX5_takeBeat_11 fX5_68 rfl k53 (x := woT T n p - 10) (CK_bv h.ck ⟨(bI_1 c4).1, by have := (bI_1 c4).2; omega, by have := (bI_1 c4).2; omega⟩).2 ?_
    refine T_putI dX5_takeBeat_14 fX5_71 rfl k53 ?_
    refine T_aload_n dX5_takeBeat_17 rfl ?_
    refine T_callV dX5_takeBeat_18 lX5_87 (As := []) (rest := _) rfl rfl k53 (by decide) (Nat.le_of_ble_eq_true rfl) (Nat.le_of_ble_eq_true rfl) (c_nextR (CR_14 h)) ?_
    rintro _ e2 ⟨rfl, hR2, hN2, h14b⟩
    refine T_iconst dX5_takeBeat_21 (by decide) ?_
    exact T_zreturn dX5_takeBeat_22 rfl (by omega) (Or.inl ⟨bI_1 c4, rfl, hR2, NF.trans (fun b j hb => up_nea hb) hN2, by rw [h14b, up_same]⟩)
  · refine T_iconst dX5_takeBeat_7 (by decide) ?_
    exact T_zreturn dX5_takeBeat_8 rfl (by omega) (Or.inr ⟨bI_0 c4, rfl, rfl⟩)

theorem c_takeMove (h : CR d0 d T n p x) : tB G mX5_takeMove 0 [vR 53] [] d (fun r d' => (isW T n p 14 18 ∧ r = some (vI 1) ∧ CR d0 d' T n (avT T n p) x ∧ NF d d' ∧ d' 53 14 = woT T n p - 14) ∨ (¬ isW T n p 14 18 ∧ r = some (vI 0) ∧ d = d')) := by
  refine T_aload_n dX5_takeMove_0 rfl ?_
  refine T_callV dX5_takeMove_1 lX5_200 (As := []) (rest := _) rfl rfl k53 (by decide) (Nat.le_of_ble_eq_true rfl) (Nat.le_of_ble_eq_true rfl) (c_moveR h) ?_
  rintro _ _ ⟨rfl, rfl⟩
  refine T_if_ne (tgt := 9) dX5_takeMove_4 (by decide) (fun c4 => ?_) (fun c4 => ?_)
  · have hw5 := (bI_1 c4).2
    refine T_aload_n dX5_takeMove_9 rfl ?_
    refine T_aload_n dX5_takeMove_10 rfl ?_
    refine T_getIv dX5_takeMove_11 fX5_68 rfl k53 (x := woT T n p - 10) (CK_bv h.ck ⟨(bI_1 c4).1, by have := (bI_1 c4).2; omega, by have := (bI_1 c4).2; omega⟩).2 ?_
    refine T_iconst dX5_takeMove_14 (by decide) ?_
    refine T_sub dX5_takeMove_15 (by omega) ?_
    refine T_putI dX5_takeMove_16 fX5_71 rfl k53 ?_
    refine T_aload_n dX5_takeMove_19 rfl ?_
    refine T_callV dX5_takeMove_20 lX5_87 (As := []) (rest := _) rfl rfl k53 (by decide) (Nat.le_of_ble_eq_true rfl) (Nat.le_of_ble_eq_true rfl) (c_nextR (CR_14 h)) ?_
    rintro _ e2 ⟨rfl, hR2, hN2, h14b⟩
    refine T_iconst dX5_takeMove_23 (by decide) ?_
    exact T_zreturn dX5_takeMove_24 rfl (by omega) (Or.inl ⟨bI_1 c4, rfl, hR2, NF.trans (fun b j hb => up_nea hb) hN2, by rw [h14b, up_same]; omega⟩)
  · refine T_iconst dX5_takeMove_7 (by decide) ?_
    exact T_zreturn dX5_takeMove_8 rfl (by omega) (Or.inr ⟨bI_0 c4, rfl, rfl⟩)

theorem c_takeSemicolon (h : CR d0 d T n p x) : tB G mX5_takeSemicolon 0 [vR 53] [] d (fun r d' => (kdT T n p = 2 ∧ r = some (vI 1) ∧ CR d0 d' T n (avT T n p) x ∧ NF d d') ∨ (¬ kdT T n p = 2 ∧ r = some (vI 0) ∧ d = d')) := by
  obtain ⟨n1, n2, n3, n4⟩ := CK_n h.ck
  refine T_aload_n dX5_takeSemicolon_0 rfl ?_
  refine T_getIv dX5_takeSemicolon_1 fX5_62 rfl k53 (x := d 53 11) rfl ?_
  refine T_iconst dX5_takeSemicolon_4 (by decide) ?_
  refine T_icmp_eq (tgt := 10) dX5_takeSemicolon_5 (by decide) (fun c5 => ?_) (fun c5 => ?_)
  · refine T_aload_n dX5_takeSemicolon_10 rfl ?_
    refine T_callV dX5_takeSemicolon_11 lX5_87 (As := []) (rest := _) rfl rfl k53 (by decide) (Nat.le_of_ble_eq_true rfl) (Nat.le_of_ble_eq_true rfl) (c_nextR h) ?_
    rintro _ e2 ⟨rfl, hR2, hN2, h14b⟩
    refine T_iconst dX5_takeSemicolon_14 (by decide) ?_
    exact T_zreturn dX5_takeSemicolon_15 rfl (by omega) (Or.inl ⟨n3.mp c5, rfl, hR2, hN2⟩)
  · refine T_iconst dX5_takeSemicolon_8 (by decide) ?_
    exact T_zreturn dX5_takeSemicolon_9 rfl (by omega) (Or.inr ⟨fun z => c5 (n3.mpr z), rfl, rfl⟩)

/-- where the class's reader stands when it ends -/
def CE (d0 d : sD) (q : Nat) : Prop := d 53 12 = (q : Int) ∧ Fr 53 77 d0 d
theorem CR.ce (h : CR d0 d T n p x) : CE d0 d p := ⟨h.pl, h.2.2.2⟩
/-- a line of the class up to its semicolon -/
def LnC (d0 : sD) (T : Nat → Int) (n : Nat) (g : Bool × Nat) (x : Int × Int) (t : sD → Prop) : Option sV → sD → Prop := fun r d => (r = some (vI 0) ∧ g.1 = false ∧ CE d0 d g.2) ∨ ∃ q, r = some (vI 1) ∧ g = gSem T n q ∧ CR d0 d T n q x ∧ NL x q ∧ t d
theorem LnC_f {g : Bool × Nat} {t : sD → Prop} (hg : g = (false, q)) (h : CE d0 d q) : LnC d0 T n g x t (some (vI 0)) d := Or.inl ⟨rfl, by rw [hg], by rw [hg]; exact h⟩
theorem LnC_t {g : Bool × Nat} {t : sD → Prop} (hg : g = gSem T n q) (h : CR d0 d T n q x) (hx : NL x q) (ht : t d) : LnC d0 T n g x t (some (vI 1)) d := Or.inr ⟨q, rfl, hg, h, hx, ht⟩
end C51
