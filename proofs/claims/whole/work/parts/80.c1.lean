/-! the class: its objects tied to rows of numbers; orders -/
section C1
variable {G : sG} {d d' : sD} {w g h v : Nat → Int} {wo so ho vo : Nat}
/-- a war of the class holds a row of numbers -/
def Wo (d : sD) (o : Nat) (w : Nat → Int) : Prop := (d o 0 = w 0 ∧ d o 1 = w 1 ∧ d o 2 = w 2) ∧ (∀ b, b < 4 → d (o + 1) b = w (3 + b)) ∧ (∀ a, a < 2 → d (o + 2) a = w (7 + a) ∧ d (o + 3) a = w (9 + a) ∧ d (o + 4) a = w (11 + a) ∧ d (o + 5) a = w (13 + a) ∧ d (o + 6) a = w (15 + a)) ∧ ∀ a k : Nat, a < 2 → (k : Int) < w (15 + a) → d (o + 7) (6 * a + k) = w (17 + 36 * a + 6 * k) ∧ d (o + 8) (6 * a + k) = w (18 + 36 * a + 6 * k) ∧ ∀ i : Nat, (i : Int) < w (18 + 36 * a + 6 * k) → d (o + 9) (24 * a + 4 * k + i) = w (19 + 36 * a + 6 * k + i)
def So (d : sD) (o : Nat) (g : Nat → Int) : Prop := ∀ a : Nat, a < 2 → d (o + 1) a = g a ∧ ∀ k : Nat, (k : Int) < g a → d (o + 2) (12 * a + k) = g (2 + 12 * a + k)
def Ho (d : sD) (o : Nat) (h : Nat → Int) : Prop := ∀ a : Nat, a < 2 → d (o + 1) a = h a ∧ ∀ k : Nat, (k : Int) < h a → d (o + 2) (6 * a + k) = h (2 + 6 * a + k)
def Vo (d : sD) (o : Nat) (v : Nat → Int) : Prop := d o 0 = v 0 ∧ ∀ k : Nat, (k : Int) < v 0 → d (o + 1) k = v (1 + 4 * k) ∧ d (o + 2) k = v (2 + 4 * k) ∧ d (o + 3) k = v (3 + 4 * k) ∧ d (o + 4) k = v (4 + 4 * k)
theorem Wo_eq (hO : Wo d wo w) (h : ∀ x j, x ≤ 9 → d' (wo + x) j = d (wo + x) j) : Wo d' wo w := by
  have h0 : ∀ j, d' wo j = d wo j := fun j => h 0 j (by omega)
  obtain ⟨⟨a1, a2, a3⟩, b, c, e⟩ := hO
  refine ⟨⟨by rw [h0]; exact a1, by rw [h0]; exact a2, by rw [h0]; exact a3⟩, fun x hx => by rw [h 1 x (by omega)]; exact b x hx, fun a ha => ?_, fun a k ha hk => ?_⟩
  · obtain ⟨c1, c2, c3, c4, c5⟩ := c a ha
    exact ⟨by rw [h 2 a (by omega)]; exact c1, by rw [h 3 a (by omega)]; exact c2, by rw [h 4 a (by omega)]; exact c3, by rw [h 5 a (by omega)]; exact c4, by rw [h 6 a (by omega)]; exact c5⟩
  · obtain ⟨e1, e2, e3⟩ := e a k ha hk
    exact ⟨by rw [h 7 _ (by omega)]; exact e1, by rw [h 8 _ (by omega)]; exact e2, fun i hi => by rw [h 9 _ (by omega)]; exact e3 i hi⟩
theorem So_eq (hO : So d so g) (h : ∀ x j, x ≤ 2 → d' (so + x) j = d (so + x) j) : So d' so g := fun a ha => ⟨by rw [h 1 a (by omega)]; exact (hO a ha).1, fun k hk => by rw [h 2 _ (by omega)]; exact (hO a ha).2 k hk⟩
theorem Ho_eq (hO : Ho d ho g) (h : ∀ x j, x ≤ 2 → d' (ho + x) j = d (ho + x) j) : Ho d' ho g := fun a ha => ⟨by rw [h 1 a (by omega)]; exact (hO a ha).1, fun k hk => by rw [h 2 _ (by omega)]; exact (hO a ha).2 k hk⟩
theorem Vo_eq (hO : Vo d vo v) (h : ∀ x j, x ≤ 4 → d' (vo + x) j = d (vo + x) j) : Vo d' vo v := ⟨by have := h 0 0 (by omega); rw [show vo + 0 = vo from rfl] at this; rw [this]; exact hO.1, fun k hk => by
  obtain ⟨e1, e2, e3, e4⟩ := hO.2 k hk
  exact ⟨by rw [h 1 _ (by omega)]; exact e1, by rw [h 2 _ (by omega)]; exact e2, by rw [h 3 _ (by omega)]; exact e3, by rw [h 4 _ (by omega)]; exact e4⟩⟩
/-- where the class's wars, scores, hearings, rows of villages and ears lie -/
theorem kn_W : ∀ o, o < 297 → kn S0 o = 10 → (o + 9 < 78 ∨ 111 < o) ∧ o + 9 < 259 := by decide +kernel
theorem kn_S : ∀ o, o < 297 → kn S0 o = 6 → (o + 2 < 78 ∨ o = 78 ∨ 111 < o) ∧ o + 2 < 259 := by decide +kernel
theorem kn_H : ∀ o, o < 297 → kn S0 o = 4 → (o + 2 < 78 ∨ 111 < o) ∧ o + 2 < 259 := by decide +kernel
theorem kn_V : ∀ o, o < 297 → kn S0 o = 9 → (o + 4 < 78 ∨ 111 < o) ∧ o + 4 < 259 := by decide +kernel
theorem kn_E : ∀ o, o < 297 → kn S0 o = 2 → o = 259 ∨ o = 265 := by decide +kernel
theorem at_W (h : kn S0 wo = 10) : (wo + 9 < 78 ∨ 111 < wo) ∧ wo + 9 < 259 := kn_W wo (kn_lt (by rw [h]; decide)) h
theorem at_S (h : kn S0 so = 6) : (so + 2 < 78 ∨ so = 78 ∨ 111 < so) ∧ so + 2 < 259 := kn_S so (kn_lt (by rw [h]; decide)) h
theorem at_H (h : kn S0 ho = 4) : (ho + 2 < 78 ∨ 111 < ho) ∧ ho + 2 < 259 := kn_H ho (kn_lt (by rw [h]; decide)) h
theorem at_V (h : kn S0 vo = 9) : (vo + 4 < 78 ∨ 111 < vo) ∧ vo + 4 < 259 := kn_V vo (kn_lt (by rw [h]; decide)) h
theorem at_E {e : Nat} (h : kn S0 e = 2) : e = 259 ∨ e = 265 := kn_E e (kn_lt (by rw [h]; decide)) h
/-- memory changed in a stretch of cells alone -/
def Fr (lo hi : Nat) (d d' : sD) : Prop := ∀ b j, ¬ (lo ≤ b ∧ b ≤ hi) → d' b j = d b j
theorem Fr.rf {lo hi : Nat} : Fr lo hi d d := fun _ _ _ => rfl
theorem Fr.trans {lo hi : Nat} {d d1 d2 : sD} (h1 : Fr lo hi d d1) (h2 : Fr lo hi d1 d2) : Fr lo hi d d2 := fun b j hb => (h2 b j hb).trans (h1 b j hb)
theorem Fr.mono {lo hi lo' hi' : Nat} {d d1 : sD} (h1 : Fr lo hi d d1) (h : lo' ≤ lo ∧ hi ≤ hi') : Fr lo' hi' d d1 := fun b j hb => h1 b j (by omega)
theorem Fr.up {lo hi : Nat} {d d1 : sD} {a j : Nat} {x : Int} (h1 : Fr lo hi d d1) (h : lo ≤ a ∧ a ≤ hi) : Fr lo hi d (up d1 a j x) := fun b i hb => by rw [up_nea (by rintro rfl; exact hb h)]; exact h1 b i hb
theorem Fr.ups {lo hi : Nat} {d d1 : sD} {a m n : Nat} {f : Nat → Int} (h1 : Fr lo hi d d1) (h : lo ≤ a ∧ a ≤ hi) : Fr lo hi d (ups d1 a m n f) := fun b i hb => by rw [ups_nea (by rintro rfl; exact hb h)]; exact h1 b i hb
theorem Wo_fr {lo hi : Nat} (hO : Wo d wo w) (hF : Fr lo hi d d') (hn : wo + 9 < lo ∨ hi < wo) : Wo d' wo w := Wo_eq hO (fun x j hx => hF _ _ (by omega))
theorem So_fr {lo hi : Nat} (hO : So d so g) (hF : Fr lo hi d d') (hn : so + 2 < lo ∨ hi < so) : So d' so g := So_eq hO (fun x j hx => hF _ _ (by omega))
theorem Ho_fr {lo hi : Nat} (hO : Ho d ho g) (hF : Fr lo hi d d') (hn : ho + 2 < lo ∨ hi < ho) : Ho d' ho g := Ho_eq hO (fun x j hx => hF _ _ (by omega))
theorem Vo_fr {lo hi : Nat} (hO : Vo d vo v) (hF : Fr lo hi d d') (hn : vo + 4 < lo ∨ hi < vo) : Vo d' vo v := Vo_eq hO (fun x j hx => hF _ _ (by omega))
theorem Wo.mv (hO : Wo d wo w) {a o : Nat} (ha : a < 2) (ho : (o : Int) < w (15 + a)) : d (wo + 7) (6 * a + o) = w (17 + 36 * a + 6 * o) := (hO.2.2.2 a o ha ho).1
theorem Wo.ln (hO : Wo d wo w) (hV : WV w) {a o : Nat} (ha : a < 2) (ho : (o : Int) < w (15 + a)) : d (wo + 8) (6 * a + o) = (lnW w a o : Int) := by rw [(hO.2.2.2 a o ha ho).2.1]; exact (hV.ln ha ho).2.2.1
theorem Wo.bt (hO : Wo d wo w) (hV : WV w) {a o i : Nat} (ha : a < 2) (ho : (o : Int) < w (15 + a)) (hi : i < lnW w a o) : d (wo + 9) (24 * a + 4 * o + i) = btW w a o i := (hO.2.2.2 a o ha ho).2.2 i (by have := (hV.ln ha ho).2.2.1; omega)
theorem Wo.ct (hO : Wo d wo w) {a : Nat} (ha : a < 2) : d (wo + 6) a = w (15 + a) := (hO.2.2.1 a ha).2.2.2.2
theorem t_slot {a k : Nat} (ha : a < 2) (hk : k < 100) : tB G mX10_slot 0 [vI a, vI k] [] d (fun r d' => r = some (vI ((6 * a + k : Nat) : Int)) ∧ d = d') := by
  refine T_iload_n dX10_slot_0 rfl ?_
  refine T_bipush dX10_slot_1 (by decide) ?_
  refine T_mul dX10_slot_3 (by omega) ?_
  refine T_iload_n dX10_slot_4 rfl ?_
  refine T_add dX10_slot_5 (by omega) ?_
  exact T_ireturn dX10_slot_6 rfl (by refine ⟨?_, rfl⟩; first | rfl | (refine congrArg (fun z => some (vI z)) ?_; first | omega | (simp only [bI]; (repeat' split) <;> omega)))

/-- so many beats of an order, from one on, are the first ones of another -/
abbrev agP (w : Nat → Int) (a o f b q m : Nat) : Prop := f + m ≤ lnW w a o ∧ m ≤ lnW w b q ∧ ∀ i, i < m → btW w a o (f + i) = btW w b q i
theorem t_agree {a b o q f m : Nat} (hw : kn S0 wo = 10) (hO : Wo d wo w) (hV : WV w) (ha : a < 2) (hb : b < 2) (ho : (o : Int) < w (15 + a)) (hq : (q : Int) < w (15 + b)) (hf : f ≤ 4) (hm : m ≤ 4) : tB G mX10_agree 0 [vR wo, vI ((6 * a + o : Nat) : Int), vI f, vI ((6 * b + q : Nat) : Int), vI m, vU 0] [] d (fun r d' => r = some (vI (bI (agP w a o f b q m))) ∧ d = d') := by
  obtain ⟨l1, l2, l3, l4⟩ := hV.ln ha ho
  obtain ⟨p1, p2, p3, p4⟩ := hV.ln hb hq
  have e1 := hO.ln hV ha ho
  have e2 := hO.ln hV hb hq
  have h29 : ∀ z : Nat, ((z ≤ m ∧ f + m ≤ lnW w a o ∧ m ≤ lnW w b q) ∧ ∀ i, i < z → btW w a o (f + i) = btW w b q i) → tB G mX10_agree 29 [vR wo, vI ((6 * a + o : Nat) : Int), vI f, vI ((6 * b + q : Nat) : Int), vI m, vI z] [] (d) (fun r d' => r = some (vI (bI (agP w a o f b q m))) ∧ d = d') := by
    refine T_loop (α := Nat) 29 (fun z => [vR wo, vI ((6 * a + o : Nat) : Int), vI f, vI ((6 * b + q : Nat) : Int), vI m, vI z]) (fun z => d) (fun z => (z ≤ m ∧ f + m ≤ lnW w a o ∧ m ≤ lnW w b q) ∧ ∀ i, i < z → btW w a o (f + i) = btW w b q i) (fun z => m - z) ?_
    rintro i ⟨⟨h1, h2, h3⟩, h4⟩ ih
    try dsimp only at h1 h2 h3 h4 ih ⊢
    refine T_iload dX10_agree_29 rfl ?_
    refine T_iload dX10_agree_31 rfl ?_
    refine T_icmp_ge (tgt := 71) dX10_agree_33 (by decide) (fun c33 => ?_) (fun c33 => ?_)
    · refine T_iconst dX10_agree_71 (by decide) ?_
      exact T_zreturn dX10_agree_72 rfl (by omega) ⟨by rw [bI_t ⟨h2, h3, fun j hj => h4 j (by omega)⟩], rfl⟩
    · refine T_aload_n dX10_agree_36 rfl ?_
      refine T_getR dX10_agree_37 fX10_36 rfl hw (rW11 hw) ?_
      refine T_iload_n dX10_agree_40 rfl ?_
      refine T_iconst dX10_agree_41 (by decide) ?_
      refine T_mul dX10_agree_42 (by omega) ?_
      refine T_iload_n dX10_agree_43 rfl ?_
      refine T_add dX10_agree_44 (by omega) ?_
      refine T_iload dX10_agree_45 rfl ?_
      refine T_add dX10_agree_47 (by omega) ?_
      refine T_ialdv dX10_agree_48 (kW11 hw) (lW11 hw) (by omega) (j := 24 * a + 4 * o + (f + i)) (by omega) (x := btW w a o (f + i)) (hO.bt hV ha ho (by omega)) ?_
      refine T_aload_n dX10_agree_49 rfl ?_
      refine T_getR dX10_agree_50 fX10_36 rfl hw (rW11 hw) ?_
      refine T_iload_n dX10_agree_53 rfl ?_
      refine T_iconst dX10_agree_54 (by decide) ?_
      refine T_mul dX10_agree_55 (by omega) ?_
      refine T_iload dX10_agree_56 rfl ?_
      refine T_add dX10_agree_58 (by omega) ?_
      refine T_ialdv dX10_agree_59 (kW11 hw) (lW11 hw) (by omega) (j := 24 * b + 4 * q + i) (by omega) (x := btW w b q i) (hO.bt hV hb hq (by omega)) ?_
      refine T_icmp_eq (tgt := 65) dX10_agree_60 (by decide) (fun c60 => ?_) (fun c60 => ?_)
      · refine T_inc dX10_agree_65 rfl (by decide) rfl (by omega) ?_
        refine T_goto (tgt := 29) dX10_agree_68 (by decide) ?_
        refine ih (i + 1) ⟨⟨by omega, h2, h3⟩, fun j hj => ?_⟩ (by omega)
        rcases (show j < i ∨ j = i by omega) with z | rfl
        · exact h4 j z
        · exact c60
      · refine T_iconst dX10_agree_63 (by decide) ?_
        exact T_zreturn dX10_agree_64 rfl (by omega) ⟨by rw [bI_f (fun z => c60 (z.2.2 i (by omega)))], rfl⟩
  refine T_iload_n dX10_agree_0 rfl ?_
  refine T_iload dX10_agree_1 rfl ?_
  refine T_add dX10_agree_3 (by omega) ?_
  refine T_aload_n dX10_agree_4 rfl ?_
  refine T_getR dX10_agree_5 fX10_33 rfl hw (rW10 hw) ?_
  refine T_iload_n dX10_agree_8 rfl ?_
  refine T_ialdv dX10_agree_9 (kW10 hw) (lW10 hw) (by omega) (j := 6 * a + o) (by omega) (x := (lnW w a o : Int)) e1 ?_
  refine T_icmp_gt (tgt := 24) dX10_agree_10 (by decide) (fun c10 => ?_) (fun c10 => ?_)
  · refine T_iconst dX10_agree_24 (by decide) ?_
    exact T_zreturn dX10_agree_25 rfl (by omega) ⟨by rw [bI_f (fun z => by omega)], rfl⟩
  · refine T_iload dX10_agree_13 rfl ?_
    refine T_aload_n dX10_agree_15 rfl ?_
    refine T_getR dX10_agree_16 fX10_33 rfl hw (rW10 hw) ?_
    refine T_iload_n dX10_agree_19 rfl ?_
    refine T_ialdv dX10_agree_20 (kW10 hw) (lW10 hw) (by omega) (j := 6 * b + q) (by omega) (x := (lnW w b q : Int)) e2 ?_
    refine T_icmp_le (tgt := 26) dX10_agree_21 (by decide) (fun c21 => ?_) (fun c21 => ?_)
    · refine T_iconst dX10_agree_26 (by decide) ?_
      refine T_ist dX10_agree_27 (by decide) rfl ?_
      exact h29 0 ⟨⟨by omega, by omega, by omega⟩, fun j hj => absurd hj (Nat.not_lt_zero j)⟩
    · refine T_iconst dX10_agree_24 (by decide) ?_
      exact T_zreturn dX10_agree_25 rfl (by omega) ⟨by rw [bI_f (fun z => by omega)], rfl⟩

abbrev sbP (w : Nat → Int) (a o b q : Nat) : Prop := lnW w a o = lnW w b q ∧ ∀ i, i < lnW w a o → btW w a o i = btW w b q i
theorem t_sameBeats {a b o q : Nat} (hw : kn S0 wo = 10) (hO : Wo d wo w) (hV : WV w) (ha : a < 2) (hb : b < 2) (ho : (o : Int) < w (15 + a)) (hq : (q : Int) < w (15 + b)) : tB G mX10_sameBeats 0 [vR wo, vI ((6 * a + o : Nat) : Int), vI ((6 * b + q : Nat) : Int)] [] d (fun r d' => r = some (vI (bI (sbP w a o b q))) ∧ d = d') := by
  obtain ⟨l1, l2, l3, l4⟩ := hV.ln ha ho
  obtain ⟨p1, p2, p3, p4⟩ := hV.ln hb hq
  have e1 := hO.ln hV ha ho
  have e2 := hO.ln hV hb hq
  refine T_aload_n dX10_sameBeats_0 rfl ?_
  refine T_getR dX10_sameBeats_1 fX10_33 rfl hw (rW10 hw) ?_
  refine T_iload_n dX10_sameBeats_4 rfl ?_
  refine T_ialdv dX10_sameBeats_5 (kW10 hw) (lW10 hw) (by omega) (j := 6 * a + o) (by omega) (x := (lnW w a o : Int)) e1 ?_
  refine T_aload_n dX10_sameBeats_6 rfl ?_
  refine T_getR dX10_sameBeats_7 fX10_33 rfl hw (rW10 hw) ?_
  refine T_iload_n dX10_sameBeats_10 rfl ?_
  refine T_ialdv dX10_sameBeats_11 (kW10 hw) (lW10 hw) (by omega) (j := 6 * b + q) (by omega) (x := (lnW w b q : Int)) e2 ?_
  refine T_icmp_ne (tgt := 35) dX10_sameBeats_12 (by decide) (fun c12 => ?_) (fun c12 => ?_)
  · refine T_iconst dX10_sameBeats_35 (by decide) ?_
    exact T_zreturn dX10_sameBeats_36 rfl (by omega) ⟨by rw [bI_f (fun z => c12 (by omega))], rfl⟩
  · refine T_aload_n dX10_sameBeats_15 rfl ?_
    refine T_iload_n dX10_sameBeats_16 rfl ?_
    refine T_iconst dX10_sameBeats_17 (by decide) ?_
    refine T_iload_n dX10_sameBeats_18 rfl ?_
    refine T_aload_n dX10_sameBeats_19 rfl ?_
    refine T_getR dX10_sameBeats_20 fX10_33 rfl hw (rW10 hw) ?_
    refine T_iload_n dX10_sameBeats_23 rfl ?_
    refine T_ialdv dX10_sameBeats_24 (kW10 hw) (lW10 hw) (by omega) (j := 6 * a + o) (by omega) (x := (lnW w a o : Int)) e1 ?_
    refine T_callV dX10_sameBeats_25 lX10_58 (As := [_, _, _, _]) (rest := _) rfl rfl hw (by decide) (Nat.le_of_ble_eq_true rfl) (Nat.le_of_ble_eq_true rfl) (t_agree (f := 0) (m := lnW w a o) hw hO hV ha hb ho hq (by omega) (by omega)) ?_
    rintro _ _ ⟨rfl, rfl⟩
    refine T_if_eq (tgt := 35) dX10_sameBeats_28 (by decide) (fun c28 => ?_) (fun c28 => ?_)
    · refine T_iconst dX10_sameBeats_35 (by decide) ?_
      exact T_zreturn dX10_sameBeats_36 rfl (by omega) ⟨by rw [bI_f (fun z => bI_0 c28 ⟨by omega, by omega, fun i hi => by rw [Nat.zero_add]; exact z.2 i hi⟩)], rfl⟩
    · refine T_iconst dX10_sameBeats_31 (by decide) ?_
      refine T_goto (tgt := 36) dX10_sameBeats_32 (by decide) ?_
      exact T_zreturn dX10_sameBeats_36 rfl (by omega) ⟨by rw [bI_t ⟨by omega, fun i hi => by have := (bI_1 c28).2.2 i hi; rwa [Nat.zero_add] at this⟩], rfl⟩

end C1
