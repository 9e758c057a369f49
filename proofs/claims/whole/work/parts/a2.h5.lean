/-! the reference: text, whole -/
section C48
variable {G : sG} {d d' d0 e : sD} {T : Nat → Int} {n p q : Nat} {x : Int × Int} {dr : Nat → Int}
/-- the tape -/
def tpS (f : Nat → Int) (n i : Nat) : Int := if i < n then f (10 + i) else -1
/-- what a text of a sort comes to -/
def psS (f : Nat → Int) (n s : Nat) : (Int × Int) × (Nat → Int) := psT (tpS f n) n s (n + 1 - bgT (tpS f n) n 0) (bgT (tpS f n) n 0) (0, -1) (clS (s : Int))
def tx0 (d : sD) (n : Nat) : sD := up (up (up (up d 271 2 (n : Int)) 272 4 0) 272 5 0) 272 6 (-1)
def okTx (f : Nat → Int) (s at1 : Int) : Prop := (0 ≤ s ∧ s ≤ 3) ∧ ((at1 = -1 ∧ f s.toNat < 2) ∨ (¬ at1 = -1 ∧ 0 ≤ at1 ∧ at1 ≤ f s.toNat - 1))
def kTx (f : Nat → Int) (s at1 : Int) : Nat := if at1 = -1 then (f s.toNat).toNat else at1.toNat
theorem t_X12_text {s at1 : Int} (hM : ∀ s, s < 4 → 0 ≤ d 272 s ∧ d 272 s ≤ 2) (hn : d 272 4 = (n : Int)) (hn6 : n ≤ 600) (hb : ∀ i, i < 600 → 0 ≤ d 272 (10 + i) ∧ d 272 (10 + i) ≤ 255) : tB G mX12_text 0 [vR 271, vI s, vI at1, vU 0, vU 0] [] d (fun r d' => (¬ okTx (d 272) s at1 ∧ r = some (vI (-2)) ∧ d' = tx0 d n) ∨ (okTx (d 272) s at1 ∧ ((r = some (vI (-1)) ∧ ¬ (psS (d 272) n s.toNat).1.1 = 0 ∧ RF (tx0 d n) d' ∧ d' 272 5 = (psS (d 272) n s.toNat).1.1 ∧ d' 272 6 = (psS (d 272) n s.toNat).1.2) ∨ ((psS (d 272) n s.toNat).1.1 = 0 ∧ r = some (vI (kTx (d 272) s at1)) ∧ KeQ (tx0 d n) s.toNat (kTx (d 272) s at1) (at1 = -1) (psS (d 272) n s.toNat).2 d')))) := by
  have q272 : ∀ j, j ≠ 4 → j ≠ 5 → j ≠ 6 → tx0 d n 272 j = d 272 j := fun j h4 h5 h6 => by unfold tx0; rw [up_nej h6, up_nej h5, up_nej h4, up_nea (by decide)]
  have h71 : okTx (d 272) s at1 → tB G mX12_text 71 [vR 271, vI s, vI at1, vU 0, vU 0] [] (tx0 d n) (fun r d' => (¬ okTx (d 272) s at1 ∧ r = some (vI (-2)) ∧ d' = tx0 d n) ∨ (okTx (d 272) s at1 ∧ ((r = some (vI (-1)) ∧ ¬ (psS (d 272) n s.toNat).1.1 = 0 ∧ RF (tx0 d n) d' ∧ d' 272 5 = (psS (d 272) n s.toNat).1.1 ∧ d' 272 6 = (psS (d 272) n s.toNat).1.2) ∨ ((psS (d 272) n s.toNat).1.1 = 0 ∧ r = some (vI (kTx (d 272) s at1)) ∧ KeQ (tx0 d n) s.toNat (kTx (d 272) s at1) (at1 = -1) (psS (d 272) n s.toNat).2 d')))) := by
    intro hok
    obtain ⟨hs, hat⟩ := id hok
    obtain ⟨s, rfl⟩ : ∃ z : Nat, s = (z : Int) := ⟨s.toNat, by omega⟩
    rw [Int.toNat_natCast] at hat ⊢
    have hs4 : s < 4 := by omega
    have hcs := hM s hs4
    have hd0s := q272 s (by omega) (by omega) (by omega)
    have hk0 : kTx (d 272) (s : Int) at1 < 2 ∧ ((at1 = -1 ∧ tx0 d n 272 s = (kTx (d 272) (s : Int) at1 : Int)) ∨ (¬ at1 = -1 ∧ at1 = (kTx (d 272) (s : Int) at1 : Int))) := by
      unfold kTx
      rw [Int.toNat_natCast, hd0s]
      rcases hat with ⟨z, y⟩ | ⟨z, y⟩
      · rw [if_pos z]; omega
      · rw [if_neg z]; omega
    have hTV : ∀ i, i < n → 0 ≤ tpS (d 272) n i ∧ tpS (d 272) n i ≤ 255 := fun i hi => by
      unfold tpS; rw [if_pos hi]; exact hb i (by omega)
    have hTp : ∀ e : sD, e 271 2 = (n : Int) → (∀ i, e 272 (10 + i) = d 272 (10 + i)) → Tp e n (tpS (d 272) n) := fun e h1 h2 => by
      refine ⟨h1, hn6, ?_, hTV, fun i hi => ?_⟩
      · funext i; unfold byS tpS
        rw [h1, h2]
        by_cases z : i < n
        · rw [if_pos z, if_pos (by omega)]
        · rw [if_neg z, if_neg (by omega)]
      · unfold tpS; rw [if_neg (by omega)]
    refine T_aload_n dX12_text_71 rfl ?_
    refine T_iconst dX12_text_72 (by decide) ?_
    refine T_putI dX12_text_73 fX12_105 rfl k271 ?_
    refine T_aload_n dX12_text_76 rfl ?_
    refine T_iconst dX12_text_77 (by decide) ?_
    refine T_putZ dX12_text_78 fX12_138 rfl (by omega) k271 ?_
    refine T_aload_n dX12_text_81 rfl ?_
    refine T_iload_n dX12_text_82 rfl ?_
    refine T_callV dX12_text_83 lX12_187 (As := [_]) (rest := _) rfl rfl k271 (by decide) (Nat.le_of_ble_eq_true rfl) (Nat.le_of_ble_eq_true rfl) t_clears ?_
    rintro _ e1 ⟨rfl, hcl, hA1⟩
    have f2 : e1 271 2 = (n : Int) := by rw [hA1.2 2 (by decide), up_nej (by decide), up_nej (by decide)]; unfold tx0; rw [up_nea (by decide), up_nea (by decide), up_nea (by decide), up_same]
    have f3 : e1 271 3 = ((0 : Nat) : Int) := by rw [hA1.2 3 (by decide), up_nej (by decide), up_same]; rfl
    have f8 : e1 271 8 = 0 := by rw [hA1.2 8 (by decide), up_same]
    have f272 : ∀ j, e1 272 j = tx0 d n 272 j := fun j => by rw [hA1.1 272 j (by decide) (by decide), up_nea (by decide), up_nea (by decide)]
    have hTe := hTp e1 f2 (fun i => (f272 _).trans (q272 _ (by omega) (by omega) (by omega)))
    have hRF : RF (tx0 d n) e1 := ⟨fun b j h1 h2 h3 => by rw [hA1.1 b j (by simp; exact h3) h1, up_nea h1, up_nea h1], fun j hj => by rw [hA1.2 j (by simp), up_nej (fun z => hj (by rw [z]; decide)), up_nej (fun z => hj (by rw [z]; decide))], fun j _ _ => f272 j⟩
    refine T_aload_n dX12_text_86 rfl ?_
    refine T_callV dX12_text_87 lX12_153 (As := []) (rest := _) rfl rfl k271 (by decide) (Nat.le_of_ble_eq_true rfl) (Nat.le_of_ble_eq_true rfl) (t_advance hTe f3 (Nat.zero_le _)) ?_
    rintro _ e2 ⟨rfl, hTk⟩
    have hb0 := bgT_rg (T := tpS (d 272) n) (Nat.zero_le n)
    have hAg := hTk.2.2
    have hAt := At_tk hb0.2 hTk
    have g274 : e2 274 = e1 274 := funext fun j => hAg.1 274 j (by simp) (by decide)
    have hRS : RS (tx0 d n) e2 (tpS (d 272) n) n (bgT (tpS (d 272) n) n 0) (0, -1) := ⟨Tp_ag hTe hAg (by decide) (by decide), hAt, (hAg.2 8 (by decide)).trans f8, by rw [hAg.1 272 5 (by simp) (by decide), f272]; unfold tx0; rw [up_nej (by decide), up_same], by rw [hAg.1 272 6 (by simp) (by decide), f272]; unfold tx0; rw [up_same], RF_ag hRF hAg⟩
    refine r_t90 (R := psS (d 272) n s) hs4 (fun e3 hPE => (r_t160 hs4 (by rw [hd0s]; exact hcs) hk0.2 hk0.1 hPE).mono (fun r d' h => Or.inr ⟨hok, h⟩)) ((bgT (tpS (d 272) n) n 0, (0, -1)), clS (s : Int), e2) ⟨hRS, Or.inl rfl, ?_, fun _ i hi => by (try dsimp only); rw [g274]; exact hcl i hi, fun _ => rfl, rfl⟩
    try dsimp only
    rw [g274]
    unfold BLn
    rcases (show s = 0 ∨ s = 1 ∨ s = 2 ∨ s = 3 by omega) with rfl | rfl | rfl | rfl
    · exact fun a ha => by
        rw [hcl (15 + a) (by omega)]
        rcases (show a = 0 ∨ a = 1 by omega) with rfl | rfl <;> decide
    · exact fun a ha => by
        rw [hcl a (by omega)]
        rcases (show a = 0 ∨ a = 1 by omega) with rfl | rfl <;> decide
    · exact trivial
    · show 0 ≤ e1 274 0 ∧ e1 274 0 ≤ 8
      rw [hcl 0 (by omega)]; decide
  have h32 : tB G mX12_text 32 [vR 271, vI s, vI at1, vU 0, vU 0] [] (tx0 d n) (fun r d' => (¬ okTx (d 272) s at1 ∧ r = some (vI (-2)) ∧ d' = tx0 d n) ∨ (okTx (d 272) s at1 ∧ ((r = some (vI (-1)) ∧ ¬ (psS (d 272) n s.toNat).1.1 = 0 ∧ RF (tx0 d n) d' ∧ d' 272 5 = (psS (d 272) n s.toNat).1.1 ∧ d' 272 6 = (psS (d 272) n s.toNat).1.2) ∨ ((psS (d 272) n s.toNat).1.1 = 0 ∧ r = some (vI (kTx (d 272) s at1)) ∧ KeQ (tx0 d n) s.toNat (kTx (d 272) s at1) (at1 = -1) (psS (d 272) n s.toNat).2 d')))) := by
    refine T_iload_n dX12_text_32 rfl ?_
    refine T_iconst dX12_text_33 (by decide) ?_
    refine T_iconst dX12_text_34 (by decide) ?_
    refine T_callS dX12_text_35 lX12_145 (As := [_, _, _]) (rest := _) rfl rfl (by decide) (Nat.le_of_ble_eq_true rfl) (Nat.le_of_ble_eq_true rfl) t_X12_isIn ?_
    rintro _ _ ⟨rfl, rfl⟩
    refine T_if_eq (tgt := 68) dX12_text_38 (by decide) (fun c38 => ?_) (fun c38 => ?_)
    · refine T_bipush dX12_text_68 (by decide) ?_
      exact T_ireturn dX12_text_70 rfl (Or.inl ⟨fun z => bI_0 c38 z.1, rfl, rfl⟩)
    · have h38 := bI_1 c38
      have hMs := hM s.toNat (by omega)
      have hqs := q272 s.toNat (by omega) (by omega) (by omega)
      refine T_iload_n dX12_text_41 rfl ?_
      refine T_iconst dX12_text_42 (by decide) ?_
      refine T_icmp_ne (tgt := 59) dX12_text_43 (by decide) (fun c43 => ?_) (fun c43 => ?_)
      · refine T_aload_n dX12_text_59 rfl ?_
        refine T_iload_n dX12_text_60 rfl ?_
        refine T_iload_n dX12_text_61 rfl ?_
        refine T_callV dX12_text_62 lX12_183 (As := [_, _]) (rest := _) rfl rfl k271 (by decide) (Nat.le_of_ble_eq_true rfl) (Nat.le_of_ble_eq_true rfl) (t_X12_isOf h38 (by rw [q272 _ (by omega) (by omega) (by omega)]; exact hM _ (by omega))) ?_
        rintro _ _ ⟨rfl, rfl⟩
        refine T_if_ne (tgt := 71) dX12_text_65 (by decide) (fun c65 => ?_) (fun c65 => ?_)
        · have h65 := bI_1 c65
          rw [hqs] at h65
          exact h71 ⟨h38, Or.inr ⟨c43, h65⟩⟩
        · refine T_bipush dX12_text_68 (by decide) ?_
          exact T_ireturn dX12_text_70 rfl (Or.inl ⟨fun z => z.2.elim (fun y => c43 y.1) (fun y => bI_0 c65 (by rw [hqs]; exact y.2)), rfl, rfl⟩)
      · refine T_aload_n dX12_text_46 rfl ?_
        refine T_getR dX12_text_47 fX12_7 rfl k271 r271_0 ?_
        refine T_iload_n dX12_text_50 rfl ?_
        refine T_ialdv dX12_text_51 k272 l272 (by omega) (j := s.toNat) (by omega) (x := d 272 s.toNat) hqs ?_
        refine T_iconst dX12_text_52 (by decide) ?_
        refine T_icmp_lt (tgt := 71) dX12_text_53 (by decide) (fun c53 => ?_) (fun c53 => ?_)
        · exact h71 ⟨h38, Or.inl ⟨c43, c53⟩⟩
        · refine T_goto (tgt := 68) dX12_text_56 (by decide) ?_
          refine T_bipush dX12_text_68 (by decide) ?_
          exact T_ireturn dX12_text_70 rfl (Or.inl ⟨fun z => z.2.elim (fun y => c53 y.2) (fun y => y.1 c43), rfl, rfl⟩)
  refine T_aload_n dX12_text_0 rfl ?_
  refine T_aload_n dX12_text_1 rfl ?_
  refine T_getR dX12_text_2 fX12_7 rfl k271 r271_0 ?_
  refine T_iconst dX12_text_5 (by decide) ?_
  refine T_ialdv dX12_text_6 k272 l272 (by omega) (j := 4) rfl (x := (n : Int)) hn ?_
  refine T_putI dX12_text_7 fX12_87 rfl k271 ?_
  refine T_aload_n dX12_text_10 rfl ?_
  refine T_getR dX12_text_11 fX12_7 rfl k271 r271_0 ?_
  refine T_iconst dX12_text_14 (by decide) ?_
  refine T_iconst dX12_text_15 (by decide) ?_
  refine T_iast dX12_text_16 k272 l272 (by omega) (j := 4) rfl ?_
  refine T_aload_n dX12_text_17 rfl ?_
  refine T_getR dX12_text_18 fX12_7 rfl k271 r271_0 ?_
  refine T_iconst dX12_text_21 (by decide) ?_
  refine T_iconst dX12_text_22 (by decide) ?_
  refine T_iast dX12_text_23 k272 l272 (by omega) (j := 5) rfl ?_
  refine T_aload_n dX12_text_24 rfl ?_
  refine T_getR dX12_text_25 fX12_7 rfl k271 r271_0 ?_
  refine T_bipush dX12_text_28 (by decide) ?_
  refine T_iconst dX12_text_30 (by decide) ?_
  refine T_iast dX12_text_31 k272 l272 (by omega) (j := 6) rfl ?_
  exact h32

end C48
