/-! the JDK's own: texts -/
section STR
variable {G : sG} {M M' : sM} {pc idx n : Nat} {ls st As rest : List sV} {S : sS} {d : sD} {kc ks kc' ks' : Nat} {Q Q' : Option sV → sS → sD → Prop}
abbrev mJ0_charAt_5068e : sM := (yJ0_charAt_5068e, cJ0_charAt_5068e, 2, (some .char), 4, 85)
theorem okJ0_charAt_5068e : MOk mJ0_charAt_5068e := ⟨by decide, (tb (i := 679) (by decide +kernel) (by decide +kernel)), (tb (i := 140) (by decide +kernel) (by decide +kernel)), by decide, by decide⟩
abbrev mJ1_charAt_3b067 : sM := (yJ1_charAt_3b067, cJ1_charAt_3b067, 2, (some .char), 2, 43)
theorem okJ1_charAt_3b067 : MOk mJ1_charAt_3b067 := ⟨by decide, (tb (i := 686) (by decide +kernel) (by decide +kernel)), (tb (i := 141) (by decide +kernel) (by decide +kernel)), by decide, by decide⟩
abbrev mJ0_isLatin1_aae02 : sM := (yJ0_isLatin1_aae02, cJ0_isLatin1_aae02, 1, (some .boolean), 0, 0)
theorem okJ0_isLatin1_aae02 : MOk mJ0_isLatin1_aae02 := ⟨by decide, (tb (i := 683) (by decide +kernel) (by decide +kernel)), (tb (i := 140) (by decide +kernel) (by decide +kernel)), by decide, by decide⟩
abbrev mJ0_checkIndex_df160 : sM := (yJ0_checkIndex_df160, cJ0_checkIndex_df160, 2, none, 1, 22)
theorem okJ0_checkIndex_df160 : MOk mJ0_checkIndex_df160 := ⟨by decide, (tb (i := 689) (by decide +kernel) (by decide +kernel)), (tb (i := 140) (by decide +kernel) (by decide +kernel)), by decide, by decide⟩
abbrev mJ3_checkIndex_8e157 : sM := (yJ3_checkIndex_8e157, cJ3_checkIndex_8e157, 3, (some .int), 0, 0)
theorem okJ3_checkIndex_8e157 : MOk mJ3_checkIndex_8e157 := ⟨by decide, (tb (i := 694) (by decide +kernel) (by decide +kernel)), (tb (i := 142) (by decide +kernel) (by decide +kernel)), by decide, by decide⟩
abbrev mJ0_length_8abf5 : sM := (yJ0_length_8abf5, cJ0_length_8abf5, 1, (some .int), 1, 20)
theorem okJ0_length_8abf5 : MOk mJ0_length_8abf5 := ⟨by decide, (tb (i := 669) (by decide +kernel) (by decide +kernel)), (tb (i := 140) (by decide +kernel) (by decide +kernel)), by decide, by decide⟩
abbrev mJ0_coder_7d493 : sM := (yJ0_coder_7d493, cJ0_coder_7d493, 1, (some .byte), 0, 0)
theorem okJ0_coder_7d493 : MOk mJ0_coder_7d493 := ⟨by decide, (tb (i := 673) (by decide +kernel) (by decide +kernel)), (tb (i := 140) (by decide +kernel) (by decide +kernel)), by decide, by decide⟩
theorem lJ0_495 : LkS RJ0 495 mJ1_charAt_3b067 2 := ⟨okJ1_charAt_3b067, (tb (i := 684) (by decide +kernel) (by decide +kernel)), (tb (i := 685) (by decide +kernel) (by decide +kernel)), by decide +kernel⟩
theorem lJ1_9 : LkS RJ1 9 mJ0_checkIndex_df160 2 := ⟨okJ0_checkIndex_df160, (tb (i := 687) (by decide +kernel) (by decide +kernel)), (tb (i := 688) (by decide +kernel) (by decide +kernel)), by decide +kernel⟩
theorem lJ0_1059 : LkS RJ0 1059 mJ3_checkIndex_8e157 3 := ⟨okJ3_checkIndex_8e157, (tb (i := 692) (by decide +kernel) (by decide +kernel)), (tb (i := 693) (by decide +kernel) (by decide +kernel)), by decide +kernel⟩
/-- a call of a text's own method -/
def LkU (own : String) (idx : Nat) (M' : sM) (n : Nat) : Prop := MOk M' ∧ Cond.methodLink own idx (mY M') ∈ gw ∧ Cond.instanceMethod (mY M') ∈ gw ∧ Cond.selects "java/lang/String" (mY M') (mY M') ∈ gw ∧ (parseMethodDescriptor (mY M').desc).map (fun d => d.parameters.length) = some n ∧ (mY M').cls = "java/lang/String"
theorem lJ0_492 : LkU RJ0 492 mJ0_isLatin1_aae02 0 := ⟨okJ0_isLatin1_aae02, (tb (i := 680) (by decide +kernel) (by decide +kernel)), (tb (i := 681) (by decide +kernel) (by decide +kernel)), (tb (i := 682) (by decide +kernel) (by decide +kernel)), by decide +kernel, rfl⟩
theorem lJ0_335 : LkU RJ0 335 mJ0_coder_7d493 0 := ⟨okJ0_coder_7d493, (tb (i := 670) (by decide +kernel) (by decide +kernel)), (tb (i := 671) (by decide +kernel) (by decide +kernel)), (tb (i := 672) (by decide +kernel) (by decide +kernel)), by decide +kernel, rfl⟩
theorem lX5_252 : LkU RX5 252 mJ0_length_8abf5 0 := ⟨okJ0_length_8abf5, (tb (i := 666) (by decide +kernel) (by decide +kernel)), (tb (i := 667) (by decide +kernel) (by decide +kernel)), (tb (i := 668) (by decide +kernel) (by decide +kernel)), by decide +kernel, rfl⟩
theorem lX5_258 : LkU RX5 258 mJ0_charAt_5068e 1 := ⟨okJ0_charAt_5068e, (tb (i := 676) (by decide +kernel) (by decide +kernel)), (tb (i := 677) (by decide +kernel) (by decide +kernel)), (tb (i := 678) (by decide +kernel) (by decide +kernel)), by decide +kernel, rfl⟩
theorem fJ0_9 : Cond.fieldLink RJ0 9 "java/lang/String" "value" "[B" ∈ gw := (tb (i := 1843) (by decide +kernel) (by decide +kernel))
theorem fJ0_15 : Cond.fieldLink RJ0 15 "java/lang/String" "coder" "B" ∈ gw := (tb (i := 1844) (by decide +kernel) (by decide +kernel))
theorem fJ0_38 : Cond.fieldLink RJ0 38 "java/lang/String" "COMPACT_STRINGS" "Z" ∈ gw := (tb (i := 674) (by decide +kernel) (by decide +kernel))
theorem fJ0_1053 : Cond.fieldLink RJ0 1053 "jdk/internal/util/Preconditions" "SIOOBE_FORMATTER" "Ljava/util/function/BiFunction;" ∈ gw := (tb (i := 690) (by decide +kernel) (by decide +kernel))
theorem rv_un (G : sG) (u : Nat) : rv G (vU u) = .null ∨ ∃ a, rv G (vU u) = .ref a := by
  simp only [rv]
  split
  · exact Or.inr ⟨_, rfl⟩
  · split
    · exact Or.inr ⟨_, rfl⟩
    · split
      · exact Or.inr ⟨_, rfl⟩
      · split
        · unfold fmV
          split
          · exact Or.inl rfl
          · exact Or.inr ⟨_, rfl⟩
        · exact Or.inl rfl
theorem B_aload_u {k : Fin 4} {u : Nat} (hd : decode (mC M) pc = .ok (.aload_n k, 1)) (hu : vU u ≠ vU 0) (h : ls[k.val]? = some (vU u)) (k : sB G M (pc + 1) ls (vU u :: st) S d kc ks Q) : sB G M pc ls st S d kc ks Q :=
  sB.go (fun hl hs => ok_cons (ok_at hl h) hs) (fun _ _ _ _ _ _ _ _ _ _ _ _ _ _ _ _ hx hb hL _ _ _ k => by
    have h1 := hL.2.2.2.2 _ _ h hu
    rw [List.map_cons] at k
    rcases rv_un G u with e | ⟨a, e⟩
    · rw [e] at h1 k; exact lv_aload_nN hx hb hd rfl h1 k
    · rw [e] at h1 k; exact lv_aload_n hx hb hd rfl h1 k) k
def w16 (x : Int) : Int := ((Int32.ofInt x).toUInt32 % 65536).toInt32.toInt
theorem B_i2c {a : Int} (hd : decode (mC M) pc = .ok (.i2c, 1)) (k : sB G M (pc + 1) ls (vI (w16 a) :: st) S d kc ks Q) : sB G M pc ls (vI a :: st) S d kc ks Q :=
  sB.go (fun _ hs => ok_cons (v := vI (w16 a)) (i32_rg _) (ok_tl hs)) (fun _ _ _ _ _ _ _ _ _ _ _ _ _ _ _ _ hx hb _ hs _ _ k => lv_i2c hx hb hd (v := ((Int32.ofInt a).toUInt32 % 65536).toInt32) rfl (by
    have k := k
    simp only [List.map_cons, rv, w16, Int32.ofInt_toInt] at k
    exact k)) k
theorem w16_n (x : Int) : narrow .char (.int (Int32.ofInt (w16 x))) = .int (Int32.ofInt (w16 x)) := by
  unfold w16; rw [Int32.ofInt_toInt]; exact pk_nc _
/-- a byte of the words' text -/
def tx (i : Nat) : Int := (txW.getD i 0).toInt
theorem tx_w16 : ∀ i, i < 128 → w16 (tx i) = tx i ∧ w16 (i_and (tx i) 255) = tx i := by decide +kernel
theorem HR.old {H : Heap} (h : HR G S d H) : ∀ a : Nat, a < (gH G).size → ¬ gB G ≤ a → H[a]? = (gH G)[a]? := fun a _ h2 => h.2.2.1 a (by omega)
theorem B_ldcS (hd : decode (mC M) pc = .ok (.ldc 250, 2)) (hc : (mY M).cls = "OneDrum$Reader") (kk : sB G M (pc + 2) ls (vU 2 :: st) S d kc ks Q) : sB G M pc ls st S d kc ks Q := by
  intro p l e R s m args below meth c H locs cells slots Z lsr C hH hl hL hs hcc hks
  have hK := C.2.2.2.2.2.2.1.2.2.1.2.1
  refine va_ldcS C.1 C.2.1 (own := "OneDrum$Reader") (by rw [← hc]; exact C.2.2.2.1) hK.1 hd ?_
  exact kk p l e R s m args below meth c H locs cells slots Z lsr C hH hl hL (ok_cons (v := vU 2) trivial hs) hcc hks
theorem B_value (hd : decode (mC M) pc = .ok (.getfield 9, 3)) (hc : (mY M).cls = RJ0) (kk : sB G M (pc + 3) ls (vU 3 :: st) S d kc ks Q) : sB G M pc ls (vU 2 :: st) S d kc ks Q := by
  intro p l e R s m args below meth c H locs cells slots Z lsr C hH hl hL hs hcc hks
  have hts := C.2.2.2.2.1
  have hK := C.2.2.2.2.2.2.1.2.2.1.2.1
  obtain ⟨cf, k, fi, f, cell, h1, h2, h3, h4, h5, h6⟩ := hK.2.2.2.1.kept (H1 := H) hH.old
  refine W.getf C.1 C.2.1 (own := RJ0) (by rw [← hc]; exact C.2.2.2.1) (hts _ fJ0_9) h1 h2 h3 h4 h5 rfl rfl hd ?_
  exact kk p l e R s m args below meth c H locs cells slots Z lsr C hH hl hL (ok_cons (v := vU 3) trivial (ok_tl hs)) hcc hks
theorem B_coder (hd : decode (mC M) pc = .ok (.getfield 15, 3)) (hc : (mY M).cls = RJ0) (kk : sB G M (pc + 3) ls (vI 0 :: st) S d kc ks Q) : sB G M pc ls (vU 2 :: st) S d kc ks Q := by
  intro p l e R s m args below meth c H locs cells slots Z lsr C hH hl hL hs hcc hks
  have hts := C.2.2.2.2.1
  have hK := C.2.2.2.2.2.2.1.2.2.1.2.1
  obtain ⟨cf, k, fi, f, cell, h1, h2, h3, h4, h5, h6⟩ := hK.2.2.1.kept (H1 := H) hH.old
  refine W.getf C.1 C.2.1 (own := RJ0) (by rw [← hc]; exact C.2.2.2.1) (hts _ fJ0_15) h1 h2 h3 h4 h5 rfl rfl hd ?_
  exact kk p l e R s m args below meth c H locs cells slots Z lsr C hH hl hL (ok_cons (v := vI 0) ⟨by decide, by decide⟩ (ok_tl hs)) hcc hks
theorem B_compact (hd : decode (mC M) pc = .ok (.getstatic 38, 3)) (hc : (mY M).cls = RJ0) (kk : sB G M (pc + 3) ls (vI 1 :: st) S d kc ks Q) : sB G M pc ls st S d kc ks Q := by
  intro p l e R s m args below meth c H locs cells slots Z lsr C hH hl hL hs hcc hks
  have hts := C.2.2.2.2.1
  have hK := C.2.2.2.2.2.2.1.2.2.1.2.1
  obtain ⟨cf, kf, fi, f, a, cell, h1, h2, h3, h4, h5, h6, h7, h8⟩ := hK.2.2.2.2.2.1.kept (H1 := H) hH.old
  refine W.gets C.1 C.2.1 (own := RJ0) (by rw [← hc]; exact C.2.2.2.1) (hts _ fJ0_38) h1 h2 h3 h4 h5 (fun e => by rw [e] at h6; cases h6) h7 rfl hd ?_
  exact kk p l e R s m args below meth c H locs cells slots Z lsr C hH hl hL (ok_cons (v := vI 1) ⟨by decide, by decide⟩ hs) hcc hks
theorem B_former (hd : decode (mC M) pc = .ok (.getstatic 1053, 3)) (hc : (mY M).cls = RJ0) (kk : sB G M (pc + 3) ls (vU 4 :: st) S d kc ks Q) : sB G M pc ls st S d kc ks Q := by
  intro p l e R s m args below meth c H locs cells slots Z lsr C hH hl hL hs hcc hks
  have hts := C.2.2.2.2.1
  have hK := C.2.2.2.2.2.2.1.2.2.1.2.1
  obtain ⟨cf, kf, fi, f, a, cell, h1, h2, h3, h4, h5, h6, h7, h8⟩ := hK.2.2.2.2.2.2.kept (H1 := H) hH.old
  refine W.gets C.1 C.2.1 (own := RJ0) (by rw [← hc]; exact C.2.2.2.1) (hts _ fJ0_1053) h1 h2 h3 h4 h5 (fun e => by rw [e] at h6; cases h6) h7 rfl hd ?_
  exact kk p l e R s m args below meth c H locs cells slots Z lsr C hH hl hL (ok_cons (v := vU 4) trivial hs) hcc hks
theorem B_talen (hd : decode (mC M) pc = .ok (.arraylength, 1)) (kk : sB G M (pc + 1) ls (vI 128 :: st) S d kc ks Q) : sB G M pc ls (vU 3 :: st) S d kc ks Q := by
  intro p l e R s m args below meth c H locs cells slots Z lsr C hH hl hL hs hcc hks
  have hK := C.2.2.2.2.2.2.1.2.2.1.2.1
  obtain ⟨cell, h1, h2, h3, h4, h5, h6, h7⟩ := hK.2.2.2.2.1.kept (H1 := H) hH.old
  refine W.alen (n := Int32.ofInt 128) C.1 C.2.1 (a := gI G 99 0) h1 h2 h5 rfl rfl hd ?_
  exact kk p l e R s m args below meth c H locs cells slots Z lsr C hH hl hL (ok_cons (v := vI 128) ⟨by decide, by decide⟩ (ok_tl hs)) hcc hks
theorem B_tald {i : Int} (hd : decode (mC M) pc = .ok (.baload, 1)) (hi1 : 0 ≤ i) (hi2 : i < 128) (kk : sB G M (pc + 1) ls (vI (tx i.toNat) :: st) S d kc ks Q) : sB G M pc ls (vI i :: vU 3 :: st) S d kc ks Q := by
  intro p l e R s m args below meth c H locs cells slots Z lsr C hH hl hL hs hcc hks
  have hK := C.2.2.2.2.2.2.1.2.2.1.2.1
  have hi := ok_hd hs
  obtain ⟨cell, h1, h2, h3, h4, h5, h6, h7⟩ := hK.2.2.2.2.1.kept (H1 := H) hH.old
  refine W.bald (v := rv G (vI (tx i.toNat))) C.1 C.2.1 (a := gI G 99 0) h1 h2 h3 (inI hi hi1 (by omega)) (by rw [clampI hi, h6 _ (by omega)]; show _ = some (Value.int (Int32.ofInt (tx i.toNat))); unfold tx; rw [Int32.ofInt_toInt]) rfl rfl hd ?_
  exact kk p l e R s m args below meth c H locs cells slots Z lsr C hH hl hL (ok_cons (v := vI (tx i.toNat)) (i32_rg _) (ok_tl (ok_tl hs))) hcc hks
theorem B_callU (hd : decode (mC M) pc = .ok (.invokevirtual idx, 3)) (hk : LkU (mY M).cls idx M' n) (hst : st = As.reverse ++ vU 2 :: rest) (hn : As.length = n) (hrm : mF M' + 1 ≤ mF M ∧ 8 + (mL M' + 11) + mO M' ≤ mO M) (hrest : rest.length ≤ 4) (hlen : (entl (vU 2 :: As)).length ≤ mL M')
    (hB : sB G M' 0 (ent (mL M') (vU 2 :: As)) [] S d kc' ks' Q') (kk : ∀ r S' d', Q' r S' d' → sB G M (pc + 3) ls (r.toList ++ rest) S' d' kc ks Q) : sB G M pc ls st S d (kc' + kc) (ks' + ks) Q := by
  intro p l e R s m args below meth c H locs cells slots Z lsr C hH hl hL hs hc hks
  subst hst
  obtain ⟨hM', w1, w2, w3, w4, w6⟩ := hk
  obtain ⟨o1, o2⟩ := ok_rev hs
  have hts := C.2.2.2.2.1
  have hmet := sm_met l hM' o1 hlen hB
  have hK := C.2.2.2.2.2.2.1.2.2.1.2.1
  obtain ⟨cell, q1, q2, q3, -⟩ := hK.2.1.kept (H1 := H) hH.old
  have hcb : CallB R s args (mY M).cls idx (mY M') (mC M') (mL M') (mR M') (Cond.code (mY M') (mC M') (mL M') (mR M') :: gw) (rmM M' kc' ks') kc' ks' n :=
    callB_of n hts (gw_good _ _ _ _ hM'.2.1) rfl rfl rfl (hts _ hM'.2.2.1) (hts _ w1) ⟨hM'.2.2.2.1, hM'.2.2.2.2, w4⟩ ⟨by have := C.2.2.2.2.2.2.2.1.1; show mF M' + 1 ≤ _; omega, by have := C.2.2.2.2.2.2.2.1.2; show 8 + (mL M' + 11) + mO M' ≤ _; omega⟩
  have ea : rv G (vU 2) = .ref G.1.2.2.1 := rfl
  have hpre : PreV s H (mY M').cls G.1.2.2.1 (Pz G S d (vU 2 :: As)) (As.map (rv G)) :=
    ⟨Pz_blind, ⟨cell, q1, q2, by rw [w6]; exact q3⟩, fun U hU hW => ⟨by rw [← ea]; rfl, by rw [hU]; exact hH, KK.warm hW C.2.2.2.2.2.2.1⟩⟩
  refine call_go (av := (Value.ref G.1.2.2.1 :: As.map (rv G)).toArray) (va_runV (As := As.map (rv G)) (rest := rest.map (rv G)) (b := G.1.2.2.1) (C := (mY M').cls) ⟨C.1, C.2.1, C.2.2.1, C.2.2.2.1, hts⟩ hmet ⟨hcb, hts _ w2, by rw [w6]; exact hts _ w3⟩ hpre rfl (by rw [List.length_map]; exact hn) hL.1 ?_ (rest_room hrest) hd ⟨by omega, by omega⟩) kk C hl hL o2 (by omega) (by omega)
  show List.map (rv G) (As.reverse ++ vU 2 :: rest) = _
  rw [List.map_append, List.map_reverse, List.map_cons, ea]
abbrev sQ (x : Option sV) (S : sS) (d : sD) : Option sV → sS → sD → Prop := fun r S' d' => r = x ∧ S = S' ∧ d = d'
theorem j_latin : sB G mJ0_isLatin1_aae02 0 [vU 2] [] S d 0 0 (sQ (some (vI 1)) S d) := by
  refine B_compact dJ0_isLatin1_aae02_0 rfl ?_
  refine B_if_eq (tgt := 17) dJ0_isLatin1_aae02_3 (by decide) (fun c => absurd c (by decide)) (fun _ => ?_)
  refine B_aload_u dJ0_isLatin1_aae02_6 (by decide) rfl ?_
  refine B_coder dJ0_isLatin1_aae02_7 rfl ?_
  refine B_if_ne (tgt := 17) dJ0_isLatin1_aae02_10 (by decide) (fun c => absurd rfl c) (fun _ => ?_)
  refine B_iconst dJ0_isLatin1_aae02_13 (by decide) ?_
  refine B_goto (tgt := 18) dJ0_isLatin1_aae02_14 (by decide) ?_
  exact B_zreturn dJ0_isLatin1_aae02_18 rfl (Or.inr rfl) ⟨rfl, rfl, rfl⟩
theorem j_coder : sB G mJ0_coder_7d493 0 [vU 2] [] S d 0 0 (sQ (some (vI 0)) S d) := by
  refine B_compact dJ0_coder_7d493_0 rfl ?_
  refine B_if_eq (tgt := 13) dJ0_coder_7d493_3 (by decide) (fun c => absurd c (by decide)) (fun _ => ?_)
  refine B_aload_u dJ0_coder_7d493_6 (by decide) rfl ?_
  refine B_coder dJ0_coder_7d493_7 rfl ?_
  refine B_goto (tgt := 14) dJ0_coder_7d493_10 (by decide) ?_
  exact B_nreturn (ty := .byte) dJ0_coder_7d493_14 rfl rfl ⟨rfl, rfl, rfl⟩
theorem j_pre {i : Int} (hi : 0 ≤ i ∧ i < 128) : sB G mJ3_checkIndex_8e157 0 [vI i, vI 128, vU 4] [] S d 0 0 (sQ (some (vI i)) S d) := by
  refine B_iload_n dJ3_checkIndex_8e157_0 rfl ?_
  refine B_if_lt (tgt := 9) dJ3_checkIndex_8e157_1 (by decide) (fun c => absurd c (by omega)) (fun _ => ?_)
  refine B_iload_n dJ3_checkIndex_8e157_4 rfl ?_
  refine B_iload_n dJ3_checkIndex_8e157_5 rfl ?_
  refine B_icmp_lt (tgt := 16) dJ3_checkIndex_8e157_6 (by decide) (fun _ => ?_) (fun c => absurd hi.2 c)
  refine B_iload_n dJ3_checkIndex_8e157_16 rfl ?_
  exact B_ireturn dJ3_checkIndex_8e157_17 rfl ⟨rfl, rfl, rfl⟩
theorem j_check {i : Int} (hi : 0 ≤ i ∧ i < 128) : sB G mJ0_checkIndex_df160 0 [vI i, vI 128] [] S d 0 0 (sQ none S d) := by
  refine B_iload_n dJ0_checkIndex_df160_0 rfl ?_
  refine B_iload_n dJ0_checkIndex_df160_1 rfl ?_
  refine B_former dJ0_checkIndex_df160_2 rfl ?_
  refine B_callS (kc' := 0) (ks' := 0) (kc := 0) (ks := 0) (As := [vI i, vI 128, vU 4]) (rest := []) dJ0_checkIndex_df160_5 lJ0_1059 rfl rfl (by decide) (by decide) (Nat.le_of_ble_eq_true rfl) (j_pre hi) ?_
  rintro _ _ _ ⟨rfl, rfl, rfl⟩
  refine B_pop dJ0_checkIndex_df160_8 rfl ?_
  exact B_return dJ0_checkIndex_df160_9 rfl ⟨rfl, rfl, rfl⟩
theorem j_at {i : Int} (hi : 0 ≤ i ∧ i < 128) : sB G mJ1_charAt_3b067 0 [vU 3, vI i] [] S d 0 0 (sQ (some (vI (tx i.toNat))) S d) := by
  have hx := (tx_w16 i.toNat (by omega)).2
  refine B_iload_n dJ1_charAt_3b067_0 rfl ?_
  refine B_aload_u dJ1_charAt_3b067_1 (by decide) rfl ?_
  refine B_talen dJ1_charAt_3b067_2 ?_
  refine B_callS (kc' := 0) (ks' := 0) (kc := 0) (ks := 0) (As := [vI i, vI 128]) (rest := []) dJ1_charAt_3b067_3 lJ1_9 rfl rfl (by decide) (by decide) (Nat.le_of_ble_eq_true rfl) (j_check hi) ?_
  rintro _ _ _ ⟨rfl, rfl, rfl⟩
  refine B_aload_u dJ1_charAt_3b067_6 (by decide) rfl ?_
  refine B_iload_n dJ1_charAt_3b067_7 rfl ?_
  refine B_tald dJ1_charAt_3b067_8 hi.1 hi.2 ?_
  refine B_sipush dJ1_charAt_3b067_9 (by decide) ?_
  refine B_iand dJ1_charAt_3b067_12 ?_
  refine B_i2c dJ1_charAt_3b067_13 ?_
  exact B_nreturn (ty := .char) dJ1_charAt_3b067_14 rfl (w16_n _) ⟨by rw [hx], rfl, rfl⟩
theorem j_charAt {i : Int} (hi : 0 ≤ i ∧ i < 128) : sB G mJ0_charAt_5068e 0 [vU 2, vI i] [] S d 0 0 (sQ (some (vI (tx i.toNat))) S d) := by
  have hx := (tx_w16 i.toNat (by omega)).1
  refine B_aload_u dJ0_charAt_5068e_0 (by decide) rfl ?_
  refine B_callU (kc' := 0) (ks' := 0) (kc := 0) (ks := 0) (As := []) (rest := []) dJ0_charAt_5068e_1 lJ0_492 rfl rfl (by decide) (by decide) (Nat.le_of_ble_eq_true rfl) j_latin ?_
  rintro _ _ _ ⟨rfl, rfl, rfl⟩
  refine B_if_eq (tgt := 16) dJ0_charAt_5068e_4 (by decide) (fun c => absurd c (by decide)) (fun _ => ?_)
  refine B_aload_u dJ0_charAt_5068e_7 (by decide) rfl ?_
  refine B_value dJ0_charAt_5068e_8 rfl ?_
  refine B_iload_n dJ0_charAt_5068e_11 rfl ?_
  refine B_callS (kc' := 0) (ks' := 0) (kc := 0) (ks := 0) (As := [vU 3, vI i]) (rest := []) dJ0_charAt_5068e_12 lJ0_495 rfl rfl (by decide) (by decide) (Nat.le_of_ble_eq_true rfl) (j_at hi) ?_
  rintro _ _ _ ⟨rfl, rfl, rfl⟩
  exact B_nreturn (ty := .char) dJ0_charAt_5068e_15 rfl (by rw [← hx]; exact w16_n _) ⟨rfl, rfl, rfl⟩
theorem j_length : sB G mJ0_length_8abf5 0 [vU 2] [] S d 0 0 (sQ (some (vI 128)) S d) := by
  refine B_aload_u dJ0_length_8abf5_0 (by decide) rfl ?_
  refine B_value dJ0_length_8abf5_1 rfl ?_
  refine B_talen dJ0_length_8abf5_4 ?_
  refine B_aload_u dJ0_length_8abf5_5 (by decide) rfl ?_
  refine B_callU (kc' := 0) (ks' := 0) (kc := 0) (ks := 0) (As := []) (rest := [vI 128]) dJ0_length_8abf5_6 lJ0_335 rfl rfl (by decide) (by decide) (Nat.le_of_ble_eq_true rfl) j_coder ?_
  rintro _ _ _ ⟨rfl, rfl, rfl⟩
  refine B_ishr dJ0_length_8abf5_9 ?_
  exact B_ireturn dJ0_length_8abf5_10 rfl ⟨by rw [show i_shr 128 0 = 128 by decide +kernel], rfl, rfl⟩
theorem B_slength (hd : decode (mC M) pc = .ok (.invokevirtual 252, 3)) (hc : (mY M).cls = RX5) (hrm : 2 ≤ mF M ∧ 40 ≤ mO M) (hrest : st.length ≤ 4) (kk : sB G M (pc + 3) ls (vI 128 :: st) S d kc ks Q) : sB G M pc ls (vU 2 :: st) S d kc ks Q := by
  have h := B_callU (kc' := 0) (ks' := 0) (kc := kc) (ks := ks) (Q := Q) (As := []) (rest := st) (M := M) (M' := mJ0_length_8abf5) (ls := ls) hd (by rw [hc]; exact lX5_252) rfl rfl ⟨hrm.1, hrm.2⟩ hrest (Nat.le_of_ble_eq_true rfl) (j_length (G := G) (S := S) (d := d)) (by rintro _ _ _ ⟨rfl, rfl, rfl⟩; exact kk)
  rw [Nat.zero_add, Nat.zero_add] at h
  exact h
theorem B_scharAt {i : Int} (hd : decode (mC M) pc = .ok (.invokevirtual 258, 3)) (hc : (mY M).cls = RX5) (hrm : 5 ≤ mF M ∧ 106 ≤ mO M) (hrest : st.length ≤ 4) (hi : 0 ≤ i ∧ i < 128) (kk : sB G M (pc + 3) ls (vI (tx i.toNat) :: st) S d kc ks Q) : sB G M pc ls (vI i :: vU 2 :: st) S d kc ks Q := by
  have h := B_callU (kc' := 0) (ks' := 0) (kc := kc) (ks := ks) (Q := Q) (As := [vI i]) (rest := st) (M := M) (M' := mJ0_charAt_5068e) (ls := ls) hd (by rw [hc]; exact lX5_258) rfl rfl ⟨hrm.1, hrm.2⟩ hrest (Nat.le_of_ble_eq_true rfl) (j_charAt (G := G) (S := S) (d := d) hi) (by rintro _ _ _ ⟨rfl, rfl, rfl⟩; exact kk)
  rw [Nat.zero_add, Nat.zero_add] at h
  exact h
end STR
section STRT
variable {G : sG} {M : sM} {pc : Nat} {ls st : List sV} {d : sD} {Q : Option sV → sD → Prop}
theorem T_ldcS (hd : decode (mC M) pc = .ok (.ldc 250, 2)) (hc : (mY M).cls = "OneDrum$Reader") (k : tB G M (pc + 2) ls (vU 2 :: st) d Q) : tB G M pc ls st d Q := fun hR => B_ldcS hd hc (k hR)
theorem T_slength (hd : decode (mC M) pc = .ok (.invokevirtual 252, 3)) (hc : (mY M).cls = RX5) (hrm : 2 ≤ mF M ∧ 40 ≤ mO M) (hrest : st.length ≤ 4) (k : tB G M (pc + 3) ls (vI 128 :: st) d Q) : tB G M pc ls (vU 2 :: st) d Q := fun hR => B_slength hd hc hrm hrest (k hR)
theorem T_scharAt {i : Int} (hd : decode (mC M) pc = .ok (.invokevirtual 258, 3)) (hc : (mY M).cls = RX5) (hrm : 5 ≤ mF M ∧ 106 ≤ mO M) (hrest : st.length ≤ 4) (hi : 0 ≤ i ∧ i < 128) (k : tB G M (pc + 3) ls (vI (tx i.toNat) :: st) d Q) : tB G M pc ls (vI i :: vU 2 :: st) d Q := fun hR => B_scharAt hd hc hrm hrest hi (k hR)
end STRT
