/-! the class: the next token, a note, what is at hand -/
section C50
variable {G : sG} {d d' d0 e : sD} {T : Nat → Int} {n p q : Nat} {x : Int × Int} {dr : Nat → Int}
/-- only fields of the reader change -/
def Rf5 (fs : List Nat) (d d' : sD) : Prop := (∀ b j, b ≠ 53 → d' b j = d b j) ∧ ∀ j, j ∉ fs → d' 53 j = d 53 j
theorem Rf5.rf {fs : List Nat} : Rf5 fs d d := ⟨fun _ _ _ => rfl, fun _ _ => rfl⟩
theorem Rf5_up {fs : List Nat} {j : Nat} {v : Int} (h : Rf5 fs d e) (hj : j ∈ fs) : Rf5 fs d (up e 53 j v) := ⟨fun b i hb => by rw [up_nea hb]; exact h.1 b i hb, fun i hi => by rw [up_nej (fun z => hi (by rw [z]; exact hj))]; exact h.2 i hi⟩
theorem Rf5.trans {f1 f2 fs : List Nat} {d1 d2 : sD} (h1 : Rf5 f1 d d1) (h2 : Rf5 f2 d1 d2) (hf1 : ∀ y ∈ f1, y ∈ fs) (hf2 : ∀ y ∈ f2, y ∈ fs) : Rf5 fs d d2 := ⟨fun b j hb => (h2.1 b j hb).trans (h1.1 b j hb), fun j hj => (h2.2 j (fun z => hj (hf2 j z))).trans (h1.2 j (fun z => hj (hf1 j z)))⟩
theorem c_next (h : CTk d T n p) : tB G mX5_next 0 [vR 53] [] d (fun r d' => r = none ∧ CTk d' T n (avT T n p) ∧ Rf5 [10, 11, 12, 13] d d') := by
  obtain ⟨hT, p0, N, j, hS, hj, hp, h10, h12, hck⟩ := h
  have hN := hS.1
  have h9 := hS.2.1
  have hpn : p ≤ n := by rw [hp]; exact (tkI_le hT j p0 hN.2.2).2
  have hstay : ¬ j + 1 < N → CTk d T n (avT T n p) := fun hn => by
    have hje : j = N - 1 := by omega
    have hk : kdT T n p = 0 := by rw [hp, hje]; exact hS.2.2.2
    rw [av_end hT hpn hk]
    exact ⟨hT, p0, N, j, hS, hj, hp, h10, h12, hck⟩
  have hgo : j + 1 < N → CTk (up (up (up (up d 53 11 (d 75 (j + 1))) 53 12 (d 76 (j + 1))) 53 13 (d 77 (j + 1))) 53 10 (((j + 1 : Nat) : Int) + 1)) T n (avT T n p) := fun hn => by
    obtain ⟨q1, q2⟩ := hS.2.2.1 (j + 1) hn
    have ep : avT T n p = tkI T n (j + 1) p0 := by rw [hp, tkI_s]
    refine ⟨hT, p0, N, j + 1, ⟨hN, by rw [up_nej (by decide), up_nej (by decide), up_nej (by decide), up_nej (by decide)]; exact h9, fun i hi => ?_, hS.2.2.2⟩, hn, ep, by rw [up_same]; omega, ?_, ?_⟩
    · rw [up_nea (by decide), up_nea (by decide), up_nea (by decide), up_nea (by decide), up_nea (by decide), up_nea (by decide), up_nea (by decide), up_nea (by decide), up_nea (by decide), up_nea (by decide), up_nea (by decide), up_nea (by decide)]; exact hS.2.2.1 i hi
    · rw [up_nej (by decide), up_nej (by decide), up_same, q1, ep]
    · rw [up_nej (by decide), up_nej (by decide), up_nej (by decide), up_same, up_nej (by decide), up_same, ep]; exact q2
  refine T_aload_n dX5_next_0 rfl ?_
  refine T_getIv dX5_next_1 fX5_59 rfl k53 (x := ((j + 1 : Nat) : Int)) h10 ?_
  refine T_aload_n dX5_next_4 rfl ?_
  refine T_getIv dX5_next_5 fX5_56 rfl k53 (x := (N : Int)) h9 ?_
  refine T_icmp_ge (tgt := 60) dX5_next_8 (by decide) (fun c8 => ?_) (fun c8 => ?_)
  · exact T_return dX5_next_60 rfl ⟨rfl, hstay (by omega), Rf5.rf⟩
  · refine T_aload_n dX5_next_11 rfl ?_
    refine T_aload_n dX5_next_12 rfl ?_
    refine T_getR dX5_next_13 fX5_46 rfl k53 r53_6 ?_
    refine T_aload_n dX5_next_16 rfl ?_
    refine T_getIv dX5_next_17 fX5_59 rfl k53 (x := ((j + 1 : Nat) : Int)) h10 ?_
    refine T_ialdv dX5_next_20 k75 l75 (by omega) (j := j + 1) (by omega) (x := d 75 (j + 1)) rfl ?_
    refine T_putI dX5_next_21 fX5_62 rfl k53 ?_
    refine T_aload_n dX5_next_24 rfl ?_
    refine T_aload_n dX5_next_25 rfl ?_
    refine T_getR dX5_next_26 fX5_50 rfl k53 r53_7 ?_
    refine T_aload_n dX5_next_29 rfl ?_
    refine T_getIv dX5_next_30 fX5_59 rfl k53 (x := ((j + 1 : Nat) : Int)) (by rw [up_nej (by decide)]; exact h10) ?_
    refine T_ialdv dX5_next_33 k76 l76 (by omega) (j := j + 1) (by omega) (x := d 76 (j + 1)) (up_nea (by decide)) ?_
    refine T_putI dX5_next_34 fX5_65 rfl k53 ?_
    refine T_aload_n dX5_next_37 rfl ?_
    refine T_aload_n dX5_next_38 rfl ?_
    refine T_getR dX5_next_39 fX5_53 rfl k53 r53_8 ?_
    refine T_aload_n dX5_next_42 rfl ?_
    refine T_getIv dX5_next_43 fX5_59 rfl k53 (x := ((j + 1 : Nat) : Int)) (by rw [up_nej (by decide), up_nej (by decide)]; exact h10) ?_
    refine T_ialdv dX5_next_46 k77 l77 (by omega) (j := j + 1) (by omega) (x := d 77 (j + 1)) (by rw [up_nea (by decide), up_nea (by decide)]) ?_
    refine T_putI dX5_next_47 fX5_68 rfl k53 ?_
    refine T_aload_n dX5_next_50 rfl ?_
    refine T_dup dX5_next_51 rfl ?_
    refine T_getIv dX5_next_52 fX5_59 rfl k53 (x := ((j + 1 : Nat) : Int)) (by rw [up_nej (by decide), up_nej (by decide), up_nej (by decide)]; exact h10) ?_
    refine T_iconst dX5_next_55 (by decide) ?_
    refine T_add dX5_next_56 (by omega) ?_
    refine T_putI dX5_next_57 fX5_59 rfl k53 ?_
    exact T_return dX5_next_60 rfl ⟨rfl, hgo (by omega), Rf5_up (Rf5_up (Rf5_up (Rf5_up Rf5.rf (by decide)) (by decide)) (by decide)) (by decide)⟩

theorem c_note {k a : Int} (h4 : d 53 4 = x.1) (h5 : d 53 5 = x.2) (hx : NL x a) : tB G mX5_note 0 [vR 53, vI k, vI a, vU 0] [] d (fun r d' => r = none ∧ d' 53 4 = (ntA x k a).1 ∧ d' 53 5 = (ntA x k a).2 ∧ Rf5 [4, 5] d d') := by
  have hy : x.1 = 0 → ntA x k a = (k, a) := fun z => if_pos z
  have hn : ¬ x.1 = 0 → ntA x k a = x := fun z => if_neg z
  have h36y : x.1 = 0 → tB G mX5_note 36 [vR 53, vI k, vI a, vU 0] [vI 1] d (fun r d' => r = none ∧ d' 53 4 = (ntA x k a).1 ∧ d' 53 5 = (ntA x k a).2 ∧ Rf5 [4, 5] d d') := by
    intro hz
    refine T_ist_n dX5_note_36 (by decide) rfl ?_
    refine T_iload_n dX5_note_37 rfl ?_
    refine T_if_eq (tgt := 51) dX5_note_38 (by decide) (fun c38 => absurd c38 (by decide)) (fun c38 => ?_)
    refine T_aload_n dX5_note_41 rfl ?_
    refine T_iload_n dX5_note_42 rfl ?_
    refine T_putI dX5_note_43 fX5_39 rfl k53 ?_
    refine T_aload_n dX5_note_46 rfl ?_
    refine T_iload_n dX5_note_47 rfl ?_
    refine T_putI dX5_note_48 fX5_43 rfl k53 ?_
    exact T_return dX5_note_51 rfl ⟨rfl, by rw [hy hz, up_nej (by decide), up_same], by rw [hy hz, up_same], Rf5_up (Rf5_up Rf5.rf (by decide)) (by decide)⟩
  have h36n : ¬ x.1 = 0 → tB G mX5_note 36 [vR 53, vI k, vI a, vU 0] [vI 0] d (fun r d' => r = none ∧ d' 53 4 = (ntA x k a).1 ∧ d' 53 5 = (ntA x k a).2 ∧ Rf5 [4, 5] d d') := by
    intro hz
    refine T_ist_n dX5_note_36 (by decide) rfl ?_
    refine T_iload_n dX5_note_37 rfl ?_
    refine T_if_eq (tgt := 51) dX5_note_38 (by decide) (fun c38 => ?_) (fun c38 => absurd rfl c38)
    exact T_return dX5_note_51 rfl ⟨rfl, by rw [hn hz]; exact h4, by rw [hn hz]; exact h5, Rf5.rf⟩
  refine T_aload_n dX5_note_0 rfl ?_
  refine T_getIv dX5_note_1 fX5_39 rfl k53 (x := x.1) h4 ?_
  refine T_if_eq (tgt := 31) dX5_note_4 (by decide) (fun c4 => ?_) (fun c4 => ?_)
  · refine T_iconst dX5_note_31 (by decide) ?_
    refine T_goto (tgt := 36) dX5_note_32 (by decide) ?_
    exact h36y c4
  · refine T_iload_n dX5_note_7 rfl ?_
    refine T_aload_n dX5_note_8 rfl ?_
    refine T_getIv dX5_note_9 fX5_43 rfl k53 (x := x.2) h5 ?_
    refine T_icmp_lt (tgt := 31) dX5_note_12 (by decide) (fun c12 => ?_) (fun c12 => ?_)
    · refine T_iconst dX5_note_31 (by decide) ?_
      refine T_goto (tgt := 36) dX5_note_32 (by decide) ?_
      have := hx.resolve_left c4
      omega
    · refine T_iload_n dX5_note_15 rfl ?_
      refine T_aload_n dX5_note_16 rfl ?_
      refine T_getIv dX5_note_17 fX5_43 rfl k53 (x := x.2) h5 ?_
      refine T_icmp_ne (tgt := 35) dX5_note_20 (by decide) (fun c20 => ?_) (fun c20 => ?_)
      · refine T_iconst dX5_note_35 (by decide) ?_
        exact h36n c4
      · refine T_iload_n dX5_note_23 rfl ?_
        refine T_aload_n dX5_note_24 rfl ?_
        refine T_getIv dX5_note_25 fX5_39 rfl k53 (x := x.1) h4 ?_
        refine T_icmp_ge (tgt := 35) dX5_note_28 (by decide) (fun c28 => ?_) (fun c28 => ?_)
        · refine T_iconst dX5_note_35 (by decide) ?_
          have := hx.resolve_left c4
          omega
        · refine T_iconst dX5_note_31 (by decide) ?_
          refine T_goto (tgt := 36) dX5_note_32 (by decide) ?_
          have := hx.resolve_left c4
          omega

theorem CK_B {k v : Int} (h : CK T n p k v) : (k = 1 ∧ 0 ≤ v ∧ v < 4) ↔ isW T n p 10 13 := by
  unfold CK cwT at h
  rcases h with ⟨h1, h2⟩ | ⟨h1, h2, h3⟩ | ⟨h1, h2⟩ | ⟨h1, h2, h3, h4⟩ | ⟨h1, h2⟩
  · exact ⟨fun z => by omega, fun z => by omega⟩
  · exact ⟨fun z => by omega, fun z => by omega⟩
  · exact ⟨fun z => by omega, fun z => by omega⟩
  · split at h3
    · exact ⟨fun z => by omega, fun z => by omega⟩
    · split at h3
      · exact ⟨fun z => ⟨h1, by omega, by omega⟩, fun z => by omega⟩
      · exact ⟨fun z => by omega, fun z => by omega⟩
  · exact ⟨fun z => by omega, fun z => by omega⟩
theorem CK_M {k v : Int} (h : CK T n p k v) : (k = 1 ∧ 4 ≤ v ∧ v < 9) ↔ isW T n p 14 18 := by
  unfold CK cwT at h
  rcases h with ⟨h1, h2⟩ | ⟨h1, h2, h3⟩ | ⟨h1, h2⟩ | ⟨h1, h2, h3, h4⟩ | ⟨h1, h2⟩
  · exact ⟨fun z => by omega, fun z => by omega⟩
  · exact ⟨fun z => by omega, fun z => by omega⟩
  · exact ⟨fun z => by omega, fun z => by omega⟩
  · split at h3
    · exact ⟨fun z => by omega, fun z => by omega⟩
    · split at h3
      · exact ⟨fun z => ⟨h1, by omega, by omega⟩, fun z => by omega⟩
      · exact ⟨fun z => by omega, fun z => by omega⟩
  · exact ⟨fun z => by omega, fun z => by omega⟩
theorem CK_bv {k v : Int} (h : CK T n p k v) (hw : isW T n p 10 18) : k = 1 ∧ v = woT T n p - 10 := by
  unfold CK cwT at h
  rcases h with ⟨h1, h2⟩ | ⟨h1, h2, h3⟩ | ⟨h1, h2⟩ | ⟨h1, h2, h3, h4⟩ | ⟨h1, h2⟩
  · omega
  · omega
  · omega
  · rw [if_neg (by omega), if_pos (by omega)] at h3; exact ⟨h2, h3⟩
  · omega
theorem CK_n {k v : Int} (h : CK T n p k v) : (k = 2 ↔ kdT T n p = 1) ∧ (k = 2 → v = nmT T n p) ∧ (k = 3 ↔ kdT T n p = 2) ∧ (k = 0 ↔ kdT T n p = 0) := by
  unfold CK at h
  rcases h with ⟨h1, h2⟩ | ⟨h1, h2, h3⟩ | ⟨h1, h2⟩ | ⟨h1, h2, h3, h4⟩ | ⟨h1, h2⟩
  · exact ⟨by omega, by omega, by omega, by omega⟩
  · exact ⟨by omega, fun _ => h3, by omega, by omega⟩
  · exact ⟨by omega, by omega, by omega, by omega⟩
  · exact ⟨by omega, by omega, by omega, by omega⟩
  · exact ⟨by omega, by omega, by omega, by omega⟩
theorem c_isBeatHere (h : CTk d T n p) : tB G mX5_isBeatHere 0 [vR 53] [] d (fun r d' => r = some (vI (bI (isW T n p 10 13))) ∧ d = d') := by
  have hk : CK T n p (d 53 11) (d 53 13) := by obtain ⟨_, _, _, _, _, _, _, _, _, z⟩ := h; exact z
  have hB := CK_B hk
  refine T_aload_n dX5_isBeatHere_0 rfl ?_
  refine T_getIv dX5_isBeatHere_1 fX5_62 rfl k53 (x := d 53 11) rfl ?_
  refine T_iconst dX5_isBeatHere_4 (by decide) ?_
  refine T_icmp_ne (tgt := 27) dX5_isBeatHere_5 (by decide) (fun c5 => ?_) (fun c5 => ?_)
  · refine T_iconst dX5_isBeatHere_27 (by decide) ?_
    exact T_zreturn dX5_isBeatHere_28 rfl (by omega) ⟨by first | rw [bI_f (fun z => by have := hB.mpr z; omega)] | rw [bI_t (hB.mp (by omega))], rfl⟩
  · refine T_aload_n dX5_isBeatHere_8 rfl ?_
    refine T_getIv dX5_isBeatHere_9 fX5_68 rfl k53 (x := d 53 13) rfl ?_
    refine T_if_lt (tgt := 27) dX5_isBeatHere_12 (by decide) (fun c12 => ?_) (fun c12 => ?_)
    · refine T_iconst dX5_isBeatHere_27 (by decide) ?_
      exact T_zreturn dX5_isBeatHere_28 rfl (by omega) ⟨by first | rw [bI_f (fun z => by have := hB.mpr z; omega)] | rw [bI_t (hB.mp (by omega))], rfl⟩
    · refine T_aload_n dX5_isBeatHere_15 rfl ?_
      refine T_getIv dX5_isBeatHere_16 fX5_68 rfl k53 (x := d 53 13) rfl ?_
      refine T_iconst dX5_isBeatHere_19 (by decide) ?_
      refine T_icmp_ge (tgt := 27) dX5_isBeatHere_20 (by decide) (fun c20 => ?_) (fun c20 => ?_)
      · refine T_iconst dX5_isBeatHere_27 (by decide) ?_
        exact T_zreturn dX5_isBeatHere_28 rfl (by omega) ⟨by first | rw [bI_f (fun z => by have := hB.mpr z; omega)] | rw [bI_t (hB.mp (by omega))], rfl⟩
      · refine T_iconst dX5_isBeatHere_23 (by decide) ?_
        refine T_goto (tgt := 28) dX5_isBeatHere_24 (by decide) ?_
        exact T_zreturn dX5_isBeatHere_28 rfl (by omega) ⟨by first | rw [bI_f (fun z => by have := hB.mpr z; omega)] | rw [bI_t (hB.mp (by omega))], rfl⟩

theorem c_isMoveHere (h : CTk d T n p) : tB G mX5_isMoveHere 0 [vR 53] [] d (fun r d' => r = some (vI (bI (isW T n p 14 18))) ∧ d = d') := by
  have hk : CK T n p (d 53 11) (d 53 13) := by obtain ⟨_, _, _, _, _, _, _, _, _, z⟩ := h; exact z
  have hB := CK_M hk
  refine T_aload_n dX5_isMoveHere_0 rfl ?_
  refine T_getIv dX5_isMoveHere_1 fX5_62 rfl k53 (x := d 53 11) rfl ?_
  refine T_iconst dX5_isMoveHere_4 (by decide) ?_
  refine T_icmp_ne (tgt := 29) dX5_isMoveHere_5 (by decide) (fun c5 => ?_) (fun c5 => ?_)
  · refine T_iconst dX5_isMoveHere_29 (by decide) ?_
    exact T_zreturn dX5_isMoveHere_30 rfl (by omega) ⟨by first | rw [bI_f (fun z => by have := hB.mpr z; omega)] | rw [bI_t (hB.mp (by omega))], rfl⟩
  · refine T_aload_n dX5_isMoveHere_8 rfl ?_
    refine T_getIv dX5_isMoveHere_9 fX5_68 rfl k53 (x := d 53 13) rfl ?_
    refine T_iconst dX5_isMoveHere_12 (by decide) ?_
    refine T_icmp_lt (tgt := 29) dX5_isMoveHere_13 (by decide) (fun c13 => ?_) (fun c13 => ?_)
    · refine T_iconst dX5_isMoveHere_29 (by decide) ?_
      exact T_zreturn dX5_isMoveHere_30 rfl (by omega) ⟨by first | rw [bI_f (fun z => by have := hB.mpr z; omega)] | rw [bI_t (hB.mp (by omega))], rfl⟩
    · refine T_aload_n dX5_isMoveHere_16 rfl ?_
      refine T_getIv dX5_isMoveHere_17 fX5_68 rfl k53 (x := d 53 13) rfl ?_
      refine T_bipush dX5_isMoveHere_20 (by decide) ?_
      refine T_icmp_ge (tgt := 29) dX5_isMoveHere_22 (by decide) (fun c22 => ?_) (fun c22 => ?_)
      · refine T_iconst dX5_isMoveHere_29 (by decide) ?_
        exact T_zreturn dX5_isMoveHere_30 rfl (by omega) ⟨by first | rw [bI_f (fun z => by have := hB.mpr z; omega)] | rw [bI_t (hB.mp (by omega))], rfl⟩
      · refine T_iconst dX5_isMoveHere_25 (by decide) ?_
        refine T_goto (tgt := 30) dX5_isMoveHere_26 (by decide) ?_
        exact T_zreturn dX5_isMoveHere_30 rfl (by omega) ⟨by first | rw [bI_f (fun z => by have := hB.mpr z; omega)] | rw [bI_t (hB.mp (by omega))], rfl⟩

end C50
