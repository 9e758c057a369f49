/-! constructors: their instructions -/
section CON3
theorem rwX0_init_0 : rOK 0 0 0 0 0 (0) := fun G ls st S d kc ks Q x h k => B_aload_n dX0_init_0 h k
theorem rwX0_init_1 : rOK 0 1 17 0 0 (0) := fun G ls st S d kc ks Q r hk hl k => B_obj dX0_init_1 lX0_3 (by decide) hk hl k
theorem rwX0_init_4 : rOK 0 4 0 0 0 (0) := fun G ls st S d kc ks Q x h k => B_aload_n dX0_init_4 h k
theorem rwX0_init_5 : rOK 0 5 2 0 2 (25) := fun G ls st S d kc ks Q k => B_bipush dX0_init_5 (by decide) k
theorem rwX0_init_7 : rOK 0 7 5 16 2 (0) := fun G ls st S d kc ks Q x h1 h2 k => B_newa dX0_init_7 (Or.inr (Or.inr (Or.inr ⟨rfl, rfl⟩))) arc_long h1 h2 k
theorem rwX0_init_9 : rOK 0 9 8 0 0 (0) := fun G ls st S d kc ks Q x r hk k => B_putF dX0_init_9 fX0_9 rfl (fun q h => by cases h; rfl) rfl hk k
theorem rwX0_init_12 : rOK 0 12 0 0 0 (0) := fun G ls st S d kc ks Q x h k => B_aload_n dX0_init_12 h k
theorem rwX0_init_13 : rOK 0 13 2 0 2 (25) := fun G ls st S d kc ks Q k => B_bipush dX0_init_13 (by decide) k
theorem rwX0_init_15 : rOK 0 15 5 13 2 (0) := fun G ls st S d kc ks Q x h1 h2 k => B_newa dX0_init_15 (Or.inl ⟨rfl, rfl⟩) arc_int h1 h2 k
theorem rwX0_init_17 : rOK 0 17 8 0 1 (0) := fun G ls st S d kc ks Q x r hk k => B_putF dX0_init_17 fX0_15 rfl (fun q h => by cases h; rfl) rfl hk k
theorem rwX0_init_20 : rOK 0 20 0 0 0 (0) := fun G ls st S d kc ks Q x h k => B_aload_n dX0_init_20 h k
theorem rwX0_init_21 : rOK 0 21 2 0 1 (2) := fun G ls st S d kc ks Q k => B_iconst dX0_init_21 (by decide) k
theorem rwX0_init_22 : rOK 0 22 2 0 2 (60) := fun G ls st S d kc ks Q k => B_bipush dX0_init_22 (by decide) k
theorem rwX0_init_24 : rOK 0 24 7 0 0 (0) := fun G ls st S d kc ks Q x y hx hy k => B_multi dX0_init_24 (tb (i := 515) (by decide +kernel) (by decide +kernel)) hx hy k
theorem rwX0_init_28 : rOK 0 28 8 0 2 (0) := fun G ls st S d kc ks Q x r hk k => B_putF dX0_init_28 fX0_21 rfl (fun q h => by cases h; rfl) rfl hk k
theorem rwX0_init_31 : rOK 0 31 0 0 0 (0) := fun G ls st S d kc ks Q x h k => B_aload_n dX0_init_31 h k
theorem rwX0_init_32 : rOK 0 32 2 0 1 (2) := fun G ls st S d kc ks Q k => B_iconst dX0_init_32 (by decide) k
theorem rwX0_init_33 : rOK 0 33 5 13 2 (0) := fun G ls st S d kc ks Q x h1 h2 k => B_newa dX0_init_33 (Or.inl ⟨rfl, rfl⟩) arc_int h1 h2 k
theorem rwX0_init_35 : rOK 0 35 8 0 3 (0) := fun G ls st S d kc ks Q x r hk k => B_putF dX0_init_35 fX0_24 rfl (fun q h => by cases h; rfl) rfl hk k
theorem rwX0_init_38 : rOK 0 38 0 0 0 (0) := fun G ls st S d kc ks Q x h k => B_aload_n dX0_init_38 h k
theorem rwX0_init_39 : rOK 0 39 2 0 2 (61) := fun G ls st S d kc ks Q k => B_bipush dX0_init_39 (by decide) k
theorem rwX0_init_41 : rOK 0 41 5 13 2 (0) := fun G ls st S d kc ks Q x h1 h2 k => B_newa dX0_init_41 (Or.inl ⟨rfl, rfl⟩) arc_int h1 h2 k
theorem rwX0_init_43 : rOK 0 43 8 0 4 (0) := fun G ls st S d kc ks Q x r hk k => B_putF dX0_init_43 fX0_27 rfl (fun q h => by cases h; rfl) rfl hk k
theorem rwX0_init_46 : rOK 0 46 0 0 0 (0) := fun G ls st S d kc ks Q x h k => B_aload_n dX0_init_46 h k
theorem rwX0_init_47 : rOK 0 47 2 0 2 (24) := fun G ls st S d kc ks Q k => B_bipush dX0_init_47 (by decide) k
theorem rwX0_init_49 : rOK 0 49 5 13 2 (0) := fun G ls st S d kc ks Q x h1 h2 k => B_newa dX0_init_49 (Or.inl ⟨rfl, rfl⟩) arc_int h1 h2 k
theorem rwX0_init_51 : rOK 0 51 8 0 5 (0) := fun G ls st S d kc ks Q x r hk k => B_putF dX0_init_51 fX0_30 rfl (fun q h => by cases h; rfl) rfl hk k
theorem rwX0_init_54 : rOK 0 54 0 0 0 (0) := fun G ls st S d kc ks Q x h k => B_aload_n dX0_init_54 h k
theorem rwX0_init_55 : rOK 0 55 2 0 2 (1000000) := fun G ls st S d kc ks Q k => B_ldc dX0_init_55 (by decide) kX0_33 k
theorem rwX0_init_57 : rOK 0 57 9 0 6 (0) := fun G ls st S d kc ks Q x r hk k => B_putI dX0_init_57 fX0_34 rfl hk k
theorem rwX0_init_60 : rOK 0 60 20 0 0 (0) := fun G ls st S d kc ks Q h hq => by subst h; exact B_return dX0_init_60 rfl hq
def tK0 : List Row := [(0, 0, 0, 0, 0), (1, 17, 0, 0, 0), (4, 0, 0, 0, 0), (5, 2, 0, 2, 25), (7, 5, 16, 2, 0), (9, 8, 0, 0, 0), (12, 0, 0, 0, 0), (13, 2, 0, 2, 25), (15, 5, 13, 2, 0), (17, 8, 0, 1, 0), (20, 0, 0, 0, 0), (21, 2, 0, 1, 2), (22, 2, 0, 2, 60), (24, 7, 0, 0, 0), (28, 8, 0, 2, 0), (31, 0, 0, 0, 0), (32, 2, 0, 1, 2), (33, 5, 13, 2, 0), (35, 8, 0, 3, 0), (38, 0, 0, 0, 0), (39, 2, 0, 2, 61), (41, 5, 13, 2, 0), (43, 8, 0, 4, 0), (46, 0, 0, 0, 0), (47, 2, 0, 2, 24), (49, 5, 13, 2, 0), (51, 8, 0, 5, 0), (54, 0, 0, 0, 0), (55, 2, 0, 2, 1000000), (57, 9, 0, 6, 0), (60, 20, 0, 0, 0)]
theorem rK0 : ∀ r ∈ tK0, rOK 0 r.1 r.2.1 r.2.2.1 r.2.2.2.1 r.2.2.2.2 := by
  unfold tK0
  refine List.forall_mem_cons.2 ⟨rwX0_init_0, ?_⟩
  refine List.forall_mem_cons.2 ⟨rwX0_init_1, ?_⟩
  refine List.forall_mem_cons.2 ⟨rwX0_init_4, ?_⟩
  refine List.forall_mem_cons.2 ⟨rwX0_init_5, ?_⟩
  refine List.forall_mem_cons.2 ⟨rwX0_init_7, ?_⟩
  refine List.forall_mem_cons.2 ⟨rwX0_init_9, ?_⟩
  refine List.forall_mem_cons.2 ⟨rwX0_init_12, ?_⟩
  refine List.forall_mem_cons.2 ⟨rwX0_init_13, ?_⟩
  refine List.forall_mem_cons.2 ⟨rwX0_init_15, ?_⟩
  refine List.forall_mem_cons.2 ⟨rwX0_init_17, ?_⟩
  refine List.forall_mem_cons.2 ⟨rwX0_init_20, ?_⟩
  refine List.forall_mem_cons.2 ⟨rwX0_init_21, ?_⟩
  refine List.forall_mem_cons.2 ⟨rwX0_init_22, ?_⟩
  refine List.forall_mem_cons.2 ⟨rwX0_init_24, ?_⟩
  refine List.forall_mem_cons.2 ⟨rwX0_init_28, ?_⟩
  refine List.forall_mem_cons.2 ⟨rwX0_init_31, ?_⟩
  refine List.forall_mem_cons.2 ⟨rwX0_init_32, ?_⟩
  refine List.forall_mem_cons.2 ⟨rwX0_init_33, ?_⟩
  refine List.forall_mem_cons.2 ⟨rwX0_init_35, ?_⟩
  refine List.forall_mem_cons.2 ⟨rwX0_init_38, ?_⟩
  refine List.forall_mem_cons.2 ⟨rwX0_init_39, ?_⟩
  refine List.forall_mem_cons.2 ⟨rwX0_init_41, ?_⟩
  refine List.forall_mem_cons.2 ⟨rwX0_init_43, ?_⟩
  refine List.forall_mem_cons.2 ⟨rwX0_init_46, ?_⟩
  refine List.forall_mem_cons.2 ⟨rwX0_init_47, ?_⟩
  refine List.forall_mem_cons.2 ⟨rwX0_init_49, ?_⟩
  refine List.forall_mem_cons.2 ⟨rwX0_init_51, ?_⟩
  refine List.forall_mem_cons.2 ⟨rwX0_init_54, ?_⟩
  refine List.forall_mem_cons.2 ⟨rwX0_init_55, ?_⟩
  refine List.forall_mem_cons.2 ⟨rwX0_init_57, ?_⟩
  refine List.forall_mem_cons.2 ⟨rwX0_init_60, ?_⟩
  exact fun r h => absurd h (List.not_mem_nil)
theorem rwX1_init_0 : rOK 1 0 0 0 0 (0) := fun G ls st S d kc ks Q x h k => B_aload_n dX1_init_0 h k
theorem rwX1_init_1 : rOK 1 1 17 0 0 (0) := fun G ls st S d kc ks Q r hk hl k => B_obj dX1_init_1 lX1_3 (by decide) hk hl k
theorem rwX1_init_4 : rOK 1 4 0 0 0 (0) := fun G ls st S d kc ks Q x h k => B_aload_n dX1_init_4 h k
theorem rwX1_init_5 : rOK 1 5 2 0 2 (24) := fun G ls st S d kc ks Q k => B_bipush dX1_init_5 (by decide) k
theorem rwX1_init_7 : rOK 1 7 5 13 2 (0) := fun G ls st S d kc ks Q x h1 h2 k => B_newa dX1_init_7 (Or.inl ⟨rfl, rfl⟩) arc_int h1 h2 k
theorem rwX1_init_9 : rOK 1 9 8 1 0 (0) := fun G ls st S d kc ks Q x r hk k => B_putF dX1_init_9 fX1_9 rfl (fun q h => by cases h; rfl) rfl hk k
theorem rwX1_init_12 : rOK 1 12 0 0 0 (0) := fun G ls st S d kc ks Q x h k => B_aload_n dX1_init_12 h k
theorem rwX1_init_13 : rOK 1 13 2 0 2 (24) := fun G ls st S d kc ks Q k => B_bipush dX1_init_13 (by decide) k
theorem rwX1_init_15 : rOK 1 15 5 13 2 (0) := fun G ls st S d kc ks Q x h1 h2 k => B_newa dX1_init_15 (Or.inl ⟨rfl, rfl⟩) arc_int h1 h2 k
theorem rwX1_init_17 : rOK 1 17 8 1 1 (0) := fun G ls st S d kc ks Q x r hk k => B_putF dX1_init_17 fX1_15 rfl (fun q h => by cases h; rfl) rfl hk k
theorem rwX1_init_20 : rOK 1 20 0 0 0 (0) := fun G ls st S d kc ks Q x h k => B_aload_n dX1_init_20 h k
theorem rwX1_init_21 : rOK 1 21 2 0 2 (24) := fun G ls st S d kc ks Q k => B_bipush dX1_init_21 (by decide) k
theorem rwX1_init_23 : rOK 1 23 5 13 2 (0) := fun G ls st S d kc ks Q x h1 h2 k => B_newa dX1_init_23 (Or.inl ⟨rfl, rfl⟩) arc_int h1 h2 k
theorem rwX1_init_25 : rOK 1 25 8 1 2 (0) := fun G ls st S d kc ks Q x r hk k => B_putF dX1_init_25 fX1_18 rfl (fun q h => by cases h; rfl) rfl hk k
theorem rwX1_init_28 : rOK 1 28 0 0 0 (0) := fun G ls st S d kc ks Q x h k => B_aload_n dX1_init_28 h k
theorem rwX1_init_29 : rOK 1 29 2 0 2 (24) := fun G ls st S d kc ks Q k => B_bipush dX1_init_29 (by decide) k
theorem rwX1_init_31 : rOK 1 31 5 13 2 (0) := fun G ls st S d kc ks Q x h1 h2 k => B_newa dX1_init_31 (Or.inl ⟨rfl, rfl⟩) arc_int h1 h2 k
theorem rwX1_init_33 : rOK 1 33 8 1 3 (0) := fun G ls st S d kc ks Q x r hk k => B_putF dX1_init_33 fX1_21 rfl (fun q h => by cases h; rfl) rfl hk k
theorem rwX1_init_36 : rOK 1 36 0 0 0 (0) := fun G ls st S d kc ks Q x h k => B_aload_n dX1_init_36 h k
theorem rwX1_init_37 : rOK 1 37 2 0 2 (24) := fun G ls st S d kc ks Q k => B_bipush dX1_init_37 (by decide) k
theorem rwX1_init_39 : rOK 1 39 5 15 2 (0) := fun G ls st S d kc ks Q x h1 h2 k => B_newa dX1_init_39 (Or.inr (Or.inr (Or.inl ⟨rfl, rfl⟩))) arc_boolean h1 h2 k
theorem rwX1_init_41 : rOK 1 41 8 1 4 (0) := fun G ls st S d kc ks Q x r hk k => B_putF dX1_init_41 fX1_24 rfl (fun q h => by cases h; rfl) rfl hk k
theorem rwX1_init_44 : rOK 1 44 0 0 0 (0) := fun G ls st S d kc ks Q x h k => B_aload_n dX1_init_44 h k
theorem rwX1_init_45 : rOK 1 45 2 0 1 (0) := fun G ls st S d kc ks Q k => B_iconst dX1_init_45 (by decide) k
theorem rwX1_init_46 : rOK 1 46 9 1 5 (0) := fun G ls st S d kc ks Q x r hk k => B_putI dX1_init_46 fX1_28 rfl hk k
theorem rwX1_init_49 : rOK 1 49 20 0 0 (0) := fun G ls st S d kc ks Q h hq => by subst h; exact B_return dX1_init_49 rfl hq
def tK1 : List Row := [(0, 0, 0, 0, 0), (1, 17, 0, 0, 0), (4, 0, 0, 0, 0), (5, 2, 0, 2, 24), (7, 5, 13, 2, 0), (9, 8, 1, 0, 0), (12, 0, 0, 0, 0), (13, 2, 0, 2, 24), (15, 5, 13, 2, 0), (17, 8, 1, 1, 0), (20, 0, 0, 0, 0), (21, 2, 0, 2, 24), (23, 5, 13, 2, 0), (25, 8, 1, 2, 0), (28, 0, 0, 0, 0), (29, 2, 0, 2, 24), (31, 5, 13, 2, 0), (33, 8, 1, 3, 0), (36, 0, 0, 0, 0), (37, 2, 0, 2, 24), (39, 5, 15, 2, 0), (41, 8, 1, 4, 0), (44, 0, 0, 0, 0), (45, 2, 0, 1, 0), (46, 9, 1, 5, 0), (49, 20, 0, 0, 0)]
theorem rK1 : ∀ r ∈ tK1, rOK 1 r.1 r.2.1 r.2.2.1 r.2.2.2.1 r.2.2.2.2 := by
  unfold tK1
  refine List.forall_mem_cons.2 ⟨rwX1_init_0, ?_⟩
  refine List.forall_mem_cons.2 ⟨rwX1_init_1, ?_⟩
  refine List.forall_mem_cons.2 ⟨rwX1_init_4, ?_⟩
  refine List.forall_mem_cons.2 ⟨rwX1_init_5, ?_⟩
  refine List.forall_mem_cons.2 ⟨rwX1_init_7, ?_⟩
  refine List.forall_mem_cons.2 ⟨rwX1_init_9, ?_⟩
  refine List.forall_mem_cons.2 ⟨rwX1_init_12, ?_⟩
  refine List.forall_mem_cons.2 ⟨rwX1_init_13, ?_⟩
  refine List.forall_mem_cons.2 ⟨rwX1_init_15, ?_⟩
  refine List.forall_mem_cons.2 ⟨rwX1_init_17, ?_⟩
  refine List.forall_mem_cons.2 ⟨rwX1_init_20, ?_⟩
  refine List.forall_mem_cons.2 ⟨rwX1_init_21, ?_⟩
  refine List.forall_mem_cons.2 ⟨rwX1_init_23, ?_⟩
  refine List.forall_mem_cons.2 ⟨rwX1_init_25, ?_⟩
  refine List.forall_mem_cons.2 ⟨rwX1_init_28, ?_⟩
  refine List.forall_mem_cons.2 ⟨rwX1_init_29, ?_⟩
  refine List.forall_mem_cons.2 ⟨rwX1_init_31, ?_⟩
  refine List.forall_mem_cons.2 ⟨rwX1_init_33, ?_⟩
  refine List.forall_mem_cons.2 ⟨rwX1_init_36, ?_⟩
  refine List.forall_mem_cons.2 ⟨rwX1_init_37, ?_⟩
  refine List.forall_mem_cons.2 ⟨rwX1_init_39, ?_⟩
  refine List.forall_mem_cons.2 ⟨rwX1_init_41, ?_⟩
  refine List.forall_mem_cons.2 ⟨rwX1_init_44, ?_⟩
  refine List.forall_mem_cons.2 ⟨rwX1_init_45, ?_⟩
  refine List.forall_mem_cons.2 ⟨rwX1_init_46, ?_⟩
  refine List.forall_mem_cons.2 ⟨rwX1_init_49, ?_⟩
  exact fun r h => absurd h (List.not_mem_nil)
theorem rwX2_init_0 : rOK 2 0 0 0 0 (0) := fun G ls st S d kc ks Q x h k => B_aload_n dX2_init_0 h k
theorem rwX2_init_1 : rOK 2 1 17 0 0 (0) := fun G ls st S d kc ks Q r hk hl k => B_obj dX2_init_1 lX2_3 (by decide) hk hl k
theorem rwX2_init_4 : rOK 2 4 0 0 0 (0) := fun G ls st S d kc ks Q x h k => B_aload_n dX2_init_4 h k
theorem rwX2_init_5 : rOK 2 5 2 0 2 (24) := fun G ls st S d kc ks Q k => B_bipush dX2_init_5 (by decide) k
theorem rwX2_init_7 : rOK 2 7 5 13 2 (0) := fun G ls st S d kc ks Q x h1 h2 k => B_newa dX2_init_7 (Or.inl ⟨rfl, rfl⟩) arc_int h1 h2 k
theorem rwX2_init_9 : rOK 2 9 8 2 0 (0) := fun G ls st S d kc ks Q x r hk k => B_putF dX2_init_9 fX2_9 rfl (fun q h => by cases h; rfl) rfl hk k
theorem rwX2_init_12 : rOK 2 12 0 0 0 (0) := fun G ls st S d kc ks Q x h k => B_aload_n dX2_init_12 h k
theorem rwX2_init_13 : rOK 2 13 2 0 1 (0) := fun G ls st S d kc ks Q k => B_iconst dX2_init_13 (by decide) k
theorem rwX2_init_14 : rOK 2 14 9 2 1 (0) := fun G ls st S d kc ks Q x r hk k => B_putI dX2_init_14 fX2_15 rfl hk k
theorem rwX2_init_17 : rOK 2 17 0 0 0 (0) := fun G ls st S d kc ks Q x h k => B_aload_n dX2_init_17 h k
theorem rwX2_init_18 : rOK 2 18 2 0 2 (24) := fun G ls st S d kc ks Q k => B_bipush dX2_init_18 (by decide) k
theorem rwX2_init_20 : rOK 2 20 5 13 2 (0) := fun G ls st S d kc ks Q x h1 h2 k => B_newa dX2_init_20 (Or.inl ⟨rfl, rfl⟩) arc_int h1 h2 k
theorem rwX2_init_22 : rOK 2 22 8 2 2 (0) := fun G ls st S d kc ks Q x r hk k => B_putF dX2_init_22 fX2_19 rfl (fun q h => by cases h; rfl) rfl hk k
theorem rwX2_init_25 : rOK 2 25 0 0 0 (0) := fun G ls st S d kc ks Q x h k => B_aload_n dX2_init_25 h k
theorem rwX2_init_26 : rOK 2 26 2 0 2 (24) := fun G ls st S d kc ks Q k => B_bipush dX2_init_26 (by decide) k
theorem rwX2_init_28 : rOK 2 28 5 13 2 (0) := fun G ls st S d kc ks Q x h1 h2 k => B_newa dX2_init_28 (Or.inl ⟨rfl, rfl⟩) arc_int h1 h2 k
theorem rwX2_init_30 : rOK 2 30 8 2 3 (0) := fun G ls st S d kc ks Q x r hk k => B_putF dX2_init_30 fX2_22 rfl (fun q h => by cases h; rfl) rfl hk k
theorem rwX2_init_33 : rOK 2 33 0 0 0 (0) := fun G ls st S d kc ks Q x h k => B_aload_n dX2_init_33 h k
theorem rwX2_init_34 : rOK 2 34 2 0 2 (24) := fun G ls st S d kc ks Q k => B_bipush dX2_init_34 (by decide) k
theorem rwX2_init_36 : rOK 2 36 5 13 2 (0) := fun G ls st S d kc ks Q x h1 h2 k => B_newa dX2_init_36 (Or.inl ⟨rfl, rfl⟩) arc_int h1 h2 k
theorem rwX2_init_38 : rOK 2 38 8 2 4 (0) := fun G ls st S d kc ks Q x r hk k => B_putF dX2_init_38 fX2_25 rfl (fun q h => by cases h; rfl) rfl hk k
theorem rwX2_init_41 : rOK 2 41 0 0 0 (0) := fun G ls st S d kc ks Q x h k => B_aload_n dX2_init_41 h k
theorem rwX2_init_42 : rOK 2 42 2 0 2 (24) := fun G ls st S d kc ks Q k => B_bipush dX2_init_42 (by decide) k
theorem rwX2_init_44 : rOK 2 44 5 13 2 (0) := fun G ls st S d kc ks Q x h1 h2 k => B_newa dX2_init_44 (Or.inl ⟨rfl, rfl⟩) arc_int h1 h2 k
theorem rwX2_init_46 : rOK 2 46 8 2 5 (0) := fun G ls st S d kc ks Q x r hk k => B_putF dX2_init_46 fX2_28 rfl (fun q h => by cases h; rfl) rfl hk k
theorem rwX2_init_49 : rOK 2 49 0 0 0 (0) := fun G ls st S d kc ks Q x h k => B_aload_n dX2_init_49 h k
theorem rwX2_init_50 : rOK 2 50 2 0 1 (0) := fun G ls st S d kc ks Q k => B_iconst dX2_init_50 (by decide) k
theorem rwX2_init_51 : rOK 2 51 9 2 6 (0) := fun G ls st S d kc ks Q x r hk k => B_putI dX2_init_51 fX2_31 rfl hk k
theorem rwX2_init_54 : rOK 2 54 0 0 0 (0) := fun G ls st S d kc ks Q x h k => B_aload_n dX2_init_54 h k
theorem rwX2_init_55 : rOK 2 55 2 0 1 (0) := fun G ls st S d kc ks Q k => B_iconst dX2_init_55 (by decide) k
theorem rwX2_init_56 : rOK 2 56 9 2 7 (0) := fun G ls st S d kc ks Q x r hk k => B_putI dX2_init_56 fX2_34 rfl hk k
theorem rwX2_init_59 : rOK 2 59 0 0 0 (0) := fun G ls st S d kc ks Q x h k => B_aload_n dX2_init_59 h k
theorem rwX2_init_60 : rOK 2 60 2 0 1 (0) := fun G ls st S d kc ks Q k => B_iconst dX2_init_60 (by decide) k
theorem rwX2_init_61 : rOK 2 61 9 2 8 (0) := fun G ls st S d kc ks Q x r hk k => B_putI dX2_init_61 fX2_37 rfl hk k
theorem rwX2_init_64 : rOK 2 64 0 0 0 (0) := fun G ls st S d kc ks Q x h k => B_aload_n dX2_init_64 h k
theorem rwX2_init_65 : rOK 2 65 2 0 1 (1) := fun G ls st S d kc ks Q k => B_iconst dX2_init_65 (by decide) k
theorem rwX2_init_66 : rOK 2 66 9 2 9 (0) := fun G ls st S d kc ks Q x r hk k => B_putI dX2_init_66 fX2_40 rfl hk k
theorem rwX2_init_69 : rOK 2 69 20 0 0 (0) := fun G ls st S d kc ks Q h hq => by subst h; exact B_return dX2_init_69 rfl hq
def tK2 : List Row := [(0, 0, 0, 0, 0), (1, 17, 0, 0, 0), (4, 0, 0, 0, 0), (5, 2, 0, 2, 24), (7, 5, 13, 2, 0), (9, 8, 2, 0, 0), (12, 0, 0, 0, 0), (13, 2, 0, 1, 0), (14, 9, 2, 1, 0), (17, 0, 0, 0, 0), (18, 2, 0, 2, 24), (20, 5, 13, 2, 0), (22, 8, 2, 2, 0), (25, 0, 0, 0, 0), (26, 2, 0, 2, 24), (28, 5, 13, 2, 0), (30, 8, 2, 3, 0), (33, 0, 0, 0, 0), (34, 2, 0, 2, 24), (36, 5, 13, 2, 0), (38, 8, 2, 4, 0), (41, 0, 0, 0, 0), (42, 2, 0, 2, 24), (44, 5, 13, 2, 0), (46, 8, 2, 5, 0), (49, 0, 0, 0, 0), (50, 2, 0, 1, 0), (51, 9, 2, 6, 0), (54, 0, 0, 0, 0), (55, 2, 0, 1, 0), (56, 9, 2, 7, 0), (59, 0, 0, 0, 0), (60, 2, 0, 1, 0), (61, 9, 2, 8, 0), (64, 0, 0, 0, 0), (65, 2, 0, 1, 1), (66, 9, 2, 9, 0), (69, 20, 0, 0, 0)]
theorem rK2 : ∀ r ∈ tK2, rOK 2 r.1 r.2.1 r.2.2.1 r.2.2.2.1 r.2.2.2.2 := by
  unfold tK2
  refine List.forall_mem_cons.2 ⟨rwX2_init_0, ?_⟩
  refine List.forall_mem_cons.2 ⟨rwX2_init_1, ?_⟩
  refine List.forall_mem_cons.2 ⟨rwX2_init_4, ?_⟩
  refine List.forall_mem_cons.2 ⟨rwX2_init_5, ?_⟩
  refine List.forall_mem_cons.2 ⟨rwX2_init_7, ?_⟩
  refine List.forall_mem_cons.2 ⟨rwX2_init_9, ?_⟩
  refine List.forall_mem_cons.2 ⟨rwX2_init_12, ?_⟩
  refine List.forall_mem_cons.2 ⟨rwX2_init_13, ?_⟩
  refine List.forall_mem_cons.2 ⟨rwX2_init_14, ?_⟩
  refine List.forall_mem_cons.2 ⟨rwX2_init_17, ?_⟩
  refine List.forall_mem_cons.2 ⟨rwX2_init_18, ?_⟩
  refine List.forall_mem_cons.2 ⟨rwX2_init_20, ?_⟩
  refine List.forall_mem_cons.2 ⟨rwX2_init_22, ?_⟩
  refine List.forall_mem_cons.2 ⟨rwX2_init_25, ?_⟩
  refine List.forall_mem_cons.2 ⟨rwX2_init_26, ?_⟩
  refine List.forall_mem_cons.2 ⟨rwX2_init_28, ?_⟩
  refine List.forall_mem_cons.2 ⟨rwX2_init_30, ?_⟩
  refine List.forall_mem_cons.2 ⟨rwX2_init_33, ?_⟩
  refine List.forall_mem_cons.2 ⟨rwX2_init_34, ?_⟩
  refine List.forall_mem_cons.2 ⟨rwX2_init_36, ?_⟩
  refine List.forall_mem_cons.2 ⟨rwX2_init_38, ?_⟩
  refine List.forall_mem_cons.2 ⟨rwX2_init_41, ?_⟩
  refine List.forall_mem_cons.2 ⟨rwX2_init_42, ?_⟩
  refine List.forall_mem_cons.2 ⟨rwX2_init_44, ?_⟩
  refine List.forall_mem_cons.2 ⟨rwX2_init_46, ?_⟩
  refine List.forall_mem_cons.2 ⟨rwX2_init_49, ?_⟩
  refine List.forall_mem_cons.2 ⟨rwX2_init_50, ?_⟩
  refine List.forall_mem_cons.2 ⟨rwX2_init_51, ?_⟩
  refine List.forall_mem_cons.2 ⟨rwX2_init_54, ?_⟩
  refine List.forall_mem_cons.2 ⟨rwX2_init_55, ?_⟩
  refine List.forall_mem_cons.2 ⟨rwX2_init_56, ?_⟩
  refine List.forall_mem_cons.2 ⟨rwX2_init_59, ?_⟩
  refine List.forall_mem_cons.2 ⟨rwX2_init_60, ?_⟩
  refine List.forall_mem_cons.2 ⟨rwX2_init_61, ?_⟩
  refine List.forall_mem_cons.2 ⟨rwX2_init_64, ?_⟩
  refine List.forall_mem_cons.2 ⟨rwX2_init_65, ?_⟩
  refine List.forall_mem_cons.2 ⟨rwX2_init_66, ?_⟩
  refine List.forall_mem_cons.2 ⟨rwX2_init_69, ?_⟩
  exact fun r h => absurd h (List.not_mem_nil)
theorem rwX3_init_0 : rOK 3 0 0 0 0 (0) := fun G ls st S d kc ks Q x h k => B_aload_n dX3_init_0 h k
theorem rwX3_init_1 : rOK 3 1 17 0 0 (0) := fun G ls st S d kc ks Q r hk hl k => B_obj dX3_init_1 lX3_3 (by decide) hk hl k
theorem rwX3_init_4 : rOK 3 4 0 0 0 (0) := fun G ls st S d kc ks Q x h k => B_aload_n dX3_init_4 h k
theorem rwX3_init_5 : rOK 3 5 2 0 2 (25) := fun G ls st S d kc ks Q k => B_bipush dX3_init_5 (by decide) k
theorem rwX3_init_7 : rOK 3 7 5 13 2 (0) := fun G ls st S d kc ks Q x h1 h2 k => B_newa dX3_init_7 (Or.inl ⟨rfl, rfl⟩) arc_int h1 h2 k
theorem rwX3_init_9 : rOK 3 9 8 3 0 (0) := fun G ls st S d kc ks Q x r hk k => B_putF dX3_init_9 fX3_9 rfl (fun q h => by cases h; rfl) rfl hk k
theorem rwX3_init_12 : rOK 3 12 0 0 0 (0) := fun G ls st S d kc ks Q x h k => B_aload_n dX3_init_12 h k
theorem rwX3_init_13 : rOK 3 13 2 0 2 (25) := fun G ls st S d kc ks Q k => B_bipush dX3_init_13 (by decide) k
theorem rwX3_init_15 : rOK 3 15 5 13 2 (0) := fun G ls st S d kc ks Q x h1 h2 k => B_newa dX3_init_15 (Or.inl ⟨rfl, rfl⟩) arc_int h1 h2 k
theorem rwX3_init_17 : rOK 3 17 8 3 1 (0) := fun G ls st S d kc ks Q x r hk k => B_putF dX3_init_17 fX3_15 rfl (fun q h => by cases h; rfl) rfl hk k
theorem rwX3_init_20 : rOK 3 20 0 0 0 (0) := fun G ls st S d kc ks Q x h k => B_aload_n dX3_init_20 h k
theorem rwX3_init_21 : rOK 3 21 2 0 1 (-1) := fun G ls st S d kc ks Q k => B_iconst dX3_init_21 (by decide) k
theorem rwX3_init_22 : rOK 3 22 9 3 2 (0) := fun G ls st S d kc ks Q x r hk k => B_putI dX3_init_22 fX3_18 rfl hk k
theorem rwX3_init_25 : rOK 3 25 20 0 0 (0) := fun G ls st S d kc ks Q h hq => by subst h; exact B_return dX3_init_25 rfl hq
def tK3 : List Row := [(0, 0, 0, 0, 0), (1, 17, 0, 0, 0), (4, 0, 0, 0, 0), (5, 2, 0, 2, 25), (7, 5, 13, 2, 0), (9, 8, 3, 0, 0), (12, 0, 0, 0, 0), (13, 2, 0, 2, 25), (15, 5, 13, 2, 0), (17, 8, 3, 1, 0), (20, 0, 0, 0, 0), (21, 2, 0, 1, (-1)), (22, 9, 3, 2, 0), (25, 20, 0, 0, 0)]
theorem rK3 : ∀ r ∈ tK3, rOK 3 r.1 r.2.1 r.2.2.1 r.2.2.2.1 r.2.2.2.2 := by
  unfold tK3
  refine List.forall_mem_cons.2 ⟨rwX3_init_0, ?_⟩
  refine List.forall_mem_cons.2 ⟨rwX3_init_1, ?_⟩
  refine List.forall_mem_cons.2 ⟨rwX3_init_4, ?_⟩
  refine List.forall_mem_cons.2 ⟨rwX3_init_5, ?_⟩
  refine List.forall_mem_cons.2 ⟨rwX3_init_7, ?_⟩
  refine List.forall_mem_cons.2 ⟨rwX3_init_9, ?_⟩
  refine List.forall_mem_cons.2 ⟨rwX3_init_12, ?_⟩
  refine List.forall_mem_cons.2 ⟨rwX3_init_13, ?_⟩
  refine List.forall_mem_cons.2 ⟨rwX3_init_15, ?_⟩
  refine List.forall_mem_cons.2 ⟨rwX3_init_17, ?_⟩
  refine List.forall_mem_cons.2 ⟨rwX3_init_20, ?_⟩
  refine List.forall_mem_cons.2 ⟨rwX3_init_21, ?_⟩
  refine List.forall_mem_cons.2 ⟨rwX3_init_22, ?_⟩
  refine List.forall_mem_cons.2 ⟨rwX3_init_25, ?_⟩
  exact fun r h => absurd h (List.not_mem_nil)
theorem rwX4_init_0 : rOK 4 0 0 0 0 (0) := fun G ls st S d kc ks Q x h k => B_aload_n dX4_init_0 h k
theorem rwX4_init_1 : rOK 4 1 17 0 0 (0) := fun G ls st S d kc ks Q r hk hl k => B_obj dX4_init_1 lX4_3 (by decide) hk hl k
theorem rwX4_init_4 : rOK 4 4 0 0 0 (0) := fun G ls st S d kc ks Q x h k => B_aload_n dX4_init_4 h k
theorem rwX4_init_5 : rOK 4 5 2 0 1 (2) := fun G ls st S d kc ks Q k => B_iconst dX4_init_5 (by decide) k
theorem rwX4_init_6 : rOK 4 6 5 13 2 (0) := fun G ls st S d kc ks Q x h1 h2 k => B_newa dX4_init_6 (Or.inl ⟨rfl, rfl⟩) arc_int h1 h2 k
theorem rwX4_init_8 : rOK 4 8 8 4 0 (0) := fun G ls st S d kc ks Q x r hk k => B_putF dX4_init_8 fX4_9 rfl (fun q h => by cases h; rfl) rfl hk k
theorem rwX4_init_11 : rOK 4 11 0 0 0 (0) := fun G ls st S d kc ks Q x h k => B_aload_n dX4_init_11 h k
theorem rwX4_init_12 : rOK 4 12 2 0 2 (12) := fun G ls st S d kc ks Q k => B_bipush dX4_init_12 (by decide) k
theorem rwX4_init_14 : rOK 4 14 5 13 2 (0) := fun G ls st S d kc ks Q x h1 h2 k => B_newa dX4_init_14 (Or.inl ⟨rfl, rfl⟩) arc_int h1 h2 k
theorem rwX4_init_16 : rOK 4 16 8 4 1 (0) := fun G ls st S d kc ks Q x r hk k => B_putF dX4_init_16 fX4_15 rfl (fun q h => by cases h; rfl) rfl hk k
theorem rwX4_init_19 : rOK 4 19 0 0 0 (0) := fun G ls st S d kc ks Q x h k => B_aload_n dX4_init_19 h k
theorem rwX4_init_20 : rOK 4 20 18 14 4 (0) := fun G ls st S d kc ks Q r kc2 ks2 Q2 hk hl hB k => B_callV (As := []) (rest := st) dX4_init_20 lX4_18 rfl rfl hk (by decide) hl (Nat.le_of_ble_eq_true rfl) hB k
theorem rwX4_init_23 : rOK 4 23 20 0 0 (0) := fun G ls st S d kc ks Q h hq => by subst h; exact B_return dX4_init_23 rfl hq
def tK4 : List Row := [(0, 0, 0, 0, 0), (1, 17, 0, 0, 0), (4, 0, 0, 0, 0), (5, 2, 0, 1, 2), (6, 5, 13, 2, 0), (8, 8, 4, 0, 0), (11, 0, 0, 0, 0), (12, 2, 0, 2, 12), (14, 5, 13, 2, 0), (16, 8, 4, 1, 0), (19, 0, 0, 0, 0), (20, 18, 14, 4, 0), (23, 20, 0, 0, 0)]
theorem rK4 : ∀ r ∈ tK4, rOK 4 r.1 r.2.1 r.2.2.1 r.2.2.2.1 r.2.2.2.2 := by
  unfold tK4
  refine List.forall_mem_cons.2 ⟨rwX4_init_0, ?_⟩
  refine List.forall_mem_cons.2 ⟨rwX4_init_1, ?_⟩
  refine List.forall_mem_cons.2 ⟨rwX4_init_4, ?_⟩
  refine List.forall_mem_cons.2 ⟨rwX4_init_5, ?_⟩
  refine List.forall_mem_cons.2 ⟨rwX4_init_6, ?_⟩
  refine List.forall_mem_cons.2 ⟨rwX4_init_8, ?_⟩
  refine List.forall_mem_cons.2 ⟨rwX4_init_11, ?_⟩
  refine List.forall_mem_cons.2 ⟨rwX4_init_12, ?_⟩
  refine List.forall_mem_cons.2 ⟨rwX4_init_14, ?_⟩
  refine List.forall_mem_cons.2 ⟨rwX4_init_16, ?_⟩
  refine List.forall_mem_cons.2 ⟨rwX4_init_19, ?_⟩
  refine List.forall_mem_cons.2 ⟨rwX4_init_20, ?_⟩
  refine List.forall_mem_cons.2 ⟨rwX4_init_23, ?_⟩
  exact fun r h => absurd h (List.not_mem_nil)
theorem rwX5_init_0 : rOK 5 0 0 0 0 (0) := fun G ls st S d kc ks Q x h k => B_aload_n dX5_init_0 h k
theorem rwX5_init_1 : rOK 5 1 17 0 0 (0) := fun G ls st S d kc ks Q r hk hl k => B_obj dX5_init_1 lX5_3 (by decide) hk hl k
theorem rwX5_init_4 : rOK 5 4 0 0 0 (0) := fun G ls st S d kc ks Q x h k => B_aload_n dX5_init_4 h k
set_option maxRecDepth 100000 in
theorem rwX5_init_5 : rOK 5 5 4 10 12 (0) := fun G ls st S d kc ks Q k => B_new (k := 10) (idx := 9) dX5_init_5 nX5_9 k
theorem rwX5_init_8 : rOK 5 8 3 0 0 (0) := fun G ls st S d kc ks Q x k => B_dup dX5_init_8 rfl k
theorem rwX5_init_9 : rOK 5 9 18 10 10 (0) := fun G ls st S d kc ks Q r kc2 ks2 Q2 hk hl hB k => B_callI (As := []) (rest := st) dX5_init_9 lX5_11 rfl rfl (by rw [hk]; decide) (by decide) hl (Nat.le_of_ble_eq_true rfl) hB k
theorem rwX5_init_12 : rOK 5 12 8 5 0 (0) := fun G ls st S d kc ks Q x r hk k => B_putF dX5_init_12 fX5_12 rfl (fun q h => by cases h; rfl) rfl hk k
theorem rwX5_init_15 : rOK 5 15 0 0 0 (0) := fun G ls st S d kc ks Q x h k => B_aload_n dX5_init_15 h k
set_option maxRecDepth 100000 in
theorem rwX5_init_16 : rOK 5 16 4 6 2 (0) := fun G ls st S d kc ks Q k => B_new (k := 6) (idx := 18) dX5_init_16 nX5_18 k
theorem rwX5_init_19 : rOK 5 19 3 0 0 (0) := fun G ls st S d kc ks Q x k => B_dup dX5_init_19 rfl k
theorem rwX5_init_20 : rOK 5 20 18 6 6 (0) := fun G ls st S d kc ks Q r kc2 ks2 Q2 hk hl hB k => B_callN (As := []) (rest := st) dX5_init_20 lX5_20 rfl rfl (by rw [hk]; decide) (by decide) hl (Nat.le_of_ble_eq_true rfl) hB k
theorem rwX5_init_23 : rOK 5 23 8 5 1 (0) := fun G ls st S d kc ks Q x r hk k => B_putF dX5_init_23 fX5_21 rfl (fun q h => by cases h; rfl) rfl hk k
theorem rwX5_init_26 : rOK 5 26 0 0 0 (0) := fun G ls st S d kc ks Q x h k => B_aload_n dX5_init_26 h k
set_option maxRecDepth 100000 in
theorem rwX5_init_27 : rOK 5 27 4 4 2 (0) := fun G ls st S d kc ks Q k => B_new (k := 4) (idx := 25) dX5_init_27 nX5_25 k
theorem rwX5_init_30 : rOK 5 30 3 0 0 (0) := fun G ls st S d kc ks Q x k => B_dup dX5_init_30 rfl k
theorem rwX5_init_31 : rOK 5 31 18 4 4 (0) := fun G ls st S d kc ks Q r kc2 ks2 Q2 hk hl hB k => B_callI (As := []) (rest := st) dX5_init_31 lX5_27 rfl rfl (by rw [hk]; decide) (by decide) hl (Nat.le_of_ble_eq_true rfl) hB k
theorem rwX5_init_34 : rOK 5 34 8 5 2 (0) := fun G ls st S d kc ks Q x r hk k => B_putF dX5_init_34 fX5_28 rfl (fun q h => by cases h; rfl) rfl hk k
theorem rwX5_init_37 : rOK 5 37 0 0 0 (0) := fun G ls st S d kc ks Q x h k => B_aload_n dX5_init_37 h k
set_option maxRecDepth 100000 in
theorem rwX5_init_38 : rOK 5 38 4 9 5 (0) := fun G ls st S d kc ks Q k => B_new (k := 9) (idx := 32) dX5_init_38 nX5_32 k
theorem rwX5_init_41 : rOK 5 41 3 0 0 (0) := fun G ls st S d kc ks Q x k => B_dup dX5_init_41 rfl k
theorem rwX5_init_42 : rOK 5 42 18 9 9 (0) := fun G ls st S d kc ks Q r kc2 ks2 Q2 hk hl hB k => B_callN (As := []) (rest := st) dX5_init_42 lX5_34 rfl rfl (by rw [hk]; decide) (by decide) hl (Nat.le_of_ble_eq_true rfl) hB k
theorem rwX5_init_45 : rOK 5 45 8 5 3 (0) := fun G ls st S d kc ks Q x r hk k => B_putF dX5_init_45 fX5_35 rfl (fun q h => by cases h; rfl) rfl hk k
theorem rwX5_init_48 : rOK 5 48 0 0 0 (0) := fun G ls st S d kc ks Q x h k => B_aload_n dX5_init_48 h k
theorem rwX5_init_49 : rOK 5 49 2 0 1 (0) := fun G ls st S d kc ks Q k => B_iconst dX5_init_49 (by decide) k
theorem rwX5_init_50 : rOK 5 50 9 5 4 (0) := fun G ls st S d kc ks Q x r hk k => B_putI dX5_init_50 fX5_39 rfl hk k
theorem rwX5_init_53 : rOK 5 53 0 0 0 (0) := fun G ls st S d kc ks Q x h k => B_aload_n dX5_init_53 h k
theorem rwX5_init_54 : rOK 5 54 2 0 1 (-1) := fun G ls st S d kc ks Q k => B_iconst dX5_init_54 (by decide) k
theorem rwX5_init_55 : rOK 5 55 9 5 5 (0) := fun G ls st S d kc ks Q x r hk k => B_putI dX5_init_55 fX5_43 rfl hk k
theorem rwX5_init_58 : rOK 5 58 0 0 0 (0) := fun G ls st S d kc ks Q x h k => B_aload_n dX5_init_58 h k
theorem rwX5_init_59 : rOK 5 59 2 0 3 (601) := fun G ls st S d kc ks Q k => B_sipush dX5_init_59 (by decide) k
theorem rwX5_init_62 : rOK 5 62 5 13 2 (0) := fun G ls st S d kc ks Q x h1 h2 k => B_newa dX5_init_62 (Or.inl ⟨rfl, rfl⟩) arc_int h1 h2 k
theorem rwX5_init_64 : rOK 5 64 8 5 6 (0) := fun G ls st S d kc ks Q x r hk k => B_putF dX5_init_64 fX5_46 rfl (fun q h => by cases h; rfl) rfl hk k
theorem rwX5_init_67 : rOK 5 67 0 0 0 (0) := fun G ls st S d kc ks Q x h k => B_aload_n dX5_init_67 h k
theorem rwX5_init_68 : rOK 5 68 2 0 3 (601) := fun G ls st S d kc ks Q k => B_sipush dX5_init_68 (by decide) k
theorem rwX5_init_71 : rOK 5 71 5 13 2 (0) := fun G ls st S d kc ks Q x h1 h2 k => B_newa dX5_init_71 (Or.inl ⟨rfl, rfl⟩) arc_int h1 h2 k
theorem rwX5_init_73 : rOK 5 73 8 5 7 (0) := fun G ls st S d kc ks Q x r hk k => B_putF dX5_init_73 fX5_50 rfl (fun q h => by cases h; rfl) rfl hk k
theorem rwX5_init_76 : rOK 5 76 0 0 0 (0) := fun G ls st S d kc ks Q x h k => B_aload_n dX5_init_76 h k
theorem rwX5_init_77 : rOK 5 77 2 0 3 (601) := fun G ls st S d kc ks Q k => B_sipush dX5_init_77 (by decide) k
theorem rwX5_init_80 : rOK 5 80 5 13 2 (0) := fun G ls st S d kc ks Q x h1 h2 k => B_newa dX5_init_80 (Or.inl ⟨rfl, rfl⟩) arc_int h1 h2 k
theorem rwX5_init_82 : rOK 5 82 8 5 8 (0) := fun G ls st S d kc ks Q x r hk k => B_putF dX5_init_82 fX5_53 rfl (fun q h => by cases h; rfl) rfl hk k
theorem rwX5_init_85 : rOK 5 85 0 0 0 (0) := fun G ls st S d kc ks Q x h k => B_aload_n dX5_init_85 h k
theorem rwX5_init_86 : rOK 5 86 2 0 1 (0) := fun G ls st S d kc ks Q k => B_iconst dX5_init_86 (by decide) k
theorem rwX5_init_87 : rOK 5 87 9 5 9 (0) := fun G ls st S d kc ks Q x r hk k => B_putI dX5_init_87 fX5_56 rfl hk k
theorem rwX5_init_90 : rOK 5 90 0 0 0 (0) := fun G ls st S d kc ks Q x h k => B_aload_n dX5_init_90 h k
theorem rwX5_init_91 : rOK 5 91 2 0 1 (0) := fun G ls st S d kc ks Q k => B_iconst dX5_init_91 (by decide) k
theorem rwX5_init_92 : rOK 5 92 9 5 10 (0) := fun G ls st S d kc ks Q x r hk k => B_putI dX5_init_92 fX5_59 rfl hk k
theorem rwX5_init_95 : rOK 5 95 0 0 0 (0) := fun G ls st S d kc ks Q x h k => B_aload_n dX5_init_95 h k
theorem rwX5_init_96 : rOK 5 96 2 0 1 (0) := fun G ls st S d kc ks Q k => B_iconst dX5_init_96 (by decide) k
theorem rwX5_init_97 : rOK 5 97 9 5 11 (0) := fun G ls st S d kc ks Q x r hk k => B_putI dX5_init_97 fX5_62 rfl hk k
theorem rwX5_init_100 : rOK 5 100 0 0 0 (0) := fun G ls st S d kc ks Q x h k => B_aload_n dX5_init_100 h k
theorem rwX5_init_101 : rOK 5 101 2 0 1 (0) := fun G ls st S d kc ks Q k => B_iconst dX5_init_101 (by decide) k
theorem rwX5_init_102 : rOK 5 102 9 5 12 (0) := fun G ls st S d kc ks Q x r hk k => B_putI dX5_init_102 fX5_65 rfl hk k
theorem rwX5_init_105 : rOK 5 105 0 0 0 (0) := fun G ls st S d kc ks Q x h k => B_aload_n dX5_init_105 h k
theorem rwX5_init_106 : rOK 5 106 2 0 1 (-1) := fun G ls st S d kc ks Q k => B_iconst dX5_init_106 (by decide) k
theorem rwX5_init_107 : rOK 5 107 9 5 13 (0) := fun G ls st S d kc ks Q x r hk k => B_putI dX5_init_107 fX5_68 rfl hk k
theorem rwX5_init_110 : rOK 5 110 0 0 0 (0) := fun G ls st S d kc ks Q x h k => B_aload_n dX5_init_110 h k
theorem rwX5_init_111 : rOK 5 111 2 0 1 (-1) := fun G ls st S d kc ks Q k => B_iconst dX5_init_111 (by decide) k
theorem rwX5_init_112 : rOK 5 112 9 5 14 (0) := fun G ls st S d kc ks Q x r hk k => B_putI dX5_init_112 fX5_71 rfl hk k
theorem rwX5_init_115 : rOK 5 115 20 0 0 (0) := fun G ls st S d kc ks Q h hq => by subst h; exact B_return dX5_init_115 rfl hq
def tK5 : List Row := [(0, 0, 0, 0, 0), (1, 17, 0, 0, 0), (4, 0, 0, 0, 0), (5, 4, 10, 12, 0), (8, 3, 0, 0, 0), (9, 18, 10, 10, 0), (12, 8, 5, 0, 0), (15, 0, 0, 0, 0), (16, 4, 6, 2, 0), (19, 3, 0, 0, 0), (20, 18, 6, 6, 0), (23, 8, 5, 1, 0), (26, 0, 0, 0, 0), (27, 4, 4, 2, 0), (30, 3, 0, 0, 0), (31, 18, 4, 4, 0), (34, 8, 5, 2, 0), (37, 0, 0, 0, 0), (38, 4, 9, 5, 0), (41, 3, 0, 0, 0), (42, 18, 9, 9, 0), (45, 8, 5, 3, 0), (48, 0, 0, 0, 0), (49, 2, 0, 1, 0), (50, 9, 5, 4, 0), (53, 0, 0, 0, 0), (54, 2, 0, 1, (-1)), (55, 9, 5, 5, 0), (58, 0, 0, 0, 0), (59, 2, 0, 3, 601), (62, 5, 13, 2, 0), (64, 8, 5, 6, 0), (67, 0, 0, 0, 0), (68, 2, 0, 3, 601), (71, 5, 13, 2, 0), (73, 8, 5, 7, 0), (76, 0, 0, 0, 0), (77, 2, 0, 3, 601), (80, 5, 13, 2, 0), (82, 8, 5, 8, 0), (85, 0, 0, 0, 0), (86, 2, 0, 1, 0), (87, 9, 5, 9, 0), (90, 0, 0, 0, 0), (91, 2, 0, 1, 0), (92, 9, 5, 10, 0), (95, 0, 0, 0, 0), (96, 2, 0, 1, 0), (97, 9, 5, 11, 0), (100, 0, 0, 0, 0), (101, 2, 0, 1, 0), (102, 9, 5, 12, 0), (105, 0, 0, 0, 0), (106, 2, 0, 1, (-1)), (107, 9, 5, 13, 0), (110, 0, 0, 0, 0), (111, 2, 0, 1, (-1)), (112, 9, 5, 14, 0), (115, 20, 0, 0, 0)]
theorem rK5 : ∀ r ∈ tK5, rOK 5 r.1 r.2.1 r.2.2.1 r.2.2.2.1 r.2.2.2.2 := by
  unfold tK5
  refine List.forall_mem_cons.2 ⟨rwX5_init_0, ?_⟩
  refine List.forall_mem_cons.2 ⟨rwX5_init_1, ?_⟩
  refine List.forall_mem_cons.2 ⟨rwX5_init_4, ?_⟩
  refine List.forall_mem_cons.2 ⟨rwX5_init_5, ?_⟩
  refine List.forall_mem_cons.2 ⟨rwX5_init_8, ?_⟩
  refine List.forall_mem_cons.2 ⟨rwX5_init_9, ?_⟩
  refine List.forall_mem_cons.2 ⟨rwX5_init_12, ?_⟩
  refine List.forall_mem_cons.2 ⟨rwX5_init_15, ?_⟩
  refine List.forall_mem_cons.2 ⟨rwX5_init_16, ?_⟩
  refine List.forall_mem_cons.2 ⟨rwX5_init_19, ?_⟩
  refine List.forall_mem_cons.2 ⟨rwX5_init_20, ?_⟩
  refine List.forall_mem_cons.2 ⟨rwX5_init_23, ?_⟩
  refine List.forall_mem_cons.2 ⟨rwX5_init_26, ?_⟩
  refine List.forall_mem_cons.2 ⟨rwX5_init_27, ?_⟩
  refine List.forall_mem_cons.2 ⟨rwX5_init_30, ?_⟩
  refine List.forall_mem_cons.2 ⟨rwX5_init_31, ?_⟩
  refine List.forall_mem_cons.2 ⟨rwX5_init_34, ?_⟩
  refine List.forall_mem_cons.2 ⟨rwX5_init_37, ?_⟩
  refine List.forall_mem_cons.2 ⟨rwX5_init_38, ?_⟩
  refine List.forall_mem_cons.2 ⟨rwX5_init_41, ?_⟩
  refine List.forall_mem_cons.2 ⟨rwX5_init_42, ?_⟩
  refine List.forall_mem_cons.2 ⟨rwX5_init_45, ?_⟩
  refine List.forall_mem_cons.2 ⟨rwX5_init_48, ?_⟩
  refine List.forall_mem_cons.2 ⟨rwX5_init_49, ?_⟩
  refine List.forall_mem_cons.2 ⟨rwX5_init_50, ?_⟩
  refine List.forall_mem_cons.2 ⟨rwX5_init_53, ?_⟩
  refine List.forall_mem_cons.2 ⟨rwX5_init_54, ?_⟩
  refine List.forall_mem_cons.2 ⟨rwX5_init_55, ?_⟩
  refine List.forall_mem_cons.2 ⟨rwX5_init_58, ?_⟩
  refine List.forall_mem_cons.2 ⟨rwX5_init_59, ?_⟩
  refine List.forall_mem_cons.2 ⟨rwX5_init_62, ?_⟩
  refine List.forall_mem_cons.2 ⟨rwX5_init_64, ?_⟩
  refine List.forall_mem_cons.2 ⟨rwX5_init_67, ?_⟩
  refine List.forall_mem_cons.2 ⟨rwX5_init_68, ?_⟩
  refine List.forall_mem_cons.2 ⟨rwX5_init_71, ?_⟩
  refine List.forall_mem_cons.2 ⟨rwX5_init_73, ?_⟩
  refine List.forall_mem_cons.2 ⟨rwX5_init_76, ?_⟩
  refine List.forall_mem_cons.2 ⟨rwX5_init_77, ?_⟩
  refine List.forall_mem_cons.2 ⟨rwX5_init_80, ?_⟩
  refine List.forall_mem_cons.2 ⟨rwX5_init_82, ?_⟩
  refine List.forall_mem_cons.2 ⟨rwX5_init_85, ?_⟩
  refine List.forall_mem_cons.2 ⟨rwX5_init_86, ?_⟩
  refine List.forall_mem_cons.2 ⟨rwX5_init_87, ?_⟩
  refine List.forall_mem_cons.2 ⟨rwX5_init_90, ?_⟩
  refine List.forall_mem_cons.2 ⟨rwX5_init_91, ?_⟩
  refine List.forall_mem_cons.2 ⟨rwX5_init_92, ?_⟩
  refine List.forall_mem_cons.2 ⟨rwX5_init_95, ?_⟩
  refine List.forall_mem_cons.2 ⟨rwX5_init_96, ?_⟩
  refine List.forall_mem_cons.2 ⟨rwX5_init_97, ?_⟩
  refine List.forall_mem_cons.2 ⟨rwX5_init_100, ?_⟩
  refine List.forall_mem_cons.2 ⟨rwX5_init_101, ?_⟩
  refine List.forall_mem_cons.2 ⟨rwX5_init_102, ?_⟩
  refine List.forall_mem_cons.2 ⟨rwX5_init_105, ?_⟩
  refine List.forall_mem_cons.2 ⟨rwX5_init_106, ?_⟩
  refine List.forall_mem_cons.2 ⟨rwX5_init_107, ?_⟩
  refine List.forall_mem_cons.2 ⟨rwX5_init_110, ?_⟩
  refine List.forall_mem_cons.2 ⟨rwX5_init_111, ?_⟩
  refine List.forall_mem_cons.2 ⟨rwX5_init_112, ?_⟩
  refine List.forall_mem_cons.2 ⟨rwX5_init_115, ?_⟩
  exact fun r h => absurd h (List.not_mem_nil)
theorem rwX6_init_0 : rOK 6 0 0 0 0 (0) := fun G ls st S d kc ks Q x h k => B_aload_n dX6_init_0 h k
theorem rwX6_init_1 : rOK 6 1 17 0 0 (0) := fun G ls st S d kc ks Q r hk hl k => B_obj dX6_init_1 lX6_3 (by decide) hk hl k
theorem rwX6_init_4 : rOK 6 4 0 0 0 (0) := fun G ls st S d kc ks Q x h k => B_aload_n dX6_init_4 h k
theorem rwX6_init_5 : rOK 6 5 2 0 1 (2) := fun G ls st S d kc ks Q k => B_iconst dX6_init_5 (by decide) k
theorem rwX6_init_6 : rOK 6 6 5 13 2 (0) := fun G ls st S d kc ks Q x h1 h2 k => B_newa dX6_init_6 (Or.inl ⟨rfl, rfl⟩) arc_int h1 h2 k
theorem rwX6_init_8 : rOK 6 8 8 6 0 (0) := fun G ls st S d kc ks Q x r hk k => B_putF dX6_init_8 fX6_9 rfl (fun q h => by cases h; rfl) rfl hk k
theorem rwX6_init_11 : rOK 6 11 0 0 0 (0) := fun G ls st S d kc ks Q x h k => B_aload_n dX6_init_11 h k
theorem rwX6_init_12 : rOK 6 12 2 0 2 (24) := fun G ls st S d kc ks Q k => B_bipush dX6_init_12 (by decide) k
theorem rwX6_init_14 : rOK 6 14 5 13 2 (0) := fun G ls st S d kc ks Q x h1 h2 k => B_newa dX6_init_14 (Or.inl ⟨rfl, rfl⟩) arc_int h1 h2 k
theorem rwX6_init_16 : rOK 6 16 8 6 1 (0) := fun G ls st S d kc ks Q x r hk k => B_putF dX6_init_16 fX6_15 rfl (fun q h => by cases h; rfl) rfl hk k
theorem rwX6_init_19 : rOK 6 19 20 0 0 (0) := fun G ls st S d kc ks Q h hq => by subst h; exact B_return dX6_init_19 rfl hq
def tK6 : List Row := [(0, 0, 0, 0, 0), (1, 17, 0, 0, 0), (4, 0, 0, 0, 0), (5, 2, 0, 1, 2), (6, 5, 13, 2, 0), (8, 8, 6, 0, 0), (11, 0, 0, 0, 0), (12, 2, 0, 2, 24), (14, 5, 13, 2, 0), (16, 8, 6, 1, 0), (19, 20, 0, 0, 0)]
theorem rK6 : ∀ r ∈ tK6, rOK 6 r.1 r.2.1 r.2.2.1 r.2.2.2.1 r.2.2.2.2 := by
  unfold tK6
  refine List.forall_mem_cons.2 ⟨rwX6_init_0, ?_⟩
  refine List.forall_mem_cons.2 ⟨rwX6_init_1, ?_⟩
  refine List.forall_mem_cons.2 ⟨rwX6_init_4, ?_⟩
  refine List.forall_mem_cons.2 ⟨rwX6_init_5, ?_⟩
  refine List.forall_mem_cons.2 ⟨rwX6_init_6, ?_⟩
  refine List.forall_mem_cons.2 ⟨rwX6_init_8, ?_⟩
  refine List.forall_mem_cons.2 ⟨rwX6_init_11, ?_⟩
  refine List.forall_mem_cons.2 ⟨rwX6_init_12, ?_⟩
  refine List.forall_mem_cons.2 ⟨rwX6_init_14, ?_⟩
  refine List.forall_mem_cons.2 ⟨rwX6_init_16, ?_⟩
  refine List.forall_mem_cons.2 ⟨rwX6_init_19, ?_⟩
  exact fun r h => absurd h (List.not_mem_nil)
theorem rwX7_init_0 : rOK 7 0 0 0 0 (0) := fun G ls st S d kc ks Q x h k => B_aload_n dX7_init_0 h k
theorem rwX7_init_1 : rOK 7 1 17 0 0 (0) := fun G ls st S d kc ks Q r hk hl k => B_obj dX7_init_1 lX7_3 (by decide) hk hl k
theorem rwX7_init_4 : rOK 7 4 0 0 0 (0) := fun G ls st S d kc ks Q x h k => B_aload_n dX7_init_4 h k
theorem rwX7_init_5 : rOK 7 5 2 0 2 (8) := fun G ls st S d kc ks Q k => B_bipush dX7_init_5 (by decide) k
theorem rwX7_init_7 : rOK 7 7 2 0 2 (60) := fun G ls st S d kc ks Q k => B_bipush dX7_init_7 (by decide) k
theorem rwX7_init_9 : rOK 7 9 7 0 0 (0) := fun G ls st S d kc ks Q x y hx hy k => B_multi dX7_init_9 (tb (i := 498) (by decide +kernel) (by decide +kernel)) hx hy k
theorem rwX7_init_13 : rOK 7 13 8 7 0 (0) := fun G ls st S d kc ks Q x r hk k => B_putF dX7_init_13 fX7_11 rfl (fun q h => by cases h; rfl) rfl hk k
theorem rwX7_init_16 : rOK 7 16 0 0 0 (0) := fun G ls st S d kc ks Q x h k => B_aload_n dX7_init_16 h k
theorem rwX7_init_17 : rOK 7 17 2 0 2 (8) := fun G ls st S d kc ks Q k => B_bipush dX7_init_17 (by decide) k
theorem rwX7_init_19 : rOK 7 19 5 13 2 (0) := fun G ls st S d kc ks Q x h1 h2 k => B_newa dX7_init_19 (Or.inl ⟨rfl, rfl⟩) arc_int h1 h2 k
theorem rwX7_init_21 : rOK 7 21 8 7 1 (0) := fun G ls st S d kc ks Q x r hk k => B_putF dX7_init_21 fX7_16 rfl (fun q h => by cases h; rfl) rfl hk k
theorem rwX7_init_24 : rOK 7 24 20 0 0 (0) := fun G ls st S d kc ks Q h hq => by subst h; exact B_return dX7_init_24 rfl hq
def tK7 : List Row := [(0, 0, 0, 0, 0), (1, 17, 0, 0, 0), (4, 0, 0, 0, 0), (5, 2, 0, 2, 8), (7, 2, 0, 2, 60), (9, 7, 0, 0, 0), (13, 8, 7, 0, 0), (16, 0, 0, 0, 0), (17, 2, 0, 2, 8), (19, 5, 13, 2, 0), (21, 8, 7, 1, 0), (24, 20, 0, 0, 0)]
theorem rK7 : ∀ r ∈ tK7, rOK 7 r.1 r.2.1 r.2.2.1 r.2.2.2.1 r.2.2.2.2 := by
  unfold tK7
  refine List.forall_mem_cons.2 ⟨rwX7_init_0, ?_⟩
  refine List.forall_mem_cons.2 ⟨rwX7_init_1, ?_⟩
  refine List.forall_mem_cons.2 ⟨rwX7_init_4, ?_⟩
  refine List.forall_mem_cons.2 ⟨rwX7_init_5, ?_⟩
  refine List.forall_mem_cons.2 ⟨rwX7_init_7, ?_⟩
  refine List.forall_mem_cons.2 ⟨rwX7_init_9, ?_⟩
  refine List.forall_mem_cons.2 ⟨rwX7_init_13, ?_⟩
  refine List.forall_mem_cons.2 ⟨rwX7_init_16, ?_⟩
  refine List.forall_mem_cons.2 ⟨rwX7_init_17, ?_⟩
  refine List.forall_mem_cons.2 ⟨rwX7_init_19, ?_⟩
  refine List.forall_mem_cons.2 ⟨rwX7_init_21, ?_⟩
  refine List.forall_mem_cons.2 ⟨rwX7_init_24, ?_⟩
  exact fun r h => absurd h (List.not_mem_nil)
theorem rwX8_init_0 : rOK 8 0 0 0 0 (0) := fun G ls st S d kc ks Q x h k => B_aload_n dX8_init_0 h k
theorem rwX8_init_1 : rOK 8 1 17 0 0 (0) := fun G ls st S d kc ks Q r hk hl k => B_obj dX8_init_1 lX8_3 (by decide) hk hl k
theorem rwX8_init_4 : rOK 8 4 0 0 0 (0) := fun G ls st S d kc ks Q x h k => B_aload_n dX8_init_4 h k
theorem rwX8_init_5 : rOK 8 5 2 0 3 (600) := fun G ls st S d kc ks Q k => B_sipush dX8_init_5 (by decide) k
theorem rwX8_init_8 : rOK 8 8 5 14 2 (0) := fun G ls st S d kc ks Q x h1 h2 k => B_newa dX8_init_8 (Or.inr (Or.inl ⟨rfl, rfl⟩)) arc_byte h1 h2 k
theorem rwX8_init_10 : rOK 8 10 8 8 0 (0) := fun G ls st S d kc ks Q x r hk k => B_putF dX8_init_10 fX8_9 rfl (fun q h => by cases h; rfl) rfl hk k
theorem rwX8_init_13 : rOK 8 13 0 0 0 (0) := fun G ls st S d kc ks Q x h k => B_aload_n dX8_init_13 h k
theorem rwX8_init_14 : rOK 8 14 2 0 1 (0) := fun G ls st S d kc ks Q k => B_iconst dX8_init_14 (by decide) k
theorem rwX8_init_15 : rOK 8 15 9 8 1 (0) := fun G ls st S d kc ks Q x r hk k => B_putI dX8_init_15 fX8_15 rfl hk k
theorem rwX8_init_18 : rOK 8 18 0 0 0 (0) := fun G ls st S d kc ks Q x h k => B_aload_n dX8_init_18 h k
theorem rwX8_init_19 : rOK 8 19 2 0 1 (0) := fun G ls st S d kc ks Q k => B_iconst dX8_init_19 (by decide) k
theorem rwX8_init_20 : rOK 8 20 9 8 2 (0) := fun G ls st S d kc ks Q x r hk k => B_putI dX8_init_20 fX8_19 rfl hk k
theorem rwX8_init_23 : rOK 8 23 0 0 0 (0) := fun G ls st S d kc ks Q x h k => B_aload_n dX8_init_23 h k
theorem rwX8_init_24 : rOK 8 24 2 0 1 (-1) := fun G ls st S d kc ks Q k => B_iconst dX8_init_24 (by decide) k
theorem rwX8_init_25 : rOK 8 25 9 8 3 (0) := fun G ls st S d kc ks Q x r hk k => B_putI dX8_init_25 fX8_22 rfl hk k
theorem rwX8_init_28 : rOK 8 28 0 0 0 (0) := fun G ls st S d kc ks Q x h k => B_aload_n dX8_init_28 h k
theorem rwX8_init_29 : rOK 8 29 2 0 1 (4) := fun G ls st S d kc ks Q k => B_iconst dX8_init_29 (by decide) k
theorem rwX8_init_30 : rOK 8 30 5 13 2 (0) := fun G ls st S d kc ks Q x h1 h2 k => B_newa dX8_init_30 (Or.inl ⟨rfl, rfl⟩) arc_int h1 h2 k
theorem rwX8_init_32 : rOK 8 32 8 8 4 (0) := fun G ls st S d kc ks Q x r hk k => B_putF dX8_init_32 fX8_25 rfl (fun q h => by cases h; rfl) rfl hk k
theorem rwX8_init_35 : rOK 8 35 0 0 0 (0) := fun G ls st S d kc ks Q x h k => B_aload_n dX8_init_35 h k
theorem rwX8_init_36 : rOK 8 36 2 0 1 (2) := fun G ls st S d kc ks Q k => B_iconst dX8_init_36 (by decide) k
theorem rwX8_init_37 : rOK 8 37 5 17 3 (0) := fun G ls st S d kc ks Q x h1 h2 k => B_anew (C0 := "OneDrum$War") dX8_init_37 (by decide) (by decide) rfl (tb (i := 160) (by decide +kernel) (by decide +kernel)) (by decide) h1 h2 k
theorem rwX8_init_40 : rOK 8 40 8 8 5 (0) := fun G ls st S d kc ks Q x r hk k => B_putF dX8_init_40 fX8_31 rfl (fun q h => by cases h; rfl) rfl hk k
theorem rwX8_init_43 : rOK 8 43 0 0 0 (0) := fun G ls st S d kc ks Q x h k => B_aload_n dX8_init_43 h k
theorem rwX8_init_44 : rOK 8 44 2 0 1 (2) := fun G ls st S d kc ks Q k => B_iconst dX8_init_44 (by decide) k
theorem rwX8_init_45 : rOK 8 45 5 18 3 (0) := fun G ls st S d kc ks Q x h1 h2 k => B_anew (C0 := "OneDrum$Score") dX8_init_45 (by decide) (by decide) rfl (tb (i := 162) (by decide +kernel) (by decide +kernel)) (by decide) h1 h2 k
theorem rwX8_init_48 : rOK 8 48 8 8 6 (0) := fun G ls st S d kc ks Q x r hk k => B_putF dX8_init_48 fX8_37 rfl (fun q h => by cases h; rfl) rfl hk k
theorem rwX8_init_51 : rOK 8 51 0 0 0 (0) := fun G ls st S d kc ks Q x h k => B_aload_n dX8_init_51 h k
theorem rwX8_init_52 : rOK 8 52 2 0 1 (2) := fun G ls st S d kc ks Q k => B_iconst dX8_init_52 (by decide) k
theorem rwX8_init_53 : rOK 8 53 5 19 3 (0) := fun G ls st S d kc ks Q x h1 h2 k => B_anew (C0 := "OneDrum$Hearing") dX8_init_53 (by decide) (by decide) rfl (tb (i := 164) (by decide +kernel) (by decide +kernel)) (by decide) h1 h2 k
theorem rwX8_init_56 : rOK 8 56 8 8 7 (0) := fun G ls st S d kc ks Q x r hk k => B_putF dX8_init_56 fX8_43 rfl (fun q h => by cases h; rfl) rfl hk k
theorem rwX8_init_59 : rOK 8 59 0 0 0 (0) := fun G ls st S d kc ks Q x h k => B_aload_n dX8_init_59 h k
theorem rwX8_init_60 : rOK 8 60 2 0 1 (2) := fun G ls st S d kc ks Q k => B_iconst dX8_init_60 (by decide) k
theorem rwX8_init_61 : rOK 8 61 5 20 3 (0) := fun G ls st S d kc ks Q x h1 h2 k => B_anew (C0 := "OneDrum$Villages") dX8_init_61 (by decide) (by decide) rfl (tb (i := 166) (by decide +kernel) (by decide +kernel)) (by decide) h1 h2 k
theorem rwX8_init_64 : rOK 8 64 8 8 8 (0) := fun G ls st S d kc ks Q x r hk k => B_putF dX8_init_64 fX8_49 rfl (fun q h => by cases h; rfl) rfl hk k
theorem rwX8_init_67 : rOK 8 67 2 0 1 (0) := fun G ls st S d kc ks Q k => B_iconst dX8_init_67 (by decide) k
theorem rwX8_init_68 : rOK 8 68 21 1 0 (0) := fun G ls st S d kc ks Q x k => B_istore_n dX8_init_68 (by decide) k
theorem rwX8_init_69 : rOK 8 69 1 1 0 (0) := fun G ls st S d kc ks Q x h k => B_iload_n dX8_init_69 h k
theorem rwX8_init_70 : rOK 8 70 2 0 1 (2) := fun G ls st S d kc ks Q k => B_iconst dX8_init_70 (by decide) k
theorem rwX8_init_71 : rOK 8 71 16 132 0 (0) := fun G ls st S d kc ks Q x y kt kf => B_icmp_ge (tgt := 132) dX8_init_71 (by decide) kt kf
theorem rwX8_init_74 : rOK 8 74 0 0 0 (0) := fun G ls st S d kc ks Q x h k => B_aload_n dX8_init_74 h k
theorem rwX8_init_75 : rOK 8 75 10 8 5 (0) := fun G ls st S d kc ks Q x r hk hr k => B_getR dX8_init_75 fX8_31 rfl hk hr k
theorem rwX8_init_78 : rOK 8 78 1 1 0 (0) := fun G ls st S d kc ks Q x h k => B_iload_n dX8_init_78 h k
set_option maxRecDepth 100000 in
theorem rwX8_init_79 : rOK 8 79 4 10 12 (0) := fun G ls st S d kc ks Q k => B_new (k := 10) (idx := 29) dX8_init_79 nX8_29 k
theorem rwX8_init_82 : rOK 8 82 3 0 0 (0) := fun G ls st S d kc ks Q x k => B_dup dX8_init_82 rfl k
theorem rwX8_init_83 : rOK 8 83 18 10 10 (0) := fun G ls st S d kc ks Q r kc2 ks2 Q2 hk hl hB k => B_callI (As := []) (rest := st) dX8_init_83 lX8_53 rfl rfl (by rw [hk]; decide) (by decide) hl (Nat.le_of_ble_eq_true rfl) hB k
theorem rwX8_init_86 : rOK 8 86 12 17 10 (0) := fun G ls st S d kc ks Q x r i hk hx h1 h2 k => B_aast dX8_init_86 hk (by decide) (by decide) hx rfl rfl h1 h2 k
theorem rwX8_init_87 : rOK 8 87 0 0 0 (0) := fun G ls st S d kc ks Q x h k => B_aload_n dX8_init_87 h k
theorem rwX8_init_88 : rOK 8 88 10 8 6 (0) := fun G ls st S d kc ks Q x r hk hr k => B_getR dX8_init_88 fX8_37 rfl hk hr k
theorem rwX8_init_91 : rOK 8 91 1 1 0 (0) := fun G ls st S d kc ks Q x h k => B_iload_n dX8_init_91 h k
set_option maxRecDepth 100000 in
theorem rwX8_init_92 : rOK 8 92 4 6 2 (0) := fun G ls st S d kc ks Q k => B_new (k := 6) (idx := 35) dX8_init_92 nX8_35 k
theorem rwX8_init_95 : rOK 8 95 3 0 0 (0) := fun G ls st S d kc ks Q x k => B_dup dX8_init_95 rfl k
theorem rwX8_init_96 : rOK 8 96 18 6 6 (0) := fun G ls st S d kc ks Q r kc2 ks2 Q2 hk hl hB k => B_callN (As := []) (rest := st) dX8_init_96 lX8_54 rfl rfl (by rw [hk]; decide) (by decide) hl (Nat.le_of_ble_eq_true rfl) hB k
theorem rwX8_init_99 : rOK 8 99 12 18 6 (0) := fun G ls st S d kc ks Q x r i hk hx h1 h2 k => B_aast dX8_init_99 hk (by decide) (by decide) hx rfl rfl h1 h2 k
theorem rwX8_init_100 : rOK 8 100 0 0 0 (0) := fun G ls st S d kc ks Q x h k => B_aload_n dX8_init_100 h k
theorem rwX8_init_101 : rOK 8 101 10 8 7 (0) := fun G ls st S d kc ks Q x r hk hr k => B_getR dX8_init_101 fX8_43 rfl hk hr k
theorem rwX8_init_104 : rOK 8 104 1 1 0 (0) := fun G ls st S d kc ks Q x h k => B_iload_n dX8_init_104 h k
set_option maxRecDepth 100000 in
theorem rwX8_init_105 : rOK 8 105 4 4 2 (0) := fun G ls st S d kc ks Q k => B_new (k := 4) (idx := 41) dX8_init_105 nX8_41 k
theorem rwX8_init_108 : rOK 8 108 3 0 0 (0) := fun G ls st S d kc ks Q x k => B_dup dX8_init_108 rfl k
theorem rwX8_init_109 : rOK 8 109 18 4 4 (0) := fun G ls st S d kc ks Q r kc2 ks2 Q2 hk hl hB k => B_callI (As := []) (rest := st) dX8_init_109 lX8_55 rfl rfl (by rw [hk]; decide) (by decide) hl (Nat.le_of_ble_eq_true rfl) hB k
theorem rwX8_init_112 : rOK 8 112 12 19 4 (0) := fun G ls st S d kc ks Q x r i hk hx h1 h2 k => B_aast dX8_init_112 hk (by decide) (by decide) hx rfl rfl h1 h2 k
theorem rwX8_init_113 : rOK 8 113 0 0 0 (0) := fun G ls st S d kc ks Q x h k => B_aload_n dX8_init_113 h k
theorem rwX8_init_114 : rOK 8 114 10 8 8 (0) := fun G ls st S d kc ks Q x r hk hr k => B_getR dX8_init_114 fX8_49 rfl hk hr k
theorem rwX8_init_117 : rOK 8 117 1 1 0 (0) := fun G ls st S d kc ks Q x h k => B_iload_n dX8_init_117 h k
set_option maxRecDepth 100000 in
theorem rwX8_init_118 : rOK 8 118 4 9 5 (0) := fun G ls st S d kc ks Q k => B_new (k := 9) (idx := 47) dX8_init_118 nX8_47 k
theorem rwX8_init_121 : rOK 8 121 3 0 0 (0) := fun G ls st S d kc ks Q x k => B_dup dX8_init_121 rfl k
theorem rwX8_init_122 : rOK 8 122 18 9 9 (0) := fun G ls st S d kc ks Q r kc2 ks2 Q2 hk hl hB k => B_callN (As := []) (rest := st) dX8_init_122 lX8_56 rfl rfl (by rw [hk]; decide) (by decide) hl (Nat.le_of_ble_eq_true rfl) hB k
theorem rwX8_init_125 : rOK 8 125 12 20 9 (0) := fun G ls st S d kc ks Q x r i hk hx h1 h2 k => B_aast dX8_init_125 hk (by decide) (by decide) hx rfl rfl h1 h2 k
theorem rwX8_init_126 : rOK 8 126 13 1 0 (1) := fun G ls st S d kc ks Q x h k => B_iinc dX8_init_126 h (by decide) k
theorem rwX8_init_129 : rOK 8 129 15 69 0 (0) := fun G ls st S d kc ks Q k => B_goto (tgt := 69) dX8_init_129 (by decide) k
theorem rwX8_init_132 : rOK 8 132 20 0 0 (0) := fun G ls st S d kc ks Q h hq => by subst h; exact B_return dX8_init_132 rfl hq
def tK8 : List Row := [(0, 0, 0, 0, 0), (1, 17, 0, 0, 0), (4, 0, 0, 0, 0), (5, 2, 0, 3, 600), (8, 5, 14, 2, 0), (10, 8, 8, 0, 0), (13, 0, 0, 0, 0), (14, 2, 0, 1, 0), (15, 9, 8, 1, 0), (18, 0, 0, 0, 0), (19, 2, 0, 1, 0), (20, 9, 8, 2, 0), (23, 0, 0, 0, 0), (24, 2, 0, 1, (-1)), (25, 9, 8, 3, 0), (28, 0, 0, 0, 0), (29, 2, 0, 1, 4), (30, 5, 13, 2, 0), (32, 8, 8, 4, 0), (35, 0, 0, 0, 0), (36, 2, 0, 1, 2), (37, 5, 17, 3, 0), (40, 8, 8, 5, 0), (43, 0, 0, 0, 0), (44, 2, 0, 1, 2), (45, 5, 18, 3, 0), (48, 8, 8, 6, 0), (51, 0, 0, 0, 0), (52, 2, 0, 1, 2), (53, 5, 19, 3, 0), (56, 8, 8, 7, 0), (59, 0, 0, 0, 0), (60, 2, 0, 1, 2), (61, 5, 20, 3, 0), (64, 8, 8, 8, 0), (67, 2, 0, 1, 0), (68, 21, 1, 0, 0), (69, 1, 1, 0, 0), (70, 2, 0, 1, 2), (71, 16, 132, 0, 0), (74, 0, 0, 0, 0), (75, 10, 8, 5, 0), (78, 1, 1, 0, 0), (79, 4, 10, 12, 0), (82, 3, 0, 0, 0), (83, 18, 10, 10, 0), (86, 12, 17, 10, 0), (87, 0, 0, 0, 0), (88, 10, 8, 6, 0), (91, 1, 1, 0, 0), (92, 4, 6, 2, 0), (95, 3, 0, 0, 0), (96, 18, 6, 6, 0), (99, 12, 18, 6, 0), (100, 0, 0, 0, 0), (101, 10, 8, 7, 0), (104, 1, 1, 0, 0), (105, 4, 4, 2, 0), (108, 3, 0, 0, 0), (109, 18, 4, 4, 0), (112, 12, 19, 4, 0), (113, 0, 0, 0, 0), (114, 10, 8, 8, 0), (117, 1, 1, 0, 0), (118, 4, 9, 5, 0), (121, 3, 0, 0, 0), (122, 18, 9, 9, 0), (125, 12, 20, 9, 0), (126, 13, 1, 0, 1), (129, 15, 69, 0, 0), (132, 20, 0, 0, 0)]
theorem rK8 : ∀ r ∈ tK8, rOK 8 r.1 r.2.1 r.2.2.1 r.2.2.2.1 r.2.2.2.2 := by
  unfold tK8
  refine List.forall_mem_cons.2 ⟨rwX8_init_0, ?_⟩
  refine List.forall_mem_cons.2 ⟨rwX8_init_1, ?_⟩
  refine List.forall_mem_cons.2 ⟨rwX8_init_4, ?_⟩
  refine List.forall_mem_cons.2 ⟨rwX8_init_5, ?_⟩
  refine List.forall_mem_cons.2 ⟨rwX8_init_8, ?_⟩
  refine List.forall_mem_cons.2 ⟨rwX8_init_10, ?_⟩
  refine List.forall_mem_cons.2 ⟨rwX8_init_13, ?_⟩
  refine List.forall_mem_cons.2 ⟨rwX8_init_14, ?_⟩
  refine List.forall_mem_cons.2 ⟨rwX8_init_15, ?_⟩
  refine List.forall_mem_cons.2 ⟨rwX8_init_18, ?_⟩
  refine List.forall_mem_cons.2 ⟨rwX8_init_19, ?_⟩
  refine List.forall_mem_cons.2 ⟨rwX8_init_20, ?_⟩
  refine List.forall_mem_cons.2 ⟨rwX8_init_23, ?_⟩
  refine List.forall_mem_cons.2 ⟨rwX8_init_24, ?_⟩
  refine List.forall_mem_cons.2 ⟨rwX8_init_25, ?_⟩
  refine List.forall_mem_cons.2 ⟨rwX8_init_28, ?_⟩
  refine List.forall_mem_cons.2 ⟨rwX8_init_29, ?_⟩
  refine List.forall_mem_cons.2 ⟨rwX8_init_30, ?_⟩
  refine List.forall_mem_cons.2 ⟨rwX8_init_32, ?_⟩
  refine List.forall_mem_cons.2 ⟨rwX8_init_35, ?_⟩
  refine List.forall_mem_cons.2 ⟨rwX8_init_36, ?_⟩
  refine List.forall_mem_cons.2 ⟨rwX8_init_37, ?_⟩
  refine List.forall_mem_cons.2 ⟨rwX8_init_40, ?_⟩
  refine List.forall_mem_cons.2 ⟨rwX8_init_43, ?_⟩
  refine List.forall_mem_cons.2 ⟨rwX8_init_44, ?_⟩
  refine List.forall_mem_cons.2 ⟨rwX8_init_45, ?_⟩
  refine List.forall_mem_cons.2 ⟨rwX8_init_48, ?_⟩
  refine List.forall_mem_cons.2 ⟨rwX8_init_51, ?_⟩
  refine List.forall_mem_cons.2 ⟨rwX8_init_52, ?_⟩
  refine List.forall_mem_cons.2 ⟨rwX8_init_53, ?_⟩
  refine List.forall_mem_cons.2 ⟨rwX8_init_56, ?_⟩
  refine List.forall_mem_cons.2 ⟨rwX8_init_59, ?_⟩
  refine List.forall_mem_cons.2 ⟨rwX8_init_60, ?_⟩
  refine List.forall_mem_cons.2 ⟨rwX8_init_61, ?_⟩
  refine List.forall_mem_cons.2 ⟨rwX8_init_64, ?_⟩
  refine List.forall_mem_cons.2 ⟨rwX8_init_67, ?_⟩
  refine List.forall_mem_cons.2 ⟨rwX8_init_68, ?_⟩
  refine List.forall_mem_cons.2 ⟨rwX8_init_69, ?_⟩
  refine List.forall_mem_cons.2 ⟨rwX8_init_70, ?_⟩
  refine List.forall_mem_cons.2 ⟨rwX8_init_71, ?_⟩
  refine List.forall_mem_cons.2 ⟨rwX8_init_74, ?_⟩
  refine List.forall_mem_cons.2 ⟨rwX8_init_75, ?_⟩
  refine List.forall_mem_cons.2 ⟨rwX8_init_78, ?_⟩
  refine List.forall_mem_cons.2 ⟨rwX8_init_79, ?_⟩
  refine List.forall_mem_cons.2 ⟨rwX8_init_82, ?_⟩
  refine List.forall_mem_cons.2 ⟨rwX8_init_83, ?_⟩
  refine List.forall_mem_cons.2 ⟨rwX8_init_86, ?_⟩
  refine List.forall_mem_cons.2 ⟨rwX8_init_87, ?_⟩
  refine List.forall_mem_cons.2 ⟨rwX8_init_88, ?_⟩
  refine List.forall_mem_cons.2 ⟨rwX8_init_91, ?_⟩
  refine List.forall_mem_cons.2 ⟨rwX8_init_92, ?_⟩
  refine List.forall_mem_cons.2 ⟨rwX8_init_95, ?_⟩
  refine List.forall_mem_cons.2 ⟨rwX8_init_96, ?_⟩
  refine List.forall_mem_cons.2 ⟨rwX8_init_99, ?_⟩
  refine List.forall_mem_cons.2 ⟨rwX8_init_100, ?_⟩
  refine List.forall_mem_cons.2 ⟨rwX8_init_101, ?_⟩
  refine List.forall_mem_cons.2 ⟨rwX8_init_104, ?_⟩
  refine List.forall_mem_cons.2 ⟨rwX8_init_105, ?_⟩
  refine List.forall_mem_cons.2 ⟨rwX8_init_108, ?_⟩
  refine List.forall_mem_cons.2 ⟨rwX8_init_109, ?_⟩
  refine List.forall_mem_cons.2 ⟨rwX8_init_112, ?_⟩
  refine List.forall_mem_cons.2 ⟨rwX8_init_113, ?_⟩
  refine List.forall_mem_cons.2 ⟨rwX8_init_114, ?_⟩
  refine List.forall_mem_cons.2 ⟨rwX8_init_117, ?_⟩
  refine List.forall_mem_cons.2 ⟨rwX8_init_118, ?_⟩
  refine List.forall_mem_cons.2 ⟨rwX8_init_121, ?_⟩
  refine List.forall_mem_cons.2 ⟨rwX8_init_122, ?_⟩
  refine List.forall_mem_cons.2 ⟨rwX8_init_125, ?_⟩
  refine List.forall_mem_cons.2 ⟨rwX8_init_126, ?_⟩
  refine List.forall_mem_cons.2 ⟨rwX8_init_129, ?_⟩
  refine List.forall_mem_cons.2 ⟨rwX8_init_132, ?_⟩
  exact fun r h => absurd h (List.not_mem_nil)
theorem rwX9_init_0 : rOK 9 0 0 0 0 (0) := fun G ls st S d kc ks Q x h k => B_aload_n dX9_init_0 h k
theorem rwX9_init_1 : rOK 9 1 17 0 0 (0) := fun G ls st S d kc ks Q r hk hl k => B_obj dX9_init_1 lX9_3 (by decide) hk hl k
theorem rwX9_init_4 : rOK 9 4 0 0 0 (0) := fun G ls st S d kc ks Q x h k => B_aload_n dX9_init_4 h k
theorem rwX9_init_5 : rOK 9 5 2 0 1 (0) := fun G ls st S d kc ks Q k => B_iconst dX9_init_5 (by decide) k
theorem rwX9_init_6 : rOK 9 6 9 9 0 (0) := fun G ls st S d kc ks Q x r hk k => B_putI dX9_init_6 fX9_9 rfl hk k
theorem rwX9_init_9 : rOK 9 9 0 0 0 (0) := fun G ls st S d kc ks Q x h k => B_aload_n dX9_init_9 h k
theorem rwX9_init_10 : rOK 9 10 2 0 2 (8) := fun G ls st S d kc ks Q k => B_bipush dX9_init_10 (by decide) k
theorem rwX9_init_12 : rOK 9 12 5 13 2 (0) := fun G ls st S d kc ks Q x h1 h2 k => B_newa dX9_init_12 (Or.inl ⟨rfl, rfl⟩) arc_int h1 h2 k
theorem rwX9_init_14 : rOK 9 14 8 9 1 (0) := fun G ls st S d kc ks Q x r hk k => B_putF dX9_init_14 fX9_15 rfl (fun q h => by cases h; rfl) rfl hk k
theorem rwX9_init_17 : rOK 9 17 0 0 0 (0) := fun G ls st S d kc ks Q x h k => B_aload_n dX9_init_17 h k
theorem rwX9_init_18 : rOK 9 18 2 0 2 (8) := fun G ls st S d kc ks Q k => B_bipush dX9_init_18 (by decide) k
theorem rwX9_init_20 : rOK 9 20 5 13 2 (0) := fun G ls st S d kc ks Q x h1 h2 k => B_newa dX9_init_20 (Or.inl ⟨rfl, rfl⟩) arc_int h1 h2 k
theorem rwX9_init_22 : rOK 9 22 8 9 2 (0) := fun G ls st S d kc ks Q x r hk k => B_putF dX9_init_22 fX9_19 rfl (fun q h => by cases h; rfl) rfl hk k
theorem rwX9_init_25 : rOK 9 25 0 0 0 (0) := fun G ls st S d kc ks Q x h k => B_aload_n dX9_init_25 h k
theorem rwX9_init_26 : rOK 9 26 2 0 2 (8) := fun G ls st S d kc ks Q k => B_bipush dX9_init_26 (by decide) k
theorem rwX9_init_28 : rOK 9 28 5 13 2 (0) := fun G ls st S d kc ks Q x h1 h2 k => B_newa dX9_init_28 (Or.inl ⟨rfl, rfl⟩) arc_int h1 h2 k
theorem rwX9_init_30 : rOK 9 30 8 9 3 (0) := fun G ls st S d kc ks Q x r hk k => B_putF dX9_init_30 fX9_22 rfl (fun q h => by cases h; rfl) rfl hk k
theorem rwX9_init_33 : rOK 9 33 0 0 0 (0) := fun G ls st S d kc ks Q x h k => B_aload_n dX9_init_33 h k
theorem rwX9_init_34 : rOK 9 34 2 0 2 (8) := fun G ls st S d kc ks Q k => B_bipush dX9_init_34 (by decide) k
theorem rwX9_init_36 : rOK 9 36 5 13 2 (0) := fun G ls st S d kc ks Q x h1 h2 k => B_newa dX9_init_36 (Or.inl ⟨rfl, rfl⟩) arc_int h1 h2 k
theorem rwX9_init_38 : rOK 9 38 8 9 4 (0) := fun G ls st S d kc ks Q x r hk k => B_putF dX9_init_38 fX9_25 rfl (fun q h => by cases h; rfl) rfl hk k
theorem rwX9_init_41 : rOK 9 41 20 0 0 (0) := fun G ls st S d kc ks Q h hq => by subst h; exact B_return dX9_init_41 rfl hq
def tK9 : List Row := [(0, 0, 0, 0, 0), (1, 17, 0, 0, 0), (4, 0, 0, 0, 0), (5, 2, 0, 1, 0), (6, 9, 9, 0, 0), (9, 0, 0, 0, 0), (10, 2, 0, 2, 8), (12, 5, 13, 2, 0), (14, 8, 9, 1, 0), (17, 0, 0, 0, 0), (18, 2, 0, 2, 8), (20, 5, 13, 2, 0), (22, 8, 9, 2, 0), (25, 0, 0, 0, 0), (26, 2, 0, 2, 8), (28, 5, 13, 2, 0), (30, 8, 9, 3, 0), (33, 0, 0, 0, 0), (34, 2, 0, 2, 8), (36, 5, 13, 2, 0), (38, 8, 9, 4, 0), (41, 20, 0, 0, 0)]
theorem rK9 : ∀ r ∈ tK9, rOK 9 r.1 r.2.1 r.2.2.1 r.2.2.2.1 r.2.2.2.2 := by
  unfold tK9
  refine List.forall_mem_cons.2 ⟨rwX9_init_0, ?_⟩
  refine List.forall_mem_cons.2 ⟨rwX9_init_1, ?_⟩
  refine List.forall_mem_cons.2 ⟨rwX9_init_4, ?_⟩
  refine List.forall_mem_cons.2 ⟨rwX9_init_5, ?_⟩
  refine List.forall_mem_cons.2 ⟨rwX9_init_6, ?_⟩
  refine List.forall_mem_cons.2 ⟨rwX9_init_9, ?_⟩
  refine List.forall_mem_cons.2 ⟨rwX9_init_10, ?_⟩
  refine List.forall_mem_cons.2 ⟨rwX9_init_12, ?_⟩
  refine List.forall_mem_cons.2 ⟨rwX9_init_14, ?_⟩
  refine List.forall_mem_cons.2 ⟨rwX9_init_17, ?_⟩
  refine List.forall_mem_cons.2 ⟨rwX9_init_18, ?_⟩
  refine List.forall_mem_cons.2 ⟨rwX9_init_20, ?_⟩
  refine List.forall_mem_cons.2 ⟨rwX9_init_22, ?_⟩
  refine List.forall_mem_cons.2 ⟨rwX9_init_25, ?_⟩
  refine List.forall_mem_cons.2 ⟨rwX9_init_26, ?_⟩
  refine List.forall_mem_cons.2 ⟨rwX9_init_28, ?_⟩
  refine List.forall_mem_cons.2 ⟨rwX9_init_30, ?_⟩
  refine List.forall_mem_cons.2 ⟨rwX9_init_33, ?_⟩
  refine List.forall_mem_cons.2 ⟨rwX9_init_34, ?_⟩
  refine List.forall_mem_cons.2 ⟨rwX9_init_36, ?_⟩
  refine List.forall_mem_cons.2 ⟨rwX9_init_38, ?_⟩
  refine List.forall_mem_cons.2 ⟨rwX9_init_41, ?_⟩
  exact fun r h => absurd h (List.not_mem_nil)
theorem rwX10_init_0 : rOK 10 0 0 0 0 (0) := fun G ls st S d kc ks Q x h k => B_aload_n dX10_init_0 h k
theorem rwX10_init_1 : rOK 10 1 17 0 0 (0) := fun G ls st S d kc ks Q r hk hl k => B_obj dX10_init_1 lX10_3 (by decide) hk hl k
theorem rwX10_init_4 : rOK 10 4 0 0 0 (0) := fun G ls st S d kc ks Q x h k => B_aload_n dX10_init_4 h k
theorem rwX10_init_5 : rOK 10 5 2 0 1 (4) := fun G ls st S d kc ks Q k => B_iconst dX10_init_5 (by decide) k
theorem rwX10_init_6 : rOK 10 6 5 13 2 (0) := fun G ls st S d kc ks Q x h1 h2 k => B_newa dX10_init_6 (Or.inl ⟨rfl, rfl⟩) arc_int h1 h2 k
theorem rwX10_init_8 : rOK 10 8 8 10 3 (0) := fun G ls st S d kc ks Q x r hk k => B_putF dX10_init_8 fX10_9 rfl (fun q h => by cases h; rfl) rfl hk k
theorem rwX10_init_11 : rOK 10 11 0 0 0 (0) := fun G ls st S d kc ks Q x h k => B_aload_n dX10_init_11 h k
theorem rwX10_init_12 : rOK 10 12 2 0 1 (2) := fun G ls st S d kc ks Q k => B_iconst dX10_init_12 (by decide) k
theorem rwX10_init_13 : rOK 10 13 5 13 2 (0) := fun G ls st S d kc ks Q x h1 h2 k => B_newa dX10_init_13 (Or.inl ⟨rfl, rfl⟩) arc_int h1 h2 k
theorem rwX10_init_15 : rOK 10 15 8 10 4 (0) := fun G ls st S d kc ks Q x r hk k => B_putF dX10_init_15 fX10_15 rfl (fun q h => by cases h; rfl) rfl hk k
theorem rwX10_init_18 : rOK 10 18 0 0 0 (0) := fun G ls st S d kc ks Q x h k => B_aload_n dX10_init_18 h k
theorem rwX10_init_19 : rOK 10 19 2 0 1 (2) := fun G ls st S d kc ks Q k => B_iconst dX10_init_19 (by decide) k
theorem rwX10_init_20 : rOK 10 20 5 13 2 (0) := fun G ls st S d kc ks Q x h1 h2 k => B_newa dX10_init_20 (Or.inl ⟨rfl, rfl⟩) arc_int h1 h2 k
theorem rwX10_init_22 : rOK 10 22 8 10 5 (0) := fun G ls st S d kc ks Q x r hk k => B_putF dX10_init_22 fX10_18 rfl (fun q h => by cases h; rfl) rfl hk k
theorem rwX10_init_25 : rOK 10 25 0 0 0 (0) := fun G ls st S d kc ks Q x h k => B_aload_n dX10_init_25 h k
theorem rwX10_init_26 : rOK 10 26 2 0 1 (2) := fun G ls st S d kc ks Q k => B_iconst dX10_init_26 (by decide) k
theorem rwX10_init_27 : rOK 10 27 5 13 2 (0) := fun G ls st S d kc ks Q x h1 h2 k => B_newa dX10_init_27 (Or.inl ⟨rfl, rfl⟩) arc_int h1 h2 k
theorem rwX10_init_29 : rOK 10 29 8 10 6 (0) := fun G ls st S d kc ks Q x r hk k => B_putF dX10_init_29 fX10_21 rfl (fun q h => by cases h; rfl) rfl hk k
theorem rwX10_init_32 : rOK 10 32 0 0 0 (0) := fun G ls st S d kc ks Q x h k => B_aload_n dX10_init_32 h k
theorem rwX10_init_33 : rOK 10 33 2 0 1 (2) := fun G ls st S d kc ks Q k => B_iconst dX10_init_33 (by decide) k
theorem rwX10_init_34 : rOK 10 34 5 13 2 (0) := fun G ls st S d kc ks Q x h1 h2 k => B_newa dX10_init_34 (Or.inl ⟨rfl, rfl⟩) arc_int h1 h2 k
theorem rwX10_init_36 : rOK 10 36 8 10 7 (0) := fun G ls st S d kc ks Q x r hk k => B_putF dX10_init_36 fX10_24 rfl (fun q h => by cases h; rfl) rfl hk k
theorem rwX10_init_39 : rOK 10 39 0 0 0 (0) := fun G ls st S d kc ks Q x h k => B_aload_n dX10_init_39 h k
theorem rwX10_init_40 : rOK 10 40 2 0 1 (2) := fun G ls st S d kc ks Q k => B_iconst dX10_init_40 (by decide) k
theorem rwX10_init_41 : rOK 10 41 5 13 2 (0) := fun G ls st S d kc ks Q x h1 h2 k => B_newa dX10_init_41 (Or.inl ⟨rfl, rfl⟩) arc_int h1 h2 k
theorem rwX10_init_43 : rOK 10 43 8 10 8 (0) := fun G ls st S d kc ks Q x r hk k => B_putF dX10_init_43 fX10_27 rfl (fun q h => by cases h; rfl) rfl hk k
theorem rwX10_init_46 : rOK 10 46 0 0 0 (0) := fun G ls st S d kc ks Q x h k => B_aload_n dX10_init_46 h k
theorem rwX10_init_47 : rOK 10 47 2 0 2 (12) := fun G ls st S d kc ks Q k => B_bipush dX10_init_47 (by decide) k
theorem rwX10_init_49 : rOK 10 49 5 13 2 (0) := fun G ls st S d kc ks Q x h1 h2 k => B_newa dX10_init_49 (Or.inl ⟨rfl, rfl⟩) arc_int h1 h2 k
theorem rwX10_init_51 : rOK 10 51 8 10 9 (0) := fun G ls st S d kc ks Q x r hk k => B_putF dX10_init_51 fX10_30 rfl (fun q h => by cases h; rfl) rfl hk k
theorem rwX10_init_54 : rOK 10 54 0 0 0 (0) := fun G ls st S d kc ks Q x h k => B_aload_n dX10_init_54 h k
theorem rwX10_init_55 : rOK 10 55 2 0 2 (12) := fun G ls st S d kc ks Q k => B_bipush dX10_init_55 (by decide) k
theorem rwX10_init_57 : rOK 10 57 5 13 2 (0) := fun G ls st S d kc ks Q x h1 h2 k => B_newa dX10_init_57 (Or.inl ⟨rfl, rfl⟩) arc_int h1 h2 k
theorem rwX10_init_59 : rOK 10 59 8 10 10 (0) := fun G ls st S d kc ks Q x r hk k => B_putF dX10_init_59 fX10_33 rfl (fun q h => by cases h; rfl) rfl hk k
theorem rwX10_init_62 : rOK 10 62 0 0 0 (0) := fun G ls st S d kc ks Q x h k => B_aload_n dX10_init_62 h k
theorem rwX10_init_63 : rOK 10 63 2 0 2 (48) := fun G ls st S d kc ks Q k => B_bipush dX10_init_63 (by decide) k
theorem rwX10_init_65 : rOK 10 65 5 13 2 (0) := fun G ls st S d kc ks Q x h1 h2 k => B_newa dX10_init_65 (Or.inl ⟨rfl, rfl⟩) arc_int h1 h2 k
theorem rwX10_init_67 : rOK 10 67 8 10 11 (0) := fun G ls st S d kc ks Q x r hk k => B_putF dX10_init_67 fX10_36 rfl (fun q h => by cases h; rfl) rfl hk k
theorem rwX10_init_70 : rOK 10 70 0 0 0 (0) := fun G ls st S d kc ks Q x h k => B_aload_n dX10_init_70 h k
theorem rwX10_init_71 : rOK 10 71 18 13 10 (0) := fun G ls st S d kc ks Q r kc2 ks2 Q2 hk hl hB k => B_callV (As := []) (rest := st) dX10_init_71 lX10_39 rfl rfl hk (by decide) hl (Nat.le_of_ble_eq_true rfl) hB k
theorem rwX10_init_74 : rOK 10 74 20 0 0 (0) := fun G ls st S d kc ks Q h hq => by subst h; exact B_return dX10_init_74 rfl hq
def tK10 : List Row := [(0, 0, 0, 0, 0), (1, 17, 0, 0, 0), (4, 0, 0, 0, 0), (5, 2, 0, 1, 4), (6, 5, 13, 2, 0), (8, 8, 10, 3, 0), (11, 0, 0, 0, 0), (12, 2, 0, 1, 2), (13, 5, 13, 2, 0), (15, 8, 10, 4, 0), (18, 0, 0, 0, 0), (19, 2, 0, 1, 2), (20, 5, 13, 2, 0), (22, 8, 10, 5, 0), (25, 0, 0, 0, 0), (26, 2, 0, 1, 2), (27, 5, 13, 2, 0), (29, 8, 10, 6, 0), (32, 0, 0, 0, 0), (33, 2, 0, 1, 2), (34, 5, 13, 2, 0), (36, 8, 10, 7, 0), (39, 0, 0, 0, 0), (40, 2, 0, 1, 2), (41, 5, 13, 2, 0), (43, 8, 10, 8, 0), (46, 0, 0, 0, 0), (47, 2, 0, 2, 12), (49, 5, 13, 2, 0), (51, 8, 10, 9, 0), (54, 0, 0, 0, 0), (55, 2, 0, 2, 12), (57, 5, 13, 2, 0), (59, 8, 10, 10, 0), (62, 0, 0, 0, 0), (63, 2, 0, 2, 48), (65, 5, 13, 2, 0), (67, 8, 10, 11, 0), (70, 0, 0, 0, 0), (71, 18, 13, 10, 0), (74, 20, 0, 0, 0)]
theorem rK10 : ∀ r ∈ tK10, rOK 10 r.1 r.2.1 r.2.2.1 r.2.2.2.1 r.2.2.2.2 := by
  unfold tK10
  refine List.forall_mem_cons.2 ⟨rwX10_init_0, ?_⟩
  refine List.forall_mem_cons.2 ⟨rwX10_init_1, ?_⟩
  refine List.forall_mem_cons.2 ⟨rwX10_init_4, ?_⟩
  refine List.forall_mem_cons.2 ⟨rwX10_init_5, ?_⟩
  refine List.forall_mem_cons.2 ⟨rwX10_init_6, ?_⟩
  refine List.forall_mem_cons.2 ⟨rwX10_init_8, ?_⟩
  refine List.forall_mem_cons.2 ⟨rwX10_init_11, ?_⟩
  refine List.forall_mem_cons.2 ⟨rwX10_init_12, ?_⟩
  refine List.forall_mem_cons.2 ⟨rwX10_init_13, ?_⟩
  refine List.forall_mem_cons.2 ⟨rwX10_init_15, ?_⟩
  refine List.forall_mem_cons.2 ⟨rwX10_init_18, ?_⟩
  refine List.forall_mem_cons.2 ⟨rwX10_init_19, ?_⟩
  refine List.forall_mem_cons.2 ⟨rwX10_init_20, ?_⟩
  refine List.forall_mem_cons.2 ⟨rwX10_init_22, ?_⟩
  refine List.forall_mem_cons.2 ⟨rwX10_init_25, ?_⟩
  refine List.forall_mem_cons.2 ⟨rwX10_init_26, ?_⟩
  refine List.forall_mem_cons.2 ⟨rwX10_init_27, ?_⟩
  refine List.forall_mem_cons.2 ⟨rwX10_init_29, ?_⟩
  refine List.forall_mem_cons.2 ⟨rwX10_init_32, ?_⟩
  refine List.forall_mem_cons.2 ⟨rwX10_init_33, ?_⟩
  refine List.forall_mem_cons.2 ⟨rwX10_init_34, ?_⟩
  refine List.forall_mem_cons.2 ⟨rwX10_init_36, ?_⟩
  refine List.forall_mem_cons.2 ⟨rwX10_init_39, ?_⟩
  refine List.forall_mem_cons.2 ⟨rwX10_init_40, ?_⟩
  refine List.forall_mem_cons.2 ⟨rwX10_init_41, ?_⟩
  refine List.forall_mem_cons.2 ⟨rwX10_init_43, ?_⟩
  refine List.forall_mem_cons.2 ⟨rwX10_init_46, ?_⟩
  refine List.forall_mem_cons.2 ⟨rwX10_init_47, ?_⟩
  refine List.forall_mem_cons.2 ⟨rwX10_init_49, ?_⟩
  refine List.forall_mem_cons.2 ⟨rwX10_init_51, ?_⟩
  refine List.forall_mem_cons.2 ⟨rwX10_init_54, ?_⟩
  refine List.forall_mem_cons.2 ⟨rwX10_init_55, ?_⟩
  refine List.forall_mem_cons.2 ⟨rwX10_init_57, ?_⟩
  refine List.forall_mem_cons.2 ⟨rwX10_init_59, ?_⟩
  refine List.forall_mem_cons.2 ⟨rwX10_init_62, ?_⟩
  refine List.forall_mem_cons.2 ⟨rwX10_init_63, ?_⟩
  refine List.forall_mem_cons.2 ⟨rwX10_init_65, ?_⟩
  refine List.forall_mem_cons.2 ⟨rwX10_init_67, ?_⟩
  refine List.forall_mem_cons.2 ⟨rwX10_init_70, ?_⟩
  refine List.forall_mem_cons.2 ⟨rwX10_init_71, ?_⟩
  refine List.forall_mem_cons.2 ⟨rwX10_init_74, ?_⟩
  exact fun r h => absurd h (List.not_mem_nil)
theorem rwX11_init_0 : rOK 11 0 0 0 0 (0) := fun G ls st S d kc ks Q x h k => B_aload_n dX11_init_0 h k
theorem rwX11_init_1 : rOK 11 1 17 0 0 (0) := fun G ls st S d kc ks Q r hk hl k => B_obj dX11_init_1 lX11_1 (by decide) hk hl k
theorem rwX11_init_4 : rOK 11 4 0 0 0 (0) := fun G ls st S d kc ks Q x h k => B_aload_n dX11_init_4 h k
set_option maxRecDepth 100000 in
theorem rwX11_init_5 : rOK 11 5 4 8 9 (0) := fun G ls st S d kc ks Q k => B_new (k := 8) (idx := 7) dX11_init_5 nX11_7 k
theorem rwX11_init_8 : rOK 11 8 3 0 0 (0) := fun G ls st S d kc ks Q x k => B_dup dX11_init_8 rfl k
theorem rwX11_init_9 : rOK 11 9 18 8 8 (0) := fun G ls st S d kc ks Q r kc2 ks2 Q2 hk hl hB k => B_callI (As := []) (rest := st) dX11_init_9 lX11_9 rfl rfl (by rw [hk]; decide) (by decide) hl (Nat.le_of_ble_eq_true rfl) hB k
theorem rwX11_init_12 : rOK 11 12 8 11 0 (0) := fun G ls st S d kc ks Q x r hk k => B_putF dX11_init_12 fX11_10 rfl (fun q h => by cases h; rfl) rfl hk k
theorem rwX11_init_15 : rOK 11 15 0 0 0 (0) := fun G ls st S d kc ks Q x h k => B_aload_n dX11_init_15 h k
theorem rwX11_init_16 : rOK 11 16 2 0 1 (3) := fun G ls st S d kc ks Q k => B_iconst dX11_init_16 (by decide) k
theorem rwX11_init_17 : rOK 11 17 5 21 3 (0) := fun G ls st S d kc ks Q x h1 h2 k => B_anew (C0 := "OneDrum$Told") dX11_init_17 (by decide) (by decide) rfl (tb (i := 154) (by decide +kernel) (by decide +kernel)) (by decide) h1 h2 k
theorem rwX11_init_20 : rOK 11 20 8 11 1 (0) := fun G ls st S d kc ks Q x r hk k => B_putF dX11_init_20 fX11_16 rfl (fun q h => by cases h; rfl) rfl hk k
theorem rwX11_init_23 : rOK 11 23 0 0 0 (0) := fun G ls st S d kc ks Q x h k => B_aload_n dX11_init_23 h k
theorem rwX11_init_24 : rOK 11 24 2 0 1 (3) := fun G ls st S d kc ks Q k => B_iconst dX11_init_24 (by decide) k
theorem rwX11_init_25 : rOK 11 25 5 15 2 (0) := fun G ls st S d kc ks Q x h1 h2 k => B_newa dX11_init_25 (Or.inr (Or.inr (Or.inl ⟨rfl, rfl⟩))) arc_boolean h1 h2 k
theorem rwX11_init_27 : rOK 11 27 8 11 2 (0) := fun G ls st S d kc ks Q x r hk k => B_putF dX11_init_27 fX11_20 rfl (fun q h => by cases h; rfl) rfl hk k
theorem rwX11_init_30 : rOK 11 30 0 0 0 (0) := fun G ls st S d kc ks Q x h k => B_aload_n dX11_init_30 h k
set_option maxRecDepth 100000 in
theorem rwX11_init_31 : rOK 11 31 4 5 15 (0) := fun G ls st S d kc ks Q k => B_new (k := 5) (idx := 24) dX11_init_31 nX11_24 k
theorem rwX11_init_34 : rOK 11 34 3 0 0 (0) := fun G ls st S d kc ks Q x k => B_dup dX11_init_34 rfl k
theorem rwX11_init_35 : rOK 11 35 18 5 5 (0) := fun G ls st S d kc ks Q r kc2 ks2 Q2 hk hl hB k => B_callN (As := []) (rest := st) dX11_init_35 lX11_26 rfl rfl (by rw [hk]; decide) (by decide) hl (Nat.le_of_ble_eq_true rfl) hB k
theorem rwX11_init_38 : rOK 11 38 8 11 3 (0) := fun G ls st S d kc ks Q x r hk k => B_putF dX11_init_38 fX11_27 rfl (fun q h => by cases h; rfl) rfl hk k
theorem rwX11_init_41 : rOK 11 41 0 0 0 (0) := fun G ls st S d kc ks Q x h k => B_aload_n dX11_init_41 h k
set_option maxRecDepth 100000 in
theorem rwX11_init_42 : rOK 11 42 4 6 2 (0) := fun G ls st S d kc ks Q k => B_new (k := 6) (idx := 31) dX11_init_42 nX11_31 k
theorem rwX11_init_45 : rOK 11 45 3 0 0 (0) := fun G ls st S d kc ks Q x k => B_dup dX11_init_45 rfl k
theorem rwX11_init_46 : rOK 11 46 18 6 6 (0) := fun G ls st S d kc ks Q r kc2 ks2 Q2 hk hl hB k => B_callN (As := []) (rest := st) dX11_init_46 lX11_33 rfl rfl (by rw [hk]; decide) (by decide) hl (Nat.le_of_ble_eq_true rfl) hB k
theorem rwX11_init_49 : rOK 11 49 8 11 4 (0) := fun G ls st S d kc ks Q x r hk k => B_putF dX11_init_49 fX11_34 rfl (fun q h => by cases h; rfl) rfl hk k
theorem rwX11_init_52 : rOK 11 52 0 0 0 (0) := fun G ls st S d kc ks Q x h k => B_aload_n dX11_init_52 h k
set_option maxRecDepth 100000 in
theorem rwX11_init_53 : rOK 11 53 4 1 6 (0) := fun G ls st S d kc ks Q k => B_new (k := 1) (idx := 38) dX11_init_53 nX11_38 k
theorem rwX11_init_56 : rOK 11 56 3 0 0 (0) := fun G ls st S d kc ks Q x k => B_dup dX11_init_56 rfl k
theorem rwX11_init_57 : rOK 11 57 18 1 1 (0) := fun G ls st S d kc ks Q r kc2 ks2 Q2 hk hl hB k => B_callN (As := []) (rest := st) dX11_init_57 lX11_40 rfl rfl (by rw [hk]; decide) (by decide) hl (Nat.le_of_ble_eq_true rfl) hB k
theorem rwX11_init_60 : rOK 11 60 8 11 5 (0) := fun G ls st S d kc ks Q x r hk k => B_putF dX11_init_60 fX11_41 rfl (fun q h => by cases h; rfl) rfl hk k
theorem rwX11_init_63 : rOK 11 63 0 0 0 (0) := fun G ls st S d kc ks Q x h k => B_aload_n dX11_init_63 h k
theorem rwX11_init_64 : rOK 11 64 2 0 1 (2) := fun G ls st S d kc ks Q k => B_iconst dX11_init_64 (by decide) k
theorem rwX11_init_65 : rOK 11 65 5 22 3 (0) := fun G ls st S d kc ks Q x h1 h2 k => B_anew (C0 := "OneDrum$Ear") dX11_init_65 (by decide) (by decide) rfl (tb (i := 471) (by decide +kernel) (by decide +kernel)) (by decide) h1 h2 k
theorem rwX11_init_68 : rOK 11 68 8 11 6 (0) := fun G ls st S d kc ks Q x r hk k => B_putF dX11_init_68 fX11_47 rfl (fun q h => by cases h; rfl) rfl hk k
theorem rwX11_init_71 : rOK 11 71 0 0 0 (0) := fun G ls st S d kc ks Q x h k => B_aload_n dX11_init_71 h k
set_option maxRecDepth 100000 in
theorem rwX11_init_72 : rOK 11 72 4 3 3 (0) := fun G ls st S d kc ks Q k => B_new (k := 3) (idx := 51) dX11_init_72 nX11_51 k
theorem rwX11_init_75 : rOK 11 75 3 0 0 (0) := fun G ls st S d kc ks Q x k => B_dup dX11_init_75 rfl k
theorem rwX11_init_76 : rOK 11 76 18 3 3 (0) := fun G ls st S d kc ks Q r kc2 ks2 Q2 hk hl hB k => B_callN (As := []) (rest := st) dX11_init_76 lX11_53 rfl rfl (by rw [hk]; decide) (by decide) hl (Nat.le_of_ble_eq_true rfl) hB k
theorem rwX11_init_79 : rOK 11 79 8 11 7 (0) := fun G ls st S d kc ks Q x r hk k => B_putF dX11_init_79 fX11_54 rfl (fun q h => by cases h; rfl) rfl hk k
theorem rwX11_init_82 : rOK 11 82 0 0 0 (0) := fun G ls st S d kc ks Q x h k => B_aload_n dX11_init_82 h k
set_option maxRecDepth 100000 in
theorem rwX11_init_83 : rOK 11 83 4 7 2 (0) := fun G ls st S d kc ks Q k => B_new (k := 7) (idx := 58) dX11_init_83 nX11_58 k
theorem rwX11_init_86 : rOK 11 86 3 0 0 (0) := fun G ls st S d kc ks Q x k => B_dup dX11_init_86 rfl k
theorem rwX11_init_87 : rOK 11 87 18 7 7 (0) := fun G ls st S d kc ks Q r kc2 ks2 Q2 hk hl hB k => B_callN (As := []) (rest := st) dX11_init_87 lX11_60 rfl rfl (by rw [hk]; decide) (by decide) hl (Nat.le_of_ble_eq_true rfl) hB k
theorem rwX11_init_90 : rOK 11 90 8 11 8 (0) := fun G ls st S d kc ks Q x r hk k => B_putF dX11_init_90 fX11_61 rfl (fun q h => by cases h; rfl) rfl hk k
theorem rwX11_init_93 : rOK 11 93 0 0 0 (0) := fun G ls st S d kc ks Q x h k => B_aload_n dX11_init_93 h k
set_option maxRecDepth 100000 in
theorem rwX11_init_94 : rOK 11 94 4 0 7 (0) := fun G ls st S d kc ks Q k => B_new (k := 0) (idx := 65) dX11_init_94 nX11_65 k
theorem rwX11_init_97 : rOK 11 97 3 0 0 (0) := fun G ls st S d kc ks Q x k => B_dup dX11_init_97 rfl k
theorem rwX11_init_98 : rOK 11 98 18 0 0 (0) := fun G ls st S d kc ks Q r kc2 ks2 Q2 hk hl hB k => B_callN (As := []) (rest := st) dX11_init_98 lX11_67 rfl rfl (by rw [hk]; decide) (by decide) hl (Nat.le_of_ble_eq_true rfl) hB k
theorem rwX11_init_101 : rOK 11 101 8 11 9 (0) := fun G ls st S d kc ks Q x r hk k => B_putF dX11_init_101 fX11_68 rfl (fun q h => by cases h; rfl) rfl hk k
theorem rwX11_init_104 : rOK 11 104 0 0 0 (0) := fun G ls st S d kc ks Q x h k => B_aload_n dX11_init_104 h k
theorem rwX11_init_105 : rOK 11 105 2 0 2 (10) := fun G ls st S d kc ks Q k => B_bipush dX11_init_105 (by decide) k
theorem rwX11_init_107 : rOK 11 107 5 13 2 (0) := fun G ls st S d kc ks Q x h1 h2 k => B_newa dX11_init_107 (Or.inl ⟨rfl, rfl⟩) arc_int h1 h2 k
theorem rwX11_init_109 : rOK 11 109 8 11 10 (0) := fun G ls st S d kc ks Q x r hk k => B_putF dX11_init_109 fX11_72 rfl (fun q h => by cases h; rfl) rfl hk k
theorem rwX11_init_112 : rOK 11 112 2 0 1 (0) := fun G ls st S d kc ks Q k => B_iconst dX11_init_112 (by decide) k
theorem rwX11_init_113 : rOK 11 113 21 1 0 (0) := fun G ls st S d kc ks Q x k => B_istore_n dX11_init_113 (by decide) k
theorem rwX11_init_114 : rOK 11 114 1 1 0 (0) := fun G ls st S d kc ks Q x h k => B_iload_n dX11_init_114 h k
theorem rwX11_init_115 : rOK 11 115 2 0 1 (3) := fun G ls st S d kc ks Q k => B_iconst dX11_init_115 (by decide) k
theorem rwX11_init_116 : rOK 11 116 16 138 0 (0) := fun G ls st S d kc ks Q x y kt kf => B_icmp_ge (tgt := 138) dX11_init_116 (by decide) kt kf
theorem rwX11_init_119 : rOK 11 119 0 0 0 (0) := fun G ls st S d kc ks Q x h k => B_aload_n dX11_init_119 h k
theorem rwX11_init_120 : rOK 11 120 10 11 1 (0) := fun G ls st S d kc ks Q x r hk hr k => B_getR dX11_init_120 fX11_16 rfl hk hr k
theorem rwX11_init_123 : rOK 11 123 1 1 0 (0) := fun G ls st S d kc ks Q x h k => B_iload_n dX11_init_123 h k
set_option maxRecDepth 100000 in
theorem rwX11_init_124 : rOK 11 124 4 8 9 (0) := fun G ls st S d kc ks Q k => B_new (k := 8) (idx := 7) dX11_init_124 nX11_7 k
theorem rwX11_init_127 : rOK 11 127 3 0 0 (0) := fun G ls st S d kc ks Q x k => B_dup dX11_init_127 rfl k
theorem rwX11_init_128 : rOK 11 128 18 8 8 (0) := fun G ls st S d kc ks Q r kc2 ks2 Q2 hk hl hB k => B_callI (As := []) (rest := st) dX11_init_128 lX11_9 rfl rfl (by rw [hk]; decide) (by decide) hl (Nat.le_of_ble_eq_true rfl) hB k
theorem rwX11_init_131 : rOK 11 131 12 21 8 (0) := fun G ls st S d kc ks Q x r i hk hx h1 h2 k => B_aast dX11_init_131 hk (by decide) (by decide) hx rfl rfl h1 h2 k
theorem rwX11_init_132 : rOK 11 132 13 1 0 (1) := fun G ls st S d kc ks Q x h k => B_iinc dX11_init_132 h (by decide) k
theorem rwX11_init_135 : rOK 11 135 15 114 0 (0) := fun G ls st S d kc ks Q k => B_goto (tgt := 114) dX11_init_135 (by decide) k
theorem rwX11_init_138 : rOK 11 138 2 0 1 (0) := fun G ls st S d kc ks Q k => B_iconst dX11_init_138 (by decide) k
theorem rwX11_init_139 : rOK 11 139 21 1 0 (0) := fun G ls st S d kc ks Q x k => B_istore_n dX11_init_139 (by decide) k
theorem rwX11_init_140 : rOK 11 140 1 1 0 (0) := fun G ls st S d kc ks Q x h k => B_iload_n dX11_init_140 h k
theorem rwX11_init_141 : rOK 11 141 2 0 1 (2) := fun G ls st S d kc ks Q k => B_iconst dX11_init_141 (by decide) k
theorem rwX11_init_142 : rOK 11 142 16 164 0 (0) := fun G ls st S d kc ks Q x y kt kf => B_icmp_ge (tgt := 164) dX11_init_142 (by decide) kt kf
theorem rwX11_init_145 : rOK 11 145 0 0 0 (0) := fun G ls st S d kc ks Q x h k => B_aload_n dX11_init_145 h k
theorem rwX11_init_146 : rOK 11 146 10 11 6 (0) := fun G ls st S d kc ks Q x r hk hr k => B_getR dX11_init_146 fX11_47 rfl hk hr k
theorem rwX11_init_149 : rOK 11 149 1 1 0 (0) := fun G ls st S d kc ks Q x h k => B_iload_n dX11_init_149 h k
set_option maxRecDepth 100000 in
theorem rwX11_init_150 : rOK 11 150 4 2 10 (0) := fun G ls st S d kc ks Q k => B_new (k := 2) (idx := 45) dX11_init_150 nX11_45 k
theorem rwX11_init_153 : rOK 11 153 3 0 0 (0) := fun G ls st S d kc ks Q x k => B_dup dX11_init_153 rfl k
theorem rwX11_init_154 : rOK 11 154 18 2 2 (0) := fun G ls st S d kc ks Q r kc2 ks2 Q2 hk hl hB k => B_callN (As := []) (rest := st) dX11_init_154 lX11_76 rfl rfl (by rw [hk]; decide) (by decide) hl (Nat.le_of_ble_eq_true rfl) hB k
theorem rwX11_init_157 : rOK 11 157 12 22 2 (0) := fun G ls st S d kc ks Q x r i hk hx h1 h2 k => B_aast dX11_init_157 hk (by decide) (by decide) hx rfl rfl h1 h2 k
theorem rwX11_init_158 : rOK 11 158 13 1 0 (1) := fun G ls st S d kc ks Q x h k => B_iinc dX11_init_158 h (by decide) k
theorem rwX11_init_161 : rOK 11 161 15 140 0 (0) := fun G ls st S d kc ks Q k => B_goto (tgt := 140) dX11_init_161 (by decide) k
theorem rwX11_init_164 : rOK 11 164 20 0 0 (0) := fun G ls st S d kc ks Q h hq => by subst h; exact B_return dX11_init_164 rfl hq
def tK11 : List Row := [(0, 0, 0, 0, 0), (1, 17, 0, 0, 0), (4, 0, 0, 0, 0), (5, 4, 8, 9, 0), (8, 3, 0, 0, 0), (9, 18, 8, 8, 0), (12, 8, 11, 0, 0), (15, 0, 0, 0, 0), (16, 2, 0, 1, 3), (17, 5, 21, 3, 0), (20, 8, 11, 1, 0), (23, 0, 0, 0, 0), (24, 2, 0, 1, 3), (25, 5, 15, 2, 0), (27, 8, 11, 2, 0), (30, 0, 0, 0, 0), (31, 4, 5, 15, 0), (34, 3, 0, 0, 0), (35, 18, 5, 5, 0), (38, 8, 11, 3, 0), (41, 0, 0, 0, 0), (42, 4, 6, 2, 0), (45, 3, 0, 0, 0), (46, 18, 6, 6, 0), (49, 8, 11, 4, 0), (52, 0, 0, 0, 0), (53, 4, 1, 6, 0), (56, 3, 0, 0, 0), (57, 18, 1, 1, 0), (60, 8, 11, 5, 0), (63, 0, 0, 0, 0), (64, 2, 0, 1, 2), (65, 5, 22, 3, 0), (68, 8, 11, 6, 0), (71, 0, 0, 0, 0), (72, 4, 3, 3, 0), (75, 3, 0, 0, 0), (76, 18, 3, 3, 0), (79, 8, 11, 7, 0), (82, 0, 0, 0, 0), (83, 4, 7, 2, 0), (86, 3, 0, 0, 0), (87, 18, 7, 7, 0), (90, 8, 11, 8, 0), (93, 0, 0, 0, 0), (94, 4, 0, 7, 0), (97, 3, 0, 0, 0), (98, 18, 0, 0, 0), (101, 8, 11, 9, 0), (104, 0, 0, 0, 0), (105, 2, 0, 2, 10), (107, 5, 13, 2, 0), (109, 8, 11, 10, 0), (112, 2, 0, 1, 0), (113, 21, 1, 0, 0), (114, 1, 1, 0, 0), (115, 2, 0, 1, 3), (116, 16, 138, 0, 0), (119, 0, 0, 0, 0), (120, 10, 11, 1, 0), (123, 1, 1, 0, 0), (124, 4, 8, 9, 0), (127, 3, 0, 0, 0), (128, 18, 8, 8, 0), (131, 12, 21, 8, 0), (132, 13, 1, 0, 1), (135, 15, 114, 0, 0), (138, 2, 0, 1, 0), (139, 21, 1, 0, 0), (140, 1, 1, 0, 0), (141, 2, 0, 1, 2), (142, 16, 164, 0, 0), (145, 0, 0, 0, 0), (146, 10, 11, 6, 0), (149, 1, 1, 0, 0), (150, 4, 2, 10, 0), (153, 3, 0, 0, 0), (154, 18, 2, 2, 0), (157, 12, 22, 2, 0), (158, 13, 1, 0, 1), (161, 15, 140, 0, 0), (164, 20, 0, 0, 0)]
theorem rK11 : ∀ r ∈ tK11, rOK 11 r.1 r.2.1 r.2.2.1 r.2.2.2.1 r.2.2.2.2 := by
  unfold tK11
  refine List.forall_mem_cons.2 ⟨rwX11_init_0, ?_⟩
  refine List.forall_mem_cons.2 ⟨rwX11_init_1, ?_⟩
  refine List.forall_mem_cons.2 ⟨rwX11_init_4, ?_⟩
  refine List.forall_mem_cons.2 ⟨rwX11_init_5, ?_⟩
  refine List.forall_mem_cons.2 ⟨rwX11_init_8, ?_⟩
  refine List.forall_mem_cons.2 ⟨rwX11_init_9, ?_⟩
  refine List.forall_mem_cons.2 ⟨rwX11_init_12, ?_⟩
  refine List.forall_mem_cons.2 ⟨rwX11_init_15, ?_⟩
  refine List.forall_mem_cons.2 ⟨rwX11_init_16, ?_⟩
  refine List.forall_mem_cons.2 ⟨rwX11_init_17, ?_⟩
  refine List.forall_mem_cons.2 ⟨rwX11_init_20, ?_⟩
  refine List.forall_mem_cons.2 ⟨rwX11_init_23, ?_⟩
  refine List.forall_mem_cons.2 ⟨rwX11_init_24, ?_⟩
  refine List.forall_mem_cons.2 ⟨rwX11_init_25, ?_⟩
  refine List.forall_mem_cons.2 ⟨rwX11_init_27, ?_⟩
  refine List.forall_mem_cons.2 ⟨rwX11_init_30, ?_⟩
  refine List.forall_mem_cons.2 ⟨rwX11_init_31, ?_⟩
  refine List.forall_mem_cons.2 ⟨rwX11_init_34, ?_⟩
  refine List.forall_mem_cons.2 ⟨rwX11_init_35, ?_⟩
  refine List.forall_mem_cons.2 ⟨rwX11_init_38, ?_⟩
  refine List.forall_mem_cons.2 ⟨rwX11_init_41, ?_⟩
  refine List.forall_mem_cons.2 ⟨rwX11_init_42, ?_⟩
  refine List.forall_mem_cons.2 ⟨rwX11_init_45, ?_⟩
  refine List.forall_mem_cons.2 ⟨rwX11_init_46, ?_⟩
  refine List.forall_mem_cons.2 ⟨rwX11_init_49, ?_⟩
  refine List.forall_mem_cons.2 ⟨rwX11_init_52, ?_⟩
  refine List.forall_mem_cons.2 ⟨rwX11_init_53, ?_⟩
  refine List.forall_mem_cons.2 ⟨rwX11_init_56, ?_⟩
  refine List.forall_mem_cons.2 ⟨rwX11_init_57, ?_⟩
  refine List.forall_mem_cons.2 ⟨rwX11_init_60, ?_⟩
  refine List.forall_mem_cons.2 ⟨rwX11_init_63, ?_⟩
  refine List.forall_mem_cons.2 ⟨rwX11_init_64, ?_⟩
  refine List.forall_mem_cons.2 ⟨rwX11_init_65, ?_⟩
  refine List.forall_mem_cons.2 ⟨rwX11_init_68, ?_⟩
  refine List.forall_mem_cons.2 ⟨rwX11_init_71, ?_⟩
  refine List.forall_mem_cons.2 ⟨rwX11_init_72, ?_⟩
  refine List.forall_mem_cons.2 ⟨rwX11_init_75, ?_⟩
  refine List.forall_mem_cons.2 ⟨rwX11_init_76, ?_⟩
  refine List.forall_mem_cons.2 ⟨rwX11_init_79, ?_⟩
  refine List.forall_mem_cons.2 ⟨rwX11_init_82, ?_⟩
  refine List.forall_mem_cons.2 ⟨rwX11_init_83, ?_⟩
  refine List.forall_mem_cons.2 ⟨rwX11_init_86, ?_⟩
  refine List.forall_mem_cons.2 ⟨rwX11_init_87, ?_⟩
  refine List.forall_mem_cons.2 ⟨rwX11_init_90, ?_⟩
  refine List.forall_mem_cons.2 ⟨rwX11_init_93, ?_⟩
  refine List.forall_mem_cons.2 ⟨rwX11_init_94, ?_⟩
  refine List.forall_mem_cons.2 ⟨rwX11_init_97, ?_⟩
  refine List.forall_mem_cons.2 ⟨rwX11_init_98, ?_⟩
  refine List.forall_mem_cons.2 ⟨rwX11_init_101, ?_⟩
  refine List.forall_mem_cons.2 ⟨rwX11_init_104, ?_⟩
  refine List.forall_mem_cons.2 ⟨rwX11_init_105, ?_⟩
  refine List.forall_mem_cons.2 ⟨rwX11_init_107, ?_⟩
  refine List.forall_mem_cons.2 ⟨rwX11_init_109, ?_⟩
  refine List.forall_mem_cons.2 ⟨rwX11_init_112, ?_⟩
  refine List.forall_mem_cons.2 ⟨rwX11_init_113, ?_⟩
  refine List.forall_mem_cons.2 ⟨rwX11_init_114, ?_⟩
  refine List.forall_mem_cons.2 ⟨rwX11_init_115, ?_⟩
  refine List.forall_mem_cons.2 ⟨rwX11_init_116, ?_⟩
  refine List.forall_mem_cons.2 ⟨rwX11_init_119, ?_⟩
  refine List.forall_mem_cons.2 ⟨rwX11_init_120, ?_⟩
  refine List.forall_mem_cons.2 ⟨rwX11_init_123, ?_⟩
  refine List.forall_mem_cons.2 ⟨rwX11_init_124, ?_⟩
  refine List.forall_mem_cons.2 ⟨rwX11_init_127, ?_⟩
  refine List.forall_mem_cons.2 ⟨rwX11_init_128, ?_⟩
  refine List.forall_mem_cons.2 ⟨rwX11_init_131, ?_⟩
  refine List.forall_mem_cons.2 ⟨rwX11_init_132, ?_⟩
  refine List.forall_mem_cons.2 ⟨rwX11_init_135, ?_⟩
  refine List.forall_mem_cons.2 ⟨rwX11_init_138, ?_⟩
  refine List.forall_mem_cons.2 ⟨rwX11_init_139, ?_⟩
  refine List.forall_mem_cons.2 ⟨rwX11_init_140, ?_⟩
  refine List.forall_mem_cons.2 ⟨rwX11_init_141, ?_⟩
  refine List.forall_mem_cons.2 ⟨rwX11_init_142, ?_⟩
  refine List.forall_mem_cons.2 ⟨rwX11_init_145, ?_⟩
  refine List.forall_mem_cons.2 ⟨rwX11_init_146, ?_⟩
  refine List.forall_mem_cons.2 ⟨rwX11_init_149, ?_⟩
  refine List.forall_mem_cons.2 ⟨rwX11_init_150, ?_⟩
  refine List.forall_mem_cons.2 ⟨rwX11_init_153, ?_⟩
  refine List.forall_mem_cons.2 ⟨rwX11_init_154, ?_⟩
  refine List.forall_mem_cons.2 ⟨rwX11_init_157, ?_⟩
  refine List.forall_mem_cons.2 ⟨rwX11_init_158, ?_⟩
  refine List.forall_mem_cons.2 ⟨rwX11_init_161, ?_⟩
  refine List.forall_mem_cons.2 ⟨rwX11_init_164, ?_⟩
  exact fun r h => absurd h (List.not_mem_nil)
theorem rwX12_init_0 : rOK 12 0 0 0 0 (0) := fun G ls st S d kc ks Q x h k => B_aload_n dX12_init_0 h k
theorem rwX12_init_1 : rOK 12 1 17 0 0 (0) := fun G ls st S d kc ks Q r hk hl k => B_obj dX12_init_1 lX12_1 (by decide) hk hl k
theorem rwX12_init_4 : rOK 12 4 0 0 0 (0) := fun G ls st S d kc ks Q x h k => B_aload_n dX12_init_4 h k
theorem rwX12_init_5 : rOK 12 5 2 0 3 (3736) := fun G ls st S d kc ks Q k => B_sipush dX12_init_5 (by decide) k
theorem rwX12_init_8 : rOK 12 8 5 13 2 (0) := fun G ls st S d kc ks Q x h1 h2 k => B_newa dX12_init_8 (Or.inl ⟨rfl, rfl⟩) arc_int h1 h2 k
theorem rwX12_init_10 : rOK 12 10 8 12 0 (0) := fun G ls st S d kc ks Q x r hk k => B_putF dX12_init_10 fX12_7 rfl (fun q h => by cases h; rfl) rfl hk k
theorem rwX12_init_13 : rOK 12 13 0 0 0 (0) := fun G ls st S d kc ks Q x h k => B_aload_n dX12_init_13 h k
theorem rwX12_init_14 : rOK 12 14 2 0 1 (3) := fun G ls st S d kc ks Q k => B_iconst dX12_init_14 (by decide) k
theorem rwX12_init_15 : rOK 12 15 5 15 2 (0) := fun G ls st S d kc ks Q x h1 h2 k => B_newa dX12_init_15 (Or.inr (Or.inr (Or.inl ⟨rfl, rfl⟩))) arc_boolean h1 h2 k
theorem rwX12_init_17 : rOK 12 17 8 12 1 (0) := fun G ls st S d kc ks Q x r hk k => B_putF dX12_init_17 fX12_13 rfl (fun q h => by cases h; rfl) rfl hk k
theorem rwX12_init_20 : rOK 12 20 0 0 0 (0) := fun G ls st S d kc ks Q x h k => B_aload_n dX12_init_20 h k
theorem rwX12_init_21 : rOK 12 21 2 0 2 (89) := fun G ls st S d kc ks Q k => B_bipush dX12_init_21 (by decide) k
theorem rwX12_init_23 : rOK 12 23 5 13 2 (0) := fun G ls st S d kc ks Q x h1 h2 k => B_newa dX12_init_23 (Or.inl ⟨rfl, rfl⟩) arc_int h1 h2 k
theorem rwX12_init_25 : rOK 12 25 8 12 9 (0) := fun G ls st S d kc ks Q x r hk k => B_putF dX12_init_25 fX12_17 rfl (fun q h => by cases h; rfl) rfl hk k
theorem rwX12_init_28 : rOK 12 28 0 0 0 (0) := fun G ls st S d kc ks Q x h k => B_aload_n dX12_init_28 h k
theorem rwX12_init_29 : rOK 12 29 2 0 2 (24) := fun G ls st S d kc ks Q k => B_bipush dX12_init_29 (by decide) k
theorem rwX12_init_31 : rOK 12 31 5 13 2 (0) := fun G ls st S d kc ks Q x h1 h2 k => B_newa dX12_init_31 (Or.inl ⟨rfl, rfl⟩) arc_int h1 h2 k
theorem rwX12_init_33 : rOK 12 33 8 12 12 (0) := fun G ls st S d kc ks Q x r hk k => B_putF dX12_init_33 fX12_20 rfl (fun q h => by cases h; rfl) rfl hk k
theorem rwX12_init_36 : rOK 12 36 0 0 0 (0) := fun G ls st S d kc ks Q x h k => B_aload_n dX12_init_36 h k
theorem rwX12_init_37 : rOK 12 37 2 0 1 (2) := fun G ls st S d kc ks Q k => B_iconst dX12_init_37 (by decide) k
theorem rwX12_init_38 : rOK 12 38 5 13 2 (0) := fun G ls st S d kc ks Q x h1 h2 k => B_newa dX12_init_38 (Or.inl ⟨rfl, rfl⟩) arc_int h1 h2 k
theorem rwX12_init_40 : rOK 12 40 8 12 13 (0) := fun G ls st S d kc ks Q x r hk k => B_putF dX12_init_40 fX12_23 rfl (fun q h => by cases h; rfl) rfl hk k
theorem rwX12_init_43 : rOK 12 43 0 0 0 (0) := fun G ls st S d kc ks Q x h k => B_aload_n dX12_init_43 h k
theorem rwX12_init_44 : rOK 12 44 2 0 2 (24) := fun G ls st S d kc ks Q k => B_bipush dX12_init_44 (by decide) k
theorem rwX12_init_46 : rOK 12 46 5 13 2 (0) := fun G ls st S d kc ks Q x h1 h2 k => B_newa dX12_init_46 (Or.inl ⟨rfl, rfl⟩) arc_int h1 h2 k
theorem rwX12_init_48 : rOK 12 48 8 12 14 (0) := fun G ls st S d kc ks Q x r hk k => B_putF dX12_init_48 fX12_26 rfl (fun q h => by cases h; rfl) rfl hk k
theorem rwX12_init_51 : rOK 12 51 0 0 0 (0) := fun G ls st S d kc ks Q x h k => B_aload_n dX12_init_51 h k
theorem rwX12_init_52 : rOK 12 52 2 0 2 (24) := fun G ls st S d kc ks Q k => B_bipush dX12_init_52 (by decide) k
theorem rwX12_init_54 : rOK 12 54 5 13 2 (0) := fun G ls st S d kc ks Q x h1 h2 k => B_newa dX12_init_54 (Or.inl ⟨rfl, rfl⟩) arc_int h1 h2 k
theorem rwX12_init_56 : rOK 12 56 8 12 15 (0) := fun G ls st S d kc ks Q x r hk k => B_putF dX12_init_56 fX12_29 rfl (fun q h => by cases h; rfl) rfl hk k
theorem rwX12_init_59 : rOK 12 59 0 0 0 (0) := fun G ls st S d kc ks Q x h k => B_aload_n dX12_init_59 h k
theorem rwX12_init_60 : rOK 12 60 2 0 2 (24) := fun G ls st S d kc ks Q k => B_bipush dX12_init_60 (by decide) k
theorem rwX12_init_62 : rOK 12 62 5 13 2 (0) := fun G ls st S d kc ks Q x h1 h2 k => B_newa dX12_init_62 (Or.inl ⟨rfl, rfl⟩) arc_int h1 h2 k
theorem rwX12_init_64 : rOK 12 64 8 12 16 (0) := fun G ls st S d kc ks Q x r hk k => B_putF dX12_init_64 fX12_32 rfl (fun q h => by cases h; rfl) rfl hk k
theorem rwX12_init_67 : rOK 12 67 0 0 0 (0) := fun G ls st S d kc ks Q x h k => B_aload_n dX12_init_67 h k
theorem rwX12_init_68 : rOK 12 68 2 0 2 (24) := fun G ls st S d kc ks Q k => B_bipush dX12_init_68 (by decide) k
theorem rwX12_init_70 : rOK 12 70 5 15 2 (0) := fun G ls st S d kc ks Q x h1 h2 k => B_newa dX12_init_70 (Or.inr (Or.inr (Or.inl ⟨rfl, rfl⟩))) arc_boolean h1 h2 k
theorem rwX12_init_72 : rOK 12 72 8 12 17 (0) := fun G ls st S d kc ks Q x r hk k => B_putF dX12_init_72 fX12_35 rfl (fun q h => by cases h; rfl) rfl hk k
theorem rwX12_init_75 : rOK 12 75 0 0 0 (0) := fun G ls st S d kc ks Q x h k => B_aload_n dX12_init_75 h k
theorem rwX12_init_76 : rOK 12 76 2 0 2 (48) := fun G ls st S d kc ks Q k => B_bipush dX12_init_76 (by decide) k
theorem rwX12_init_78 : rOK 12 78 5 13 2 (0) := fun G ls st S d kc ks Q x h1 h2 k => B_newa dX12_init_78 (Or.inl ⟨rfl, rfl⟩) arc_int h1 h2 k
theorem rwX12_init_80 : rOK 12 80 8 12 19 (0) := fun G ls st S d kc ks Q x r hk k => B_putF dX12_init_80 fX12_38 rfl (fun q h => by cases h; rfl) rfl hk k
theorem rwX12_init_83 : rOK 12 83 0 0 0 (0) := fun G ls st S d kc ks Q x h k => B_aload_n dX12_init_83 h k
theorem rwX12_init_84 : rOK 12 84 2 0 2 (48) := fun G ls st S d kc ks Q k => B_bipush dX12_init_84 (by decide) k
theorem rwX12_init_86 : rOK 12 86 5 13 2 (0) := fun G ls st S d kc ks Q x h1 h2 k => B_newa dX12_init_86 (Or.inl ⟨rfl, rfl⟩) arc_int h1 h2 k
theorem rwX12_init_88 : rOK 12 88 8 12 20 (0) := fun G ls st S d kc ks Q x r hk k => B_putF dX12_init_88 fX12_41 rfl (fun q h => by cases h; rfl) rfl hk k
theorem rwX12_init_91 : rOK 12 91 0 0 0 (0) := fun G ls st S d kc ks Q x h k => B_aload_n dX12_init_91 h k
theorem rwX12_init_92 : rOK 12 92 2 0 2 (48) := fun G ls st S d kc ks Q k => B_bipush dX12_init_92 (by decide) k
theorem rwX12_init_94 : rOK 12 94 5 13 2 (0) := fun G ls st S d kc ks Q x h1 h2 k => B_newa dX12_init_94 (Or.inl ⟨rfl, rfl⟩) arc_int h1 h2 k
theorem rwX12_init_96 : rOK 12 96 8 12 21 (0) := fun G ls st S d kc ks Q x r hk k => B_putF dX12_init_96 fX12_44 rfl (fun q h => by cases h; rfl) rfl hk k
theorem rwX12_init_99 : rOK 12 99 0 0 0 (0) := fun G ls st S d kc ks Q x h k => B_aload_n dX12_init_99 h k
theorem rwX12_init_100 : rOK 12 100 2 0 1 (2) := fun G ls st S d kc ks Q k => B_iconst dX12_init_100 (by decide) k
theorem rwX12_init_101 : rOK 12 101 5 13 2 (0) := fun G ls st S d kc ks Q x h1 h2 k => B_newa dX12_init_101 (Or.inl ⟨rfl, rfl⟩) arc_int h1 h2 k
theorem rwX12_init_103 : rOK 12 103 8 12 22 (0) := fun G ls st S d kc ks Q x r hk k => B_putF dX12_init_103 fX12_47 rfl (fun q h => by cases h; rfl) rfl hk k
theorem rwX12_init_106 : rOK 12 106 0 0 0 (0) := fun G ls st S d kc ks Q x h k => B_aload_n dX12_init_106 h k
theorem rwX12_init_107 : rOK 12 107 2 0 1 (2) := fun G ls st S d kc ks Q k => B_iconst dX12_init_107 (by decide) k
theorem rwX12_init_108 : rOK 12 108 5 13 2 (0) := fun G ls st S d kc ks Q x h1 h2 k => B_newa dX12_init_108 (Or.inl ⟨rfl, rfl⟩) arc_int h1 h2 k
theorem rwX12_init_110 : rOK 12 110 8 12 23 (0) := fun G ls st S d kc ks Q x r hk k => B_putF dX12_init_110 fX12_50 rfl (fun q h => by cases h; rfl) rfl hk k
theorem rwX12_init_113 : rOK 12 113 0 0 0 (0) := fun G ls st S d kc ks Q x h k => B_aload_n dX12_init_113 h k
theorem rwX12_init_114 : rOK 12 114 2 0 1 (2) := fun G ls st S d kc ks Q k => B_iconst dX12_init_114 (by decide) k
theorem rwX12_init_115 : rOK 12 115 5 13 2 (0) := fun G ls st S d kc ks Q x h1 h2 k => B_newa dX12_init_115 (Or.inl ⟨rfl, rfl⟩) arc_int h1 h2 k
theorem rwX12_init_117 : rOK 12 117 8 12 24 (0) := fun G ls st S d kc ks Q x r hk k => B_putF dX12_init_117 fX12_53 rfl (fun q h => by cases h; rfl) rfl hk k
theorem rwX12_init_120 : rOK 12 120 0 0 0 (0) := fun G ls st S d kc ks Q x h k => B_aload_n dX12_init_120 h k
theorem rwX12_init_121 : rOK 12 121 2 0 2 (64) := fun G ls st S d kc ks Q k => B_bipush dX12_init_121 (by decide) k
theorem rwX12_init_123 : rOK 12 123 5 13 2 (0) := fun G ls st S d kc ks Q x h1 h2 k => B_newa dX12_init_123 (Or.inl ⟨rfl, rfl⟩) arc_int h1 h2 k
theorem rwX12_init_125 : rOK 12 125 8 12 26 (0) := fun G ls st S d kc ks Q x r hk k => B_putF dX12_init_125 fX12_56 rfl (fun q h => by cases h; rfl) rfl hk k
theorem rwX12_init_128 : rOK 12 128 0 0 0 (0) := fun G ls st S d kc ks Q x h k => B_aload_n dX12_init_128 h k
theorem rwX12_init_129 : rOK 12 129 2 0 2 (64) := fun G ls st S d kc ks Q k => B_bipush dX12_init_129 (by decide) k
theorem rwX12_init_131 : rOK 12 131 5 13 2 (0) := fun G ls st S d kc ks Q x h1 h2 k => B_newa dX12_init_131 (Or.inl ⟨rfl, rfl⟩) arc_int h1 h2 k
theorem rwX12_init_133 : rOK 12 133 8 12 27 (0) := fun G ls st S d kc ks Q x r hk k => B_putF dX12_init_133 fX12_59 rfl (fun q h => by cases h; rfl) rfl hk k
theorem rwX12_init_136 : rOK 12 136 0 0 0 (0) := fun G ls st S d kc ks Q x h k => B_aload_n dX12_init_136 h k
theorem rwX12_init_137 : rOK 12 137 2 0 2 (65) := fun G ls st S d kc ks Q k => B_bipush dX12_init_137 (by decide) k
theorem rwX12_init_139 : rOK 12 139 5 13 2 (0) := fun G ls st S d kc ks Q x h1 h2 k => B_newa dX12_init_139 (Or.inl ⟨rfl, rfl⟩) arc_int h1 h2 k
theorem rwX12_init_141 : rOK 12 141 8 12 28 (0) := fun G ls st S d kc ks Q x r hk k => B_putF dX12_init_141 fX12_62 rfl (fun q h => by cases h; rfl) rfl hk k
theorem rwX12_init_144 : rOK 12 144 0 0 0 (0) := fun G ls st S d kc ks Q x h k => B_aload_n dX12_init_144 h k
theorem rwX12_init_145 : rOK 12 145 2 0 3 (480) := fun G ls st S d kc ks Q k => B_sipush dX12_init_145 (by decide) k
theorem rwX12_init_148 : rOK 12 148 5 13 2 (0) := fun G ls st S d kc ks Q x h1 h2 k => B_newa dX12_init_148 (Or.inl ⟨rfl, rfl⟩) arc_int h1 h2 k
theorem rwX12_init_150 : rOK 12 150 8 12 30 (0) := fun G ls st S d kc ks Q x r hk k => B_putF dX12_init_150 fX12_65 rfl (fun q h => by cases h; rfl) rfl hk k
theorem rwX12_init_153 : rOK 12 153 0 0 0 (0) := fun G ls st S d kc ks Q x h k => B_aload_n dX12_init_153 h k
theorem rwX12_init_154 : rOK 12 154 2 0 2 (8) := fun G ls st S d kc ks Q k => B_bipush dX12_init_154 (by decide) k
theorem rwX12_init_156 : rOK 12 156 5 13 2 (0) := fun G ls st S d kc ks Q x h1 h2 k => B_newa dX12_init_156 (Or.inl ⟨rfl, rfl⟩) arc_int h1 h2 k
theorem rwX12_init_158 : rOK 12 158 8 12 31 (0) := fun G ls st S d kc ks Q x r hk k => B_putF dX12_init_158 fX12_68 rfl (fun q h => by cases h; rfl) rfl hk k
theorem rwX12_init_161 : rOK 12 161 0 0 0 (0) := fun G ls st S d kc ks Q x h k => B_aload_n dX12_init_161 h k
theorem rwX12_init_162 : rOK 12 162 2 0 3 (128) := fun G ls st S d kc ks Q k => B_sipush dX12_init_162 (by decide) k
theorem rwX12_init_165 : rOK 12 165 5 13 2 (0) := fun G ls st S d kc ks Q x h1 h2 k => B_newa dX12_init_165 (Or.inl ⟨rfl, rfl⟩) arc_int h1 h2 k
theorem rwX12_init_167 : rOK 12 167 8 12 32 (0) := fun G ls st S d kc ks Q x r hk k => B_putF dX12_init_167 fX12_71 rfl (fun q h => by cases h; rfl) rfl hk k
theorem rwX12_init_170 : rOK 12 170 0 0 0 (0) := fun G ls st S d kc ks Q x h k => B_aload_n dX12_init_170 h k
theorem rwX12_init_171 : rOK 12 171 2 0 2 (10) := fun G ls st S d kc ks Q k => B_bipush dX12_init_171 (by decide) k
theorem rwX12_init_173 : rOK 12 173 5 13 2 (0) := fun G ls st S d kc ks Q x h1 h2 k => B_newa dX12_init_173 (Or.inl ⟨rfl, rfl⟩) arc_int h1 h2 k
theorem rwX12_init_175 : rOK 12 175 8 12 34 (0) := fun G ls st S d kc ks Q x r hk k => B_putF dX12_init_175 fX12_74 rfl (fun q h => by cases h; rfl) rfl hk k
theorem rwX12_init_178 : rOK 12 178 0 0 0 (0) := fun G ls st S d kc ks Q x h k => B_aload_n dX12_init_178 h k
theorem rwX12_init_179 : rOK 12 179 2 0 2 (25) := fun G ls st S d kc ks Q k => B_bipush dX12_init_179 (by decide) k
theorem rwX12_init_181 : rOK 12 181 5 16 2 (0) := fun G ls st S d kc ks Q x h1 h2 k => B_newa dX12_init_181 (Or.inr (Or.inr (Or.inr ⟨rfl, rfl⟩))) arc_long h1 h2 k
theorem rwX12_init_183 : rOK 12 183 8 12 35 (0) := fun G ls st S d kc ks Q x r hk k => B_putF dX12_init_183 fX12_77 rfl (fun q h => by cases h; rfl) rfl hk k
theorem rwX12_init_186 : rOK 12 186 0 0 0 (0) := fun G ls st S d kc ks Q x h k => B_aload_n dX12_init_186 h k
theorem rwX12_init_187 : rOK 12 187 2 0 2 (25) := fun G ls st S d kc ks Q k => B_bipush dX12_init_187 (by decide) k
theorem rwX12_init_189 : rOK 12 189 5 13 2 (0) := fun G ls st S d kc ks Q x h1 h2 k => B_newa dX12_init_189 (Or.inl ⟨rfl, rfl⟩) arc_int h1 h2 k
theorem rwX12_init_191 : rOK 12 191 8 12 36 (0) := fun G ls st S d kc ks Q x r hk k => B_putF dX12_init_191 fX12_81 rfl (fun q h => by cases h; rfl) rfl hk k
theorem rwX12_init_194 : rOK 12 194 0 0 0 (0) := fun G ls st S d kc ks Q x h k => B_aload_n dX12_init_194 h k
theorem rwX12_init_195 : rOK 12 195 2 0 2 (30) := fun G ls st S d kc ks Q k => B_bipush dX12_init_195 (by decide) k
theorem rwX12_init_197 : rOK 12 197 5 13 2 (0) := fun G ls st S d kc ks Q x h1 h2 k => B_newa dX12_init_197 (Or.inl ⟨rfl, rfl⟩) arc_int h1 h2 k
theorem rwX12_init_199 : rOK 12 199 8 12 37 (0) := fun G ls st S d kc ks Q x r hk k => B_putF dX12_init_199 fX12_84 rfl (fun q h => by cases h; rfl) rfl hk k
theorem rwX12_init_202 : rOK 12 202 0 0 0 (0) := fun G ls st S d kc ks Q x h k => B_aload_n dX12_init_202 h k
theorem rwX12_init_203 : rOK 12 203 10 12 0 (0) := fun G ls st S d kc ks Q x r hk hr k => B_getR dX12_init_203 fX12_7 rfl hk hr k
theorem rwX12_init_206 : rOK 12 206 2 0 2 (6) := fun G ls st S d kc ks Q k => B_bipush dX12_init_206 (by decide) k
theorem rwX12_init_208 : rOK 12 208 2 0 1 (-1) := fun G ls st S d kc ks Q k => B_iconst dX12_init_208 (by decide) k
theorem rwX12_init_209 : rOK 12 209 11 0 0 (0) := fun G ls st S d kc ks Q x i r hk h1 h2 k => B_iast dX12_init_209 hk h1 h2 k
theorem rwX12_init_210 : rOK 12 210 20 0 0 (0) := fun G ls st S d kc ks Q h hq => by subst h; exact B_return dX12_init_210 rfl hq
def tK12 : List Row := [(0, 0, 0, 0, 0), (1, 17, 0, 0, 0), (4, 0, 0, 0, 0), (5, 2, 0, 3, 3736), (8, 5, 13, 2, 0), (10, 8, 12, 0, 0), (13, 0, 0, 0, 0), (14, 2, 0, 1, 3), (15, 5, 15, 2, 0), (17, 8, 12, 1, 0), (20, 0, 0, 0, 0), (21, 2, 0, 2, 89), (23, 5, 13, 2, 0), (25, 8, 12, 9, 0), (28, 0, 0, 0, 0), (29, 2, 0, 2, 24), (31, 5, 13, 2, 0), (33, 8, 12, 12, 0), (36, 0, 0, 0, 0), (37, 2, 0, 1, 2), (38, 5, 13, 2, 0), (40, 8, 12, 13, 0), (43, 0, 0, 0, 0), (44, 2, 0, 2, 24), (46, 5, 13, 2, 0), (48, 8, 12, 14, 0), (51, 0, 0, 0, 0), (52, 2, 0, 2, 24), (54, 5, 13, 2, 0), (56, 8, 12, 15, 0), (59, 0, 0, 0, 0), (60, 2, 0, 2, 24), (62, 5, 13, 2, 0), (64, 8, 12, 16, 0), (67, 0, 0, 0, 0), (68, 2, 0, 2, 24), (70, 5, 15, 2, 0), (72, 8, 12, 17, 0), (75, 0, 0, 0, 0), (76, 2, 0, 2, 48), (78, 5, 13, 2, 0), (80, 8, 12, 19, 0), (83, 0, 0, 0, 0), (84, 2, 0, 2, 48), (86, 5, 13, 2, 0), (88, 8, 12, 20, 0), (91, 0, 0, 0, 0), (92, 2, 0, 2, 48), (94, 5, 13, 2, 0), (96, 8, 12, 21, 0), (99, 0, 0, 0, 0), (100, 2, 0, 1, 2), (101, 5, 13, 2, 0), (103, 8, 12, 22, 0), (106, 0, 0, 0, 0), (107, 2, 0, 1, 2), (108, 5, 13, 2, 0), (110, 8, 12, 23, 0), (113, 0, 0, 0, 0), (114, 2, 0, 1, 2), (115, 5, 13, 2, 0), (117, 8, 12, 24, 0), (120, 0, 0, 0, 0), (121, 2, 0, 2, 64), (123, 5, 13, 2, 0), (125, 8, 12, 26, 0), (128, 0, 0, 0, 0), (129, 2, 0, 2, 64), (131, 5, 13, 2, 0), (133, 8, 12, 27, 0), (136, 0, 0, 0, 0), (137, 2, 0, 2, 65), (139, 5, 13, 2, 0), (141, 8, 12, 28, 0), (144, 0, 0, 0, 0), (145, 2, 0, 3, 480), (148, 5, 13, 2, 0), (150, 8, 12, 30, 0), (153, 0, 0, 0, 0), (154, 2, 0, 2, 8), (156, 5, 13, 2, 0), (158, 8, 12, 31, 0), (161, 0, 0, 0, 0), (162, 2, 0, 3, 128), (165, 5, 13, 2, 0), (167, 8, 12, 32, 0), (170, 0, 0, 0, 0), (171, 2, 0, 2, 10), (173, 5, 13, 2, 0), (175, 8, 12, 34, 0), (178, 0, 0, 0, 0), (179, 2, 0, 2, 25), (181, 5, 16, 2, 0), (183, 8, 12, 35, 0), (186, 0, 0, 0, 0), (187, 2, 0, 2, 25), (189, 5, 13, 2, 0), (191, 8, 12, 36, 0), (194, 0, 0, 0, 0), (195, 2, 0, 2, 30), (197, 5, 13, 2, 0), (199, 8, 12, 37, 0), (202, 0, 0, 0, 0), (203, 10, 12, 0, 0), (206, 2, 0, 2, 6), (208, 2, 0, 1, (-1)), (209, 11, 0, 0, 0), (210, 20, 0, 0, 0)]
theorem rK12 : ∀ r ∈ tK12, rOK 12 r.1 r.2.1 r.2.2.1 r.2.2.2.1 r.2.2.2.2 := by
  unfold tK12
  refine List.forall_mem_cons.2 ⟨rwX12_init_0, ?_⟩
  refine List.forall_mem_cons.2 ⟨rwX12_init_1, ?_⟩
  refine List.forall_mem_cons.2 ⟨rwX12_init_4, ?_⟩
  refine List.forall_mem_cons.2 ⟨rwX12_init_5, ?_⟩
  refine List.forall_mem_cons.2 ⟨rwX12_init_8, ?_⟩
  refine List.forall_mem_cons.2 ⟨rwX12_init_10, ?_⟩
  refine List.forall_mem_cons.2 ⟨rwX12_init_13, ?_⟩
  refine List.forall_mem_cons.2 ⟨rwX12_init_14, ?_⟩
  refine List.forall_mem_cons.2 ⟨rwX12_init_15, ?_⟩
  refine List.forall_mem_cons.2 ⟨rwX12_init_17, ?_⟩
  refine List.forall_mem_cons.2 ⟨rwX12_init_20, ?_⟩
  refine List.forall_mem_cons.2 ⟨rwX12_init_21, ?_⟩
  refine List.forall_mem_cons.2 ⟨rwX12_init_23, ?_⟩
  refine List.forall_mem_cons.2 ⟨rwX12_init_25, ?_⟩
  refine List.forall_mem_cons.2 ⟨rwX12_init_28, ?_⟩
  refine List.forall_mem_cons.2 ⟨rwX12_init_29, ?_⟩
  refine List.forall_mem_cons.2 ⟨rwX12_init_31, ?_⟩
  refine List.forall_mem_cons.2 ⟨rwX12_init_33, ?_⟩
  refine List.forall_mem_cons.2 ⟨rwX12_init_36, ?_⟩
  refine List.forall_mem_cons.2 ⟨rwX12_init_37, ?_⟩
  refine List.forall_mem_cons.2 ⟨rwX12_init_38, ?_⟩
  refine List.forall_mem_cons.2 ⟨rwX12_init_40, ?_⟩
  refine List.forall_mem_cons.2 ⟨rwX12_init_43, ?_⟩
  refine List.forall_mem_cons.2 ⟨rwX12_init_44, ?_⟩
  refine List.forall_mem_cons.2 ⟨rwX12_init_46, ?_⟩
  refine List.forall_mem_cons.2 ⟨rwX12_init_48, ?_⟩
  refine List.forall_mem_cons.2 ⟨rwX12_init_51, ?_⟩
  refine List.forall_mem_cons.2 ⟨rwX12_init_52, ?_⟩
  refine List.forall_mem_cons.2 ⟨rwX12_init_54, ?_⟩
  refine List.forall_mem_cons.2 ⟨rwX12_init_56, ?_⟩
  refine List.forall_mem_cons.2 ⟨rwX12_init_59, ?_⟩
  refine List.forall_mem_cons.2 ⟨rwX12_init_60, ?_⟩
  refine List.forall_mem_cons.2 ⟨rwX12_init_62, ?_⟩
  refine List.forall_mem_cons.2 ⟨rwX12_init_64, ?_⟩
  refine List.forall_mem_cons.2 ⟨rwX12_init_67, ?_⟩
  refine List.forall_mem_cons.2 ⟨rwX12_init_68, ?_⟩
  refine List.forall_mem_cons.2 ⟨rwX12_init_70, ?_⟩
  refine List.forall_mem_cons.2 ⟨rwX12_init_72, ?_⟩
  refine List.forall_mem_cons.2 ⟨rwX12_init_75, ?_⟩
  refine List.forall_mem_cons.2 ⟨rwX12_init_76, ?_⟩
  refine List.forall_mem_cons.2 ⟨rwX12_init_78, ?_⟩
  refine List.forall_mem_cons.2 ⟨rwX12_init_80, ?_⟩
  refine List.forall_mem_cons.2 ⟨rwX12_init_83, ?_⟩
  refine List.forall_mem_cons.2 ⟨rwX12_init_84, ?_⟩
  refine List.forall_mem_cons.2 ⟨rwX12_init_86, ?_⟩
  refine List.forall_mem_cons.2 ⟨rwX12_init_88, ?_⟩
  refine List.forall_mem_cons.2 ⟨rwX12_init_91, ?_⟩
  refine List.forall_mem_cons.2 ⟨rwX12_init_92, ?_⟩
  refine List.forall_mem_cons.2 ⟨rwX12_init_94, ?_⟩
  refine List.forall_mem_cons.2 ⟨rwX12_init_96, ?_⟩
  refine List.forall_mem_cons.2 ⟨rwX12_init_99, ?_⟩
  refine List.forall_mem_cons.2 ⟨rwX12_init_100, ?_⟩
  refine List.forall_mem_cons.2 ⟨rwX12_init_101, ?_⟩
  refine List.forall_mem_cons.2 ⟨rwX12_init_103, ?_⟩
  refine List.forall_mem_cons.2 ⟨rwX12_init_106, ?_⟩
  refine List.forall_mem_cons.2 ⟨rwX12_init_107, ?_⟩
  refine List.forall_mem_cons.2 ⟨rwX12_init_108, ?_⟩
  refine List.forall_mem_cons.2 ⟨rwX12_init_110, ?_⟩
  refine List.forall_mem_cons.2 ⟨rwX12_init_113, ?_⟩
  refine List.forall_mem_cons.2 ⟨rwX12_init_114, ?_⟩
  refine List.forall_mem_cons.2 ⟨rwX12_init_115, ?_⟩
  refine List.forall_mem_cons.2 ⟨rwX12_init_117, ?_⟩
  refine List.forall_mem_cons.2 ⟨rwX12_init_120, ?_⟩
  refine List.forall_mem_cons.2 ⟨rwX12_init_121, ?_⟩
  refine List.forall_mem_cons.2 ⟨rwX12_init_123, ?_⟩
  refine List.forall_mem_cons.2 ⟨rwX12_init_125, ?_⟩
  refine List.forall_mem_cons.2 ⟨rwX12_init_128, ?_⟩
  refine List.forall_mem_cons.2 ⟨rwX12_init_129, ?_⟩
  refine List.forall_mem_cons.2 ⟨rwX12_init_131, ?_⟩
  refine List.forall_mem_cons.2 ⟨rwX12_init_133, ?_⟩
  refine List.forall_mem_cons.2 ⟨rwX12_init_136, ?_⟩
  refine List.forall_mem_cons.2 ⟨rwX12_init_137, ?_⟩
  refine List.forall_mem_cons.2 ⟨rwX12_init_139, ?_⟩
  refine List.forall_mem_cons.2 ⟨rwX12_init_141, ?_⟩
  refine List.forall_mem_cons.2 ⟨rwX12_init_144, ?_⟩
  refine List.forall_mem_cons.2 ⟨rwX12_init_145, ?_⟩
  refine List.forall_mem_cons.2 ⟨rwX12_init_148, ?_⟩
  refine List.forall_mem_cons.2 ⟨rwX12_init_150, ?_⟩
  refine List.forall_mem_cons.2 ⟨rwX12_init_153, ?_⟩
  refine List.forall_mem_cons.2 ⟨rwX12_init_154, ?_⟩
  refine List.forall_mem_cons.2 ⟨rwX12_init_156, ?_⟩
  refine List.forall_mem_cons.2 ⟨rwX12_init_158, ?_⟩
  refine List.forall_mem_cons.2 ⟨rwX12_init_161, ?_⟩
  refine List.forall_mem_cons.2 ⟨rwX12_init_162, ?_⟩
  refine List.forall_mem_cons.2 ⟨rwX12_init_165, ?_⟩
  refine List.forall_mem_cons.2 ⟨rwX12_init_167, ?_⟩
  refine List.forall_mem_cons.2 ⟨rwX12_init_170, ?_⟩
  refine List.forall_mem_cons.2 ⟨rwX12_init_171, ?_⟩
  refine List.forall_mem_cons.2 ⟨rwX12_init_173, ?_⟩
  refine List.forall_mem_cons.2 ⟨rwX12_init_175, ?_⟩
  refine List.forall_mem_cons.2 ⟨rwX12_init_178, ?_⟩
  refine List.forall_mem_cons.2 ⟨rwX12_init_179, ?_⟩
  refine List.forall_mem_cons.2 ⟨rwX12_init_181, ?_⟩
  refine List.forall_mem_cons.2 ⟨rwX12_init_183, ?_⟩
  refine List.forall_mem_cons.2 ⟨rwX12_init_186, ?_⟩
  refine List.forall_mem_cons.2 ⟨rwX12_init_187, ?_⟩
  refine List.forall_mem_cons.2 ⟨rwX12_init_189, ?_⟩
  refine List.forall_mem_cons.2 ⟨rwX12_init_191, ?_⟩
  refine List.forall_mem_cons.2 ⟨rwX12_init_194, ?_⟩
  refine List.forall_mem_cons.2 ⟨rwX12_init_195, ?_⟩
  refine List.forall_mem_cons.2 ⟨rwX12_init_197, ?_⟩
  refine List.forall_mem_cons.2 ⟨rwX12_init_199, ?_⟩
  refine List.forall_mem_cons.2 ⟨rwX12_init_202, ?_⟩
  refine List.forall_mem_cons.2 ⟨rwX12_init_203, ?_⟩
  refine List.forall_mem_cons.2 ⟨rwX12_init_206, ?_⟩
  refine List.forall_mem_cons.2 ⟨rwX12_init_208, ?_⟩
  refine List.forall_mem_cons.2 ⟨rwX12_init_209, ?_⟩
  refine List.forall_mem_cons.2 ⟨rwX12_init_210, ?_⟩
  exact fun r h => absurd h (List.not_mem_nil)
theorem rwX10_reset_0 : rOK 13 0 0 0 0 (0) := fun G ls st S d kc ks Q x h k => B_aload_n dX10_reset_0 h k
theorem rwX10_reset_1 : rOK 13 1 2 0 1 (1) := fun G ls st S d kc ks Q k => B_iconst dX10_reset_1 (by decide) k
theorem rwX10_reset_2 : rOK 13 2 9 10 0 (0) := fun G ls st S d kc ks Q x r hk k => B_putI dX10_reset_2 fX10_42 rfl hk k
theorem rwX10_reset_5 : rOK 13 5 0 0 0 (0) := fun G ls st S d kc ks Q x h k => B_aload_n dX10_reset_5 h k
theorem rwX10_reset_6 : rOK 13 6 2 0 1 (0) := fun G ls st S d kc ks Q k => B_iconst dX10_reset_6 (by decide) k
theorem rwX10_reset_7 : rOK 13 7 9 10 1 (0) := fun G ls st S d kc ks Q x r hk k => B_putI dX10_reset_7 fX10_46 rfl hk k
theorem rwX10_reset_10 : rOK 13 10 0 0 0 (0) := fun G ls st S d kc ks Q x h k => B_aload_n dX10_reset_10 h k
theorem rwX10_reset_11 : rOK 13 11 2 0 1 (0) := fun G ls st S d kc ks Q k => B_iconst dX10_reset_11 (by decide) k
theorem rwX10_reset_12 : rOK 13 12 9 10 2 (0) := fun G ls st S d kc ks Q x r hk k => B_putI dX10_reset_12 fX10_49 rfl hk k
theorem rwX10_reset_15 : rOK 13 15 2 0 1 (0) := fun G ls st S d kc ks Q k => B_iconst dX10_reset_15 (by decide) k
theorem rwX10_reset_16 : rOK 13 16 21 1 0 (0) := fun G ls st S d kc ks Q x k => B_istore_n dX10_reset_16 (by decide) k
theorem rwX10_reset_17 : rOK 13 17 1 1 0 (0) := fun G ls st S d kc ks Q x h k => B_iload_n dX10_reset_17 h k
theorem rwX10_reset_18 : rOK 13 18 2 0 1 (4) := fun G ls st S d kc ks Q k => B_iconst dX10_reset_18 (by decide) k
theorem rwX10_reset_19 : rOK 13 19 16 35 0 (0) := fun G ls st S d kc ks Q x y kt kf => B_icmp_ge (tgt := 35) dX10_reset_19 (by decide) kt kf
theorem rwX10_reset_22 : rOK 13 22 0 0 0 (0) := fun G ls st S d kc ks Q x h k => B_aload_n dX10_reset_22 h k
theorem rwX10_reset_23 : rOK 13 23 10 10 3 (0) := fun G ls st S d kc ks Q x r hk hr k => B_getR dX10_reset_23 fX10_9 rfl hk hr k
theorem rwX10_reset_26 : rOK 13 26 1 1 0 (0) := fun G ls st S d kc ks Q x h k => B_iload_n dX10_reset_26 h k
theorem rwX10_reset_27 : rOK 13 27 1 1 0 (0) := fun G ls st S d kc ks Q x h k => B_iload_n dX10_reset_27 h k
theorem rwX10_reset_28 : rOK 13 28 11 0 0 (0) := fun G ls st S d kc ks Q x i r hk h1 h2 k => B_iast dX10_reset_28 hk h1 h2 k
theorem rwX10_reset_29 : rOK 13 29 13 1 0 (1) := fun G ls st S d kc ks Q x h k => B_iinc dX10_reset_29 h (by decide) k
theorem rwX10_reset_32 : rOK 13 32 15 17 0 (0) := fun G ls st S d kc ks Q k => B_goto (tgt := 17) dX10_reset_32 (by decide) k
theorem rwX10_reset_35 : rOK 13 35 2 0 1 (0) := fun G ls st S d kc ks Q k => B_iconst dX10_reset_35 (by decide) k
theorem rwX10_reset_36 : rOK 13 36 21 1 0 (0) := fun G ls st S d kc ks Q x k => B_istore_n dX10_reset_36 (by decide) k
theorem rwX10_reset_37 : rOK 13 37 1 1 0 (0) := fun G ls st S d kc ks Q x h k => B_iload_n dX10_reset_37 h k
theorem rwX10_reset_38 : rOK 13 38 2 0 1 (2) := fun G ls st S d kc ks Q k => B_iconst dX10_reset_38 (by decide) k
theorem rwX10_reset_39 : rOK 13 39 16 86 0 (0) := fun G ls st S d kc ks Q x y kt kf => B_icmp_ge (tgt := 86) dX10_reset_39 (by decide) kt kf
theorem rwX10_reset_42 : rOK 13 42 0 0 0 (0) := fun G ls st S d kc ks Q x h k => B_aload_n dX10_reset_42 h k
theorem rwX10_reset_43 : rOK 13 43 10 10 4 (0) := fun G ls st S d kc ks Q x r hk hr k => B_getR dX10_reset_43 fX10_15 rfl hk hr k
theorem rwX10_reset_46 : rOK 13 46 1 1 0 (0) := fun G ls st S d kc ks Q x h k => B_iload_n dX10_reset_46 h k
theorem rwX10_reset_47 : rOK 13 47 2 0 1 (0) := fun G ls st S d kc ks Q k => B_iconst dX10_reset_47 (by decide) k
theorem rwX10_reset_48 : rOK 13 48 11 0 0 (0) := fun G ls st S d kc ks Q x i r hk h1 h2 k => B_iast dX10_reset_48 hk h1 h2 k
theorem rwX10_reset_49 : rOK 13 49 0 0 0 (0) := fun G ls st S d kc ks Q x h k => B_aload_n dX10_reset_49 h k
theorem rwX10_reset_50 : rOK 13 50 10 10 5 (0) := fun G ls st S d kc ks Q x r hk hr k => B_getR dX10_reset_50 fX10_18 rfl hk hr k
theorem rwX10_reset_53 : rOK 13 53 1 1 0 (0) := fun G ls st S d kc ks Q x h k => B_iload_n dX10_reset_53 h k
theorem rwX10_reset_54 : rOK 13 54 2 0 1 (1) := fun G ls st S d kc ks Q k => B_iconst dX10_reset_54 (by decide) k
theorem rwX10_reset_55 : rOK 13 55 11 0 0 (0) := fun G ls st S d kc ks Q x i r hk h1 h2 k => B_iast dX10_reset_55 hk h1 h2 k
theorem rwX10_reset_56 : rOK 13 56 0 0 0 (0) := fun G ls st S d kc ks Q x h k => B_aload_n dX10_reset_56 h k
theorem rwX10_reset_57 : rOK 13 57 10 10 6 (0) := fun G ls st S d kc ks Q x r hk hr k => B_getR dX10_reset_57 fX10_21 rfl hk hr k
theorem rwX10_reset_60 : rOK 13 60 1 1 0 (0) := fun G ls st S d kc ks Q x h k => B_iload_n dX10_reset_60 h k
theorem rwX10_reset_61 : rOK 13 61 2 0 1 (0) := fun G ls st S d kc ks Q k => B_iconst dX10_reset_61 (by decide) k
theorem rwX10_reset_62 : rOK 13 62 11 0 0 (0) := fun G ls st S d kc ks Q x i r hk h1 h2 k => B_iast dX10_reset_62 hk h1 h2 k
theorem rwX10_reset_63 : rOK 13 63 0 0 0 (0) := fun G ls st S d kc ks Q x h k => B_aload_n dX10_reset_63 h k
theorem rwX10_reset_64 : rOK 13 64 10 10 7 (0) := fun G ls st S d kc ks Q x r hk hr k => B_getR dX10_reset_64 fX10_24 rfl hk hr k
theorem rwX10_reset_67 : rOK 13 67 1 1 0 (0) := fun G ls st S d kc ks Q x h k => B_iload_n dX10_reset_67 h k
theorem rwX10_reset_68 : rOK 13 68 2 0 2 (10) := fun G ls st S d kc ks Q k => B_bipush dX10_reset_68 (by decide) k
theorem rwX10_reset_70 : rOK 13 70 1 1 0 (0) := fun G ls st S d kc ks Q x h k => B_iload_n dX10_reset_70 h k
theorem rwX10_reset_71 : rOK 13 71 14 0 0 (0) := fun G ls st S d kc ks Q x y k => B_imul dX10_reset_71 k
theorem rwX10_reset_72 : rOK 13 72 11 0 0 (0) := fun G ls st S d kc ks Q x i r hk h1 h2 k => B_iast dX10_reset_72 hk h1 h2 k
theorem rwX10_reset_73 : rOK 13 73 0 0 0 (0) := fun G ls st S d kc ks Q x h k => B_aload_n dX10_reset_73 h k
theorem rwX10_reset_74 : rOK 13 74 10 10 8 (0) := fun G ls st S d kc ks Q x r hk hr k => B_getR dX10_reset_74 fX10_27 rfl hk hr k
theorem rwX10_reset_77 : rOK 13 77 1 1 0 (0) := fun G ls st S d kc ks Q x h k => B_iload_n dX10_reset_77 h k
theorem rwX10_reset_78 : rOK 13 78 2 0 1 (0) := fun G ls st S d kc ks Q k => B_iconst dX10_reset_78 (by decide) k
theorem rwX10_reset_79 : rOK 13 79 11 0 0 (0) := fun G ls st S d kc ks Q x i r hk h1 h2 k => B_iast dX10_reset_79 hk h1 h2 k
theorem rwX10_reset_80 : rOK 13 80 13 1 0 (1) := fun G ls st S d kc ks Q x h k => B_iinc dX10_reset_80 h (by decide) k
theorem rwX10_reset_83 : rOK 13 83 15 37 0 (0) := fun G ls st S d kc ks Q k => B_goto (tgt := 37) dX10_reset_83 (by decide) k
theorem rwX10_reset_86 : rOK 13 86 20 0 0 (0) := fun G ls st S d kc ks Q h hq => by subst h; exact B_return dX10_reset_86 rfl hq
def tK13 : List Row := [(0, 0, 0, 0, 0), (1, 2, 0, 1, 1), (2, 9, 10, 0, 0), (5, 0, 0, 0, 0), (6, 2, 0, 1, 0), (7, 9, 10, 1, 0), (10, 0, 0, 0, 0), (11, 2, 0, 1, 0), (12, 9, 10, 2, 0), (15, 2, 0, 1, 0), (16, 21, 1, 0, 0), (17, 1, 1, 0, 0), (18, 2, 0, 1, 4), (19, 16, 35, 0, 0), (22, 0, 0, 0, 0), (23, 10, 10, 3, 0), (26, 1, 1, 0, 0), (27, 1, 1, 0, 0), (28, 11, 0, 0, 0), (29, 13, 1, 0, 1), (32, 15, 17, 0, 0), (35, 2, 0, 1, 0), (36, 21, 1, 0, 0), (37, 1, 1, 0, 0), (38, 2, 0, 1, 2), (39, 16, 86, 0, 0), (42, 0, 0, 0, 0), (43, 10, 10, 4, 0), (46, 1, 1, 0, 0), (47, 2, 0, 1, 0), (48, 11, 0, 0, 0), (49, 0, 0, 0, 0), (50, 10, 10, 5, 0), (53, 1, 1, 0, 0), (54, 2, 0, 1, 1), (55, 11, 0, 0, 0), (56, 0, 0, 0, 0), (57, 10, 10, 6, 0), (60, 1, 1, 0, 0), (61, 2, 0, 1, 0), (62, 11, 0, 0, 0), (63, 0, 0, 0, 0), (64, 10, 10, 7, 0), (67, 1, 1, 0, 0), (68, 2, 0, 2, 10), (70, 1, 1, 0, 0), (71, 14, 0, 0, 0), (72, 11, 0, 0, 0), (73, 0, 0, 0, 0), (74, 10, 10, 8, 0), (77, 1, 1, 0, 0), (78, 2, 0, 1, 0), (79, 11, 0, 0, 0), (80, 13, 1, 0, 1), (83, 15, 37, 0, 0), (86, 20, 0, 0, 0)]
theorem rK13 : ∀ r ∈ tK13, rOK 13 r.1 r.2.1 r.2.2.1 r.2.2.2.1 r.2.2.2.2 := by
  unfold tK13
  refine List.forall_mem_cons.2 ⟨rwX10_reset_0, ?_⟩
  refine List.forall_mem_cons.2 ⟨rwX10_reset_1, ?_⟩
  refine List.forall_mem_cons.2 ⟨rwX10_reset_2, ?_⟩
  refine List.forall_mem_cons.2 ⟨rwX10_reset_5, ?_⟩
  refine List.forall_mem_cons.2 ⟨rwX10_reset_6, ?_⟩
  refine List.forall_mem_cons.2 ⟨rwX10_reset_7, ?_⟩
  refine List.forall_mem_cons.2 ⟨rwX10_reset_10, ?_⟩
  refine List.forall_mem_cons.2 ⟨rwX10_reset_11, ?_⟩
  refine List.forall_mem_cons.2 ⟨rwX10_reset_12, ?_⟩
  refine List.forall_mem_cons.2 ⟨rwX10_reset_15, ?_⟩
  refine List.forall_mem_cons.2 ⟨rwX10_reset_16, ?_⟩
  refine List.forall_mem_cons.2 ⟨rwX10_reset_17, ?_⟩
  refine List.forall_mem_cons.2 ⟨rwX10_reset_18, ?_⟩
  refine List.forall_mem_cons.2 ⟨rwX10_reset_19, ?_⟩
  refine List.forall_mem_cons.2 ⟨rwX10_reset_22, ?_⟩
  refine List.forall_mem_cons.2 ⟨rwX10_reset_23, ?_⟩
  refine List.forall_mem_cons.2 ⟨rwX10_reset_26, ?_⟩
  refine List.forall_mem_cons.2 ⟨rwX10_reset_27, ?_⟩
  refine List.forall_mem_cons.2 ⟨rwX10_reset_28, ?_⟩
  refine List.forall_mem_cons.2 ⟨rwX10_reset_29, ?_⟩
  refine List.forall_mem_cons.2 ⟨rwX10_reset_32, ?_⟩
  refine List.forall_mem_cons.2 ⟨rwX10_reset_35, ?_⟩
  refine List.forall_mem_cons.2 ⟨rwX10_reset_36, ?_⟩
  refine List.forall_mem_cons.2 ⟨rwX10_reset_37, ?_⟩
  refine List.forall_mem_cons.2 ⟨rwX10_reset_38, ?_⟩
  refine List.forall_mem_cons.2 ⟨rwX10_reset_39, ?_⟩
  refine List.forall_mem_cons.2 ⟨rwX10_reset_42, ?_⟩
  refine List.forall_mem_cons.2 ⟨rwX10_reset_43, ?_⟩
  refine List.forall_mem_cons.2 ⟨rwX10_reset_46, ?_⟩
  refine List.forall_mem_cons.2 ⟨rwX10_reset_47, ?_⟩
  refine List.forall_mem_cons.2 ⟨rwX10_reset_48, ?_⟩
  refine List.forall_mem_cons.2 ⟨rwX10_reset_49, ?_⟩
  refine List.forall_mem_cons.2 ⟨rwX10_reset_50, ?_⟩
  refine List.forall_mem_cons.2 ⟨rwX10_reset_53, ?_⟩
  refine List.forall_mem_cons.2 ⟨rwX10_reset_54, ?_⟩
  refine List.forall_mem_cons.2 ⟨rwX10_reset_55, ?_⟩
  refine List.forall_mem_cons.2 ⟨rwX10_reset_56, ?_⟩
  refine List.forall_mem_cons.2 ⟨rwX10_reset_57, ?_⟩
  refine List.forall_mem_cons.2 ⟨rwX10_reset_60, ?_⟩
  refine List.forall_mem_cons.2 ⟨rwX10_reset_61, ?_⟩
  refine List.forall_mem_cons.2 ⟨rwX10_reset_62, ?_⟩
  refine List.forall_mem_cons.2 ⟨rwX10_reset_63, ?_⟩
  refine List.forall_mem_cons.2 ⟨rwX10_reset_64, ?_⟩
  refine List.forall_mem_cons.2 ⟨rwX10_reset_67, ?_⟩
  refine List.forall_mem_cons.2 ⟨rwX10_reset_68, ?_⟩
  refine List.forall_mem_cons.2 ⟨rwX10_reset_70, ?_⟩
  refine List.forall_mem_cons.2 ⟨rwX10_reset_71, ?_⟩
  refine List.forall_mem_cons.2 ⟨rwX10_reset_72, ?_⟩
  refine List.forall_mem_cons.2 ⟨rwX10_reset_73, ?_⟩
  refine List.forall_mem_cons.2 ⟨rwX10_reset_74, ?_⟩
  refine List.forall_mem_cons.2 ⟨rwX10_reset_77, ?_⟩
  refine List.forall_mem_cons.2 ⟨rwX10_reset_78, ?_⟩
  refine List.forall_mem_cons.2 ⟨rwX10_reset_79, ?_⟩
  refine List.forall_mem_cons.2 ⟨rwX10_reset_80, ?_⟩
  refine List.forall_mem_cons.2 ⟨rwX10_reset_83, ?_⟩
  refine List.forall_mem_cons.2 ⟨rwX10_reset_86, ?_⟩
  exact fun r h => absurd h (List.not_mem_nil)
theorem rwX4_reset_0 : rOK 14 0 0 0 0 (0) := fun G ls st S d kc ks Q x h k => B_aload_n dX4_reset_0 h k
theorem rwX4_reset_1 : rOK 14 1 10 4 0 (0) := fun G ls st S d kc ks Q x r hk hr k => B_getR dX4_reset_1 fX4_9 rfl hk hr k
theorem rwX4_reset_4 : rOK 14 4 2 0 1 (0) := fun G ls st S d kc ks Q k => B_iconst dX4_reset_4 (by decide) k
theorem rwX4_reset_5 : rOK 14 5 2 0 1 (-1) := fun G ls st S d kc ks Q k => B_iconst dX4_reset_5 (by decide) k
theorem rwX4_reset_6 : rOK 14 6 11 0 0 (0) := fun G ls st S d kc ks Q x i r hk h1 h2 k => B_iast dX4_reset_6 hk h1 h2 k
theorem rwX4_reset_7 : rOK 14 7 0 0 0 (0) := fun G ls st S d kc ks Q x h k => B_aload_n dX4_reset_7 h k
theorem rwX4_reset_8 : rOK 14 8 10 4 0 (0) := fun G ls st S d kc ks Q x r hk hr k => B_getR dX4_reset_8 fX4_9 rfl hk hr k
theorem rwX4_reset_11 : rOK 14 11 2 0 1 (1) := fun G ls st S d kc ks Q k => B_iconst dX4_reset_11 (by decide) k
theorem rwX4_reset_12 : rOK 14 12 2 0 1 (-1) := fun G ls st S d kc ks Q k => B_iconst dX4_reset_12 (by decide) k
theorem rwX4_reset_13 : rOK 14 13 11 0 0 (0) := fun G ls st S d kc ks Q x i r hk h1 h2 k => B_iast dX4_reset_13 hk h1 h2 k
theorem rwX4_reset_14 : rOK 14 14 20 0 0 (0) := fun G ls st S d kc ks Q h hq => by subst h; exact B_return dX4_reset_14 rfl hq
def tK14 : List Row := [(0, 0, 0, 0, 0), (1, 10, 4, 0, 0), (4, 2, 0, 1, 0), (5, 2, 0, 1, (-1)), (6, 11, 0, 0, 0), (7, 0, 0, 0, 0), (8, 10, 4, 0, 0), (11, 2, 0, 1, 1), (12, 2, 0, 1, (-1)), (13, 11, 0, 0, 0), (14, 20, 0, 0, 0)]
theorem rK14 : ∀ r ∈ tK14, rOK 14 r.1 r.2.1 r.2.2.1 r.2.2.2.1 r.2.2.2.2 := by
  unfold tK14
  refine List.forall_mem_cons.2 ⟨rwX4_reset_0, ?_⟩
  refine List.forall_mem_cons.2 ⟨rwX4_reset_1, ?_⟩
  refine List.forall_mem_cons.2 ⟨rwX4_reset_4, ?_⟩
  refine List.forall_mem_cons.2 ⟨rwX4_reset_5, ?_⟩
  refine List.forall_mem_cons.2 ⟨rwX4_reset_6, ?_⟩
  refine List.forall_mem_cons.2 ⟨rwX4_reset_7, ?_⟩
  refine List.forall_mem_cons.2 ⟨rwX4_reset_8, ?_⟩
  refine List.forall_mem_cons.2 ⟨rwX4_reset_11, ?_⟩
  refine List.forall_mem_cons.2 ⟨rwX4_reset_12, ?_⟩
  refine List.forall_mem_cons.2 ⟨rwX4_reset_13, ?_⟩
  refine List.forall_mem_cons.2 ⟨rwX4_reset_14, ?_⟩
  exact fun r h => absurd h (List.not_mem_nil)
def tabK (m : Nat) : List Row := [tK0, tK1, tK2, tK3, tK4, tK5, tK6, tK7, tK8, tK9, tK10, tK11, tK12, tK13, tK14].getD m []
theorem tabK_ok : ∀ m r, r ∈ tabK m → rOK m r.1 r.2.1 r.2.2.1 r.2.2.2.1 r.2.2.2.2 := by
  intro m r h
  match m, h with
  | 0, h => exact rK0 r h
  | 1, h => exact rK1 r h
  | 2, h => exact rK2 r h
  | 3, h => exact rK3 r h
  | 4, h => exact rK4 r h
  | 5, h => exact rK5 r h
  | 6, h => exact rK6 r h
  | 7, h => exact rK7 r h
  | 8, h => exact rK8 r h
  | 9, h => exact rK9 r h
  | 10, h => exact rK10 r h
  | 11, h => exact rK11 r h
  | 12, h => exact rK12 r h
  | 13, h => exact rK13 r h
  | 14, h => exact rK14 r h
  | m + 15, h => exact absurd h (List.not_mem_nil)
end CON3
