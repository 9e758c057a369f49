/-! the class: what is told is copied -/
section C23
variable {G : sG} {d d' : sD} {w g h v : Nat → Int} {o p : Nat}
def lnA (l : List Nat) (x : Nat) : Nat := l.getD x 0
/-- the arrays behind a cell are those behind another one -/
def AE (l : List Nat) (n : Nat) (d : sD) (p : Nat) (d' : sD) (o : Nat) : Prop := ∀ x j, 1 ≤ x → x ≤ n → j < lnA l x → d' (o + x) j = d (p + x) j
def WE (d : sD) (p : Nat) (d' : sD) (o : Nat) : Prop := (d' o 0 = d p 0 ∧ d' o 1 = d p 1 ∧ d' o 2 = d p 2) ∧ AE [0, 4, 2, 2, 2, 2, 2, 12, 12, 48] 9 d p d' o
def SE (d : sD) (p : Nat) (d' : sD) (o : Nat) : Prop := AE [0, 2, 24] 2 d p d' o
def HE (d : sD) (p : Nat) (d' : sD) (o : Nat) : Prop := AE [0, 2, 12] 2 d p d' o
def VE (d : sD) (p : Nat) (d' : sD) (o : Nat) : Prop := d' o 0 = d p 0 ∧ AE [0, 8, 8, 8, 8] 4 d p d' o
theorem t_wcopy (hw : kn S0 o = 10) (hp : kn S0 p = 10) (hd : o + 9 < p ∨ p + 9 < o) : tB G mX10_copyFrom 0 [vR o, vR p] [] d (fun r d' => r = none ∧ WE d p d' o ∧ Fr o (o + 9) d d') := by
  refine T_aload_n dX10_copyFrom_0 rfl ?_
  refine T_aload_n dX10_copyFrom_1 rfl ?_
  refine T_getIv dX10_copyFrom_2 fX10_42 rfl hp (x := d p 0) rfl ?_
  refine T_putI dX10_copyFrom_5 fX10_42 rfl hw ?_
  refine T_aload_n dX10_copyFrom_8 rfl ?_
  refine T_aload_n dX10_copyFrom_9 rfl ?_
  refine T_getIv dX10_copyFrom_10 fX10_46 rfl hp (x := d p 1) (by rw [up_nea (by omega)]) ?_
  refine T_putI dX10_copyFrom_13 fX10_46 rfl hw ?_
  refine T_aload_n dX10_copyFrom_16 rfl ?_
  refine T_aload_n dX10_copyFrom_17 rfl ?_
  refine T_getIv dX10_copyFrom_18 fX10_49 rfl hp (x := d p 2) (by rw [up_nea (by omega), up_nea (by omega)]) ?_
  refine T_putI dX10_copyFrom_21 fX10_49 rfl hw ?_
  refine T_aload_n dX10_copyFrom_24 rfl ?_
  refine T_getR dX10_copyFrom_25 fX10_9 rfl hp (rW3 hp) ?_
  refine T_iconst dX10_copyFrom_28 (by decide) ?_
  refine T_aload_n dX10_copyFrom_29 rfl ?_
  refine T_getR dX10_copyFrom_30 fX10_9 rfl hw (rW3 hw) ?_
  refine T_iconst dX10_copyFrom_33 (by decide) ?_
  refine T_aload_n dX10_copyFrom_34 rfl ?_
  refine T_getR dX10_copyFrom_35 fX10_9 rfl hw (rW3 hw) ?_
  refine T_alen dX10_copyFrom_38 (kW3 hw) (by decide) (lW3 hw) (by decide) ?_
  refine T_copy dX10_copyFrom_39 lX10_52 (by decide) (Nat.le_of_ble_eq_true rfl) (by decide) (kW3 hp) (kW3 hw) (lW3 hp) (lW3 hw) (by omega) ?_
  refine T_aload_n dX10_copyFrom_42 rfl ?_
  refine T_getR dX10_copyFrom_43 fX10_15 rfl hp (rW4 hp) ?_
  refine T_iconst dX10_copyFrom_46 (by decide) ?_
  refine T_aload_n dX10_copyFrom_47 rfl ?_
  refine T_getR dX10_copyFrom_48 fX10_15 rfl hw (rW4 hw) ?_
  refine T_iconst dX10_copyFrom_51 (by decide) ?_
  refine T_iconst dX10_copyFrom_52 (by decide) ?_
  refine T_copy dX10_copyFrom_53 lX10_52 (by decide) (Nat.le_of_ble_eq_true rfl) (by decide) (kW4 hp) (kW4 hw) (lW4 hp) (lW4 hw) (by omega) ?_
  refine T_aload_n dX10_copyFrom_56 rfl ?_
  refine T_getR dX10_copyFrom_57 fX10_18 rfl hp (rW5 hp) ?_
  refine T_iconst dX10_copyFrom_60 (by decide) ?_
  refine T_aload_n dX10_copyFrom_61 rfl ?_
  refine T_getR dX10_copyFrom_62 fX10_18 rfl hw (rW5 hw) ?_
  refine T_iconst dX10_copyFrom_65 (by decide) ?_
  refine T_iconst dX10_copyFrom_66 (by decide) ?_
  refine T_copy dX10_copyFrom_67 lX10_52 (by decide) (Nat.le_of_ble_eq_true rfl) (by decide) (kW5 hp) (kW5 hw) (lW5 hp) (lW5 hw) (by omega) ?_
  refine T_aload_n dX10_copyFrom_70 rfl ?_
  refine T_getR dX10_copyFrom_71 fX10_21 rfl hp (rW6 hp) ?_
  refine T_iconst dX10_copyFrom_74 (by decide) ?_
  refine T_aload_n dX10_copyFrom_75 rfl ?_
  refine T_getR dX10_copyFrom_76 fX10_21 rfl hw (rW6 hw) ?_
  refine T_iconst dX10_copyFrom_79 (by decide) ?_
  refine T_iconst dX10_copyFrom_80 (by decide) ?_
  refine T_copy dX10_copyFrom_81 lX10_52 (by decide) (Nat.le_of_ble_eq_true rfl) (by decide) (kW6 hp) (kW6 hw) (lW6 hp) (lW6 hw) (by omega) ?_
  refine T_aload_n dX10_copyFrom_84 rfl ?_
  refine T_getR dX10_copyFrom_85 fX10_24 rfl hp (rW7 hp) ?_
  refine T_iconst dX10_copyFrom_88 (by decide) ?_
  refine T_aload_n dX10_copyFrom_89 rfl ?_
  refine T_getR dX10_copyFrom_90 fX10_24 rfl hw (rW7 hw) ?_
  refine T_iconst dX10_copyFrom_93 (by decide) ?_
  refine T_iconst dX10_copyFrom_94 (by decide) ?_
  refine T_copy dX10_copyFrom_95 lX10_52 (by decide) (Nat.le_of_ble_eq_true rfl) (by decide) (kW7 hp) (kW7 hw) (lW7 hp) (lW7 hw) (by omega) ?_
  refine T_aload_n dX10_copyFrom_98 rfl ?_
  refine T_getR dX10_copyFrom_99 fX10_27 rfl hp (rW8 hp) ?_
  refine T_iconst dX10_copyFrom_102 (by decide) ?_
  refine T_aload_n dX10_copyFrom_103 rfl ?_
  refine T_getR dX10_copyFrom_104 fX10_27 rfl hw (rW8 hw) ?_
  refine T_iconst dX10_copyFrom_107 (by decide) ?_
  refine T_iconst dX10_copyFrom_108 (by decide) ?_
  refine T_copy dX10_copyFrom_109 lX10_52 (by decide) (Nat.le_of_ble_eq_true rfl) (by decide) (kW8 hp) (kW8 hw) (lW8 hp) (lW8 hw) (by omega) ?_
  refine T_aload_n dX10_copyFrom_112 rfl ?_
  refine T_getR dX10_copyFrom_113 fX10_30 rfl hp (rW9 hp) ?_
  refine T_iconst dX10_copyFrom_116 (by decide) ?_
  refine T_aload_n dX10_copyFrom_117 rfl ?_
  refine T_getR dX10_copyFrom_118 fX10_30 rfl hw (rW9 hw) ?_
  refine T_iconst dX10_copyFrom_121 (by decide) ?_
  refine T_aload_n dX10_copyFrom_122 rfl ?_
  refine T_getR dX10_copyFrom_123 fX10_30 rfl hw (rW9 hw) ?_
  refine T_alen dX10_copyFrom_126 (kW9 hw) (by decide) (lW9 hw) (by decide) ?_
  refine T_copy dX10_copyFrom_127 lX10_52 (by decide) (Nat.le_of_ble_eq_true rfl) (by decide) (kW9 hp) (kW9 hw) (lW9 hp) (lW9 hw) (by omega) ?_
  refine T_aload_n dX10_copyFrom_130 rfl ?_
  refine T_getR dX10_copyFrom_131 fX10_33 rfl hp (rW10 hp) ?_
  refine T_iconst dX10_copyFrom_134 (by decide) ?_
  refine T_aload_n dX10_copyFrom_135 rfl ?_
  refine T_getR dX10_copyFrom_136 fX10_33 rfl hw (rW10 hw) ?_
  refine T_iconst dX10_copyFrom_139 (by decide) ?_
  refine T_aload_n dX10_copyFrom_140 rfl ?_
  refine T_getR dX10_copyFrom_141 fX10_33 rfl hw (rW10 hw) ?_
  refine T_alen dX10_copyFrom_144 (kW10 hw) (by decide) (lW10 hw) (by decide) ?_
  refine T_copy dX10_copyFrom_145 lX10_52 (by decide) (Nat.le_of_ble_eq_true rfl) (by decide) (kW10 hp) (kW10 hw) (lW10 hp) (lW10 hw) (by omega) ?_
  refine T_aload_n dX10_copyFrom_148 rfl ?_
  refine T_getR dX10_copyFrom_149 fX10_36 rfl hp (rW11 hp) ?_
  refine T_iconst dX10_copyFrom_152 (by decide) ?_
  refine T_aload_n dX10_copyFrom_153 rfl ?_
  refine T_getR dX10_copyFrom_154 fX10_36 rfl hw (rW11 hw) ?_
  refine T_iconst dX10_copyFrom_157 (by decide) ?_
  refine T_aload_n dX10_copyFrom_158 rfl ?_
  refine T_getR dX10_copyFrom_159 fX10_36 rfl hw (rW11 hw) ?_
  refine T_alen dX10_copyFrom_162 (kW11 hw) (by decide) (lW11 hw) (by decide) ?_
  refine T_copy dX10_copyFrom_163 lX10_52 (by decide) (Nat.le_of_ble_eq_true rfl) (by decide) (kW11 hp) (kW11 hw) (lW11 hp) (lW11 hw) (by omega) ?_
  refine T_return dX10_copyFrom_166 rfl ⟨rfl, ⟨⟨by rw [cpy_ne (by omega), cpy_ne (by omega), cpy_ne (by omega), cpy_ne (by omega), cpy_ne (by omega), cpy_ne (by omega), cpy_ne (by omega), cpy_ne (by omega), cpy_ne (by omega), up_nej (by decide), up_nej (by decide), up_same], by rw [cpy_ne (by omega), cpy_ne (by omega), cpy_ne (by omega), cpy_ne (by omega), cpy_ne (by omega), cpy_ne (by omega), cpy_ne (by omega), cpy_ne (by omega), cpy_ne (by omega), up_nej (by decide), up_same], by rw [cpy_ne (by omega), cpy_ne (by omega), cpy_ne (by omega), cpy_ne (by omega), cpy_ne (by omega), cpy_ne (by omega), cpy_ne (by omega), cpy_ne (by omega), cpy_ne (by omega), up_same]⟩, fun x j h1 h2 hj => ?_⟩, (((((((((((Fr.rf.up (by omega)).up (by omega)).up (by omega)).cpy (by omega)).cpy (by omega)).cpy (by omega)).cpy (by omega)).cpy (by omega)).cpy (by omega)).cpy (by omega)).cpy (by omega)).cpy (by omega)⟩
  rcases (show x = 1 ∨ x = 2 ∨ x = 3 ∨ x = 4 ∨ x = 5 ∨ x = 6 ∨ x = 7 ∨ x = 8 ∨ x = 9 by omega) with rfl | rfl | rfl | rfl | rfl | rfl | rfl | rfl | rfl
  · rw [cpy_ne (by omega), cpy_ne (by omega), cpy_ne (by omega), cpy_ne (by omega), cpy_ne (by omega), cpy_ne (by omega), cpy_ne (by omega), cpy_ne (by omega), cpy_in (m := 4) rfl rfl rfl hj, up_nea (by omega), up_nea (by omega), up_nea (by omega)]
  · rw [cpy_ne (by omega), cpy_ne (by omega), cpy_ne (by omega), cpy_ne (by omega), cpy_ne (by omega), cpy_ne (by omega), cpy_ne (by omega), cpy_in (k := 2) (m := 2) rfl rfl rfl hj, cpy_ne (by omega), up_nea (by omega), up_nea (by omega), up_nea (by omega)]
  · rw [cpy_ne (by omega), cpy_ne (by omega), cpy_ne (by omega), cpy_ne (by omega), cpy_ne (by omega), cpy_ne (by omega), cpy_in (k := 2) (m := 2) rfl rfl rfl hj, cpy_ne (by omega), cpy_ne (by omega), up_nea (by omega), up_nea (by omega), up_nea (by omega)]
  · rw [cpy_ne (by omega), cpy_ne (by omega), cpy_ne (by omega), cpy_ne (by omega), cpy_ne (by omega), cpy_in (k := 2) (m := 2) rfl rfl rfl hj, cpy_ne (by omega), cpy_ne (by omega), cpy_ne (by omega), up_nea (by omega), up_nea (by omega), up_nea (by omega)]
  · rw [cpy_ne (by omega), cpy_ne (by omega), cpy_ne (by omega), cpy_ne (by omega), cpy_in (k := 2) (m := 2) rfl rfl rfl hj, cpy_ne (by omega), cpy_ne (by omega), cpy_ne (by omega), cpy_ne (by omega), up_nea (by omega), up_nea (by omega), up_nea (by omega)]
  · rw [cpy_ne (by omega), cpy_ne (by omega), cpy_ne (by omega), cpy_in (k := 2) (m := 2) rfl rfl rfl hj, cpy_ne (by omega), cpy_ne (by omega), cpy_ne (by omega), cpy_ne (by omega), cpy_ne (by omega), up_nea (by omega), up_nea (by omega), up_nea (by omega)]
  · rw [cpy_ne (by omega), cpy_ne (by omega), cpy_in (m := 12) rfl rfl rfl hj, cpy_ne (by omega), cpy_ne (by omega), cpy_ne (by omega), cpy_ne (by omega), cpy_ne (by omega), cpy_ne (by omega), up_nea (by omega), up_nea (by omega), up_nea (by omega)]
  · rw [cpy_ne (by omega), cpy_in (m := 12) rfl rfl rfl hj, cpy_ne (by omega), cpy_ne (by omega), cpy_ne (by omega), cpy_ne (by omega), cpy_ne (by omega), cpy_ne (by omega), cpy_ne (by omega), up_nea (by omega), up_nea (by omega), up_nea (by omega)]
  · rw [cpy_in (m := 48) rfl rfl rfl hj, cpy_ne (by omega), cpy_ne (by omega), cpy_ne (by omega), cpy_ne (by omega), cpy_ne (by omega), cpy_ne (by omega), cpy_ne (by omega), cpy_ne (by omega), up_nea (by omega), up_nea (by omega), up_nea (by omega)]
theorem t_hcopy (hh : kn S0 o = 4) (hp : kn S0 p = 4) (hd : o + 2 < p ∨ p + 2 < o) : tB G mX4_copyFrom 0 [vR o, vR p] [] d (fun r d' => r = none ∧ HE d p d' o ∧ Fr o (o + 2) d d') := by
  refine T_aload_n dX4_copyFrom_0 rfl ?_
  refine T_getR dX4_copyFrom_1 fX4_9 rfl hp (rH0 hp) ?_
  refine T_iconst dX4_copyFrom_4 (by decide) ?_
  refine T_aload_n dX4_copyFrom_5 rfl ?_
  refine T_getR dX4_copyFrom_6 fX4_9 rfl hh (rH0 hh) ?_
  refine T_iconst dX4_copyFrom_9 (by decide) ?_
  refine T_iconst dX4_copyFrom_10 (by decide) ?_
  refine T_copy dX4_copyFrom_11 lX4_21 (by decide) (Nat.le_of_ble_eq_true rfl) (by decide) (kH0 hp) (kH0 hh) (lH0 hp) (lH0 hh) (by omega) ?_
  refine T_aload_n dX4_copyFrom_14 rfl ?_
  refine T_getR dX4_copyFrom_15 fX4_15 rfl hp (rH1 hp) ?_
  refine T_iconst dX4_copyFrom_18 (by decide) ?_
  refine T_aload_n dX4_copyFrom_19 rfl ?_
  refine T_getR dX4_copyFrom_20 fX4_15 rfl hh (rH1 hh) ?_
  refine T_iconst dX4_copyFrom_23 (by decide) ?_
  refine T_aload_n dX4_copyFrom_24 rfl ?_
  refine T_getR dX4_copyFrom_25 fX4_15 rfl hh (rH1 hh) ?_
  refine T_alen dX4_copyFrom_28 (kH1 hh) (by decide) (lH1 hh) (by decide) ?_
  refine T_copy dX4_copyFrom_29 lX4_21 (by decide) (Nat.le_of_ble_eq_true rfl) (by decide) (kH1 hp) (kH1 hh) (lH1 hp) (lH1 hh) (by omega) ?_
  refine T_return dX4_copyFrom_32 rfl ⟨rfl, fun x j h1 h2 hj => ?_, (Fr.rf.cpy (by omega)).cpy (by omega)⟩
  rcases (show x = 1 ∨ x = 2 by omega) with rfl | rfl
  · rw [cpy_ne (by omega), cpy_in (k := 2) (m := 2) rfl rfl rfl hj]
  · rw [cpy_in (m := 12) rfl rfl rfl hj, cpy_ne (by omega)]
theorem t_vcopy (hv : kn S0 o = 9) (hp : kn S0 p = 9) (hd : o + 4 < p ∨ p + 4 < o) : tB G mX9_copyFrom 0 [vR o, vR p] [] d (fun r d' => r = none ∧ VE d p d' o ∧ Fr o (o + 4) d d') := by
  refine T_aload_n dX9_copyFrom_0 rfl ?_
  refine T_aload_n dX9_copyFrom_1 rfl ?_
  refine T_getIv dX9_copyFrom_2 fX9_9 rfl hp (x := d p 0) rfl ?_
  refine T_putI dX9_copyFrom_5 fX9_9 rfl hv ?_
  refine T_aload_n dX9_copyFrom_8 rfl ?_
  refine T_getR dX9_copyFrom_9 fX9_15 rfl hp (rV1 hp) ?_
  refine T_iconst dX9_copyFrom_12 (by decide) ?_
  refine T_aload_n dX9_copyFrom_13 rfl ?_
  refine T_getR dX9_copyFrom_14 fX9_15 rfl hv (rV1 hv) ?_
  refine T_iconst dX9_copyFrom_17 (by decide) ?_
  refine T_bipush dX9_copyFrom_18 (by decide) ?_
  refine T_copy dX9_copyFrom_20 lX9_28 (by decide) (Nat.le_of_ble_eq_true rfl) (by decide) (kV1 hp) (kV1 hv) (lV1 hp) (lV1 hv) (by omega) ?_
  refine T_aload_n dX9_copyFrom_23 rfl ?_
  refine T_getR dX9_copyFrom_24 fX9_19 rfl hp (rV2 hp) ?_
  refine T_iconst dX9_copyFrom_27 (by decide) ?_
  refine T_aload_n dX9_copyFrom_28 rfl ?_
  refine T_getR dX9_copyFrom_29 fX9_19 rfl hv (rV2 hv) ?_
  refine T_iconst dX9_copyFrom_32 (by decide) ?_
  refine T_bipush dX9_copyFrom_33 (by decide) ?_
  refine T_copy dX9_copyFrom_35 lX9_28 (by decide) (Nat.le_of_ble_eq_true rfl) (by decide) (kV2 hp) (kV2 hv) (lV2 hp) (lV2 hv) (by omega) ?_
  refine T_aload_n dX9_copyFrom_38 rfl ?_
  refine T_getR dX9_copyFrom_39 fX9_22 rfl hp (rV3 hp) ?_
  refine T_iconst dX9_copyFrom_42 (by decide) ?_
  refine T_aload_n dX9_copyFrom_43 rfl ?_
  refine T_getR dX9_copyFrom_44 fX9_22 rfl hv (rV3 hv) ?_
  refine T_iconst dX9_copyFrom_47 (by decide) ?_
  refine T_bipush dX9_copyFrom_48 (by decide) ?_
  refine T_copy dX9_copyFrom_50 lX9_28 (by decide) (Nat.le_of_ble_eq_true rfl) (by decide) (kV3 hp) (kV3 hv) (lV3 hp) (lV3 hv) (by omega) ?_
  refine T_aload_n dX9_copyFrom_53 rfl ?_
  refine T_getR dX9_copyFrom_54 fX9_25 rfl hp (rV4 hp) ?_
  refine T_iconst dX9_copyFrom_57 (by decide) ?_
  refine T_aload_n dX9_copyFrom_58 rfl ?_
  refine T_getR dX9_copyFrom_59 fX9_25 rfl hv (rV4 hv) ?_
  refine T_iconst dX9_copyFrom_62 (by decide) ?_
  refine T_bipush dX9_copyFrom_63 (by decide) ?_
  refine T_copy dX9_copyFrom_65 lX9_28 (by decide) (Nat.le_of_ble_eq_true rfl) (by decide) (kV4 hp) (kV4 hv) (lV4 hp) (lV4 hv) (by omega) ?_
  refine T_return dX9_copyFrom_68 rfl ⟨rfl, ⟨by rw [cpy_ne (by omega), cpy_ne (by omega), cpy_ne (by omega), cpy_ne (by omega), up_same], fun x j h1 h2 hj => ?_⟩, ((((Fr.rf.up (by omega)).cpy (by omega)).cpy (by omega)).cpy (by omega)).cpy (by omega)⟩
  rcases (show x = 1 ∨ x = 2 ∨ x = 3 ∨ x = 4 by omega) with rfl | rfl | rfl | rfl
  · rw [cpy_ne (by omega), cpy_ne (by omega), cpy_ne (by omega), cpy_in (k := 8) (m := 8) rfl rfl rfl hj, up_nea (by omega)]
  · rw [cpy_ne (by omega), cpy_ne (by omega), cpy_in (k := 8) (m := 8) rfl rfl rfl hj, cpy_ne (by omega), up_nea (by omega)]
  · rw [cpy_ne (by omega), cpy_in (k := 8) (m := 8) rfl rfl rfl hj, cpy_ne (by omega), cpy_ne (by omega), up_nea (by omega)]
  · rw [cpy_in (k := 8) (m := 8) rfl rfl rfl hj, cpy_ne (by omega), cpy_ne (by omega), cpy_ne (by omega), up_nea (by omega)]
theorem t_scopyE (hs : kn S0 o = 6) (hp : kn S0 p = 6) (hd : o + 2 < p ∨ p + 2 < o) : tB G mX6_copyFrom 0 [vR o, vR p] [] d (fun r d' => r = none ∧ SE d p d' o ∧ Fr o (o + 2) d d') := (t_scopy hs hp hd).mono (by
  rintro _ d1 ⟨rfl, e1, e2, f1⟩
  refine ⟨rfl, fun x j h1 h2 hj => ?_, f1.mono (by omega)⟩
  rcases (show x = 1 ∨ x = 2 by omega) with rfl | rfl
  · exact e1 j hj
  · exact e2 j hj)
theorem kn_o0 : ∀ o, o < 297 → kn S0 o = 8 → o = 2 ∨ o = 112 ∨ o = 161 ∨ o = 210 := by decide +kernel
theorem kn_o {k : Nat} (h : kn S0 o = 8) (hk : k < 2) : (kn S0 (o + 7 + 21 * k) = 10 ∧ rf0 (o + 3) k = o + 7 + 21 * k) ∧ (kn S0 (o + 17 + 21 * k) = 6 ∧ rf0 (o + 4) k = o + 17 + 21 * k) ∧ (kn S0 (o + 20 + 21 * k) = 4 ∧ rf0 (o + 5) k = o + 20 + 21 * k) ∧ (kn S0 (o + 23 + 21 * k) = 9 ∧ rf0 (o + 6) k = o + 23 + 21 * k) := by
  rcases kn_o0 o (kn_lt (by rw [h]; decide)) h with rfl | rfl | rfl | rfl <;> rcases (show k = 0 ∨ k = 1 by omega) with rfl | rfl <;> decide +kernel
def KE (d : sD) (p : Nat) (d' : sD) (o k : Nat) : Prop := WE d (p + 7 + 21 * k) d' (o + 7 + 21 * k) ∧ SE d (p + 17 + 21 * k) d' (o + 17 + 21 * k) ∧ HE d (p + 20 + 21 * k) d' (o + 20 + 21 * k) ∧ VE d (p + 23 + 21 * k) d' (o + 23 + 21 * k)
def TE (d : sD) (p : Nat) (d' : sD) (o : Nat) : Prop := (d' o 1 = d p 1 ∧ d' o 2 = d p 2 ∧ d' o 3 = d p 3) ∧ (∀ j, j < 600 → d' (o + 1) j = d (p + 1) j) ∧ (∀ j, j < 4 → d' (o + 2) j = d (p + 2) j) ∧ KE d p d' o 0 ∧ KE d p d' o 1
theorem AE_fr {l : List Nat} {n lo hi : Nat} {d1 d2 : sD} (h : AE l n d p d1 o) (hF : Fr lo hi d1 d2) (hn : o + n < lo ∨ hi < o) : AE l n d p d2 o := fun x j h1 h2 hj => by rw [hF _ _ (by omega)]; exact h x j h1 h2 hj
theorem AE_src {l : List Nat} {n lo hi : Nat} {d1 d2 : sD} (h : AE l n d1 p d2 o) (hF : Fr lo hi d d1) (hn : p + n < lo ∨ hi < p) : AE l n d p d2 o := fun x j h1 h2 hj => by rw [h x j h1 h2 hj, hF _ _ (by omega)]
theorem KE_fr {lo hi k : Nat} {d1 d2 : sD} (h : KE d p d1 o k) (hF : Fr lo hi d1 d2) (hn : o + 27 + 21 * k < lo ∨ hi < o + 7 + 21 * k) : KE d p d2 o k := ⟨⟨⟨by rw [hF _ _ (by omega)]; exact h.1.1.1, by rw [hF _ _ (by omega)]; exact h.1.1.2.1, by rw [hF _ _ (by omega)]; exact h.1.1.2.2⟩, AE_fr h.1.2 hF (by omega)⟩, AE_fr h.2.1 hF (by omega), AE_fr h.2.2.1 hF (by omega), by rw [hF _ _ (by omega)]; exact h.2.2.2.1, AE_fr h.2.2.2.2 hF (by omega)⟩
theorem KE_src {lo hi k : Nat} {d1 d2 : sD} (h : KE d1 p d2 o k) (hF : Fr lo hi d d1) (hn : p + 27 + 21 * k < lo ∨ hi < p + 7 + 21 * k) : KE d p d2 o k := ⟨⟨⟨by rw [h.1.1.1, hF _ _ (by omega)], by rw [h.1.1.2.1, hF _ _ (by omega)], by rw [h.1.1.2.2, hF _ _ (by omega)]⟩, AE_src h.1.2 hF (by omega)⟩, AE_src h.2.1 hF (by omega), AE_src h.2.2.1 hF (by omega), by rw [h.2.2.2.1, hF _ _ (by omega)], AE_src h.2.2.2.2 hF (by omega)⟩
theorem t_tcopy (ht : kn S0 o = 8) (hp : kn S0 p = 8) (hd : o + 48 < p ∨ p + 48 < o) : tB G mX8_copyFrom 0 [vR o, vR p, vU 0] [] d (fun r d' => r = none ∧ TE d p d' o ∧ Fr o (o + 48) d d') := by
  have h56 : ∀ z : Nat × sD, (z.1 ≤ 2 ∧ ((z.2 o 1 = d p 1 ∧ z.2 o 2 = d p 2 ∧ z.2 o 3 = d p 3) ∧ (∀ j, j < 600 → z.2 (o + 1) j = d (p + 1) j) ∧ (∀ j, j < 4 → z.2 (o + 2) j = d (p + 2) j)) ∧ (∀ k, k < z.1 → KE d p z.2 o k) ∧ Fr o (o + 48) d z.2) → tB G mX8_copyFrom 56 [vR o, vR p, vI z.1] [] (z.2) (fun r d' => r = none ∧ TE d p d' o ∧ Fr o (o + 48) d d') := by
    refine T_loop (α := Nat × sD) 56 (fun z => [vR o, vR p, vI z.1]) (fun z => z.2) (fun z => z.1 ≤ 2 ∧ ((z.2 o 1 = d p 1 ∧ z.2 o 2 = d p 2 ∧ z.2 o 3 = d p 3) ∧ (∀ j, j < 600 → z.2 (o + 1) j = d (p + 1) j) ∧ (∀ j, j < 4 → z.2 (o + 2) j = d (p + 2) j)) ∧ (∀ k, k < z.1 → KE d p z.2 o k) ∧ Fr o (o + 48) d z.2) (fun z => 2 - z.1) ?_
    rintro ⟨k, b⟩ ⟨h1, ⟨⟨a1, a2, a3⟩, a4, a5⟩, h3, h4⟩ ih
    try dsimp only at h1 a1 a2 a3 a4 a5 h3 h4 ih ⊢
    have hkk : k < 2 → tB G mX8_copyFrom 61 [vR o, vR p, vI k] [] b (fun r d' => r = none ∧ TE d p d' o ∧ Fr o (o + 48) d d') := by
      intro hk
      obtain ⟨⟨o1, o2⟩, ⟨o3, o4⟩, ⟨o5, o6⟩, o7, o8⟩ := kn_o ht hk
      obtain ⟨⟨p1, p2⟩, ⟨p3, p4⟩, ⟨p5, p6⟩, p7, p8⟩ := kn_o hp hk
      refine T_aload_n dX8_copyFrom_61 rfl ?_
      refine T_getR dX8_copyFrom_62 fX8_31 rfl ht (rO5 ht) ?_
      refine T_iload_n dX8_copyFrom_65 rfl ?_
      refine T_aald dX8_copyFrom_66 (kO5 ht) (by decide) (lO5 ht) (by omega) o2 ?_
      refine T_aload_n dX8_copyFrom_67 rfl ?_
      refine T_getR dX8_copyFrom_68 fX8_31 rfl hp (rO5 hp) ?_
      refine T_iload_n dX8_copyFrom_71 rfl ?_
      refine T_aald dX8_copyFrom_72 (kO5 hp) (by decide) (lO5 hp) (by omega) p2 ?_
      refine T_callV dX8_copyFrom_73 lX8_63 (As := [_]) (rest := _) rfl rfl o1 (by decide) (Nat.le_of_ble_eq_true rfl) (Nat.le_of_ble_eq_true rfl) (t_wcopy o1 p1 (by omega)) ?_
      rintro _ d1 ⟨rfl, e1, f1⟩
      refine T_aload_n dX8_copyFrom_76 rfl ?_
      refine T_getR dX8_copyFrom_77 fX8_37 rfl ht (rO6 ht) ?_
      refine T_iload_n dX8_copyFrom_80 rfl ?_
      refine T_aald dX8_copyFrom_81 (kO6 ht) (by decide) (lO6 ht) (by omega) o4 ?_
      refine T_aload_n dX8_copyFrom_82 rfl ?_
      refine T_getR dX8_copyFrom_83 fX8_37 rfl hp (rO6 hp) ?_
      refine T_iload_n dX8_copyFrom_86 rfl ?_
      refine T_aald dX8_copyFrom_87 (kO6 hp) (by decide) (lO6 hp) (by omega) p4 ?_
      refine T_callV dX8_copyFrom_88 lX8_67 (As := [_]) (rest := _) rfl rfl o3 (by decide) (Nat.le_of_ble_eq_true rfl) (Nat.le_of_ble_eq_true rfl) (t_scopyE o3 p3 (by omega)) ?_
      rintro _ d2 ⟨rfl, e2, f2⟩
      refine T_aload_n dX8_copyFrom_91 rfl ?_
      refine T_getR dX8_copyFrom_92 fX8_43 rfl ht (rO7 ht) ?_
      refine T_iload_n dX8_copyFrom_95 rfl ?_
      refine T_aald dX8_copyFrom_96 (kO7 ht) (by decide) (lO7 ht) (by omega) o6 ?_
      refine T_aload_n dX8_copyFrom_97 rfl ?_
      refine T_getR dX8_copyFrom_98 fX8_43 rfl hp (rO7 hp) ?_
      refine T_iload_n dX8_copyFrom_101 rfl ?_
      refine T_aald dX8_copyFrom_102 (kO7 hp) (by decide) (lO7 hp) (by omega) p6 ?_
      refine T_callV dX8_copyFrom_103 lX8_70 (As := [_]) (rest := _) rfl rfl o5 (by decide) (Nat.le_of_ble_eq_true rfl) (Nat.le_of_ble_eq_true rfl) (t_hcopy o5 p5 (by omega)) ?_
      rintro _ d3 ⟨rfl, e3, f3⟩
      refine T_aload_n dX8_copyFrom_106 rfl ?_
      refine T_getR dX8_copyFrom_107 fX8_49 rfl ht (rO8 ht) ?_
      refine T_iload_n dX8_copyFrom_110 rfl ?_
      refine T_aald dX8_copyFrom_111 (kO8 ht) (by decide) (lO8 ht) (by omega) o8 ?_
      refine T_aload_n dX8_copyFrom_112 rfl ?_
      refine T_getR dX8_copyFrom_113 fX8_49 rfl hp (rO8 hp) ?_
      refine T_iload_n dX8_copyFrom_116 rfl ?_
      refine T_aald dX8_copyFrom_117 (kO8 hp) (by decide) (lO8 hp) (by omega) p8 ?_
      refine T_callV dX8_copyFrom_118 lX8_73 (As := [_]) (rest := _) rfl rfl o7 (by decide) (Nat.le_of_ble_eq_true rfl) (Nat.le_of_ble_eq_true rfl) (t_vcopy o7 p7 (by omega)) ?_
      rintro _ d4 ⟨rfl, e4, f4⟩
      refine T_inc dX8_copyFrom_121 rfl (by decide) rfl (by omega) ?_
      refine T_goto (tgt := 56) dX8_copyFrom_124 (by decide) ?_
      have F14 : Fr (o + 7 + 21 * k) (o + 27 + 21 * k) b d4 := (((f1.mono (by omega)).trans (f2.mono (by omega))).trans (f3.mono (by omega))).trans (f4.mono (by omega))
      have hKb : KE b p d4 o k := ⟨⟨⟨by rw [f4 _ _ (by omega), f3 _ _ (by omega), f2 _ _ (by omega)]; exact e1.1.1, by rw [f4 _ _ (by omega), f3 _ _ (by omega), f2 _ _ (by omega)]; exact e1.1.2.1, by rw [f4 _ _ (by omega), f3 _ _ (by omega), f2 _ _ (by omega)]; exact e1.1.2.2⟩, AE_fr (AE_fr (AE_fr e1.2 f2 (by omega)) f3 (by omega)) f4 (by omega)⟩, AE_src (AE_fr (AE_fr e2 f3 (by omega)) f4 (by omega)) f1 (by omega), AE_src (AE_src (AE_fr e3 f4 (by omega)) f2 (by omega)) f1 (by omega), by rw [e4.1, f3 _ _ (by omega), f2 _ _ (by omega), f1 _ _ (by omega)], AE_src (AE_src (AE_src e4.2 f3 (by omega)) f2 (by omega)) f1 (by omega)⟩
      refine ih (k + 1, d4) ⟨by dsimp only; omega, ⟨⟨by dsimp only; rw [F14 _ _ (by omega)]; exact a1, by dsimp only; rw [F14 _ _ (by omega)]; exact a2, by dsimp only; rw [F14 _ _ (by omega)]; exact a3⟩, fun j hj => by dsimp only; rw [F14 _ _ (by omega)]; exact a4 j hj, fun j hj => by dsimp only; rw [F14 _ _ (by omega)]; exact a5 j hj⟩, fun q hq => ?_, h4.trans (F14.mono (by omega))⟩ (by dsimp only; omega)
      dsimp only at hq ⊢
      rcases (show q < k ∨ q = k by omega) with z | rfl
      · exact KE_fr (h3 q z) F14 (by omega)
      · exact KE_src hKb h4 (by omega)
    refine T_iload_n dX8_copyFrom_56 rfl ?_
    refine T_iconst dX8_copyFrom_57 (by decide) ?_
    refine T_icmp_ge (tgt := 127) dX8_copyFrom_58 (by decide) (fun c58 => ?_) (fun c58 => ?_)
    · exact T_return dX8_copyFrom_127 rfl ⟨rfl, ⟨⟨a1, a2, a3⟩, a4, a5, h3 0 (by omega), h3 1 (by omega)⟩, h4⟩
    · exact hkk (by omega)
  refine T_aload_n dX8_copyFrom_0 rfl ?_
  refine T_getR dX8_copyFrom_1 fX8_9 rfl hp (rO0 hp) ?_
  refine T_iconst dX8_copyFrom_4 (by decide) ?_
  refine T_aload_n dX8_copyFrom_5 rfl ?_
  refine T_getR dX8_copyFrom_6 fX8_9 rfl ht (rO0 ht) ?_
  refine T_iconst dX8_copyFrom_9 (by decide) ?_
  refine T_sipush dX8_copyFrom_10 (by decide) ?_
  refine T_copy dX8_copyFrom_13 lX8_57 (by decide) (Nat.le_of_ble_eq_true rfl) (by decide) (kO0 hp) (kO0 ht) (lO0 hp) (lO0 ht) (by omega) ?_
  refine T_aload_n dX8_copyFrom_16 rfl ?_
  refine T_aload_n dX8_copyFrom_17 rfl ?_
  refine T_getIv dX8_copyFrom_18 fX8_15 rfl hp (x := d p 1) (cpy_ne (by omega)) ?_
  refine T_putI dX8_copyFrom_21 fX8_15 rfl ht ?_
  refine T_aload_n dX8_copyFrom_24 rfl ?_
  refine T_aload_n dX8_copyFrom_25 rfl ?_
  refine T_getIv dX8_copyFrom_26 fX8_19 rfl hp (x := d p 2) (by rw [up_nea (by omega), cpy_ne (by omega)]) ?_
  refine T_putI dX8_copyFrom_29 fX8_19 rfl ht ?_
  refine T_aload_n dX8_copyFrom_32 rfl ?_
  refine T_aload_n dX8_copyFrom_33 rfl ?_
  refine T_getIv dX8_copyFrom_34 fX8_22 rfl hp (x := d p 3) (by rw [up_nea (by omega), up_nea (by omega), cpy_ne (by omega)]) ?_
  refine T_putI dX8_copyFrom_37 fX8_22 rfl ht ?_
  refine T_aload_n dX8_copyFrom_40 rfl ?_
  refine T_getR dX8_copyFrom_41 fX8_25 rfl hp (rO4 hp) ?_
  refine T_iconst dX8_copyFrom_44 (by decide) ?_
  refine T_aload_n dX8_copyFrom_45 rfl ?_
  refine T_getR dX8_copyFrom_46 fX8_25 rfl ht (rO4 ht) ?_
  refine T_iconst dX8_copyFrom_49 (by decide) ?_
  refine T_iconst dX8_copyFrom_50 (by decide) ?_
  refine T_copy dX8_copyFrom_51 lX8_57 (by decide) (Nat.le_of_ble_eq_true rfl) (by decide) (kO4 hp) (kO4 ht) (lO4 hp) (lO4 ht) (by omega) ?_
  refine T_iconst dX8_copyFrom_54 (by decide) ?_
  refine T_ist_n dX8_copyFrom_55 (by decide) rfl ?_
  refine T_nm (fun m2 hm2 => h56 (0, m2) ?_ )
  subst hm2
  try dsimp only
  refine ⟨Nat.zero_le _, ⟨⟨by rw [cpy_ne (by omega), up_nej (by decide), up_nej (by decide), up_same], by rw [cpy_ne (by omega), up_nej (by decide), up_same], by rw [cpy_ne (by omega), up_same]⟩, fun j hj => by rw [cpy_ne (by omega), up_nea (by omega), up_nea (by omega), up_nea (by omega), cpy_in (k := 600) (m := 600) rfl rfl rfl hj], fun j hj => by rw [cpy_in (k := 4) (m := 4) rfl rfl rfl hj, up_nea (by omega), up_nea (by omega), up_nea (by omega), cpy_ne (by omega)]⟩, fun k hk => absurd hk (Nat.not_lt_zero k), ((((Fr.rf.cpy (by omega)).up (by omega)).up (by omega)).up (by omega)).cpy (by omega)⟩

end C23
