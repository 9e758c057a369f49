/-! the reference: bytes, words -/
section M37
variable {G : sG} {d : sD}
/-- a byte of the tape, -1 beyond it -/
def byS (d : sD) (i : Nat) : Int := if (i : Int) < d 271 2 then d 272 (10 + i) else -1
theorem t_byteAt {i : Nat} (hs : 0 ≤ d 271 2 ∧ d 271 2 ≤ 600) : tB G mX12_byteAt 0 [vR 271, vI i] [] d (fun r d' => r = some (vI (byS d i)) ∧ d = d') := by
  refine T_iload_n dX12_byteAt_0 rfl ?_
  refine T_aload_n dX12_byteAt_1 rfl ?_
  refine T_getI dX12_byteAt_2 fX12_87 rfl k271 ?_
  refine T_icmp_ge (tgt := 20) dX12_byteAt_5 (by decide) (fun c5 => ?_) (fun c5 => ?_)
  · refine T_iconst dX12_byteAt_20 (by decide) ?_
    exact T_ireturn dX12_byteAt_21 rfl ⟨by unfold byS; rw [if_neg (by omega)], rfl⟩
  · refine T_aload_n dX12_byteAt_8 rfl ?_
    refine T_getR dX12_byteAt_9 fX12_7 rfl k271 r271_0 ?_
    refine T_bipush dX12_byteAt_12 (by decide) ?_
    refine T_iload_n dX12_byteAt_14 rfl ?_
    refine T_add dX12_byteAt_15 (by omega) ?_
    refine T_iald dX12_byteAt_16 k272 l272 (by omega) (j := 10 + i) (by omega) ?_
    refine T_goto (tgt := 21) dX12_byteAt_17 (by decide) ?_
    exact T_ireturn dX12_byteAt_21 rfl ⟨by unfold byS; rw [if_pos (by omega)], rfl⟩

def foS (a b c e : Int) : Int := ((a * 32 + b) * 32 + c) * 32 + e
abbrev i5 (a : Int) : Prop := 0 ≤ a ∧ a ≤ 31
theorem t_four {a b c e : Int} (ha : i5 a) (hb : i5 b) (hc : i5 c) (he : i5 e) : tB G mX12_four 0 [vI a, vI b, vI c, vI e] [] d (fun r d' => r = some (vL (foS a b c e)) ∧ d = d') := by
  refine T_iload_n dX12_four_0 rfl ?_
  refine T_bipush dX12_four_1 (by decide) ?_
  refine T_mul dX12_four_3 (by omega) ?_
  refine T_iload_n dX12_four_4 rfl ?_
  refine T_add dX12_four_5 (by omega) ?_
  refine T_bipush dX12_four_6 (by decide) ?_
  refine T_mul dX12_four_8 (by omega) ?_
  refine T_iload_n dX12_four_9 rfl ?_
  refine T_add dX12_four_10 (by omega) ?_
  refine T_bipush dX12_four_11 (by decide) ?_
  refine T_mul dX12_four_13 (by omega) ?_
  refine T_iload_n dX12_four_14 rfl ?_
  refine T_add dX12_four_15 (by omega) ?_
  refine T_i2l dX12_four_16 ?_
  exact T_lreturn dX12_four_17 rfl ⟨rfl, rfl⟩

def egS (a b c e f g h i : Int) : Int := foS a b c e * 1048576 + foS f g h i
theorem t_eight {a b c e f g h i : Int} (ha : i5 a) (hb : i5 b) (hc : i5 c) (he : i5 e) (hf : i5 f) (hg : i5 g) (hh : i5 h) (hi : i5 i) : tB G mX12_eight 0 [vI a, vI b, vI c, vI e, vI f, vI g, vI h, vI i] [] d (fun r d' => r = some (vL (egS a b c e f g h i)) ∧ d = d') := by
  have h1 : 0 ≤ foS a b c e ∧ foS a b c e < 1048576 := by unfold foS; omega
  have h2 : 0 ≤ foS f g h i ∧ foS f g h i < 1048576 := by unfold foS; omega
  refine T_iload_n dX12_eight_0 rfl ?_
  refine T_iload_n dX12_eight_1 rfl ?_
  refine T_iload_n dX12_eight_2 rfl ?_
  refine T_iload_n dX12_eight_3 rfl ?_
  refine T_callS dX12_eight_4 lX12_91 (As := [_, _, _, _]) (rest := _) rfl rfl (by decide) (Nat.le_of_ble_eq_true rfl) (Nat.le_of_ble_eq_true rfl) (t_four ha hb hc he) ?_
  rintro _ _ ⟨rfl, rfl⟩
  refine T_ldc2 dX12_eight_7 (by decide) kX12_95 ?_
  refine T_lmul dX12_eight_10 ?_
  refine T_iload dX12_eight_11 rfl ?_
  refine T_iload dX12_eight_13 rfl ?_
  refine T_iload dX12_eight_15 rfl ?_
  refine T_iload dX12_eight_17 rfl ?_
  refine T_callS dX12_eight_19 lX12_91 (As := [_, _, _, _]) (rest := _) rfl rfl (by decide) (Nat.le_of_ble_eq_true rfl) (Nat.le_of_ble_eq_true rfl) (t_four hf hg hh hi) ?_
  rintro _ _ ⟨rfl, rfl⟩
  refine T_ladd dX12_eight_22 ?_
  exact T_lreturn dX12_eight_23 rfl ⟨by rw [w64_id (x := foS a b c e * 1048576) (by omega) (by omega), w64_id (by omega) (by omega)]; rfl, rfl⟩

def owS (x : Int) : Int := if x = foS 8 1 12 20 then 14 else if x = foS 12 5 6 20 then 15 else if x = egS 0 0 0 18 9 7 8 20 then 16 else if x = egS 0 0 3 8 1 18 7 5 then 17 else if x = egS 0 18 5 20 18 5 1 20 then 18 else if x = egS 0 0 0 7 9 22 5 19 then 19 else if x = foS 13 1 4 5 then 20 else if x = foS 4 18 15 16 then 21 else if x = foS 19 23 1 16 then 22 else if x = egS 0 0 0 20 23 9 3 5 then 23 else if x = foS 12 1 19 20 then 24 else 99
def wdS (x : Int) : Int := if x = foS 20 21 18 14 then 1 else if x = egS 0 0 0 20 9 18 5 4 then 2 else if x = foS 5 3 8 15 then 3 else if x = foS 0 23 5 20 then 4 else if x = foS 6 18 15 13 then 5 else if x = foS 19 20 5 16 then 6 else if x = foS 0 12 1 7 then 7 else if x = egS 0 0 0 16 12 1 3 5 then 8 else if x = egS 0 0 0 15 18 4 5 18 then 9 else if x = foS 18 5 19 20 then 10 else if x = foS 0 20 1 16 then 11 else if x = foS 6 12 1 13 then 12 else if x = foS 18 15 12 12 then 13 else owS x
theorem cmpZ_e {x y : Int} : cmpZ x y = 0 ↔ x = y := by unfold cmpZ; (repeat' split) <;> omega
theorem t_otherWord {x : Int} : tB G mX12_otherWord 0 [vL x, vU 0] [] d (fun r d' => r = some (vI (owS x)) ∧ d = d') := by
  refine T_lload_n dX12_otherWord_0 rfl ?_
  refine T_bipush dX12_otherWord_1 (by decide) ?_
  refine T_iconst dX12_otherWord_3 (by decide) ?_
  refine T_bipush dX12_otherWord_4 (by decide) ?_
  refine T_bipush dX12_otherWord_6 (by decide) ?_
  refine T_callS dX12_otherWord_8 lX12_91 (As := [_, _, _, _]) (rest := _) rfl rfl (by decide) (Nat.le_of_ble_eq_true rfl) (Nat.le_of_ble_eq_true rfl) (t_four (by decide) (by decide) (by decide) (by decide)) ?_
  rintro _ _ ⟨rfl, rfl⟩
  refine T_lcmp dX12_otherWord_11 ?_
  refine T_if_ne (tgt := 18) dX12_otherWord_12 (by decide) (fun c12 => ?_) (fun c12 => ?_)
  · refine T_lload_n dX12_otherWord_18 rfl ?_
    refine T_bipush dX12_otherWord_19 (by decide) ?_
    refine T_iconst dX12_otherWord_21 (by decide) ?_
    refine T_bipush dX12_otherWord_22 (by decide) ?_
    refine T_bipush dX12_otherWord_24 (by decide) ?_
    refine T_callS dX12_otherWord_26 lX12_91 (As := [_, _, _, _]) (rest := _) rfl rfl (by decide) (Nat.le_of_ble_eq_true rfl) (Nat.le_of_ble_eq_true rfl) (t_four (by decide) (by decide) (by decide) (by decide)) ?_
    rintro _ _ ⟨rfl, rfl⟩
    refine T_lcmp dX12_otherWord_29 ?_
    refine T_if_ne (tgt := 36) dX12_otherWord_30 (by decide) (fun c30 => ?_) (fun c30 => ?_)
    · refine T_lload_n dX12_otherWord_36 rfl ?_
      refine T_iconst dX12_otherWord_37 (by decide) ?_
      refine T_iconst dX12_otherWord_38 (by decide) ?_
      refine T_iconst dX12_otherWord_39 (by decide) ?_
      refine T_bipush dX12_otherWord_40 (by decide) ?_
      refine T_bipush dX12_otherWord_42 (by decide) ?_
      refine T_bipush dX12_otherWord_44 (by decide) ?_
      refine T_bipush dX12_otherWord_46 (by decide) ?_
      refine T_bipush dX12_otherWord_48 (by decide) ?_
      refine T_callS dX12_otherWord_50 lX12_97 (As := [_, _, _, _, _, _, _, _]) (rest := _) rfl rfl (by decide) (Nat.le_of_ble_eq_true rfl) (Nat.le_of_ble_eq_true rfl) (t_eight (by decide) (by decide) (by decide) (by decide) (by decide) (by decide) (by decide) (by decide)) ?_
      rintro _ _ ⟨rfl, rfl⟩
      refine T_lcmp dX12_otherWord_53 ?_
      refine T_if_ne (tgt := 60) dX12_otherWord_54 (by decide) (fun c54 => ?_) (fun c54 => ?_)
      · refine T_lload_n dX12_otherWord_60 rfl ?_
        refine T_iconst dX12_otherWord_61 (by decide) ?_
        refine T_iconst dX12_otherWord_62 (by decide) ?_
        refine T_iconst dX12_otherWord_63 (by decide) ?_
        refine T_bipush dX12_otherWord_64 (by decide) ?_
        refine T_iconst dX12_otherWord_66 (by decide) ?_
        refine T_bipush dX12_otherWord_67 (by decide) ?_
        refine T_bipush dX12_otherWord_69 (by decide) ?_
        refine T_iconst dX12_otherWord_71 (by decide) ?_
        refine T_callS dX12_otherWord_72 lX12_97 (As := [_, _, _, _, _, _, _, _]) (rest := _) rfl rfl (by decide) (Nat.le_of_ble_eq_true rfl) (Nat.le_of_ble_eq_true rfl) (t_eight (by decide) (by decide) (by decide) (by decide) (by decide) (by decide) (by decide) (by decide)) ?_
        rintro _ _ ⟨rfl, rfl⟩
        refine T_lcmp dX12_otherWord_75 ?_
        refine T_if_ne (tgt := 82) dX12_otherWord_76 (by decide) (fun c76 => ?_) (fun c76 => ?_)
        · refine T_lload_n dX12_otherWord_82 rfl ?_
          refine T_iconst dX12_otherWord_83 (by decide) ?_
          refine T_bipush dX12_otherWord_84 (by decide) ?_
          refine T_iconst dX12_otherWord_86 (by decide) ?_
          refine T_bipush dX12_otherWord_87 (by decide) ?_
          refine T_bipush dX12_otherWord_89 (by decide) ?_
          refine T_iconst dX12_otherWord_91 (by decide) ?_
          refine T_iconst dX12_otherWord_92 (by decide) ?_
          refine T_bipush dX12_otherWord_93 (by decide) ?_
          refine T_callS dX12_otherWord_95 lX12_97 (As := [_, _, _, _, _, _, _, _]) (rest := _) rfl rfl (by decide) (Nat.le_of_ble_eq_true rfl) (Nat.le_of_ble_eq_true rfl) (t_eight (by decide) (by decide) (by decide) (by decide) (by decide) (by decide) (by decide) (by decide)) ?_
          rintro _ _ ⟨rfl, rfl⟩
          refine T_lcmp dX12_otherWord_98 ?_
          refine T_if_ne (tgt := 105) dX12_otherWord_99 (by decide) (fun c99 => ?_) (fun c99 => ?_)
          · refine T_lload_n dX12_otherWord_105 rfl ?_
            refine T_iconst dX12_otherWord_106 (by decide) ?_
            refine T_iconst dX12_otherWord_107 (by decide) ?_
            refine T_iconst dX12_otherWord_108 (by decide) ?_
            refine T_bipush dX12_otherWord_109 (by decide) ?_
            refine T_bipush dX12_otherWord_111 (by decide) ?_
            refine T_bipush dX12_otherWord_113 (by decide) ?_
            refine T_iconst dX12_otherWord_115 (by decide) ?_
            refine T_bipush dX12_otherWord_116 (by decide) ?_
            refine T_callS dX12_otherWord_118 lX12_97 (As := [_, _, _, _, _, _, _, _]) (rest := _) rfl rfl (by decide) (Nat.le_of_ble_eq_true rfl) (Nat.le_of_ble_eq_true rfl) (t_eight (by decide) (by decide) (by decide) (by decide) (by decide) (by decide) (by decide) (by decide)) ?_
            rintro _ _ ⟨rfl, rfl⟩
            refine T_lcmp dX12_otherWord_121 ?_
            refine T_if_ne (tgt := 128) dX12_otherWord_122 (by decide) (fun c122 => ?_) (fun c122 => ?_)
            · refine T_lload_n dX12_otherWord_128 rfl ?_
              refine T_bipush dX12_otherWord_129 (by decide) ?_
              refine T_iconst dX12_otherWord_131 (by decide) ?_
              refine T_iconst dX12_otherWord_132 (by decide) ?_
              refine T_iconst dX12_otherWord_133 (by decide) ?_
              refine T_callS dX12_otherWord_134 lX12_91 (As := [_, _, _, _]) (rest := _) rfl rfl (by decide) (Nat.le_of_ble_eq_true rfl) (Nat.le_of_ble_eq_true rfl) (t_four (by decide) (by decide) (by decide) (by decide)) ?_
              rintro _ _ ⟨rfl, rfl⟩
              refine T_lcmp dX12_otherWord_137 ?_
              refine T_if_ne (tgt := 144) dX12_otherWord_138 (by decide) (fun c138 => ?_) (fun c138 => ?_)
              · refine T_lload_n dX12_otherWord_144 rfl ?_
                refine T_iconst dX12_otherWord_145 (by decide) ?_
                refine T_bipush dX12_otherWord_146 (by decide) ?_
                refine T_bipush dX12_otherWord_148 (by decide) ?_
                refine T_bipush dX12_otherWord_150 (by decide) ?_
                refine T_callS dX12_otherWord_152 lX12_91 (As := [_, _, _, _]) (rest := _) rfl rfl (by decide) (Nat.le_of_ble_eq_true rfl) (Nat.le_of_ble_eq_true rfl) (t_four (by decide) (by decide) (by decide) (by decide)) ?_
                rintro _ _ ⟨rfl, rfl⟩
                refine T_lcmp dX12_otherWord_155 ?_
                refine T_if_ne (tgt := 162) dX12_otherWord_156 (by decide) (fun c156 => ?_) (fun c156 => ?_)
                · refine T_lload_n dX12_otherWord_162 rfl ?_
                  refine T_bipush dX12_otherWord_163 (by decide) ?_
                  refine T_bipush dX12_otherWord_165 (by decide) ?_
                  refine T_iconst dX12_otherWord_167 (by decide) ?_
                  refine T_bipush dX12_otherWord_168 (by decide) ?_
                  refine T_callS dX12_otherWord_170 lX12_91 (As := [_, _, _, _]) (rest := _) rfl rfl (by decide) (Nat.le_of_ble_eq_true rfl) (Nat.le_of_ble_eq_true rfl) (t_four (by decide) (by decide) (by decide) (by decide)) ?_
                  rintro _ _ ⟨rfl, rfl⟩
                  refine T_lcmp dX12_otherWord_173 ?_
                  refine T_if_ne (tgt := 180) dX12_otherWord_174 (by decide) (fun c174 => ?_) (fun c174 => ?_)
                  · refine T_lload_n dX12_otherWord_180 rfl ?_
                    refine T_iconst dX12_otherWord_181 (by decide) ?_
                    refine T_iconst dX12_otherWord_182 (by decide) ?_
                    refine T_iconst dX12_otherWord_183 (by decide) ?_
                    refine T_bipush dX12_otherWord_184 (by decide) ?_
                    refine T_bipush dX12_otherWord_186 (by decide) ?_
                    refine T_bipush dX12_otherWord_188 (by decide) ?_
                    refine T_iconst dX12_otherWord_190 (by decide) ?_
                    refine T_iconst dX12_otherWord_191 (by decide) ?_
                    refine T_callS dX12_otherWord_192 lX12_97 (As := [_, _, _, _, _, _, _, _]) (rest := _) rfl rfl (by decide) (Nat.le_of_ble_eq_true rfl) (Nat.le_of_ble_eq_true rfl) (t_eight (by decide) (by decide) (by decide) (by decide) (by decide) (by decide) (by decide) (by decide)) ?_
                    rintro _ _ ⟨rfl, rfl⟩
                    refine T_lcmp dX12_otherWord_195 ?_
                    refine T_if_ne (tgt := 202) dX12_otherWord_196 (by decide) (fun c196 => ?_) (fun c196 => ?_)
                    · refine T_lload_n dX12_otherWord_202 rfl ?_
                      refine T_bipush dX12_otherWord_203 (by decide) ?_
                      refine T_iconst dX12_otherWord_205 (by decide) ?_
                      refine T_bipush dX12_otherWord_206 (by decide) ?_
                      refine T_bipush dX12_otherWord_208 (by decide) ?_
                      refine T_callS dX12_otherWord_210 lX12_91 (As := [_, _, _, _]) (rest := _) rfl rfl (by decide) (Nat.le_of_ble_eq_true rfl) (Nat.le_of_ble_eq_true rfl) (t_four (by decide) (by decide) (by decide) (by decide)) ?_
                      rintro _ _ ⟨rfl, rfl⟩
                      refine T_lcmp dX12_otherWord_213 ?_
                      refine T_if_ne (tgt := 222) dX12_otherWord_214 (by decide) (fun c214 => ?_) (fun c214 => ?_)
                      · refine T_bipush dX12_otherWord_222 (by decide) ?_
                        exact T_ireturn dX12_otherWord_224 rfl ⟨by unfold owS; rw [if_neg (fun z => c12 (cmpZ_e.mpr z)), if_neg (fun z => c30 (cmpZ_e.mpr z)), if_neg (fun z => c54 (cmpZ_e.mpr z)), if_neg (fun z => c76 (cmpZ_e.mpr z)), if_neg (fun z => c99 (cmpZ_e.mpr z)), if_neg (fun z => c122 (cmpZ_e.mpr z)), if_neg (fun z => c138 (cmpZ_e.mpr z)), if_neg (fun z => c156 (cmpZ_e.mpr z)), if_neg (fun z => c174 (cmpZ_e.mpr z)), if_neg (fun z => c196 (cmpZ_e.mpr z)), if_neg (fun z => c214 (cmpZ_e.mpr z))], rfl⟩
                      · refine T_bipush dX12_otherWord_217 (by decide) ?_
                        refine T_goto (tgt := 224) dX12_otherWord_219 (by decide) ?_
                        exact T_ireturn dX12_otherWord_224 rfl ⟨by unfold owS; rw [if_neg (fun z => c12 (cmpZ_e.mpr z)), if_neg (fun z => c30 (cmpZ_e.mpr z)), if_neg (fun z => c54 (cmpZ_e.mpr z)), if_neg (fun z => c76 (cmpZ_e.mpr z)), if_neg (fun z => c99 (cmpZ_e.mpr z)), if_neg (fun z => c122 (cmpZ_e.mpr z)), if_neg (fun z => c138 (cmpZ_e.mpr z)), if_neg (fun z => c156 (cmpZ_e.mpr z)), if_neg (fun z => c174 (cmpZ_e.mpr z)), if_neg (fun z => c196 (cmpZ_e.mpr z)), if_pos (cmpZ_e.mp c214)], rfl⟩
                    · refine T_bipush dX12_otherWord_199 (by decide) ?_
                      exact T_ireturn dX12_otherWord_201 rfl ⟨by unfold owS; rw [if_neg (fun z => c12 (cmpZ_e.mpr z)), if_neg (fun z => c30 (cmpZ_e.mpr z)), if_neg (fun z => c54 (cmpZ_e.mpr z)), if_neg (fun z => c76 (cmpZ_e.mpr z)), if_neg (fun z => c99 (cmpZ_e.mpr z)), if_neg (fun z => c122 (cmpZ_e.mpr z)), if_neg (fun z => c138 (cmpZ_e.mpr z)), if_neg (fun z => c156 (cmpZ_e.mpr z)), if_neg (fun z => c174 (cmpZ_e.mpr z)), if_pos (cmpZ_e.mp c196)], rfl⟩
                  · refine T_bipush dX12_otherWord_177 (by decide) ?_
                    exact T_ireturn dX12_otherWord_179 rfl ⟨by unfold owS; rw [if_neg (fun z => c12 (cmpZ_e.mpr z)), if_neg (fun z => c30 (cmpZ_e.mpr z)), if_neg (fun z => c54 (cmpZ_e.mpr z)), if_neg (fun z => c76 (cmpZ_e.mpr z)), if_neg (fun z => c99 (cmpZ_e.mpr z)), if_neg (fun z => c122 (cmpZ_e.mpr z)), if_neg (fun z => c138 (cmpZ_e.mpr z)), if_neg (fun z => c156 (cmpZ_e.mpr z)), if_pos (cmpZ_e.mp c174)], rfl⟩
                · refine T_bipush dX12_otherWord_159 (by decide) ?_
                  exact T_ireturn dX12_otherWord_161 rfl ⟨by unfold owS; rw [if_neg (fun z => c12 (cmpZ_e.mpr z)), if_neg (fun z => c30 (cmpZ_e.mpr z)), if_neg (fun z => c54 (cmpZ_e.mpr z)), if_neg (fun z => c76 (cmpZ_e.mpr z)), if_neg (fun z => c99 (cmpZ_e.mpr z)), if_neg (fun z => c122 (cmpZ_e.mpr z)), if_neg (fun z => c138 (cmpZ_e.mpr z)), if_pos (cmpZ_e.mp c156)], rfl⟩
              · refine T_bipush dX12_otherWord_141 (by decide) ?_
                exact T_ireturn dX12_otherWord_143 rfl ⟨by unfold owS; rw [if_neg (fun z => c12 (cmpZ_e.mpr z)), if_neg (fun z => c30 (cmpZ_e.mpr z)), if_neg (fun z => c54 (cmpZ_e.mpr z)), if_neg (fun z => c76 (cmpZ_e.mpr z)), if_neg (fun z => c99 (cmpZ_e.mpr z)), if_neg (fun z => c122 (cmpZ_e.mpr z)), if_pos (cmpZ_e.mp c138)], rfl⟩
            · refine T_bipush dX12_otherWord_125 (by decide) ?_
              exact T_ireturn dX12_otherWord_127 rfl ⟨by unfold owS; rw [if_neg (fun z => c12 (cmpZ_e.mpr z)), if_neg (fun z => c30 (cmpZ_e.mpr z)), if_neg (fun z => c54 (cmpZ_e.mpr z)), if_neg (fun z => c76 (cmpZ_e.mpr z)), if_neg (fun z => c99 (cmpZ_e.mpr z)), if_pos (cmpZ_e.mp c122)], rfl⟩
          · refine T_bipush dX12_otherWord_102 (by decide) ?_
            exact T_ireturn dX12_otherWord_104 rfl ⟨by unfold owS; rw [if_neg (fun z => c12 (cmpZ_e.mpr z)), if_neg (fun z => c30 (cmpZ_e.mpr z)), if_neg (fun z => c54 (cmpZ_e.mpr z)), if_neg (fun z => c76 (cmpZ_e.mpr z)), if_pos (cmpZ_e.mp c99)], rfl⟩
        · refine T_bipush dX12_otherWord_79 (by decide) ?_
          exact T_ireturn dX12_otherWord_81 rfl ⟨by unfold owS; rw [if_neg (fun z => c12 (cmpZ_e.mpr z)), if_neg (fun z => c30 (cmpZ_e.mpr z)), if_neg (fun z => c54 (cmpZ_e.mpr z)), if_pos (cmpZ_e.mp c76)], rfl⟩
      · refine T_bipush dX12_otherWord_57 (by decide) ?_
        exact T_ireturn dX12_otherWord_59 rfl ⟨by unfold owS; rw [if_neg (fun z => c12 (cmpZ_e.mpr z)), if_neg (fun z => c30 (cmpZ_e.mpr z)), if_pos (cmpZ_e.mp c54)], rfl⟩
    · refine T_bipush dX12_otherWord_33 (by decide) ?_
      exact T_ireturn dX12_otherWord_35 rfl ⟨by unfold owS; rw [if_neg (fun z => c12 (cmpZ_e.mpr z)), if_pos (cmpZ_e.mp c30)], rfl⟩
  · refine T_bipush dX12_otherWord_15 (by decide) ?_
    exact T_ireturn dX12_otherWord_17 rfl ⟨by unfold owS; rw [if_pos (cmpZ_e.mp c12)], rfl⟩
theorem t_wordOf {x : Int} : tB G mX12_wordOf 0 [vL x, vU 0] [] d (fun r d' => r = some (vI (wdS x)) ∧ d = d') := by
  refine T_lload_n dX12_wordOf_0 rfl ?_
  refine T_bipush dX12_wordOf_1 (by decide) ?_
  refine T_bipush dX12_wordOf_3 (by decide) ?_
  refine T_bipush dX12_wordOf_5 (by decide) ?_
  refine T_bipush dX12_wordOf_7 (by decide) ?_
  refine T_callS dX12_wordOf_9 lX12_91 (As := [_, _, _, _]) (rest := _) rfl rfl (by decide) (Nat.le_of_ble_eq_true rfl) (Nat.le_of_ble_eq_true rfl) (t_four (by decide) (by decide) (by decide) (by decide)) ?_
  rintro _ _ ⟨rfl, rfl⟩
  refine T_lcmp dX12_wordOf_12 ?_
  refine T_if_ne (tgt := 18) dX12_wordOf_13 (by decide) (fun c13 => ?_) (fun c13 => ?_)
  · refine T_lload_n dX12_wordOf_18 rfl ?_
    refine T_iconst dX12_wordOf_19 (by decide) ?_
    refine T_iconst dX12_wordOf_20 (by decide) ?_
    refine T_iconst dX12_wordOf_21 (by decide) ?_
    refine T_bipush dX12_wordOf_22 (by decide) ?_
    refine T_bipush dX12_wordOf_24 (by decide) ?_
    refine T_bipush dX12_wordOf_26 (by decide) ?_
    refine T_iconst dX12_wordOf_28 (by decide) ?_
    refine T_iconst dX12_wordOf_29 (by decide) ?_
    refine T_callS dX12_wordOf_30 lX12_97 (As := [_, _, _, _, _, _, _, _]) (rest := _) rfl rfl (by decide) (Nat.le_of_ble_eq_true rfl) (Nat.le_of_ble_eq_true rfl) (t_eight (by decide) (by decide) (by decide) (by decide) (by decide) (by decide) (by decide) (by decide)) ?_
    rintro _ _ ⟨rfl, rfl⟩
    refine T_lcmp dX12_wordOf_33 ?_
    refine T_if_ne (tgt := 39) dX12_wordOf_34 (by decide) (fun c34 => ?_) (fun c34 => ?_)
    · refine T_lload_n dX12_wordOf_39 rfl ?_
      refine T_iconst dX12_wordOf_40 (by decide) ?_
      refine T_iconst dX12_wordOf_41 (by decide) ?_
      refine T_bipush dX12_wordOf_42 (by decide) ?_
      refine T_bipush dX12_wordOf_44 (by decide) ?_
      refine T_callS dX12_wordOf_46 lX12_91 (As := [_, _, _, _]) (rest := _) rfl rfl (by decide) (Nat.le_of_ble_eq_true rfl) (Nat.le_of_ble_eq_true rfl) (t_four (by decide) (by decide) (by decide) (by decide)) ?_
      rintro _ _ ⟨rfl, rfl⟩
      refine T_lcmp dX12_wordOf_49 ?_
      refine T_if_ne (tgt := 55) dX12_wordOf_50 (by decide) (fun c50 => ?_) (fun c50 => ?_)
      · refine T_lload_n dX12_wordOf_55 rfl ?_
        refine T_iconst dX12_wordOf_56 (by decide) ?_
        refine T_bipush dX12_wordOf_57 (by decide) ?_
        refine T_iconst dX12_wordOf_59 (by decide) ?_
        refine T_bipush dX12_wordOf_60 (by decide) ?_
        refine T_callS dX12_wordOf_62 lX12_91 (As := [_, _, _, _]) (rest := _) rfl rfl (by decide) (Nat.le_of_ble_eq_true rfl) (Nat.le_of_ble_eq_true rfl) (t_four (by decide) (by decide) (by decide) (by decide)) ?_
        rintro _ _ ⟨rfl, rfl⟩
        refine T_lcmp dX12_wordOf_65 ?_
        refine T_if_ne (tgt := 71) dX12_wordOf_66 (by decide) (fun c66 => ?_) (fun c66 => ?_)
        · refine T_lload_n dX12_wordOf_71 rfl ?_
          refine T_bipush dX12_wordOf_72 (by decide) ?_
          refine T_bipush dX12_wordOf_74 (by decide) ?_
          refine T_bipush dX12_wordOf_76 (by decide) ?_
          refine T_bipush dX12_wordOf_78 (by decide) ?_
          refine T_callS dX12_wordOf_80 lX12_91 (As := [_, _, _, _]) (rest := _) rfl rfl (by decide) (Nat.le_of_ble_eq_true rfl) (Nat.le_of_ble_eq_true rfl) (t_four (by decide) (by decide) (by decide) (by decide)) ?_
          rintro _ _ ⟨rfl, rfl⟩
          refine T_lcmp dX12_wordOf_83 ?_
          refine T_if_ne (tgt := 89) dX12_wordOf_84 (by decide) (fun c84 => ?_) (fun c84 => ?_)
          · refine T_lload_n dX12_wordOf_89 rfl ?_
            refine T_bipush dX12_wordOf_90 (by decide) ?_
            refine T_bipush dX12_wordOf_92 (by decide) ?_
            refine T_iconst dX12_wordOf_94 (by decide) ?_
            refine T_bipush dX12_wordOf_95 (by decide) ?_
            refine T_callS dX12_wordOf_97 lX12_91 (As := [_, _, _, _]) (rest := _) rfl rfl (by decide) (Nat.le_of_ble_eq_true rfl) (Nat.le_of_ble_eq_true rfl) (t_four (by decide) (by decide) (by decide) (by decide)) ?_
            rintro _ _ ⟨rfl, rfl⟩
            refine T_lcmp dX12_wordOf_100 ?_
            refine T_if_ne (tgt := 107) dX12_wordOf_101 (by decide) (fun c101 => ?_) (fun c101 => ?_)
            · refine T_lload_n dX12_wordOf_107 rfl ?_
              refine T_iconst dX12_wordOf_108 (by decide) ?_
              refine T_bipush dX12_wordOf_109 (by decide) ?_
              refine T_iconst dX12_wordOf_111 (by decide) ?_
              refine T_bipush dX12_wordOf_112 (by decide) ?_
              refine T_callS dX12_wordOf_114 lX12_91 (As := [_, _, _, _]) (rest := _) rfl rfl (by decide) (Nat.le_of_ble_eq_true rfl) (Nat.le_of_ble_eq_true rfl) (t_four (by decide) (by decide) (by decide) (by decide)) ?_
              rintro _ _ ⟨rfl, rfl⟩
              refine T_lcmp dX12_wordOf_117 ?_
              refine T_if_ne (tgt := 124) dX12_wordOf_118 (by decide) (fun c118 => ?_) (fun c118 => ?_)
              · refine T_lload_n dX12_wordOf_124 rfl ?_
                refine T_iconst dX12_wordOf_125 (by decide) ?_
                refine T_iconst dX12_wordOf_126 (by decide) ?_
                refine T_iconst dX12_wordOf_127 (by decide) ?_
                refine T_bipush dX12_wordOf_128 (by decide) ?_
                refine T_bipush dX12_wordOf_130 (by decide) ?_
                refine T_iconst dX12_wordOf_132 (by decide) ?_
                refine T_iconst dX12_wordOf_133 (by decide) ?_
                refine T_iconst dX12_wordOf_134 (by decide) ?_
                refine T_callS dX12_wordOf_135 lX12_97 (As := [_, _, _, _, _, _, _, _]) (rest := _) rfl rfl (by decide) (Nat.le_of_ble_eq_true rfl) (Nat.le_of_ble_eq_true rfl) (t_eight (by decide) (by decide) (by decide) (by decide) (by decide) (by decide) (by decide) (by decide)) ?_
                rintro _ _ ⟨rfl, rfl⟩
                refine T_lcmp dX12_wordOf_138 ?_
                refine T_if_ne (tgt := 145) dX12_wordOf_139 (by decide) (fun c139 => ?_) (fun c139 => ?_)
                · refine T_lload_n dX12_wordOf_145 rfl ?_
                  refine T_iconst dX12_wordOf_146 (by decide) ?_
                  refine T_iconst dX12_wordOf_147 (by decide) ?_
                  refine T_iconst dX12_wordOf_148 (by decide) ?_
                  refine T_bipush dX12_wordOf_149 (by decide) ?_
                  refine T_bipush dX12_wordOf_151 (by decide) ?_
                  refine T_iconst dX12_wordOf_153 (by decide) ?_
                  refine T_iconst dX12_wordOf_154 (by decide) ?_
                  refine T_bipush dX12_wordOf_155 (by decide) ?_
                  refine T_callS dX12_wordOf_157 lX12_97 (As := [_, _, _, _, _, _, _, _]) (rest := _) rfl rfl (by decide) (Nat.le_of_ble_eq_true rfl) (Nat.le_of_ble_eq_true rfl) (t_eight (by decide) (by decide) (by decide) (by decide) (by decide) (by decide) (by decide) (by decide)) ?_
                  rintro _ _ ⟨rfl, rfl⟩
                  refine T_lcmp dX12_wordOf_160 ?_
                  refine T_if_ne (tgt := 167) dX12_wordOf_161 (by decide) (fun c161 => ?_) (fun c161 => ?_)
                  · refine T_lload_n dX12_wordOf_167 rfl ?_
                    refine T_bipush dX12_wordOf_168 (by decide) ?_
                    refine T_iconst dX12_wordOf_170 (by decide) ?_
                    refine T_bipush dX12_wordOf_171 (by decide) ?_
                    refine T_bipush dX12_wordOf_173 (by decide) ?_
                    refine T_callS dX12_wordOf_175 lX12_91 (As := [_, _, _, _]) (rest := _) rfl rfl (by decide) (Nat.le_of_ble_eq_true rfl) (Nat.le_of_ble_eq_true rfl) (t_four (by decide) (by decide) (by decide) (by decide)) ?_
                    rintro _ _ ⟨rfl, rfl⟩
                    refine T_lcmp dX12_wordOf_178 ?_
                    refine T_if_ne (tgt := 185) dX12_wordOf_179 (by decide) (fun c179 => ?_) (fun c179 => ?_)
                    · refine T_lload_n dX12_wordOf_185 rfl ?_
                      refine T_iconst dX12_wordOf_186 (by decide) ?_
                      refine T_bipush dX12_wordOf_187 (by decide) ?_
                      refine T_iconst dX12_wordOf_189 (by decide) ?_
                      refine T_bipush dX12_wordOf_190 (by decide) ?_
                      refine T_callS dX12_wordOf_192 lX12_91 (As := [_, _, _, _]) (rest := _) rfl rfl (by decide) (Nat.le_of_ble_eq_true rfl) (Nat.le_of_ble_eq_true rfl) (t_four (by decide) (by decide) (by decide) (by decide)) ?_
                      rintro _ _ ⟨rfl, rfl⟩
                      refine T_lcmp dX12_wordOf_195 ?_
                      refine T_if_ne (tgt := 202) dX12_wordOf_196 (by decide) (fun c196 => ?_) (fun c196 => ?_)
                      · refine T_lload_n dX12_wordOf_202 rfl ?_
                        refine T_bipush dX12_wordOf_203 (by decide) ?_
                        refine T_bipush dX12_wordOf_205 (by decide) ?_
                        refine T_iconst dX12_wordOf_207 (by decide) ?_
                        refine T_bipush dX12_wordOf_208 (by decide) ?_
                        refine T_callS dX12_wordOf_210 lX12_91 (As := [_, _, _, _]) (rest := _) rfl rfl (by decide) (Nat.le_of_ble_eq_true rfl) (Nat.le_of_ble_eq_true rfl) (t_four (by decide) (by decide) (by decide) (by decide)) ?_
                        rintro _ _ ⟨rfl, rfl⟩
                        refine T_lcmp dX12_wordOf_213 ?_
                        refine T_if_ne (tgt := 220) dX12_wordOf_214 (by decide) (fun c214 => ?_) (fun c214 => ?_)
                        · refine T_lload_n dX12_wordOf_220 rfl ?_
                          refine T_bipush dX12_wordOf_221 (by decide) ?_
                          refine T_bipush dX12_wordOf_223 (by decide) ?_
                          refine T_bipush dX12_wordOf_225 (by decide) ?_
                          refine T_bipush dX12_wordOf_227 (by decide) ?_
                          refine T_callS dX12_wordOf_229 lX12_91 (As := [_, _, _, _]) (rest := _) rfl rfl (by decide) (Nat.le_of_ble_eq_true rfl) (Nat.le_of_ble_eq_true rfl) (t_four (by decide) (by decide) (by decide) (by decide)) ?_
                          rintro _ _ ⟨rfl, rfl⟩
                          refine T_lcmp dX12_wordOf_232 ?_
                          refine T_if_ne (tgt := 239) dX12_wordOf_233 (by decide) (fun c233 => ?_) (fun c233 => ?_)
                          · refine T_lload_n dX12_wordOf_239 rfl ?_
                            refine T_callS dX12_wordOf_240 lX12_101 (As := [_]) (rest := _) rfl rfl (by decide) (Nat.le_of_ble_eq_true rfl) (Nat.le_of_ble_eq_true rfl) t_otherWord ?_
                            rintro _ _ ⟨rfl, rfl⟩
                            exact T_ireturn dX12_wordOf_243 rfl ⟨by unfold wdS; rw [if_neg (fun z => c13 (cmpZ_e.mpr z)), if_neg (fun z => c34 (cmpZ_e.mpr z)), if_neg (fun z => c50 (cmpZ_e.mpr z)), if_neg (fun z => c66 (cmpZ_e.mpr z)), if_neg (fun z => c84 (cmpZ_e.mpr z)), if_neg (fun z => c101 (cmpZ_e.mpr z)), if_neg (fun z => c118 (cmpZ_e.mpr z)), if_neg (fun z => c139 (cmpZ_e.mpr z)), if_neg (fun z => c161 (cmpZ_e.mpr z)), if_neg (fun z => c179 (cmpZ_e.mpr z)), if_neg (fun z => c196 (cmpZ_e.mpr z)), if_neg (fun z => c214 (cmpZ_e.mpr z)), if_neg (fun z => c233 (cmpZ_e.mpr z))], rfl⟩
                          · refine T_bipush dX12_wordOf_236 (by decide) ?_
                            exact T_ireturn dX12_wordOf_238 rfl ⟨by unfold wdS; rw [if_neg (fun z => c13 (cmpZ_e.mpr z)), if_neg (fun z => c34 (cmpZ_e.mpr z)), if_neg (fun z => c50 (cmpZ_e.mpr z)), if_neg (fun z => c66 (cmpZ_e.mpr z)), if_neg (fun z => c84 (cmpZ_e.mpr z)), if_neg (fun z => c101 (cmpZ_e.mpr z)), if_neg (fun z => c118 (cmpZ_e.mpr z)), if_neg (fun z => c139 (cmpZ_e.mpr z)), if_neg (fun z => c161 (cmpZ_e.mpr z)), if_neg (fun z => c179 (cmpZ_e.mpr z)), if_neg (fun z => c196 (cmpZ_e.mpr z)), if_neg (fun z => c214 (cmpZ_e.mpr z)), if_pos (cmpZ_e.mp c233)], rfl⟩
                        · refine T_bipush dX12_wordOf_217 (by decide) ?_
                          exact T_ireturn dX12_wordOf_219 rfl ⟨by unfold wdS; rw [if_neg (fun z => c13 (cmpZ_e.mpr z)), if_neg (fun z => c34 (cmpZ_e.mpr z)), if_neg (fun z => c50 (cmpZ_e.mpr z)), if_neg (fun z => c66 (cmpZ_e.mpr z)), if_neg (fun z => c84 (cmpZ_e.mpr z)), if_neg (fun z => c101 (cmpZ_e.mpr z)), if_neg (fun z => c118 (cmpZ_e.mpr z)), if_neg (fun z => c139 (cmpZ_e.mpr z)), if_neg (fun z => c161 (cmpZ_e.mpr z)), if_neg (fun z => c179 (cmpZ_e.mpr z)), if_neg (fun z => c196 (cmpZ_e.mpr z)), if_pos (cmpZ_e.mp c214)], rfl⟩
                      · refine T_bipush dX12_wordOf_199 (by decide) ?_
                        exact T_ireturn dX12_wordOf_201 rfl ⟨by unfold wdS; rw [if_neg (fun z => c13 (cmpZ_e.mpr z)), if_neg (fun z => c34 (cmpZ_e.mpr z)), if_neg (fun z => c50 (cmpZ_e.mpr z)), if_neg (fun z => c66 (cmpZ_e.mpr z)), if_neg (fun z => c84 (cmpZ_e.mpr z)), if_neg (fun z => c101 (cmpZ_e.mpr z)), if_neg (fun z => c118 (cmpZ_e.mpr z)), if_neg (fun z => c139 (cmpZ_e.mpr z)), if_neg (fun z => c161 (cmpZ_e.mpr z)), if_neg (fun z => c179 (cmpZ_e.mpr z)), if_pos (cmpZ_e.mp c196)], rfl⟩
                    · refine T_bipush dX12_wordOf_182 (by decide) ?_
                      exact T_ireturn dX12_wordOf_184 rfl ⟨by unfold wdS; rw [if_neg (fun z => c13 (cmpZ_e.mpr z)), if_neg (fun z => c34 (cmpZ_e.mpr z)), if_neg (fun z => c50 (cmpZ_e.mpr z)), if_neg (fun z => c66 (cmpZ_e.mpr z)), if_neg (fun z => c84 (cmpZ_e.mpr z)), if_neg (fun z => c101 (cmpZ_e.mpr z)), if_neg (fun z => c118 (cmpZ_e.mpr z)), if_neg (fun z => c139 (cmpZ_e.mpr z)), if_neg (fun z => c161 (cmpZ_e.mpr z)), if_pos (cmpZ_e.mp c179)], rfl⟩
                  · refine T_bipush dX12_wordOf_164 (by decide) ?_
                    exact T_ireturn dX12_wordOf_166 rfl ⟨by unfold wdS; rw [if_neg (fun z => c13 (cmpZ_e.mpr z)), if_neg (fun z => c34 (cmpZ_e.mpr z)), if_neg (fun z => c50 (cmpZ_e.mpr z)), if_neg (fun z => c66 (cmpZ_e.mpr z)), if_neg (fun z => c84 (cmpZ_e.mpr z)), if_neg (fun z => c101 (cmpZ_e.mpr z)), if_neg (fun z => c118 (cmpZ_e.mpr z)), if_neg (fun z => c139 (cmpZ_e.mpr z)), if_pos (cmpZ_e.mp c161)], rfl⟩
                · refine T_bipush dX12_wordOf_142 (by decide) ?_
                  exact T_ireturn dX12_wordOf_144 rfl ⟨by unfold wdS; rw [if_neg (fun z => c13 (cmpZ_e.mpr z)), if_neg (fun z => c34 (cmpZ_e.mpr z)), if_neg (fun z => c50 (cmpZ_e.mpr z)), if_neg (fun z => c66 (cmpZ_e.mpr z)), if_neg (fun z => c84 (cmpZ_e.mpr z)), if_neg (fun z => c101 (cmpZ_e.mpr z)), if_neg (fun z => c118 (cmpZ_e.mpr z)), if_pos (cmpZ_e.mp c139)], rfl⟩
              · refine T_bipush dX12_wordOf_121 (by decide) ?_
                exact T_ireturn dX12_wordOf_123 rfl ⟨by unfold wdS; rw [if_neg (fun z => c13 (cmpZ_e.mpr z)), if_neg (fun z => c34 (cmpZ_e.mpr z)), if_neg (fun z => c50 (cmpZ_e.mpr z)), if_neg (fun z => c66 (cmpZ_e.mpr z)), if_neg (fun z => c84 (cmpZ_e.mpr z)), if_neg (fun z => c101 (cmpZ_e.mpr z)), if_pos (cmpZ_e.mp c118)], rfl⟩
            · refine T_bipush dX12_wordOf_104 (by decide) ?_
              exact T_ireturn dX12_wordOf_106 rfl ⟨by unfold wdS; rw [if_neg (fun z => c13 (cmpZ_e.mpr z)), if_neg (fun z => c34 (cmpZ_e.mpr z)), if_neg (fun z => c50 (cmpZ_e.mpr z)), if_neg (fun z => c66 (cmpZ_e.mpr z)), if_neg (fun z => c84 (cmpZ_e.mpr z)), if_pos (cmpZ_e.mp c101)], rfl⟩
          · refine T_iconst dX12_wordOf_87 (by decide) ?_
            exact T_ireturn dX12_wordOf_88 rfl ⟨by unfold wdS; rw [if_neg (fun z => c13 (cmpZ_e.mpr z)), if_neg (fun z => c34 (cmpZ_e.mpr z)), if_neg (fun z => c50 (cmpZ_e.mpr z)), if_neg (fun z => c66 (cmpZ_e.mpr z)), if_pos (cmpZ_e.mp c84)], rfl⟩
        · refine T_iconst dX12_wordOf_69 (by decide) ?_
          exact T_ireturn dX12_wordOf_70 rfl ⟨by unfold wdS; rw [if_neg (fun z => c13 (cmpZ_e.mpr z)), if_neg (fun z => c34 (cmpZ_e.mpr z)), if_neg (fun z => c50 (cmpZ_e.mpr z)), if_pos (cmpZ_e.mp c66)], rfl⟩
      · refine T_iconst dX12_wordOf_53 (by decide) ?_
        exact T_ireturn dX12_wordOf_54 rfl ⟨by unfold wdS; rw [if_neg (fun z => c13 (cmpZ_e.mpr z)), if_neg (fun z => c34 (cmpZ_e.mpr z)), if_pos (cmpZ_e.mp c50)], rfl⟩
    · refine T_iconst dX12_wordOf_37 (by decide) ?_
      exact T_ireturn dX12_wordOf_38 rfl ⟨by unfold wdS; rw [if_neg (fun z => c13 (cmpZ_e.mpr z)), if_pos (cmpZ_e.mp c34)], rfl⟩
  · refine T_iconst dX12_wordOf_16 (by decide) ?_
    exact T_ireturn dX12_wordOf_17 rfl ⟨by unfold wdS; rw [if_pos (cmpZ_e.mp c13)], rfl⟩
end M37
