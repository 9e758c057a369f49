/-! the law: the calls that change what is told; the loop -/
section C27
variable {G : sG} {d d' : sD}
theorem lc_feed {k : Nat} (h : IV d) (hL : G.2.2.1 ≤ 3072) (hk : k + 6 ≤ G.2.2.1) (kk : ∀ d2, IV d2 → tB G mL_law 1718 (lwL k) [] d2 lwR) : tB G mL_law 172 (lwL k) [] d lwR := by
  obtain ⟨t, ht⟩ : ∃ t : Nat, d 272 4 = (t : Int) := ⟨(d 272 4).toNat, by have := h.1.1.1; omega⟩
  have h4 := h.1.1.1
  have ht2 : d 2 1 = (t : Int) := h4.1.trans ht
  refine T_aload_n dL_law_172 rfl ?_
  refine T_aload_s dL_law_173 rfl ?_
  refine T_iload_n dL_law_174 rfl ?_
  refine T_iconst dL_law_175 (by decide) ?_
  refine T_add dL_law_176 (by omega) ?_
  refine T_sld (j := k + 1) dL_law_177 (by omega) (by omega) ?_
  refine T_aload_s dL_law_178 rfl ?_
  refine T_iload_n dL_law_179 rfl ?_
  refine T_iconst dL_law_180 (by decide) ?_
  refine T_add dL_law_181 (by omega) ?_
  refine T_sld (j := k + 2) dL_law_182 (by omega) (by omega) ?_
  refine T_aload_s dL_law_183 rfl ?_
  refine T_iload_n dL_law_184 rfl ?_
  refine T_iconst dL_law_185 (by decide) ?_
  refine T_add dL_law_186 (by omega) ?_
  refine T_sld (j := k + 3) dL_law_187 (by omega) (by omega) ?_
  refine T_aload_s dL_law_188 rfl ?_
  refine T_iload_n dL_law_189 rfl ?_
  refine T_iconst dL_law_190 (by decide) ?_
  refine T_add dL_law_191 (by omega) ?_
  refine T_sld (j := k + 4) dL_law_192 (by omega) (by omega) ?_
  refine T_aload_s dL_law_193 rfl ?_
  refine T_iload_n dL_law_194 rfl ?_
  refine T_iconst dL_law_195 (by decide) ?_
  refine T_add dL_law_196 (by omega) ?_
  refine T_sld (j := k + 5) dL_law_197 (by omega) (by omega) ?_
  refine T_callV dL_law_198 lL_13 (As := [_, _, _, _, _]) (rest := _) rfl rfl k1 (by decide) (Nat.le_of_ble_eq_true rfl) (Nat.le_of_ble_eq_true rfl) (t_C_feed ht2 (by omega)) ?_
  rintro _ d1 (⟨hv, rfl, rfl⟩ | ⟨hv, rfl, q1, q2, q3, q4⟩)
  ·
    refine T_aload_n dL_law_201 rfl ?_
    refine T_aload_s dL_law_202 rfl ?_
    refine T_iload_n dL_law_203 rfl ?_
    refine T_iconst dL_law_204 (by decide) ?_
    refine T_add dL_law_205 (by omega) ?_
    refine T_sld (j := k + 1) dL_law_206 (by omega) (by omega) ?_
    refine T_aload_s dL_law_207 rfl ?_
    refine T_iload_n dL_law_208 rfl ?_
    refine T_iconst dL_law_209 (by decide) ?_
    refine T_add dL_law_210 (by omega) ?_
    refine T_sld (j := k + 2) dL_law_211 (by omega) (by omega) ?_
    refine T_aload_s dL_law_212 rfl ?_
    refine T_iload_n dL_law_213 rfl ?_
    refine T_iconst dL_law_214 (by decide) ?_
    refine T_add dL_law_215 (by omega) ?_
    refine T_sld (j := k + 3) dL_law_216 (by omega) (by omega) ?_
    refine T_aload_s dL_law_217 rfl ?_
    refine T_iload_n dL_law_218 rfl ?_
    refine T_iconst dL_law_219 (by decide) ?_
    refine T_add dL_law_220 (by omega) ?_
    refine T_sld (j := k + 4) dL_law_221 (by omega) (by omega) ?_
    refine T_aload_s dL_law_222 rfl ?_
    refine T_iload_n dL_law_223 rfl ?_
    refine T_iconst dL_law_224 (by decide) ?_
    refine T_add dL_law_225 (by omega) ?_
    refine T_sld (j := k + 5) dL_law_226 (by omega) (by omega) ?_
    refine T_callV dL_law_227 lL_17 (As := [_, _, _, _, _]) (rest := _) rfl rfl k271 (by decide) (Nat.le_of_ble_eq_true rfl) (Nat.le_of_ble_eq_true rfl) (t_X12_feed ht (by omega)) ?_
    rintro _ d2 (⟨hv2, rfl, rfl⟩ | ⟨hv2, rfl, rfl⟩)
    ·
      refine T_icmp_eq (tgt := 1718) dL_law_230 (by decide) (fun c230 => ?_) (fun c230 => absurd rfl c230)
      exact kk _ h
    · exact absurd hv (by omega)
  · have ht3 : d1 272 4 = (t : Int) := by rw [q4 272 4 (by decide) (by omega)]; exact ht
    refine T_aload_n dL_law_201 rfl ?_
    refine T_aload_s dL_law_202 rfl ?_
    refine T_iload_n dL_law_203 rfl ?_
    refine T_iconst dL_law_204 (by decide) ?_
    refine T_add dL_law_205 (by omega) ?_
    refine T_sld (j := k + 1) dL_law_206 (by omega) (by omega) ?_
    refine T_aload_s dL_law_207 rfl ?_
    refine T_iload_n dL_law_208 rfl ?_
    refine T_iconst dL_law_209 (by decide) ?_
    refine T_add dL_law_210 (by omega) ?_
    refine T_sld (j := k + 2) dL_law_211 (by omega) (by omega) ?_
    refine T_aload_s dL_law_212 rfl ?_
    refine T_iload_n dL_law_213 rfl ?_
    refine T_iconst dL_law_214 (by decide) ?_
    refine T_add dL_law_215 (by omega) ?_
    refine T_sld (j := k + 3) dL_law_216 (by omega) (by omega) ?_
    refine T_aload_s dL_law_217 rfl ?_
    refine T_iload_n dL_law_218 rfl ?_
    refine T_iconst dL_law_219 (by decide) ?_
    refine T_add dL_law_220 (by omega) ?_
    refine T_sld (j := k + 4) dL_law_221 (by omega) (by omega) ?_
    refine T_aload_s dL_law_222 rfl ?_
    refine T_iload_n dL_law_223 rfl ?_
    refine T_iconst dL_law_224 (by decide) ?_
    refine T_add dL_law_225 (by omega) ?_
    refine T_sld (j := k + 5) dL_law_226 (by omega) (by omega) ?_
    refine T_callV dL_law_227 lL_17 (As := [_, _, _, _, _]) (rest := _) rfl rfl k271 (by decide) (Nat.le_of_ble_eq_true rfl) (Nat.le_of_ble_eq_true rfl) (t_X12_feed ht3 (by omega)) ?_
    rintro _ d2 (⟨hv2, rfl, rfl⟩ | ⟨hv2, rfl, rfl⟩)
    · exact absurd hv (by omega)
    ·
      refine T_icmp_eq (tgt := 1718) dL_law_230 (by decide) (fun c230 => ?_) (fun c230 => absurd rfl c230)
      exact kk _ (IV_feed h ht2 hv q1 q2 q3 q4)

theorem lc_end {k : Nat} (h : IV d) (hL : G.2.2.1 ≤ 3072) (hk : k + 6 ≤ G.2.2.1) (kk : ∀ d2, IV d2 → tB G mL_law 1718 (lwL k) [] d2 lwR) : tB G mL_law 235 (lwL k) [] d lwR := by
  have h4 := h.1.1.1
  refine T_aload_n dL_law_235 rfl ?_
  refine T_aload_s dL_law_236 rfl ?_
  refine T_iload_n dL_law_237 rfl ?_
  refine T_iconst dL_law_238 (by decide) ?_
  refine T_add dL_law_239 (by omega) ?_
  refine T_sld (j := k + 1) dL_law_240 (by omega) (by omega) ?_
  refine T_callV dL_law_241 lL_18 (As := [_]) (rest := _) rfl rfl k1 (by decide) (Nat.le_of_ble_eq_true rfl) (Nat.le_of_ble_eq_true rfl) t_C_end ?_
  rintro _ d1 (⟨hv, rfl, rfl⟩ | ⟨hv, rfl, rfl⟩)
  ·
    refine T_aload_n dL_law_244 rfl ?_
    refine T_aload_s dL_law_245 rfl ?_
    refine T_iload_n dL_law_246 rfl ?_
    refine T_iconst dL_law_247 (by decide) ?_
    refine T_add dL_law_248 (by omega) ?_
    refine T_sld (j := k + 1) dL_law_249 (by omega) (by omega) ?_
    refine T_callV dL_law_250 lL_22 (As := [_]) (rest := _) rfl rfl k271 (by decide) (Nat.le_of_ble_eq_true rfl) (Nat.le_of_ble_eq_true rfl) t_X12_end ?_
    rintro _ d2 (⟨hv2, rfl, rfl⟩ | ⟨hv2, rfl, rfl⟩)
    ·
      refine T_icmp_eq (tgt := 1718) dL_law_253 (by decide) (fun c253 => ?_) (fun c253 => absurd rfl c253)
      exact kk _ h
    · exact absurd hv2 (fun q => hv (by omega))
  · have h5 : up d 2 1 (sc G (k + 1)) 272 4 = d 272 4 := up_nea (by decide)
    refine T_aload_n dL_law_244 rfl ?_
    refine T_aload_s dL_law_245 rfl ?_
    refine T_iload_n dL_law_246 rfl ?_
    refine T_iconst dL_law_247 (by decide) ?_
    refine T_add dL_law_248 (by omega) ?_
    refine T_sld (j := k + 1) dL_law_249 (by omega) (by omega) ?_
    refine T_callV dL_law_250 lL_22 (As := [_]) (rest := _) rfl rfl k271 (by decide) (Nat.le_of_ble_eq_true rfl) (Nat.le_of_ble_eq_true rfl) t_X12_end ?_
    rintro _ d2 (⟨hv2, rfl, rfl⟩ | ⟨hv2, rfl, rfl⟩)
    · rw [h5] at hv2
      exact absurd hv (fun q => hv2 (by omega))
    ·
      refine T_icmp_eq (tgt := 1718) dL_law_253 (by decide) (fun c253 => ?_) (fun c253 => absurd rfl c253)
      exact kk _ (IV_end h hv)

theorem lc_fault {k : Nat} (h : IV d) (hL : G.2.2.1 ≤ 3072) (hk : k + 6 ≤ G.2.2.1) (kk : ∀ d2, IV d2 → tB G mL_law 1718 (lwL k) [] d2 lwR) : tB G mL_law 291 (lwL k) [] d lwR := by
  have h4 := h.1.1.2
  refine T_aload_n dL_law_291 rfl ?_
  refine T_aload_s dL_law_292 rfl ?_
  refine T_iload_n dL_law_293 rfl ?_
  refine T_iconst dL_law_294 (by decide) ?_
  refine T_add dL_law_295 (by omega) ?_
  refine T_sld (j := k + 1) dL_law_296 (by omega) (by omega) ?_
  refine T_callV dL_law_297 lL_28 (As := [_]) (rest := _) rfl rfl k1 (by decide) (Nat.le_of_ble_eq_true rfl) (Nat.le_of_ble_eq_true rfl) t_C_fault ?_
  rintro _ _ ⟨rfl, rfl⟩
  refine T_aload_n dL_law_300 rfl ?_
  refine T_aload_s dL_law_301 rfl ?_
  refine T_iload_n dL_law_302 rfl ?_
  refine T_iconst dL_law_303 (by decide) ?_
  refine T_add dL_law_304 (by omega) ?_
  refine T_sld (j := k + 1) dL_law_305 (by omega) (by omega) ?_
  refine T_callV dL_law_306 lL_31 (As := [_]) (rest := _) rfl rfl k271 (by decide) (Nat.le_of_ble_eq_true rfl) (Nat.le_of_ble_eq_true rfl) t_X12_fault ?_
  rintro _ _ ⟨rfl, rfl⟩
  have hv : (if sc G (k + 1) = 0 then d 2 2 else if sc G (k + 1) = 1 then d 2 3 else -1) = (if sc G (k + 1) = 0 then d 272 5 else if sc G (k + 1) = 1 then d 272 6 else -1) := by rw [h4.1, h4.2]
  refine T_icmp_eq (tgt := 1718) dL_law_309 (by decide) (fun c309 => ?_) (fun c309 => absurd hv c309)
  exact kk _ h

theorem lc_count {k : Nat} (h : IV d) (hL : G.2.2.1 ≤ 3072) (hk : k + 6 ≤ G.2.2.1) (kk : ∀ d2, IV d2 → tB G mL_law 1718 (lwL k) [] d2 lwR) : tB G mL_law 1649 (lwL k) [] d lwR := by
  have h4 := h.1.2.2.1
  refine T_aload_n dL_law_1649 rfl ?_
  refine T_aload_s dL_law_1650 rfl ?_
  refine T_iload_n dL_law_1651 rfl ?_
  refine T_iconst dL_law_1652 (by decide) ?_
  refine T_add dL_law_1653 (by omega) ?_
  refine T_sld (j := k + 1) dL_law_1654 (by omega) (by omega) ?_
  refine T_callV dL_law_1655 lL_134 (As := [_]) (rest := _) rfl rfl k1 (by decide) (Nat.le_of_ble_eq_true rfl) (Nat.le_of_ble_eq_true rfl) t_C_count ?_
  rintro _ _ ⟨rfl, rfl⟩
  refine T_aload_n dL_law_1658 rfl ?_
  refine T_aload_s dL_law_1659 rfl ?_
  refine T_iload_n dL_law_1660 rfl ?_
  refine T_iconst dL_law_1661 (by decide) ?_
  refine T_add dL_law_1662 (by omega) ?_
  refine T_sld (j := k + 1) dL_law_1663 (by omega) (by omega) ?_
  refine T_callV dL_law_1664 lL_137 (As := [_]) (rest := _) rfl rfl k271 (by decide) (Nat.le_of_ble_eq_true rfl) (Nat.le_of_ble_eq_true rfl) t_X12_count ?_
  rintro _ _ ⟨rfl, rfl⟩
  have hv : (if 0 ≤ sc G (k + 1) ∧ sc G (k + 1) ≤ 3 then d 4 (sc G (k + 1)).toNat else -2) = (if 0 ≤ sc G (k + 1) ∧ sc G (k + 1) ≤ 3 then d 272 (sc G (k + 1)).toNat else -2) := by
    by_cases z : 0 ≤ sc G (k + 1) ∧ sc G (k + 1) ≤ 3
    · rw [if_pos z, if_pos z]; exact (h4 _ (by omega)).1
    · rw [if_neg z, if_neg z]
  refine T_icmp_eq (tgt := 1718) dL_law_1667 (by decide) (fun c1667 => ?_) (fun c1667 => absurd hv c1667)
  exact kk _ h

theorem lc_image {k : Nat} (h : IV d) (hL : G.2.2.1 ≤ 3072) (hk : k + 6 ≤ G.2.2.1) (kk : ∀ d2, IV d2 → tB G mL_law 1718 (lwL k) [] d2 lwR) : tB G mL_law 1672 (lwL k) [] d lwR := by
  refine T_aload_n dL_law_1672 rfl ?_
  refine T_aload_s dL_law_1673 rfl ?_
  refine T_iload_n dL_law_1674 rfl ?_
  refine T_iconst dL_law_1675 (by decide) ?_
  refine T_add dL_law_1676 (by omega) ?_
  refine T_sld (j := k + 1) dL_law_1677 (by omega) (by omega) ?_
  refine T_callV dL_law_1678 lL_138 (As := [_]) (rest := _) rfl rfl k1 (by decide) (Nat.le_of_ble_eq_true rfl) (Nat.le_of_ble_eq_true rfl) t_C_image ?_
  rintro _ d1 (⟨hv, rfl, rfl⟩ | ⟨hv, rfl, m1, rfl, q1, q2⟩)
  ·
    refine T_aload_n dL_law_1681 rfl ?_
    refine T_aload_s dL_law_1682 rfl ?_
    refine T_iload_n dL_law_1683 rfl ?_
    refine T_iconst dL_law_1684 (by decide) ?_
    refine T_add dL_law_1685 (by omega) ?_
    refine T_sld (j := k + 1) dL_law_1686 (by omega) (by omega) ?_
    refine T_callV dL_law_1687 lL_142 (As := [_]) (rest := _) rfl rfl k271 (by decide) (Nat.le_of_ble_eq_true rfl) (Nat.le_of_ble_eq_true rfl) t_X12_image ?_
    rintro _ d2 (⟨hv2, rfl, rfl⟩ | ⟨hv2, rfl, rfl⟩)
    ·
      refine T_icmp_eq (tgt := 1718) dL_law_1690 (by decide) (fun c1690 => ?_) (fun c1690 => absurd rfl c1690)
      exact kk _ h
    · exact absurd hv2 hv
  ·
    refine T_aload_n dL_law_1681 rfl ?_
    refine T_aload_s dL_law_1682 rfl ?_
    refine T_iload_n dL_law_1683 rfl ?_
    refine T_iconst dL_law_1684 (by decide) ?_
    refine T_add dL_law_1685 (by omega) ?_
    refine T_sld (j := k + 1) dL_law_1686 (by omega) (by omega) ?_
    refine T_callV dL_law_1687 lL_142 (As := [_]) (rest := _) rfl rfl k271 (by decide) (Nat.le_of_ble_eq_true rfl) (Nat.le_of_ble_eq_true rfl) t_X12_image ?_
    rintro _ d2 (⟨hv2, rfl, rfl⟩ | ⟨hv2, rfl, rfl⟩)
    · exact absurd hv hv2
    ·
      refine T_icmp_eq (tgt := 1718) dL_law_1690 (by decide) (fun c1690 => ?_) (fun c1690 => absurd rfl c1690)
      exact kk _ (IV_image h (by omega) q1 q2)

theorem lc_again {k : Nat} (h : IV d) (hL : G.2.2.1 ≤ 3072) (hk : k + 6 ≤ G.2.2.1) (kk : ∀ d2, IV d2 → tB G mL_law 1718 (lwL k) [] d2 lwR) : tB G mL_law 1695 (lwL k) [] d lwR := by
  refine T_aload_n dL_law_1695 rfl ?_
  refine T_aload_s dL_law_1696 rfl ?_
  refine T_iload_n dL_law_1697 rfl ?_
  refine T_iconst dL_law_1698 (by decide) ?_
  refine T_add dL_law_1699 (by omega) ?_
  refine T_sld (j := k + 1) dL_law_1700 (by omega) (by omega) ?_
  refine T_callV dL_law_1701 lL_143 (As := [_]) (rest := _) rfl rfl k1 (by decide) (Nat.le_of_ble_eq_true rfl) (Nat.le_of_ble_eq_true rfl) t_C_again ?_
  rintro _ d1 (⟨hv, rfl, rfl⟩ | ⟨hv, rfl, q1, q2⟩)
  ·
    refine T_aload_n dL_law_1704 rfl ?_
    refine T_aload_s dL_law_1705 rfl ?_
    refine T_iload_n dL_law_1706 rfl ?_
    refine T_iconst dL_law_1707 (by decide) ?_
    refine T_add dL_law_1708 (by omega) ?_
    refine T_sld (j := k + 1) dL_law_1709 (by omega) (by omega) ?_
    refine T_callV dL_law_1710 lL_146 (As := [_]) (rest := _) rfl rfl k271 (by decide) (Nat.le_of_ble_eq_true rfl) (Nat.le_of_ble_eq_true rfl) t_X12_again ?_
    rintro _ d2 (⟨hv2, rfl, rfl⟩ | ⟨hv2, rfl, rfl⟩)
    ·
      refine T_icmp_eq (tgt := 1718) dL_law_1713 (by decide) (fun c1713 => ?_) (fun c1713 => absurd rfl c1713)
      exact kk _ h
    · exact absurd hv2 (fun q => hv ⟨q.1, by rw [(h.2 _ (by omega)).1.1]; exact q.2⟩)
  · have h6 : d1 273 = d 273 := funext fun j => q2 _ _ (by omega)
    refine T_aload_n dL_law_1704 rfl ?_
    refine T_aload_s dL_law_1705 rfl ?_
    refine T_iload_n dL_law_1706 rfl ?_
    refine T_iconst dL_law_1707 (by decide) ?_
    refine T_add dL_law_1708 (by omega) ?_
    refine T_sld (j := k + 1) dL_law_1709 (by omega) (by omega) ?_
    refine T_callV dL_law_1710 lL_146 (As := [_]) (rest := _) rfl rfl k271 (by decide) (Nat.le_of_ble_eq_true rfl) (Nat.le_of_ble_eq_true rfl) t_X12_again ?_
    rintro _ d2 (⟨hv2, rfl, rfl⟩ | ⟨hv2, rfl, rfl⟩)
    · rw [h6] at hv2
      exact absurd hv (fun q => hv2 ⟨q.1, by rw [← (h.2 _ (by omega)).1.1]; exact q.2⟩)
    ·
      refine T_icmp_eq (tgt := 1718) dL_law_1713 (by decide) (fun c1713 => ?_) (fun c1713 => absurd rfl c1713)
      exact kk _ (IV_again h (by omega) hv.2 q1 q2)

theorem law_loop (hL : G.2.2.1 ≤ 3072) (hT : ∀ (k : Nat) (d : sD), IV d → k + 6 ≤ G.2.2.1 → (∀ d2, IV d2 → tB G mL_law 1718 (lwL k) [] d2 lwR) → tB G mL_law 258 (lwL k) [] d lwR) (hU : ∀ (k : Nat) (d : sD), IV d → k + 6 ≤ G.2.2.1 → (∀ d2, IV d2 → tB G mL_law 1718 (lwL k) [] d2 lwR) → tB G mL_law 1511 (lwL k) [] d lwR) : ∀ z : Nat × sD, IV z.2 ∧ z.1 ≤ 3080 → tB G mL_law 18 (lwL z.1) [] z.2 lwR := by
  refine T_loop (α := Nat × sD) 18 (fun z => lwL z.1) (fun z => z.2) (fun z => IV z.2 ∧ z.1 ≤ 3080) (fun z => 4000 - z.1) ?_
  rintro ⟨k, d⟩ ⟨h, hk0⟩ ih
  try dsimp only at h hk0 ih ⊢
  have kk : k + 6 ≤ G.2.2.1 → ∀ d2, IV d2 → tB G mL_law 1718 (lwL k) [] d2 lwR := by
    intro hk d2 hI
    refine T_inc dL_law_1718 rfl (by decide) rfl (by omega) ?_
    refine T_goto (tgt := 18) dL_law_1721 (by decide) ?_
    exact ih (k + 6, d2) ⟨hI, by dsimp only; omega⟩ (by dsimp only; omega)
  refine T_iload_n dL_law_18 rfl ?_
  refine T_aload_s dL_law_19 rfl ?_
  refine T_slen dL_law_20 (by omega) ?_
  refine T_bipush dL_law_21 (by decide) ?_
  refine T_sub dL_law_23 (by omega) ?_
  refine T_icmp_gt (tgt := 1724) dL_law_24 (by decide) (fun c24 => ?_) (fun c24 => ?_)
  · refine T_iconst dL_law_1724 (by decide) ?_
    exact T_zreturn dL_law_1725 rfl (by omega) rfl
  · have hk : k + 6 ≤ G.2.2.1 := by omega
    refine T_aload_s dL_law_27 rfl ?_
    refine T_iload_n dL_law_28 rfl ?_
    refine T_sld (j := k + 0) dL_law_29 (by omega) (by omega) ?_
    refine T_bipush dL_law_30 (by decide) ?_
    refine T_iand dL_law_32 ?_
    generalize i_and (sc G (k + 0)) 31 = sv
    by_cases hs0 : sv = 0
    · subst hs0
      refine T_tabIn (tgt := 172) (off := 139) dL_law_33 (by decide) (by decide) (by decide) (by decide) ?_
      exact lc_feed h hL hk (kk hk)
    by_cases hs1 : sv = 1
    · subst hs1
      refine T_tabIn (tgt := 235) (off := 202) dL_law_33 (by decide) (by decide) (by decide) (by decide) ?_
      exact lc_end h hL hk (kk hk)
    by_cases hs2 : sv = 2
    · subst hs2
      refine T_tabIn (tgt := 258) (off := 225) dL_law_33 (by decide) (by decide) (by decide) (by decide) ?_
      exact hT k d h hk (kk hk)
    by_cases hs3 : sv = 3
    · subst hs3
      refine T_tabIn (tgt := 291) (off := 258) dL_law_33 (by decide) (by decide) (by decide) (by decide) ?_
      exact lc_fault h hL hk (kk hk)
    by_cases hs4 : sv = 4
    · subst hs4
      refine T_tabIn (tgt := 314) (off := 281) dL_law_33 (by decide) (by decide) (by decide) (by decide) ?_
      exact lc_war h hL hk (kk hk)
    by_cases hs5 : sv = 5
    · subst hs5
      refine T_tabIn (tgt := 347) (off := 314) dL_law_33 (by decide) (by decide) (by decide) (by decide) ?_
      exact lc_order h hL hk (kk hk)
    by_cases hs6 : sv = 6
    · subst hs6
      refine T_tabIn (tgt := 400) (off := 367) dL_law_33 (by decide) (by decide) (by decide) (by decide) ?_
      exact lc_given h hL hk (kk hk)
    by_cases hs7 : sv = 7
    · subst hs7
      refine T_tabIn (tgt := 443) (off := 410) dL_law_33 (by decide) (by decide) (by decide) (by decide) ?_
      exact lc_row h hL hk (kk hk)
    by_cases hs8 : sv = 8
    · subst hs8
      refine T_tabIn (tgt := 496) (off := 463) dL_law_33 (by decide) (by decide) (by decide) (by decide) ?_
      exact lc_heard h hL hk (kk hk)
    by_cases hs9 : sv = 9
    · subst hs9
      refine T_tabIn (tgt := 549) (off := 516) dL_law_33 (by decide) (by decide) (by decide) (by decide) ?_
      exact lc_made h hL hk (kk hk)
    by_cases hs10 : sv = 10
    · subst hs10
      refine T_tabIn (tgt := 612) (off := 579) dL_law_33 (by decide) (by decide) (by decide) (by decide) ?_
      exact lc_march h hL hk (kk hk)
    by_cases hs11 : sv = 11
    · subst hs11
      refine T_tabIn (tgt := 665) (off := 632) dL_law_33 (by decide) (by decide) (by decide) (by decide) ?_
      exact lc_meets h hL hk (kk hk)
    by_cases hs12 : sv = 12
    · subst hs12
      refine T_tabIn (tgt := 698) (off := 665) dL_law_33 (by decide) (by decide) (by decide) (by decide) ?_
      exact lc_force h hL hk (kk hk)
    by_cases hs13 : sv = 13
    · subst hs13
      refine T_tabIn (tgt := 777) (off := 744) dL_law_33 (by decide) (by decide) (by decide) (by decide) ?_
      exact lc_told h hL hk (kk hk)
    by_cases hs14 : sv = 14
    · subst hs14
      refine T_tabIn (tgt := 820) (off := 787) dL_law_33 (by decide) (by decide) (by decide) (by decide) ?_
      exact lc_bribes h hL hk (kk hk)
    by_cases hs15 : sv = 15
    · subst hs15
      refine T_tabIn (tgt := 873) (off := 840) dL_law_33 (by decide) (by decide) (by decide) (by decide) ?_
      exact lc_meant h hL hk (kk hk)
    by_cases hs16 : sv = 16
    · subst hs16
      refine T_tabIn (tgt := 952) (off := 919) dL_law_33 (by decide) (by decide) (by decide) (by decide) ?_
      exact lc_truce h hL hk (kk hk)
    by_cases hs17 : sv = 17
    · subst hs17
      refine T_tabIn (tgt := 1021) (off := 988) dL_law_33 (by decide) (by decide) (by decide) (by decide) ?_
      exact lc_far h hL hk (kk hk)
    by_cases hs18 : sv = 18
    · subst hs18
      refine T_tabIn (tgt := 1074) (off := 1041) dL_law_33 (by decide) (by decide) (by decide) (by decide) ?_
      exact lc_codes h hL hk (kk hk)
    by_cases hs19 : sv = 19
    · subst hs19
      refine T_tabIn (tgt := 1117) (off := 1084) dL_law_33 (by decide) (by decide) (by decide) (by decide) ?_
      exact lc_shared h hL hk (kk hk)
    by_cases hs20 : sv = 20
    · subst hs20
      refine T_tabIn (tgt := 1150) (off := 1117) dL_law_33 (by decide) (by decide) (by decide) (by decide) ?_
      exact lc_village h hL hk (kk hk)
    by_cases hs21 : sv = 21
    · subst hs21
      refine T_tabIn (tgt := 1193) (off := 1160) dL_law_33 (by decide) (by decide) (by decide) (by decide) ?_
      exact lc_version h hL hk (kk hk)
    by_cases hs22 : sv = 22
    · subst hs22
      refine T_tabIn (tgt := 1256) (off := 1223) dL_law_33 (by decide) (by decide) (by decide) (by decide) ?_
      exact lc_tale h hL hk (kk hk)
    by_cases hs23 : sv = 23
    · subst hs23
      refine T_tabIn (tgt := 1335) (off := 1302) dL_law_33 (by decide) (by decide) (by decide) (by decide) ?_
      exact lc_drawn h hL hk (kk hk)
    by_cases hs24 : sv = 24
    · subst hs24
      refine T_tabIn (tgt := 1398) (off := 1365) dL_law_33 (by decide) (by decide) (by decide) (by decide) ?_
      exact lc_common h hL hk (kk hk)
    by_cases hs25 : sv = 25
    · subst hs25
      refine T_tabIn (tgt := 1441) (off := 1408) dL_law_33 (by decide) (by decide) (by decide) (by decide) ?_
      exact lc_readings h hL hk (kk hk)
    by_cases hs26 : sv = 26
    · subst hs26
      refine T_tabIn (tgt := 1511) (off := 1478) dL_law_33 (by decide) (by decide) (by decide) (by decide) ?_
      exact hU k d h hk (kk hk)
    by_cases hs27 : sv = 27
    · subst hs27
      refine T_tabIn (tgt := 1570) (off := 1537) dL_law_33 (by decide) (by decide) (by decide) (by decide) ?_
      exact lc_fix h hL hk (kk hk)
    by_cases hs28 : sv = 28
    · subst hs28
      refine T_tabIn (tgt := 1649) (off := 1616) dL_law_33 (by decide) (by decide) (by decide) (by decide) ?_
      exact lc_count h hL hk (kk hk)
    by_cases hs29 : sv = 29
    · subst hs29
      refine T_tabIn (tgt := 1672) (off := 1639) dL_law_33 (by decide) (by decide) (by decide) (by decide) ?_
      exact lc_image h hL hk (kk hk)
    by_cases hs30 : sv = 30
    · subst hs30
      refine T_tabIn (tgt := 1695) (off := 1662) dL_law_33 (by decide) (by decide) (by decide) (by decide) ?_
      exact lc_again h hL hk (kk hk)
    refine T_tabOut (tgt := 1718) dL_law_33 (by omega) (by decide) ?_
    exact kk hk d h

end C27
