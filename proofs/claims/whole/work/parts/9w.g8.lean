/-! the reference: an order is read -/
section C42
variable {G : sG} {d d' d0 : sD} {T : Nat → Int} {n p q : Nat} {x : Int × Int} {dr : Nat → Int}
def gOrd (T : Nat → Int) (n p : Nat) : Bool × Nat := gWd T n 9 9 p fun p1 => gNum T n p1 fun p2 => gWd T n 14 18 p2 fun p3 => if isW T n p3 10 13 then (true, tkI T n (nbT T n 10 13 p3) p3) else (false, p3)
def BW (h : Nat → Int) : Prop := ∀ a, a < 2 → 0 ≤ h (15 + a) ∧ h (15 + a) ≤ 6
def xO1 (T : Nat → Int) (n : Nat) (x : Int × Int) (dr : Nat → Int) (p : Nat) : Int × Int := if inR (nmT T n (avT T n p)) 0 1 ∧ ¬ dr (15 + gvT T n (avT T n p)) < 6 then ntA x 3 p else xNum T n x (avT T n p) 0 1
abbrev p3T (T : Nat → Int) (n p : Nat) : Nat := avT T n (avT T n (avT T n p))
def xOrd (T : Nat → Int) (n : Nat) (x : Int × Int) (dr : Nat → Int) (p : Nat) : Int × Int := xMj T n 4 (xO1 T n x dr p) (p3T T n p) (nbT T n 10 13 (p3T T n p))
/-- beats behind a place of the draft -/
def dOj (T : Nat → Int) (n : Nat) (dr : Nat → Int) (k p j : Nat) : Nat → Int := fun i => if k + 2 ≤ i ∧ i < k + 2 + min j 4 then woT T n (tkI T n (i - (k + 2)) p) - 10 else dr i
def dOl (T : Nat → Int) (n : Nat) (dr : Nat → Int) (a k : Nat) (mv : Int) (p j : Nat) : Nat → Int := fun i => if i = 15 + a then dr (15 + a) + 1 else if i = k + 1 then ((min j 4 : Nat) : Int) else if i = k then mv else dOj T n dr k p j i
def dOrd (T : Nat → Int) (n : Nat) (dr : Nat → Int) (p : Nat) : Nat → Int := dOl T n dr (gvT T n (avT T n p)) (17 + 36 * gvT T n (avT T n p) + 6 * (dr (15 + gvT T n (avT T n p))).toNat) (woT T n (avT T n (avT T n p)) - 14) (p3T T n p) (nbT T n 10 13 (p3T T n p))
abbrev orQ (d0 : sD) (T : Nat → Int) (n p : Nat) (x : Int × Int) (dr : Nat → Int) : Option sV → sD → Prop := fun r d' => r = none ∧ LnP d0 T n (gOrd T n p) (xOrd T n x dr p) (dOrd T n dr p) BW d'

theorem w_o164 {e : sD} {a k : Nat} {at1 is m mv : Int} (hg : gOrd T n p = (false, q)) (hW : RW d0 e q) (hB : BW (e 274)) (ha : a < 2) (hk : 17 ≤ k) (hm : m = 0 ∨ k ≤ 83) : tB G mX12_orderLine 164 [vR 271, vI at1, vI is, vI a, vI m, vI k, vI mv, vI 0, vU 0] [] e (orQ d0 T n p x dr) := by
  have hBa := hB a ha
  have fin : ∀ e2 : sD, RW d0 e2 q → orQ d0 T n p x dr none e2 := fun e2 h2 => ⟨rfl, Or.inl (by rw [hg]; exact ⟨rfl, h2⟩)⟩
  refine T_aload_n dX12_orderLine_164 rfl ?_
  refine T_callV dX12_orderLine_165 lX12_167 (As := []) (rest := _) rfl rfl k271 (by decide) (Nat.le_of_ble_eq_true rfl) (Nat.le_of_ble_eq_true rfl) (w_isBeat hW) ?_
  rintro _ _ ⟨rfl, rfl⟩
  refine T_if_eq (tgt := 223) dX12_orderLine_168 (by decide) (fun c168 => ?_) (fun c168 => absurd rfl c168)
  refine T_iload dX12_orderLine_223 rfl ?_
  refine T_if_ne (tgt := 229) dX12_orderLine_225 (by decide) (fun c225 => ?_) (fun c225 => ?_)
  · refine T_aload_n dX12_orderLine_229 rfl ?_
    refine T_getR dX12_orderLine_230 fX12_17 rfl k271 r271_9 ?_
    refine T_iload dX12_orderLine_233 rfl ?_
    refine T_iload dX12_orderLine_235 rfl ?_
    refine T_iast dX12_orderLine_237 k274 l274 (by omega) (j := k) (by omega) ?_
    refine T_aload_n dX12_orderLine_238 rfl ?_
    refine T_getR dX12_orderLine_239 fX12_17 rfl k271 r271_9 ?_
    refine T_iload dX12_orderLine_242 rfl ?_
    refine T_iconst dX12_orderLine_244 (by decide) ?_
    refine T_add dX12_orderLine_245 (by omega) ?_
    refine T_iload dX12_orderLine_246 rfl ?_
    refine T_iconst dX12_orderLine_248 (by decide) ?_
    refine T_icmp_ge (tgt := 257) dX12_orderLine_249 (by decide) (fun c249 => absurd c249 (by decide)) (fun c249 => ?_)
    refine T_iload dX12_orderLine_252 rfl ?_
    refine T_goto (tgt := 258) dX12_orderLine_254 (by decide) ?_
    refine T_iast dX12_orderLine_258 k274 l274 (by omega) (j := k + 1) (by omega) ?_
    refine T_aload_n dX12_orderLine_259 rfl ?_
    refine T_getR dX12_orderLine_260 fX12_17 rfl k271 r271_9 ?_
    refine T_bipush dX12_orderLine_263 (by decide) ?_
    refine T_iload_n dX12_orderLine_265 rfl ?_
    refine T_add dX12_orderLine_266 (by omega) ?_
    refine T_dup2 dX12_orderLine_267 rfl rfl ?_
    refine T_ialdv dX12_orderLine_268 k274 l274 (by omega) (j := 15 + a) (by omega) (x := e 274 (15 + a)) (by rw [up_nej (by omega), up_nej (by omega)]) ?_
    refine T_iconst dX12_orderLine_269 (by decide) ?_
    refine T_add dX12_orderLine_270 (by omega) ?_
    refine T_iast dX12_orderLine_271 k274 l274 (by omega) (j := 15 + a) (by omega) ?_
    exact T_return dX12_orderLine_272 rfl (fin _ (RW_w (RW_w (RW_w hW))))
  · exact T_return dX12_orderLine_228 rfl (fin _ hW)

theorem w_o161 {e : sD} {a k : Nat} {at1 is m mv : Int} (hg : gOrd T n p = (false, q)) (hW : RW d0 e q) (hB : BW (e 274)) (ha : a < 2) (hk : 17 ≤ k) (hm : m = 0 ∨ k ≤ 83) : tB G mX12_orderLine 161 [vR 271, vI at1, vI is, vI a, vI m, vI k, vI mv, vU 0, vU 0] [] e (orQ d0 T n p x dr) := by
  refine T_iconst dX12_orderLine_161 (by decide) ?_
  refine T_ist dX12_orderLine_162 (by decide) rfl ?_
  exact w_o164 hg hW hB ha hk hm

theorem r_o164 {e0 : sD} {a k p3 : Nat} {x2 : Int × Int} {at1 is m mv : Int} (hg : gOrd T n p = (true, tkI T n (nbT T n 10 13 p3) p3)) (hxv : xOrd T n x dr p = xMj T n 4 x2 p3 (nbT T n 10 13 p3)) (hp3 : p3 ≤ n) (hB : BW (e0 274)) (ha : a < 2) (hk : 17 ≤ k) (hm : m = 0 ∨ (m = 1 ∧ e0 274 (15 + a) < 6 ∧ k ≤ 83)) (ht : x2.1 = 0 → m = 1 ∧ (∀ i, i < 89 → e0 274 i = dr i) ∧ (∀ i, i < 89 → dOrd T n dr p i = dOl T n (e0 274) a k mv p3 (nbT T n 10 13 p3) i) ∨ False) : ∀ z : Nat × sD, (z.1 ≤ nbT T n 10 13 p3 ∧ RS d0 z.2 T n (tkI T n z.1 p3) (xMj T n 4 x2 p3 z.1) ∧ NL (xMj T n 4 x2 p3 z.1) (tkI T n z.1 p3 : Nat) ∧ (∀ i, z.2 274 i = if m = 1 then dOj T n (e0 274) k p3 z.1 i else e0 274 i)) → tB G mX12_orderLine 164 [vR 271, vI at1, vI is, vI a, vI m, vI k, vI mv, vI z.1, vU 0] [] z.2 (orQ d0 T n p x dr) := by
  refine T_loop (α := Nat × sD) 164 (fun z => [vR 271, vI at1, vI is, vI a, vI m, vI k, vI mv, vI z.1, vU 0]) (fun z => z.2) (fun z => z.1 ≤ nbT T n 10 13 p3 ∧ RS d0 z.2 T n (tkI T n z.1 p3) (xMj T n 4 x2 p3 z.1) ∧ NL (xMj T n 4 x2 p3 z.1) (tkI T n z.1 p3 : Nat) ∧ (∀ i, z.2 274 i = if m = 1 then dOj T n (e0 274) k p3 z.1 i else e0 274 i)) (fun z => nbT T n 10 13 p3 + 1 - z.1) ?_
  rintro ⟨j, e⟩ ⟨h1, h2, h3, h5⟩ ih
  try dsimp only at h1 h2 h3 h5 ih ⊢
  have hT := h2.1.tv
  have hn6 := hT.1
  have hnb := nbT_le (lo := 10) (hi := 13) hT n p3 (by omega) hp3
  have hp := h2.2.1.1
  have e4 : (e 271 4) = ((tkI T n j p3 : Nat) : Int) := h2.2.1.2.1.1
  have hBa := hB a ha
  have hout : ∀ i, i < k + 2 → e 274 i = e0 274 i := fun i hi => by
    rw [h5 i]
    split
    · exact if_neg (by omega)
    · rfl
  have hBe : BW (e 274) := fun b hb => by rw [hout _ (by omega)]; exact hB b hb
  have hend : ¬ isW T n (tkI T n j p3) 10 13 → j = nbT T n 10 13 p3 := fun hn => by
    rcases Nat.lt_or_ge j (nbT T n 10 13 p3) with z | z
    · exact absurd ((isW_tk hT hp3 h1).mpr z) hn
    · omega
  have hs1 : isW T n (tkI T n j p3) 10 13 → j < nbT T n 10 13 p3 ∧ tkI T n j p3 < avT T n (tkI T n j p3) := fun hw => ⟨(isW_tk hT hp3 h1).mp hw, tk_lt hT hp hw⟩
  have h223n : ¬ isW T n (tkI T n j p3) 10 13 → m = 0 → orQ d0 T n p x dr none e := fun hn hm0 => by
    have hj := hend hn
    refine ⟨rfl, Or.inr ?_⟩
    rw [hg, hxv, ← hj]
    refine ⟨rfl, h2, h3, hBe, fun z => ?_⟩
    have z2 := xMj_0 z
    rcases ht z2.1 with y | y
    · omega
    · exact y.elim
  have hfin : ¬ isW T n (tkI T n j p3) 10 13 → m = 1 → ∀ (v : Int) (e2 : sD), v = ((min j 4 : Nat) : Int) → e2 = up (up (up e 274 k mv) 274 (k + 1) v) 274 (15 + a) (e 274 (15 + a) + 1) → orQ d0 T n p x dr none e2 := by
    rintro hn hm1 v e2 rfl rfl
    have hj := hend hn
    have hlt6 := (hm.resolve_left (by omega)).2.1
    have ea := hout (15 + a) (by omega)
    refine ⟨rfl, Or.inr ?_⟩
    rw [hg, hxv, ← hj]
    refine ⟨rfl, RS_w (RS_w (RS_w h2)), h3, fun b hb => ?_, fun z i hi => ?_⟩
    · by_cases y : 15 + b = 15 + a
      · rw [y, up_same, ea]; omega
      · rw [up_nej y, up_nej (by omega), up_nej (by omega)]; exact hBe b hb
    · have z2 := xMj_0 z
      rcases ht z2.1 with ⟨_, _, y⟩ | y
      · rw [y i hi, ← hj]
        show _ = if _ then _ else if _ then _ else if _ then _ else _
        by_cases c1 : i = 15 + a
        · rw [if_pos c1, c1, up_same, ea]
        rw [if_neg c1, up_nej c1]
        by_cases c2 : i = k + 1
        · rw [if_pos c2, c2, up_same]
        rw [if_neg c2, up_nej c2]
        by_cases c3 : i = k
        · rw [if_pos c3, c3, up_same]
        rw [if_neg c3, up_nej c3, h5 i, if_pos hm1]
      · exact y.elim
  have h186 : ∀ (e1 : sD), isW T n (tkI T n j p3) 10 13 → RS d0 e1 T n (tkI T n j p3) (xMj T n 4 x2 p3 (j + 1)) → NL (xMj T n 4 x2 p3 (j + 1)) (avT T n (tkI T n j p3) : Nat) → e1 274 = e 274 → tB G mX12_orderLine 186 [vR 271, vI at1, vI is, vI a, vI m, vI k, vI mv, vI j, vU 0] [] e1 (orQ d0 T n p x dr) := by
    intro e1 hw hR hN h274
    obtain ⟨hj, hlt⟩ := hs1 hw
    refine T_aload_n dX12_orderLine_186 rfl ?_
    refine T_callV dX12_orderLine_187 lX12_171 (As := []) (rest := _) rfl rfl k271 (by decide) (Nat.le_of_ble_eq_true rfl) (Nat.le_of_ble_eq_true rfl) (r_beatY hR hw) ?_
    rintro _ e2 ⟨rfl, hR2, h274b⟩
    have e274 : e2 274 = e 274 := h274b.trans h274
    have hwr := hw.2
    refine T_ist dX12_orderLine_190 (by decide) rfl ?_
    refine T_iload dX12_orderLine_192 rfl ?_
    refine T_iconst dX12_orderLine_194 (by decide) ?_
    refine T_icmp_ge (tgt := 217) dX12_orderLine_195 (by decide) (fun c195 => ?_) (fun c195 => ?_)
    · refine T_inc dX12_orderLine_217 rfl (by decide) rfl (by omega) ?_
      refine T_goto (tgt := 164) dX12_orderLine_220 (by decide) ?_
      refine T_drop 8 (ih (j + 1, e2) ⟨by omega, by (try dsimp only); rw [tkI_s]; exact hR2, by (try dsimp only); rw [tkI_s]; exact hN, fun i => ?_⟩ (by omega))
      try dsimp only
      rw [e274, h5 i]
      unfold dOj
      rw [show min (j + 1) 4 = min j 4 by omega]
    · refine T_iload dX12_orderLine_198 rfl ?_
      refine T_if_eq (tgt := 217) dX12_orderLine_200 (by decide) (fun c200 => ?_) (fun c200 => ?_)
      · refine T_inc dX12_orderLine_217 rfl (by decide) rfl (by omega) ?_
        refine T_goto (tgt := 164) dX12_orderLine_220 (by decide) ?_
        refine T_drop 8 (ih (j + 1, e2) ⟨by omega, by (try dsimp only); rw [tkI_s]; exact hR2, by (try dsimp only); rw [tkI_s]; exact hN, fun i => ?_⟩ (by omega))
        try dsimp only
        rw [e274, h5 i]
        rw [if_neg (by omega), if_neg (by omega)]
      · refine T_aload_n dX12_orderLine_203 rfl ?_
        refine T_getR dX12_orderLine_204 fX12_17 rfl k271 r271_9 ?_
        refine T_iload dX12_orderLine_207 rfl ?_
        refine T_iconst dX12_orderLine_209 (by decide) ?_
        refine T_add dX12_orderLine_210 (by omega) ?_
        refine T_iload dX12_orderLine_211 rfl ?_
        refine T_add dX12_orderLine_213 (by omega) ?_
        refine T_iload dX12_orderLine_214 rfl ?_
        refine T_iast dX12_orderLine_216 k274 l274 (by omega) (j := k + 2 + j) (by omega) ?_
        refine T_inc dX12_orderLine_217 rfl (by decide) rfl (by omega) ?_
        refine T_goto (tgt := 164) dX12_orderLine_220 (by decide) ?_
        refine T_drop 8 (ih (j + 1, up e2 274 (k + 2 + j) (woT T n (tkI T n j p3) - 10)) ⟨by omega, by (try dsimp only); rw [tkI_s]; exact RS_w hR2, by (try dsimp only); rw [tkI_s]; exact hN, fun i => ?_⟩ (by omega))
        try dsimp only
        rw [if_pos (by omega)]
        show _ = if _ then _ else _
        by_cases y : i = k + 2 + j
        · rw [y, up_same, if_pos (by omega), show k + 2 + j - (k + 2) = j by omega]
        · rw [up_nej y, e274, h5 i, if_pos (by omega)]
          show (if _ then _ else _) = _
          by_cases u : k + 2 ≤ i ∧ i < k + 2 + min j 4
          · rw [if_pos u, if_pos (by omega)]
          · rw [if_neg u, if_neg (by omega)]
  have hal := RS_al (k := 3) h2 h3
  refine T_aload_n dX12_orderLine_164 rfl ?_
  refine T_callV dX12_orderLine_165 lX12_167 (As := []) (rest := _) rfl rfl k271 (by decide) (Nat.le_of_ble_eq_true rfl) (Nat.le_of_ble_eq_true rfl) (r_isBeat h2) ?_
  rintro _ _ ⟨rfl, rfl⟩
  refine T_if_eq (tgt := 223) dX12_orderLine_168 (by decide) (fun c168 => ?_) (fun c168 => ?_)
  · refine T_iload dX12_orderLine_223 rfl ?_
    refine T_if_ne (tgt := 229) dX12_orderLine_225 (by decide) (fun c225 => ?_) (fun c225 => ?_)
    · have ea := hout (15 + a) (by omega)
      refine T_aload_n dX12_orderLine_229 rfl ?_
      refine T_getR dX12_orderLine_230 fX12_17 rfl k271 r271_9 ?_
      refine T_iload dX12_orderLine_233 rfl ?_
      refine T_iload dX12_orderLine_235 rfl ?_
      refine T_iast dX12_orderLine_237 k274 l274 (by omega) (j := k) (by omega) ?_
      refine T_aload_n dX12_orderLine_238 rfl ?_
      refine T_getR dX12_orderLine_239 fX12_17 rfl k271 r271_9 ?_
      refine T_iload dX12_orderLine_242 rfl ?_
      refine T_iconst dX12_orderLine_244 (by decide) ?_
      refine T_add dX12_orderLine_245 (by omega) ?_
      refine T_iload dX12_orderLine_246 rfl ?_
      refine T_iconst dX12_orderLine_248 (by decide) ?_
      refine T_icmp_ge (tgt := 257) dX12_orderLine_249 (by decide) (fun c249 => ?_) (fun c249 => ?_)
      · refine T_iconst dX12_orderLine_257 (by decide) ?_
        refine T_iast dX12_orderLine_258 k274 l274 (by omega) (j := k + 1) (by omega) ?_
        refine T_aload_n dX12_orderLine_259 rfl ?_
        refine T_getR dX12_orderLine_260 fX12_17 rfl k271 r271_9 ?_
        refine T_bipush dX12_orderLine_263 (by decide) ?_
        refine T_iload_n dX12_orderLine_265 rfl ?_
        refine T_add dX12_orderLine_266 (by omega) ?_
        refine T_dup2 dX12_orderLine_267 rfl rfl ?_
        refine T_ialdv dX12_orderLine_268 k274 l274 (by omega) (j := 15 + a) (by omega) (x := e 274 (15 + a)) (by rw [up_nej (by omega), up_nej (by omega)]) ?_
        refine T_iconst dX12_orderLine_269 (by decide) ?_
        refine T_add dX12_orderLine_270 (by omega) ?_
        refine T_iast dX12_orderLine_271 k274 l274 (by omega) (j := 15 + a) (by omega) ?_
        exact T_return dX12_orderLine_272 rfl (hfin (bI_0 c168) (by omega) _ _ (by omega) rfl)
      · refine T_iload dX12_orderLine_252 rfl ?_
        refine T_goto (tgt := 258) dX12_orderLine_254 (by decide) ?_
        refine T_iast dX12_orderLine_258 k274 l274 (by omega) (j := k + 1) (by omega) ?_
        refine T_aload_n dX12_orderLine_259 rfl ?_
        refine T_getR dX12_orderLine_260 fX12_17 rfl k271 r271_9 ?_
        refine T_bipush dX12_orderLine_263 (by decide) ?_
        refine T_iload_n dX12_orderLine_265 rfl ?_
        refine T_add dX12_orderLine_266 (by omega) ?_
        refine T_dup2 dX12_orderLine_267 rfl rfl ?_
        refine T_ialdv dX12_orderLine_268 k274 l274 (by omega) (j := 15 + a) (by omega) (x := e 274 (15 + a)) (by rw [up_nej (by omega), up_nej (by omega)]) ?_
        refine T_iconst dX12_orderLine_269 (by decide) ?_
        refine T_add dX12_orderLine_270 (by omega) ?_
        refine T_iast dX12_orderLine_271 k274 l274 (by omega) (j := 15 + a) (by omega) ?_
        exact T_return dX12_orderLine_272 rfl (hfin (bI_0 c168) (by omega) _ _ (by omega) rfl)
    · exact T_return dX12_orderLine_228 rfl (h223n (bI_0 c168) (by omega))
  · refine T_iload dX12_orderLine_171 rfl ?_
    refine T_iconst dX12_orderLine_173 (by decide) ?_
    refine T_icmp_lt (tgt := 186) dX12_orderLine_174 (by decide) (fun c174 => ?_) (fun c174 => ?_)
    · obtain ⟨hj, hlt⟩ := hs1 (bI_1 c168)
      refine h186 e (bI_1 c168) ?_ ?_ rfl
      · rw [xMj_s0 (by omega)]; exact h2
      · rw [xMj_s0 (by omega)]; exact h3.mono (by omega)
    · refine T_aload_n dX12_orderLine_177 rfl ?_
      refine T_iconst dX12_orderLine_178 (by decide) ?_
      refine T_aload_n dX12_orderLine_179 rfl ?_
      refine T_getIv dX12_orderLine_180 fX12_112 rfl k271 (x := ((tkI T n j p3 : Nat) : Int)) e4 ?_
      refine T_callV dX12_orderLine_183 lX12_149 (As := [_, _]) (rest := _) rfl rfl k271 (by decide) (Nat.le_of_ble_eq_true rfl) (Nat.le_of_ble_eq_true rfl) t_also ?_
      rintro _ _ ⟨rfl, rfl⟩
      obtain ⟨hj, hlt⟩ := hs1 (bI_1 c168)
      refine h186 _ (bI_1 c168) ?_ ?_ hal.2
      · rw [← xMj_s1 (by omega)]; exact hal.1
      · rw [← xMj_s1 (by omega)]; exact NL_a (h3.mono (by omega)) (by omega)

end C42
