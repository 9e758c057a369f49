/-! the reference: a line of villages -/
section C39
variable {G : sG} {d d' d0 : sD} {T : Nat → Int} {n p q : Nat} {x : Int × Int} {dr : Nat → Int}
theorem r_numberedX {lo hi : Int} (h : RS d0 d T n p x) (hx : ¬ inR (nmT T n p) lo hi → NL x p) : tB G mX12_numbered 0 [vR 271, vI lo, vI hi, vU 0] [] d (fun r d' => (kdT T n p = 1 ∧ r = some (vI (if inR (nmT T n p) lo hi then nmT T n p else lo)) ∧ RS d0 d' T n (avT T n p) (if inR (nmT T n p) lo hi then x else ntA x 2 p) ∧ d' 274 = d 274) ∨ (¬ kdT T n p = 1 ∧ r = some (vI lo) ∧ RW d0 d' p ∧ d' 274 = d 274)) := (t_numbered h.1 h.2.1).mono (by
  rintro r d' (⟨h1, h2, rfl, h3, h4⟩ | ⟨h1, h2, rfl, h3, h4⟩ | ⟨h1, rfl, rfl⟩)
  · exact Or.inl ⟨h1.2, by rw [if_pos h2], by rw [if_pos h2]; exact RS_ag h h4 h3⟩
  · have g := RS_al (k := 2) h (hx h2)
    have g2 := RS_ag g.1 h4 h3
    exact Or.inl ⟨h1.2, by rw [if_neg h2], by rw [if_neg h2]; exact ⟨g2.1, g2.2.trans g.2⟩⟩
  · exact Or.inr ⟨fun z => h1 ⟨h.2.2.1, z⟩, rfl, RS_en h⟩)
def gVi2 (T : Nat → Int) (n : Nat) (v : Int) (p : Nat) : Bool × Nat := if v = 0 then gNum T n p (gSem T n) else if v = 1 then gWd T n 10 13 p (fun q => gWd T n 10 13 q (gSem T n)) else if v = 2 then gWd T n 10 13 p (gSem T n) else gSem T n p
def gVil (T : Nat → Int) (n p : Nat) : Bool × Nat := gWd T n 21 24 p fun p1 => gNum T n p1 fun p2 => gVi2 T n (woT T n p - 21) p2
def xV0 (x : Int × Int) (dr : Nat → Int) (p : Nat) : Int × Int := if dr 0 < 8 then x else ntA x 3 p
def xV1 (T : Nat → Int) (n : Nat) (x : Int × Int) (dr : Nat → Int) (p : Nat) : Int × Int := if nmT T n p = 8 ∨ nmT T n p < dr 0 then x else ntA x 2 p
def xV2 (T : Nat → Int) (n : Nat) (x : Int × Int) (v : Int) (p : Nat) : Int × Int := if v = 0 then xNum T n x p 1 9 else if v = 1 ∧ woT T n (avT T n p) = woT T n p then ntA x 4 (avT T n p) else x
def xVil (T : Nat → Int) (n : Nat) (x : Int × Int) (dr : Nat → Int) (p : Nat) : Int × Int := xV2 T n (xV1 T n (xV0 x dr p) dr (avT T n p)) (woT T n p - 21) (avT T n (avT T n p))
def vlD (dr : Nat → Int) (a b c e : Int) : Nat → Int := fun i => if i = 0 then dr 0 + 1 else if i = 1 + 4 * (dr 0).toNat then a else if i = 2 + 4 * (dr 0).toNat then b else if i = 3 + 4 * (dr 0).toNat then c else if i = 4 + 4 * (dr 0).toNat then e else dr i
def dVil (T : Nat → Int) (n : Nat) (dr : Nat → Int) (p : Nat) : Nat → Int := vlD dr (nmT T n (avT T n p)) (woT T n p - 21) (if woT T n p - 21 = 0 then nmT T n (avT T n (avT T n p)) else if woT T n p - 21 = 3 then -1 else woT T n (avT T n (avT T n p)) - 10) (if woT T n p - 21 = 1 then woT T n (avT T n (avT T n (avT T n p))) - 10 else -1)
def BVl (h : Nat → Int) : Prop := 0 ≤ h 0 ∧ h 0 ≤ 8
abbrev viQ (d0 : sD) (T : Nat → Int) (n p : Nat) (x : Int × Int) (dr : Nat → Int) : Option sV → sD → Prop := fun r d' => r = none ∧ LnP d0 T n (gVil T n p) (xVil T n x dr p) (dVil T n dr p) BVl d'

theorem w_v176 {e : sD} {at1 v m pa on tw : Int} (hg : gVil T n p = (false, q)) (hW : RW d0 e q) (hB : BVl (e 274)) (hm : m = 0 ∨ e 274 0 < 8) : tB G mX12_villageLine 176 [vR 271, vI at1, vI v, vI m, vI pa, vI on, vI tw, vU 0] [] e (viQ d0 T n p x dr) := by
  have hB1 := hB.1
  have hB2 := hB.2
  have fin : ∀ e2 : sD, RW d0 e2 q → viQ d0 T n p x dr none e2 := fun e2 h2 => ⟨rfl, Or.inl (by rw [hg]; exact ⟨rfl, h2⟩)⟩
  refine T_iload_n dX12_villageLine_176 rfl ?_
  refine T_if_eq (tgt := 243) dX12_villageLine_177 (by decide) (fun c177 => ?_) (fun c177 => ?_)
  · refine T_aload_n dX12_villageLine_243 rfl ?_
    refine T_callV dX12_villageLine_244 lX12_177 (As := []) (rest := _) rfl rfl k271 (by decide) (Nat.le_of_ble_eq_true rfl) (Nat.le_of_ble_eq_true rfl) (w_endsLine hW) ?_
    rintro _ _ ⟨rfl, rfl⟩
    exact T_return dX12_villageLine_247 rfl (fin _ hW)
  · refine T_iconst dX12_villageLine_180 (by decide) ?_
    refine T_iconst dX12_villageLine_181 (by decide) ?_
    refine T_aload_n dX12_villageLine_182 rfl ?_
    refine T_getR dX12_villageLine_183 fX12_17 rfl k271 r271_9 ?_
    refine T_iconst dX12_villageLine_186 (by decide) ?_
    refine T_ialdv dX12_villageLine_187 k274 l274 (by omega) (j := 0) rfl (x := e 274 0) rfl ?_
    refine T_mul dX12_villageLine_188 (by omega) ?_
    refine T_add dX12_villageLine_189 (by omega) ?_
    refine T_ist dX12_villageLine_190 (by decide) rfl ?_
    refine T_aload_n dX12_villageLine_192 rfl ?_
    refine T_getR dX12_villageLine_193 fX12_17 rfl k271 r271_9 ?_
    refine T_iload dX12_villageLine_196 rfl ?_
    refine T_iload dX12_villageLine_198 rfl ?_
    refine T_iast dX12_villageLine_200 k274 l274 (by omega) (j := 1 + 4 * (e 274 0).toNat) (by omega) ?_
    refine T_aload_n dX12_villageLine_201 rfl ?_
    refine T_getR dX12_villageLine_202 fX12_17 rfl k271 r271_9 ?_
    refine T_iload dX12_villageLine_205 rfl ?_
    refine T_iconst dX12_villageLine_207 (by decide) ?_
    refine T_add dX12_villageLine_208 (by omega) ?_
    refine T_iload_n dX12_villageLine_209 rfl ?_
    refine T_iast dX12_villageLine_210 k274 l274 (by omega) (j := 2 + 4 * (e 274 0).toNat) (by omega) ?_
    refine T_aload_n dX12_villageLine_211 rfl ?_
    refine T_getR dX12_villageLine_212 fX12_17 rfl k271 r271_9 ?_
    refine T_iload dX12_villageLine_215 rfl ?_
    refine T_iconst dX12_villageLine_217 (by decide) ?_
    refine T_add dX12_villageLine_218 (by omega) ?_
    refine T_iload dX12_villageLine_219 rfl ?_
    refine T_iast dX12_villageLine_221 k274 l274 (by omega) (j := 3 + 4 * (e 274 0).toNat) (by omega) ?_
    refine T_aload_n dX12_villageLine_222 rfl ?_
    refine T_getR dX12_villageLine_223 fX12_17 rfl k271 r271_9 ?_
    refine T_iload dX12_villageLine_226 rfl ?_
    refine T_iconst dX12_villageLine_228 (by decide) ?_
    refine T_add dX12_villageLine_229 (by omega) ?_
    refine T_iload dX12_villageLine_230 rfl ?_
    refine T_iast dX12_villageLine_232 k274 l274 (by omega) (j := 4 + 4 * (e 274 0).toNat) (by omega) ?_
    refine T_aload_n dX12_villageLine_233 rfl ?_
    refine T_getR dX12_villageLine_234 fX12_17 rfl k271 r271_9 ?_
    refine T_iconst dX12_villageLine_237 (by decide) ?_
    refine T_dup2 dX12_villageLine_238 rfl rfl ?_
    refine T_ialdv dX12_villageLine_239 k274 l274 (by omega) (j := 0) rfl (x := e 274 0) (by rw [up_nej (by omega), up_nej (by omega), up_nej (by omega), up_nej (by omega)]) ?_
    refine T_iconst dX12_villageLine_240 (by decide) ?_
    refine T_add dX12_villageLine_241 (by omega) ?_
    refine T_iast dX12_villageLine_242 k274 l274 (by omega) (j := 0) rfl ?_
    refine T_aload_n dX12_villageLine_243 rfl ?_
    refine T_callV dX12_villageLine_244 lX12_177 (As := []) (rest := _) rfl rfl k271 (by decide) (Nat.le_of_ble_eq_true rfl) (Nat.le_of_ble_eq_true rfl) (w_endsLine (RW_w (RW_w (RW_w (RW_w (RW_w hW)))))) ?_
    rintro _ _ ⟨rfl, rfl⟩
    exact T_return dX12_villageLine_247 rfl (fin _ (RW_w (RW_w (RW_w (RW_w (RW_w hW))))))

theorem w_v137 {e : sD} {at1 v m pa on tw : Int} (hg : gVil T n p = (false, q)) (hW : RW d0 e q) (hB : BVl (e 274)) (hm : m = 0 ∨ e 274 0 < 8) : tB G mX12_villageLine 137 [vR 271, vI at1, vI v, vI m, vI pa, vI on, vI tw, vU 0] [] e (viQ d0 T n p x dr) := by
  refine T_iload_n dX12_villageLine_137 rfl ?_
  refine T_iconst dX12_villageLine_138 (by decide) ?_
  refine T_icmp_ne (tgt := 176) dX12_villageLine_139 (by decide) (fun c139 => ?_) (fun c139 => ?_)
  · exact w_v176 hg hW hB hm
  · refine T_aload_n dX12_villageLine_142 rfl ?_
    refine T_callV dX12_villageLine_143 lX12_167 (As := []) (rest := _) rfl rfl k271 (by decide) (Nat.le_of_ble_eq_true rfl) (Nat.le_of_ble_eq_true rfl) (w_isBeat hW) ?_
    rintro _ _ ⟨rfl, rfl⟩
    refine T_if_eq (tgt := 170) dX12_villageLine_146 (by decide) (fun c146 => ?_) (fun c146 => absurd rfl c146)
    refine T_aload_n dX12_villageLine_170 rfl ?_
    refine T_callV dX12_villageLine_171 lX12_171 (As := []) (rest := _) rfl rfl k271 (by decide) (Nat.le_of_ble_eq_true rfl) (Nat.le_of_ble_eq_true rfl) (w_beatTold hW) ?_
    rintro _ _ ⟨rfl, rfl⟩
    refine T_ist dX12_villageLine_174 (by decide) rfl ?_
    exact w_v176 hg hW hB hm

theorem w_v121 {e : sD} {at1 v m pa on tw : Int} (hg : gVil T n p = (false, q)) (hW : RW d0 e q) (hB : BVl (e 274)) (hm : m = 0 ∨ e 274 0 < 8) : tB G mX12_villageLine 121 [vR 271, vI at1, vI v, vI m, vI pa, vI on, vI tw, vU 0] [] e (viQ d0 T n p x dr) := by
  refine T_iload_n dX12_villageLine_121 rfl ?_
  refine T_iconst dX12_villageLine_122 (by decide) ?_
  refine T_icmp_eq (tgt := 131) dX12_villageLine_123 (by decide) (fun c123 => ?_) (fun c123 => ?_)
  · refine T_aload_n dX12_villageLine_131 rfl ?_
    refine T_callV dX12_villageLine_132 lX12_171 (As := []) (rest := _) rfl rfl k271 (by decide) (Nat.le_of_ble_eq_true rfl) (Nat.le_of_ble_eq_true rfl) (w_beatTold hW) ?_
    rintro _ _ ⟨rfl, rfl⟩
    refine T_ist dX12_villageLine_135 (by decide) rfl ?_
    exact w_v137 hg hW hB hm
  · refine T_iload_n dX12_villageLine_126 rfl ?_
    refine T_iconst dX12_villageLine_127 (by decide) ?_
    refine T_icmp_ne (tgt := 137) dX12_villageLine_128 (by decide) (fun c128 => ?_) (fun c128 => ?_)
    · exact w_v137 hg hW hB hm
    · refine T_aload_n dX12_villageLine_131 rfl ?_
      refine T_callV dX12_villageLine_132 lX12_171 (As := []) (rest := _) rfl rfl k271 (by decide) (Nat.le_of_ble_eq_true rfl) (Nat.le_of_ble_eq_true rfl) (w_beatTold hW) ?_
      rintro _ _ ⟨rfl, rfl⟩
      refine T_ist dX12_villageLine_135 (by decide) rfl ?_
      exact w_v137 hg hW hB hm

theorem w_v108 {e : sD} {at1 v m pa on tw : Int} (hg : gVil T n p = (false, q)) (hW : RW d0 e q) (hB : BVl (e 274)) (hm : m = 0 ∨ e 274 0 < 8) : tB G mX12_villageLine 108 [vR 271, vI at1, vI v, vI m, vI pa, vI on, vI tw, vU 0] [] e (viQ d0 T n p x dr) := by
  refine T_iload_n dX12_villageLine_108 rfl ?_
  refine T_if_ne (tgt := 121) dX12_villageLine_109 (by decide) (fun c109 => ?_) (fun c109 => ?_)
  · exact w_v121 hg hW hB hm
  · refine T_aload_n dX12_villageLine_112 rfl ?_
    refine T_iconst dX12_villageLine_113 (by decide) ?_
    refine T_bipush dX12_villageLine_114 (by decide) ?_
    refine T_callV dX12_villageLine_116 lX12_160 (As := [_, _]) (rest := _) rfl rfl k271 (by decide) (Nat.le_of_ble_eq_true rfl) (Nat.le_of_ble_eq_true rfl) (w_numbered hW) ?_
    rintro _ _ ⟨rfl, rfl⟩
    refine T_ist dX12_villageLine_119 (by decide) rfl ?_
    exact w_v121 hg hW hB hm

theorem r_v176 {e : sD} {pl : Nat} {x2 : Int × Int} {at1 v m pa on tw : Int} (hg : gVil T n p = gSem T n pl) (hxv : xVil T n x dr p = x2) (hR : RS d0 e T n pl x2) (hN : NL x2 pl) (hB : BVl (e 274)) (hm : (m = 0 ∧ ¬ e 274 0 < 8) ∨ (m = 1 ∧ e 274 0 < 8)) (ht : ti dr x2 (e 274)) (h8 : x2.1 = 0 → dr 0 < 8 ∧ dVil T n dr p = vlD dr pa v on tw) : tB G mX12_villageLine 176 [vR 271, vI at1, vI v, vI m, vI pa, vI on, vI tw, vU 0] [] e (viQ d0 T n p x dr) := by
  have hB1 := hB.1
  have hB2 := hB.2
  have t0 : ¬ e 274 0 < 8 → ti (dVil T n dr p) x2 (e 274) := fun h z => by
    have := ht z 0 (by decide)
    have := (h8 z).1
    omega
  have t1 : e 274 0 < 8 → ti (dVil T n dr p) x2 (up (up (up (up (up e 274 (1 + 4 * (e 274 0).toNat) pa) 274 (2 + 4 * (e 274 0).toNat) v) 274 (3 + 4 * (e 274 0).toNat) on) 274 (4 + 4 * (e 274 0).toNat) tw) 274 0 (e 274 0 + 1) 274) := fun h z i hi => by
    have e0 := ht z 0 (by decide)
    rw [(h8 z).2]
    unfold vlD
    rw [← e0]
    by_cases c0 : i = 0
    · rw [if_pos c0, c0, up_same]
    rw [if_neg c0, up_nej c0]
    by_cases c4 : i = 4 + 4 * (e 274 0).toNat
    · rw [c4, up_same, if_neg (by omega), if_neg (by omega), if_neg (by omega), if_pos rfl]
    rw [up_nej c4, if_neg c4]
    by_cases c3 : i = 3 + 4 * (e 274 0).toNat
    · rw [c3, up_same, if_neg (by omega), if_neg (by omega), if_pos rfl]
    rw [up_nej c3, if_neg c3]
    by_cases c2 : i = 2 + 4 * (e 274 0).toNat
    · rw [c2, up_same, if_neg (by omega), if_pos rfl]
    rw [up_nej c2, if_neg c2]
    by_cases c1 : i = 1 + 4 * (e 274 0).toNat
    · rw [c1, up_same, if_pos rfl]
    rw [up_nej c1, if_neg c1]
    exact ht z i hi
  have b1 : ∀ (y : sD), BVl (up y 274 0 (e 274 0 + 1) 274) ∨ ¬ e 274 0 < 8 := fun y => by
    by_cases z : e 274 0 < 8
    · refine Or.inl ⟨?_, ?_⟩ <;> rw [up_same] <;> omega
    · exact Or.inr z
  refine T_iload_n dX12_villageLine_176 rfl ?_
  refine T_if_eq (tgt := 243) dX12_villageLine_177 (by decide) (fun c177 => ?_) (fun c177 => ?_)
  · refine T_aload_n dX12_villageLine_243 rfl ?_
    refine T_callV dX12_villageLine_244 lX12_177 (As := []) (rest := _) rfl rfl k271 (by decide) (Nat.le_of_ble_eq_true rfl) (Nat.le_of_ble_eq_true rfl) (LnP_sem (dr := dVil T n dr p) (B := BVl) hN hB (t0 (by omega)) hR) ?_
    rintro _ e2 ⟨rfl, hL⟩
    exact T_return dX12_villageLine_247 rfl ⟨rfl, by rw [hg, hxv]; exact hL⟩
  · refine T_iconst dX12_villageLine_180 (by decide) ?_
    refine T_iconst dX12_villageLine_181 (by decide) ?_
    refine T_aload_n dX12_villageLine_182 rfl ?_
    refine T_getR dX12_villageLine_183 fX12_17 rfl k271 r271_9 ?_
    refine T_iconst dX12_villageLine_186 (by decide) ?_
    refine T_ialdv dX12_villageLine_187 k274 l274 (by omega) (j := 0) rfl (x := e 274 0) rfl ?_
    refine T_mul dX12_villageLine_188 (by omega) ?_
    refine T_add dX12_villageLine_189 (by omega) ?_
    refine T_ist dX12_villageLine_190 (by decide) rfl ?_
    refine T_aload_n dX12_villageLine_192 rfl ?_
    refine T_getR dX12_villageLine_193 fX12_17 rfl k271 r271_9 ?_
    refine T_iload dX12_villageLine_196 rfl ?_
    refine T_iload dX12_villageLine_198 rfl ?_
    refine T_iast dX12_villageLine_200 k274 l274 (by omega) (j := 1 + 4 * (e 274 0).toNat) (by omega) ?_
    refine T_aload_n dX12_villageLine_201 rfl ?_
    refine T_getR dX12_villageLine_202 fX12_17 rfl k271 r271_9 ?_
    refine T_iload dX12_villageLine_205 rfl ?_
    refine T_iconst dX12_villageLine_207 (by decide) ?_
    refine T_add dX12_villageLine_208 (by omega) ?_
    refine T_iload_n dX12_villageLine_209 rfl ?_
    refine T_iast dX12_villageLine_210 k274 l274 (by omega) (j := 2 + 4 * (e 274 0).toNat) (by omega) ?_
    refine T_aload_n dX12_villageLine_211 rfl ?_
    refine T_getR dX12_villageLine_212 fX12_17 rfl k271 r271_9 ?_
    refine T_iload dX12_villageLine_215 rfl ?_
    refine T_iconst dX12_villageLine_217 (by decide) ?_
    refine T_add dX12_villageLine_218 (by omega) ?_
    refine T_iload dX12_villageLine_219 rfl ?_
    refine T_iast dX12_villageLine_221 k274 l274 (by omega) (j := 3 + 4 * (e 274 0).toNat) (by omega) ?_
    refine T_aload_n dX12_villageLine_222 rfl ?_
    refine T_getR dX12_villageLine_223 fX12_17 rfl k271 r271_9 ?_
    refine T_iload dX12_villageLine_226 rfl ?_
    refine T_iconst dX12_villageLine_228 (by decide) ?_
    refine T_add dX12_villageLine_229 (by omega) ?_
    refine T_iload dX12_villageLine_230 rfl ?_
    refine T_iast dX12_villageLine_232 k274 l274 (by omega) (j := 4 + 4 * (e 274 0).toNat) (by omega) ?_
    refine T_aload_n dX12_villageLine_233 rfl ?_
    refine T_getR dX12_villageLine_234 fX12_17 rfl k271 r271_9 ?_
    refine T_iconst dX12_villageLine_237 (by decide) ?_
    refine T_dup2 dX12_villageLine_238 rfl rfl ?_
    refine T_ialdv dX12_villageLine_239 k274 l274 (by omega) (j := 0) rfl (x := e 274 0) (by rw [up_nej (by omega), up_nej (by omega), up_nej (by omega), up_nej (by omega)]) ?_
    refine T_iconst dX12_villageLine_240 (by decide) ?_
    refine T_add dX12_villageLine_241 (by omega) ?_
    refine T_iast dX12_villageLine_242 k274 l274 (by omega) (j := 0) rfl ?_
    refine T_aload_n dX12_villageLine_243 rfl ?_
    refine T_callV dX12_villageLine_244 lX12_177 (As := []) (rest := _) rfl rfl k271 (by decide) (Nat.le_of_ble_eq_true rfl) (Nat.le_of_ble_eq_true rfl) (LnP_sem (dr := dVil T n dr p) (B := BVl) hN ((b1 _).resolve_right (by omega)) (t1 (by omega)) (RS_w (RS_w (RS_w (RS_w (RS_w hR)))))) ?_
    rintro _ e2 ⟨rfl, hL⟩
    exact T_return dX12_villageLine_247 rfl ⟨rfl, by rw [hg, hxv]; exact hL⟩

end C39
