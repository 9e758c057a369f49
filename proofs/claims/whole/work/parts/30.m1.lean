/-! the reference: small methods -/
section M1
variable {G : sG} {d : sD}
def bI (p : Prop) [Decidable p] : Int := if p then 1 else 0
theorem bI_t {p : Prop} [Decidable p] (h : p) : bI p = 1 := if_pos h
theorem bI_f {p : Prop} [Decidable p] (h : ¬ p) : bI p = 0 := if_neg h
theorem bI_01 (p : Prop) [Decidable p] : bI p = 0 ∨ bI p = 1 := by unfold bI; split <;> simp
theorem t_X12_isIn {v a b : Int} : tB G mX12_isIn 0 [vI v, vI a, vI b] [] d (fun r d' => r = some (vI (bI (a ≤ v ∧ v ≤ b))) ∧ d' = d) := by
  refine T_iload_n dX12_isIn_0 rfl ?_
  refine T_iload_n dX12_isIn_1 rfl ?_
  refine T_icmp_lt (tgt := 14) dX12_isIn_2 (by decide) (fun c2 => ?_) (fun c2 => ?_)
  · refine T_iconst dX12_isIn_14 (by decide) ?_
    exact T_zreturn dX12_isIn_15 rfl (by omega) ⟨by rw [bI_f (by omega)], rfl⟩
  · refine T_iload_n dX12_isIn_5 rfl ?_
    refine T_iload_n dX12_isIn_6 rfl ?_
    refine T_icmp_gt (tgt := 14) dX12_isIn_7 (by decide) (fun c7 => ?_) (fun c7 => ?_)
    · refine T_iconst dX12_isIn_14 (by decide) ?_
      exact T_zreturn dX12_isIn_15 rfl (by omega) ⟨by rw [bI_f (by omega)], rfl⟩
    · refine T_iconst dX12_isIn_10 (by decide) ?_
      refine T_goto (tgt := 15) dX12_isIn_11 (by decide) ?_
      exact T_zreturn dX12_isIn_15 rfl (by omega) ⟨by rw [bI_t (by omega)], rfl⟩
end M1
