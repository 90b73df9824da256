/-! ===== the command anew ===== -/
section ZCY
variable {ck sk : Nat} {Q : ZO → ZH → Prop} {L t i a b c d e j k l s v w x o f m n : Int} {y : Int64} {u u' u1 u2 u3 u4 x5 x6 : ZV} {μ ν κ : ZU}
theorem RV_st (h : RV L t μ) (hc : c = μ 0 0 50 - 1) : RV L t (stt c d f μ) := by
  have h5 := h.2.2.2.2.2.2.1.2.2.2.1
  exact RV_c h (stt_g (by omega)) (stt_g (by omega)) (fun j _ => by rw [stt_g (by omega)]) (fun k hk => stt_g (by omega)) (fun k hk b b0 b1 => stt_o (by omega) hk)
theorem RV_rf (h : RV L t μ) (hr : rfr μ ν) : RV L t ν := RV_c h (hr.1 0 (by decide) (by omega)) (hr.1 2 (by decide) (by omega)) (fun j hj => hr.2 0 j (by omega)) (fun k hk => hr.1 k (by omega) (by omega)) (fun k hk b _ _ => by rw [hr.1 k (by omega) (by omega)])
end ZCY
