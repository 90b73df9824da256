/-! ===== the command anew ===== -/
section ZCY
variable {ck sk : Nat} {Q : ZO → ZH → Prop} {L t i a b c d e j k l s v w x o f m n : Int} {y : Int64} {u u' u1 u2 u3 u4 x5 x6 : ZV} {μ ν κ : ZU}
theorem thr_g {k : Nat} (hk : k ≠ 100) : thr μ x k = μ k := mu_g hk
theorem RV_st (h : RV L t μ) (hc : c = μ 0 0 50 - 1) : RV L t (stt c d f μ) := by
  have h5 := h.2.2.2.2.2.2.1.2.2.2.1
  exact RV_c h (stt_g (by omega)) (stt_g (by omega)) (fun j _ => by rw [stt_g (by omega)]) (fun k hk => stt_g (by omega)) (fun k hk b b0 b1 => stt_o (by omega) hk)
theorem RV_rf (h : RV L t μ) (hr : rfr μ ν) : RV L t ν := RV_c h (hr.1 0 (by decide) (by omega)) (hr.1 2 (by decide) (by omega)) (fun j hj => hr.2 0 j (by omega)) (fun k hk => hr.1 k (by omega) (by omega)) (fun k hk b _ _ => by rw [hr.1 k (by omega) (by omega)])
theorem cm22 (h : RV L t μ) (h0 : 0 ≤ i) (h1 : i + 4 < L) (hL : L ≤ 2560) (hck : 13 ≤ ck) (hsk : 406 ≤ sk) (q : KT L t i ck sk Q) : G 174 1707 [zR 1 0, zR 2 0, zR 100 0, zR 200 0, zI i, x5, x6] [] (HM μ) ck sk Q := by
  have h2 : i + 4 < μ 0 2 0 := by rw [h.1]; exact h1
  have h4 : i ≤ 100000 := by omega
  have h6 := h.2.2.2.2.2.1
  rw [k22 h0 h2 (by omega) (by omega) h4, c66 (RV_job h) (RV_bld h) (RV_doc h) (fun i i0 i1 => RV_fl h i0 i1)]
  by_cases g0 : (0 ≤ (μ 1 0 (i + 1)) ∧ (μ 1 0 (i + 1)) < μ 0 0 40) ∧ 0 ≤ (μ 1 0 (i + 2))
  · obtain ⟨j1, j2, j3, j4, j5, -⟩ := h6.2.2.2.1 _ g0.1.1 g0.1.2
    have jt := (h.2.2.1.2.2.2.2.1 _ j2.1 j2.2).2.2.2.2.1
    by_cases g1 : μ 20 (μ 40 (μ 1 0 (i + 1)) 1) 3 = 0
    · rw [if_pos g0, if_pos g1, b170_v, e22 h0 (by simp (disch := decide) only [mu_g]; exact h2) h4]
      simp (disch := decide) only [mu_g (k' := 1)]
      rw [c142_0 (RV_rj (RV_o h)) (by simp (disch := decide) only [mu_g]; rw [h6.2.2.1]; exact g0.1) g0.2 (by simp (disch := decide) only [mu_g]; rw [j5, jt]; exact g1)]
      exact r22 thr_e (fun _ => thr_o) (q _ _ _ _ _ (RV_1 (RV_t (RV_o h))) (by omega) (by omega))
    · rw [if_pos g0, if_neg g1, b170_v]
      generalize ho : (Int64.ofInt (tll (stt (μ 0 0 50 - 1) (μ 40 (μ 1 0 (i + 1)) 0) (μ 40 (μ 1 0 (i + 1)) 1) μ) (μ 0 0 50 - 1) (μ 1 0 (i + 2)) 4)).toInt = o
      have hS : RV L t (stt (μ 0 0 50 - 1) (μ 40 (μ 1 0 (i + 1)) 0) (μ 40 (μ 1 0 (i + 1)) 1) μ) := RV_st h rfl
      generalize hν : mu (stt (μ 0 0 50 - 1) (μ 40 (μ 1 0 (i + 1)) 0) (μ 40 (μ 1 0 (i + 1)) 1) μ) 200 0 0 o = ν
      have hR : RV L t ν := by subst hν; exact RV_o hS
      have ek : ∀ k, (k < 50 ∨ 66 < k) → k ≠ 200 → ν k = μ k := fun k hk hk2 => by
        subst hν
        rw [mu_g hk2, stt_g hk]
      have e200 : ν 200 0 0 = o := by subst hν; exact mu_at ..
      rw [e22 h0 (by rw [ek 0 (by omega) (by decide)]; exact h2) h4, ek 1 (by omega) (by decide)]
      have e130 : ν 130 0 (μ 1 0 (i + 1)) = μ 40 (μ 1 0 (i + 1)) 0 := by rw [ek 130 (by omega) (by decide), j4]
      have e131 : ν 131 0 (μ 1 0 (i + 1)) = μ 40 (μ 1 0 (i + 1)) 1 := by rw [ek 131 (by omega) (by decide), j5]
      have ec : ν 0 0 50 = μ 0 0 50 := by rw [ek 0 (by omega) (by decide)]
      have h7 := h.2.2.2.2.2.2.1
      refine c142_1 (μ := μ) (c := μ 0 0 50 - 1) (RV_rj hR) (by rw [ek 100 (by omega) (by decide), h6.2.2.1]; exact g0.1) g0.2 (by rw [e131, ek 107 (by omega) (by decide), jt]; exact g1) ?_ (fun k hk => by
        have := ek k (by omega) (by omega)
        rw [thr_g (by omega), this]) ?_ ?_
      · rw [e130, e131]
        exact RV_sta (RV_t hR) j1.1 (by rw [thr_g (by decide), ek 0 (by omega) (by decide)]; exact j1.2) j2.1 (by rw [thr_g (by decide), ek 0 (by omega) (by decide)]; exact j2.2)
      · rw [e130, e131]
        exact stt_sI rfl (by have := h7.2.2.2.1; have := h7.1; omega) j1.1 j1.2 (RV_doc h) (RV_fl h j2.1 j2.2)
      · intro ν' hr hp
        rw [e130, e131]
        refine r22 ?_ (fun _ => ?_) (q _ _ _ _ _ (RV_1 (RV_rf (RV_t hR) hr)) (by omega) (by omega))
        · rw [hr.2 0 55 (by omega)]
          exact mu_at ..
        · rw [hr.1 200 (by decide) (by omega), thr_g (by decide), e200, ← ho]
          rfl
  · rw [if_neg g0, b170_1, e22 h0 h2 h4, c142_x (RV_rj h) (by rw [h6.2.2.1]; exact g0)]
    exact r22 thr_e (fun z => absurd z (by decide)) (q _ _ _ _ _ (RV_1 (RV_t h)) (by omega) (by omega))
end ZCY
