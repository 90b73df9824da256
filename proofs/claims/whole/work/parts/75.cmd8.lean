/-! ===== the command write ===== -/
section ZCT
variable {ck sk : Nat} {Q : ZO → ZH → Prop} {L t i a b c d e j k l s v w x o f m : Int} {y : Int64} {u u' u1 u2 u3 u4 x5 x6 : ZV} {μ ν : ZU}
theorem rjOK_c (h : rjOK μ) (h1 : ν 100 0 25 = μ 100 0 25) (h2 : ν 100 0 31 = μ 100 0 31) (hk : ∀ k, (k = 129 ∨ k = 130 ∨ k = 131 ∨ k = 139 ∨ k = 140 ∨ k = 143) → ν k = μ k) : rjOK ν := by
  unfold rjOK at *
  rw [h1, h2, hk 129 (by decide), hk 130 (by decide), hk 131 (by decide), hk 139 (by decide), hk 140 (by decide), hk 143 (by decide)]
  exact h
theorem cm18 (h : RV L t μ) (h0 : 0 ≤ i) (h1 : i + 4 < L) (hL : L ≤ 2560) (hck : 13 ≤ ck) (hsk : 406 ≤ sk) (q : KT L t i ck sk Q) : G 174 1431 [zR 1 0, zR 2 0, zR 100 0, zR 200 0, zI i, x5, x6] [] (HM μ) ck sk Q := by
  have h2 : i + 4 < μ 0 2 0 := by rw [h.1]; exact h1
  have h4 : i ≤ 100000 := by omega
  obtain ⟨p1, p2, p3, p4, p5⟩ := h.2.1
  have h6 := h.2.2.2.2.2.1
  have h7 := h.2.2.2.2.2.2.1
  have hb : ∀ b, 0 ≤ b → b < μ 0 0 41 → μ 41 b 0 = b := fun b b0 b1 => (h7.2.2.2.2 b b0 b1).1
  rw [k18 h0 h2 (by omega) (by omega) h4, c62 (RV_job h) (RV_bld h) p1.2 (fun b b0 b1 => by rw [hb b b0 b1]; exact b0)]
  by_cases g0 : (0 ≤ μ 1 0 (i + 1) ∧ μ 1 0 (i + 1) < μ 0 0 40) ∧ 0 ≤ μ 1 0 (i + 2) ∧ μ 1 0 (i + 2) < μ 0 0 10
  · obtain ⟨j1, j2, j3, j4, j5, j6, j7, j8, -⟩ := h6.2.2.2.1 _ g0.1.1 g0.1.2
    have q4 := (p4 _ g0.2.1 g0.2.2).1
    by_cases g1 : 5 ≤ μ 1 0 (i + 3) ∧ μ 1 0 (i + 3) ≤ 9
    · by_cases g2 : μ 40 (μ 1 0 (i + 1)) 4 < 0 ∨ ¬ μ 10 (μ 1 0 (i + 2)) 1 = 0
      · rw [if_pos g0, if_pos g1, if_pos g2, b166_2, e18 h0 h2 h4, c138 (RV_rj h) (by omega) (by omega), h6.2.2.1, p3, if_pos g0, if_pos g1, j8, q4, if_pos (by omega)]
        exact r18 thr_e (q _ _ _ _ _ (RV_1 (RV_t h)) (by omega) (by omega))
      · have g3 : ¬ (μ 40 (μ 1 0 (i + 1)) 4 = -1 ∨ ¬ μ 10 (μ 1 0 (i + 2)) 1 = 0) := by omega
        obtain ⟨c1, c2, c3, c4, c5, c6, c7⟩ := h7.2.2.2.2 (μ 40 (μ 1 0 (i + 1)) 4) (by omega) (by omega)
        obtain ⟨d1, d2, d3, ⟨d4, d5, d6, -⟩, -⟩ := c7
        rw [if_pos g0, if_pos g1, if_neg g2, b166_v, e18 h0 (by simp (disch := decide) only [mu_g]; exact h2) h4]
        simp (disch := decide) only [mu_g (k' := 1)]
        rw [c138 (rjOK_c (RV_rj h) (by simp (disch := decide) only [mu_g]) (by simp (disch := decide) only [mu_g]) (fun k hk => by simp (disch := omega) only [mu_g])) (by simp (disch := decide) only [mu_g]; omega) (by simp (disch := decide) only [mu_g]; omega)]
        simp (disch := decide) only [mu_g (k' := 100), mu_g (k' := 102), mu_g (k' := 129), mu_g (k' := 140)]
        rw [h6.2.2.1, p3, if_pos g0, if_pos g1, j8, q4, if_neg g3, d6, c1]
        have em : (if 3 < μ 50 (μ 40 (μ 1 0 (i + 1)) 4) 2 then 3 else μ 50 (μ 40 (μ 1 0 (i + 1)) 4) 2) = min (μ 50 (μ 40 (μ 1 0 (i + 1)) 4) 2) 3 := by
          split <;> omega
        rw [em]
        exact r18 (wf_e (μ := μ)) (q _ _ _ _ _ (RV_1 (RV_wf h g0.2.1 g0.2.2 (by omega) (by omega) (by decide) (by omega) (by omega))) (by omega) (by omega))
    · rw [if_pos g0, if_neg g1, b166_0, e18 h0 h2 h4, c138 (RV_rj h) (by omega) (by omega), h6.2.2.1, p3, if_pos g0, if_neg g1]
      exact r18 thr_e (q _ _ _ _ _ (RV_1 (RV_t h)) (by omega) (by omega))
  · rw [if_neg g0, b166_1, e18 h0 h2 h4, c138 (RV_rj h) (by omega) (by omega), h6.2.2.1, p3, if_neg g0]
    exact r18 thr_e (q _ _ _ _ _ (RV_1 (RV_t h)) (by omega) (by omega))
end ZCT
