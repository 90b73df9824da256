/-! ===== the commands on layers that write files ===== -/
def wf (μ : ZU) (a b k s d : Int) : ZU := ruts (thr (mu (mu (mu μ 12 a b k) 13 a b s) 14 a b d) 0) (10 * a + b) k s d
section ZCN
variable {ck sk : Nat} {Q : ZO → ZH → Prop} {L t i a b c d e j k l s v w x y : Int} {u u' u1 u2 u3 u4 x5 x6 : ZV} {μ ν : ZU}
theorem RV_la (h : RV L t μ) (ha : RLa ν) (h0 : ν 0 = μ 0) (h2 : ν 2 = μ 2) (h3 : ∀ j, j < 45 → ν 100 0 j = μ 100 0 j) (hk : ∀ k, (k = 7 ∨ (20 ≤ k ∧ k ≤ 56) ∨ (107 ≤ k ∧ k ≤ 145)) → ν k = μ k) : RV L t ν := by
  obtain ⟨a1, a2, a3, a4, a5, a6, a7, a8⟩ := h
  unfold RV
  rw [h0]
  exact ⟨a1, ha, RLb_c a3 (by rw [h0]) (by rw [h2]) (h3 5 (by decide)) (by rw [h0]) (by rw [h0]) (by rw [h0]; exact Int.le_refl _) fun k h => hk k (by omega), RLc_c a4 (by rw [h0]) (by rw [h2]) (h3 12 (by decide)) fun k h => hk k (by omega), RLd_c a5 (hk 7 (by decide)) (hk 125 (by decide)), RLe_c a6 (by rw [h0]) (by rw [h2]) (h3 25 (by decide)) (by rw [h0]; exact Int.le_refl _) (by rw [h0]; exact Int.le_refl _) (by rw [h0]) fun k h => hk k (by omega), RLf_c a7 (by rw [h0]) (by rw [h2]) (h3 31 (by decide)) (by rw [h0]) (by rw [h0]; exact Int.le_refl _) (by rw [h0]; exact Int.le_refl _) (hk 41 (by decide)) (fun i _ _ => ⟨by rw [hk 22 (by decide)], by rw [hk 23 (by decide)], by rw [hk 24 (by decide)]⟩) (fun k hk' b _ _ => by rw [hk k (by omega)]) fun k h => hk k (by omega), a8⟩
theorem RV_lc (h : RV L t μ) (hc : RLc t ν) (h0 : ν 0 = μ 0) (h2 : ν 2 = μ 2) (h3 : ∀ j, j < 45 → ν 100 0 j = μ 100 0 j) (hk : ∀ k, ((7 ≤ k ∧ k ≤ 26) ∨ (40 ≤ k ∧ k ≤ 56) ∨ (102 ≤ k ∧ k ≤ 112) ∨ (125 ≤ k ∧ k ≤ 145)) → ν k = μ k) : RV L t ν := by
  obtain ⟨a1, a2, a3, a4, a5, a6, a7, a8⟩ := h
  unfold RV
  rw [h0]
  exact ⟨a1, RLa_c a2 (by rw [h0]) (by rw [h2]) (h3 0 (by decide)) fun k h => hk k (by omega), RLb_c a3 (by rw [h0]) (by rw [h2]) (h3 5 (by decide)) (by rw [h0]) (by rw [h0]) (by rw [h0]; exact Int.le_refl _) fun k h => hk k (by omega), hc, RLd_c a5 (hk 7 (by decide)) (hk 125 (by decide)), RLe_c a6 (by rw [h0]) (by rw [h2]) (h3 25 (by decide)) (by rw [h0]; exact Int.le_refl _) (by rw [h0]; exact Int.le_refl _) (by rw [h0]) fun k h => hk k (by omega), RLf_c a7 (by rw [h0]) (by rw [h2]) (h3 31 (by decide)) (by rw [h0]) (by rw [h0]; exact Int.le_refl _) (by rw [h0]; exact Int.le_refl _) (hk 41 (by decide)) (fun i _ _ => ⟨by rw [hk 22 (by decide)], by rw [hk 23 (by decide)], by rw [hk 24 (by decide)]⟩) (fun k hk' b _ _ => by rw [hk k (by omega)]) fun k h => hk k (by omega), a8⟩
theorem RV_ld (h : RV L t μ) (hd : RLd ν) (h0 : ν 0 = μ 0) (h2 : ν 2 = μ 2) (h3 : ∀ j, j < 45 → ν 100 0 j = μ 100 0 j) (hk : ∀ k, ((10 ≤ k ∧ k ≤ 56) ∨ (102 ≤ k ∧ k ≤ 124) ∨ (127 ≤ k ∧ k ≤ 145)) → ν k = μ k) : RV L t ν := by
  obtain ⟨a1, a2, a3, a4, a5, a6, a7, a8⟩ := h
  unfold RV
  rw [h0]
  exact ⟨a1, RLa_c a2 (by rw [h0]) (by rw [h2]) (h3 0 (by decide)) fun k h => hk k (by omega), RLb_c a3 (by rw [h0]) (by rw [h2]) (h3 5 (by decide)) (by rw [h0]) (by rw [h0]) (by rw [h0]; exact Int.le_refl _) fun k h => hk k (by omega), RLc_c a4 (by rw [h0]) (by rw [h2]) (h3 12 (by decide)) fun k h => hk k (by omega), hd, RLe_c a6 (by rw [h0]) (by rw [h2]) (h3 25 (by decide)) (by rw [h0]; exact Int.le_refl _) (by rw [h0]; exact Int.le_refl _) (by rw [h0]) fun k h => hk k (by omega), RLf_c a7 (by rw [h0]) (by rw [h2]) (h3 31 (by decide)) (by rw [h0]) (by rw [h0]; exact Int.le_refl _) (by rw [h0]; exact Int.le_refl _) (hk 41 (by decide)) (fun i _ _ => ⟨by rw [hk 22 (by decide)], by rw [hk 23 (by decide)], by rw [hk 24 (by decide)]⟩) (fun k hk' b _ _ => by rw [hk k (by omega)]) fun k h => hk k (by omega), a8⟩
theorem wf_12 : wf μ a b k s d 12 x y = if x = a ∧ y = b then k else μ 12 x y := by
  by_cases hj : x = a ∧ y = b
  · rw [if_pos hj, hj.1, hj.2]
    simp (disch := decide) only [wf, thr, ruts, mu_g, mu_at]
  · rw [if_neg hj]
    have e : wf μ a b k s d 12 = mu μ 12 a b k 12 := by simp (disch := decide) only [wf, thr, ruts, mu_g] <;> rfl
    rw [e]
    exact if_neg fun z => hj z.2
theorem wf_103 : wf μ a b k s d 103 0 y = if y = 10 * a + b then k else μ 103 0 y := by
  by_cases hj : y = 10 * a + b
  · rw [if_pos hj, hj]
    simp (disch := decide) only [wf, thr, ruts, mu_g, mu_at]
  · rw [if_neg hj]
    simp (disch := first | decide | assumption) only [wf, thr, ruts, mu_g, mu_j]
theorem wf_13 : wf μ a b k s d 13 x y = if x = a ∧ y = b then s else μ 13 x y := by
  by_cases hj : x = a ∧ y = b
  · rw [if_pos hj, hj.1, hj.2]
    simp (disch := decide) only [wf, thr, ruts, mu_g, mu_at]
  · rw [if_neg hj]
    have e : wf μ a b k s d 13 = mu μ 13 a b s 13 := by simp (disch := decide) only [wf, thr, ruts, mu_g] <;> rfl
    rw [e]
    exact if_neg fun z => hj z.2
theorem wf_104 : wf μ a b k s d 104 0 y = if y = 10 * a + b then s else μ 104 0 y := by
  by_cases hj : y = 10 * a + b
  · rw [if_pos hj, hj]
    simp (disch := decide) only [wf, thr, ruts, mu_g, mu_at]
  · rw [if_neg hj]
    simp (disch := first | decide | assumption) only [wf, thr, ruts, mu_g, mu_j]
theorem wf_14 : wf μ a b k s d 14 x y = if x = a ∧ y = b then d else μ 14 x y := by
  by_cases hj : x = a ∧ y = b
  · rw [if_pos hj, hj.1, hj.2]
    simp (disch := decide) only [wf, thr, ruts, mu_g, mu_at]
  · rw [if_neg hj]
    have e : wf μ a b k s d 14 = mu μ 14 a b d 14 := by simp (disch := decide) only [wf, thr, ruts, mu_g] <;> rfl
    rw [e]
    exact if_neg fun z => hj z.2
theorem wf_105 : wf μ a b k s d 105 0 y = if y = 10 * a + b then d else μ 105 0 y := by
  by_cases hj : y = 10 * a + b
  · rw [if_pos hj, hj]
    simp (disch := decide) only [wf, thr, ruts, mu_g, mu_at]
  · rw [if_neg hj]
    simp (disch := first | decide | assumption) only [wf, thr, ruts, mu_g, mu_j]
theorem RV_wf (h : RV L t μ) (a0 : 0 ≤ a) (a1 : a < μ 0 0 10) (b0 : 0 ≤ b) (b1 : b < 10) (hk : 0 ≤ k ∧ k ≤ 2) (hs : 0 ≤ s ∧ s ≤ 20) (hs3 : 5 ≤ b → s ≤ 3) : RV L t (wf μ a b k s d) := by
  obtain ⟨r1, r2, r3, r4, r5⟩ := h.2.1
  refine RV_la h ?_ (by simp (disch := omega) only [wf, thr, ruts, mu_g, mu_j]) (by simp (disch := omega) only [wf, thr, ruts, mu_g, mu_j]) (fun j hj => by simp (disch := omega) only [wf, thr, ruts, mu_g, mu_j]) (fun k hk => by simp (disch := omega) only [wf, thr, ruts, mu_g, mu_j])
  have w0 : wf μ a b k s d 0 = μ 0 := by simp (disch := omega) only [wf, thr, ruts, mu_g, mu_j]
  have w10 : wf μ a b k s d 10 = μ 10 := by simp (disch := omega) only [wf, thr, ruts, mu_g, mu_j]
  have w102 : wf μ a b k s d 102 = μ 102 := by simp (disch := omega) only [wf, thr, ruts, mu_g, mu_j]
  have w2 : wf μ a b k s d 2 = μ 2 := by simp (disch := omega) only [wf, thr, ruts, mu_g, mu_j]
  have w100 : wf μ a b k s d 100 0 0 = μ 100 0 0 := by simp (disch := omega) only [wf, thr, ruts, mu_g, mu_j]
  unfold RLa
  rw [w0, w10, w102, w2, w100]
  refine ⟨r1, r2, r3, fun x x0 x1 => ?_, fun x x0 x1 => ?_⟩
  · obtain ⟨p1, p2, p3⟩ := r4 x x0 x1
    refine ⟨p1, p2, fun f f0 f1 => ?_⟩
    obtain ⟨q1, q2, q3, q4, q5, q6⟩ := p3 f f0 f1
    rw [wf_12, wf_13, wf_14, wf_103, wf_104, wf_105]
    by_cases hj : x = a ∧ f = b
    · have hj2 : 10 * x + f = 10 * a + b := by omega
      rw [if_pos hj, if_pos hj, if_pos hj, if_pos hj2, if_pos hj2, if_pos hj2]
      exact ⟨rfl, rfl, rfl, hk, hs, fun z => hs3 (by omega)⟩
    · have hj2 : ¬ 10 * x + f = 10 * a + b := by omega
      rw [if_neg hj, if_neg hj, if_neg hj, if_neg hj2, if_neg hj2, if_neg hj2]
      exact ⟨q1, q2, q3, q4, q5, q6⟩
  · obtain ⟨p1, p3⟩ := r5 x x0 x1
    refine ⟨p1, fun f f0 f1 => ?_⟩
    have hj2 : ¬ 10 * x + f = 10 * a + b := by omega
    rw [wf_103, wf_104, wf_105, if_neg hj2, if_neg hj2, if_neg hj2]
    exact p3 f f0 f1
theorem wf_e : wf μ a b k s d 100 0 55 = 0 := by
  simp (disch := decide) only [wf, thr, ruts, mu_g, mu_at]
theorem cm1 (h : RV L t μ) (h0 : 0 ≤ i) (h1 : i + 4 < L) (hL : L ≤ 2560) (hck : 13 ≤ ck) (hsk : 406 ≤ sk) (q : KT L t i ck sk Q) : G 174 200 [zR 1 0, zR 2 0, zR 100 0, zR 200 0, zI i, x5, x6] [] (HM μ) ck sk Q := by
  have h2 : i + 4 < μ 0 2 0 := by rw [h.1]; exact h1
  have h4 : i ≤ 100000 := by omega
  obtain ⟨p1, p2, p3, p4, p5⟩ := h.2.1
  rw [k1 h0 h2 (by omega) (by omega) h4, c45 p1.2]
  by_cases g0 : 0 ≤ μ 1 0 (i + 1) ∧ μ 1 0 (i + 1) < μ 0 0 10
  · by_cases g1 : (0 ≤ μ 1 0 (i + 2) ∧ μ 1 0 (i + 2) ≤ 4) ∧ (1 ≤ μ 1 0 (i + 3) ∧ μ 1 0 (i + 3) ≤ 20) ∧ 0 ≤ μ 1 0 (i + 4) ∧ μ 1 0 (i + 4) ≤ 67108863
    · by_cases g2 : μ 10 (μ 1 0 (i + 1)) 1 = 0
      · rw [if_pos g0, if_pos g1, if_pos g2, b149_v, e1 h0 (by simp (disch := decide) only [mu_g]; exact h2) h4]
        simp (disch := decide) only [mu_g (k' := 1)]
        rw [c98 (by simp (disch := decide) only [mu_g]; omega) (by simp (disch := decide) only [mu_g]; omega)]
        simp (disch := decide) only [mu_g (k' := 100), mu_g (k' := 102)]
        rw [p3, (p4 _ g0.1 g0.2).1, if_pos g0, if_pos g1, if_pos g2]
        exact r1 (wf_e (μ := μ)) (q _ _ _ _ _ (RV_1 (RV_wf h g0.1 g0.2 (by omega) (by omega) (by decide) (by omega) (by omega))) (by omega) (by omega))
      · rw [if_pos g0, if_pos g1, if_neg g2, b149_2, e1 h0 h2 h4, c98 (by omega) (by omega), p3]
        rw [(p4 _ g0.1 g0.2).1]
        rw [if_pos g0, if_pos g1, if_neg g2]
        exact r1 thr_e (q _ _ _ _ _ (RV_1 (RV_t h)) (by omega) (by omega))
    · rw [if_pos g0, if_neg g1, b149_0, e1 h0 h2 h4, c98 (by omega) (by omega), p3]
      rw [if_pos g0, if_neg g1]
      exact r1 thr_e (q _ _ _ _ _ (RV_1 (RV_t h)) (by omega) (by omega))
  · rw [if_neg g0, b149_1, e1 h0 h2 h4, c98 (by omega) (by omega), p3]
    rw [if_neg g0]
    exact r1 thr_e (q _ _ _ _ _ (RV_1 (RV_t h)) (by omega) (by omega))
theorem cm2 (h : RV L t μ) (h0 : 0 ≤ i) (h1 : i + 4 < L) (hL : L ≤ 2560) (hck : 13 ≤ ck) (hsk : 406 ≤ sk) (q : KT L t i ck sk Q) : G 174 272 [zR 1 0, zR 2 0, zR 100 0, zR 200 0, zI i, x5, x6] [] (HM μ) ck sk Q := by
  have h2 : i + 4 < μ 0 2 0 := by rw [h.1]; exact h1
  have h4 : i ≤ 100000 := by omega
  obtain ⟨p1, p2, p3, p4, p5⟩ := h.2.1
  rw [k2 h0 h2 (by omega) (by omega) h4, c46 p1.2]
  by_cases g0 : 0 ≤ μ 1 0 (i + 1) ∧ μ 1 0 (i + 1) < μ 0 0 10
  · by_cases g1 : (5 ≤ μ 1 0 (i + 2) ∧ μ 1 0 (i + 2) ≤ 9) ∧ (0 ≤ μ 1 0 (i + 3) ∧ μ 1 0 (i + 3) ≤ 3) ∧ 0 ≤ μ 1 0 (i + 4) ∧ μ 1 0 (i + 4) ≤ 9
    · by_cases g2 : μ 10 (μ 1 0 (i + 1)) 1 = 0
      · rw [if_pos g0, if_pos g1, if_pos g2, b150_v, e2 h0 (by simp (disch := decide) only [mu_g]; exact h2) h4]
        simp (disch := decide) only [mu_g (k' := 1)]
        rw [c99 (by simp (disch := decide) only [mu_g]; omega) (by simp (disch := decide) only [mu_g]; omega)]
        simp (disch := decide) only [mu_g (k' := 100), mu_g (k' := 102)]
        rw [p3, (p4 _ g0.1 g0.2).1, if_pos g0, if_pos g1, if_pos g2]
        exact r2 (wf_e (μ := μ)) (q _ _ _ _ _ (RV_1 (RV_wf h g0.1 g0.2 (by omega) (by omega) (by decide) (by omega) (by omega))) (by omega) (by omega))
      · rw [if_pos g0, if_pos g1, if_neg g2, b150_2, e2 h0 h2 h4, c99 (by omega) (by omega), p3]
        rw [(p4 _ g0.1 g0.2).1]
        rw [if_pos g0, if_pos g1, if_neg g2]
        exact r2 thr_e (q _ _ _ _ _ (RV_1 (RV_t h)) (by omega) (by omega))
    · rw [if_pos g0, if_neg g1, b150_0, e2 h0 h2 h4, c99 (by omega) (by omega), p3]
      rw [if_pos g0, if_neg g1]
      exact r2 thr_e (q _ _ _ _ _ (RV_1 (RV_t h)) (by omega) (by omega))
  · rw [if_neg g0, b150_1, e2 h0 h2 h4, c99 (by omega) (by omega), p3]
    rw [if_neg g0]
    exact r2 thr_e (q _ _ _ _ _ (RV_1 (RV_t h)) (by omega) (by omega))
theorem cm3 (h : RV L t μ) (h0 : 0 ≤ i) (h1 : i + 4 < L) (hL : L ≤ 2560) (hck : 13 ≤ ck) (hsk : 406 ≤ sk) (q : KT L t i ck sk Q) : G 174 344 [zR 1 0, zR 2 0, zR 100 0, zR 200 0, zI i, x5, x6] [] (HM μ) ck sk Q := by
  have h2 : i + 4 < μ 0 2 0 := by rw [h.1]; exact h1
  have h4 : i ≤ 100000 := by omega
  obtain ⟨p1, p2, p3, p4, p5⟩ := h.2.1
  rw [k3 h0 h2 (by omega) (by omega) h4, c47 p1.2]
  by_cases g0 : 0 ≤ μ 1 0 (i + 1) ∧ μ 1 0 (i + 1) < μ 0 0 10
  · by_cases g1 : 0 ≤ μ 1 0 (i + 2) ∧ μ 1 0 (i + 2) ≤ 9
    · by_cases g2 : μ 10 (μ 1 0 (i + 1)) 1 = 0
      · rw [if_pos g0, if_pos g1, if_pos g2, b151_v, e3 h0 (by simp (disch := decide) only [mu_g]; exact h2) h4]
        simp (disch := decide) only [mu_g (k' := 1)]
        rw [c100 (by simp (disch := decide) only [mu_g]; omega) (by simp (disch := decide) only [mu_g]; omega)]
        simp (disch := decide) only [mu_g (k' := 100), mu_g (k' := 102)]
        rw [p3, (p4 _ g0.1 g0.2).1, if_pos g0, if_pos g1, if_pos g2]
        exact r3 (wf_e (μ := μ)) (q _ _ _ _ _ (RV_1 (RV_wf h g0.1 g0.2 g1.1 (by omega) (by decide) (by decide) (by omega))) (by omega) (by omega))
      · rw [if_pos g0, if_pos g1, if_neg g2, b151_2, e3 h0 h2 h4, c100 (by omega) (by omega), p3]
        rw [(p4 _ g0.1 g0.2).1]
        rw [if_pos g0, if_pos g1, if_neg g2]
        exact r3 thr_e (q _ _ _ _ _ (RV_1 (RV_t h)) (by omega) (by omega))
    · rw [if_pos g0, if_neg g1, b151_0, e3 h0 h2 h4, c100 (by omega) (by omega), p3]
      rw [if_pos g0, if_neg g1]
      exact r3 thr_e (q _ _ _ _ _ (RV_1 (RV_t h)) (by omega) (by omega))
  · rw [if_neg g0, b151_1, e3 h0 h2 h4, c100 (by omega) (by omega), p3]
    rw [if_neg g0]
    exact r3 thr_e (q _ _ _ _ _ (RV_1 (RV_t h)) (by omega) (by omega))
end ZCN
