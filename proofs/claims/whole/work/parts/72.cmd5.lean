/-! ===== the commands style, paragraph, word, reference ===== -/
section ZCQ
variable {ck sk : Nat} {Q : ZO → ZH → Prop} {L t i a b c d e j k l s v w x o f : Int} {y : Int64} {u u' u1 u2 u3 u4 x5 x6 : ZV} {μ ν : ZU}
theorem rdOK_c (h : rdOK μ t) (h1 : ν 100 0 12 = μ 100 0 12) (h2 : ν 119 = μ 119) (h3 : ν 122 = μ 122) (h4 : ν 116 = μ 116) : rdOK ν t := by
  unfold rdOK at *
  rw [h1, h2, h3, h4]
  exact h
theorem kln_26 : kall y 26 8 ↔ 1 ≤ kln y 25 := by
  have e := kln_all (y := y) (a := 26) (b := 8)
  have e2 : (26 : Int) - 1 = 25 := rfl
  rw [e2] at e
  rw [e]
  have := klen_in (x := y)
  unfold kln
  split
  · exact ⟨fun z => z.1, fun z => ⟨z, by omega⟩⟩
  · exact ⟨fun z => z.1, fun z => ⟨z, by omega⟩⟩
theorem cm10 (h : RV L t μ) (h0 : 0 ≤ i) (h1 : i + 4 < L) (hL : L ≤ 2560) (ht : t ≤ 1000) (hck : 13 ≤ ck) (hsk : 406 ≤ sk) (q : KT L t i ck sk Q) : G 174 808 [zR 1 0, zR 2 0, zR 100 0, zR 200 0, zI i, x5, x6] [] (HM μ) ck sk Q := by
  have h2 : i + 4 < μ 0 2 0 := by rw [h.1]; exact h1
  have h4 : i ≤ 100000 := by omega
  obtain ⟨a1, a2, a3, a4, a5⟩ := h.2.2.2.1
  have hv : ∀ d, 0 ≤ d → d < μ 0 0 30 → (0 ≤ μ 30 d 8 ∧ μ 30 d 8 ≤ 12) ∧ (0 ≤ μ 30 d 9 ∧ μ 30 d 9 ≤ 60) ∧ 0 ≤ μ 30 d 10 ∧ μ 30 d 10 ≤ 100000 := fun d d0 d1 => by
    obtain ⟨⟨s1, s2, s3, -⟩, b2, b3, b4, b5⟩ := a4 d d0 d1
    omega
  have hr : ∀ d, 0 ≤ d → d < μ 0 0 30 → μ 116 0 d = μ 30 d 10 ∧ μ 119 0 d = μ 30 d 8 ∧ μ 122 0 d = μ 30 d 9 := fun d d0 d1 => by
    obtain ⟨⟨s1, s2, s3, -⟩, b2, b3, b4, b5⟩ := a4 d d0 d1
    omega
  have hD := RV_rd h
  rw [k10 h0 h2 (by omega) (by omega) h4, c54 (x := 0) a1.2 (fun x0 x1 => (hv _ x0 x1).2.2)]
  by_cases g0 : 0 ≤ μ 1 0 (i + 1) ∧ μ 1 0 (i + 1) < μ 0 0 30
  · by_cases g1 : (0 ≤ μ 1 0 (i + 2) ∧ μ 1 0 (i + 2) ≤ 3) ∧ 0 ≤ μ 1 0 (i + 3) ∧ μ 1 0 (i + 3) ≤ 4
    · have hr0 := hr _ g0.1 g0.2
      rw [if_pos g0, if_pos g1, b158_v, e10 h0 (by simp (disch := decide) only [mu_g]; exact h2) h4]
      simp (disch := decide) only [mu_g (k' := 1)]
      rw [c115 (by simp (disch := decide) only [mu_g]; omega) (by simp (disch := decide) only [mu_g]; omega) (fun x0 x1 => by simp (disch := decide) only [mu_g] at x1 ⊢; rw [a3] at x1; rw [(hr _ x0 x1).1]; exact (hv _ x0 x1).2.2)]
      simp (disch := decide) only [mu_g]
      rw [a3, if_pos g0, if_pos g1]
      have hs := (a4 _ g0.1 g0.2).1.2.2.2.2.2.2 _ g1.1.1 (by omega)
      exact r10 (by simp (disch := decide) only [thr, mu_g, mu_at]) (fun _ => by simp (disch := decide) only [thr, mu_g, mu_at]; rw [hs.1]) (q _ _ _ _ _ (RV_sty h g0.1 g0.2 g1.1 g1.2) (by omega) (by omega))
    · have hr0 := hr _ g0.1 g0.2
      rw [if_pos g0, if_neg g1, b158_0, e10 h0 h2 h4, c115 (by omega) (by omega) (fun x0 x1 => by rw [a3] at x1; rw [(hr _ x0 x1).1]; exact (hv _ x0 x1).2.2), a3, if_pos g0, if_neg g1]
      exact r10 thr_e (fun z => absurd z (by decide)) (q _ _ _ _ _ (RV_1 (RV_t h)) (by omega) (by omega))
  · rw [if_neg g0, b158_1, e10 h0 h2 h4, c115 (by omega) (by omega) (fun x0 x1 => by rw [a3] at x1; rw [(hr _ x0 x1).1]; exact (hv _ x0 x1).2.2), a3, if_neg g0]
    exact r10 thr_e (fun z => absurd z (by decide)) (q _ _ _ _ _ (RV_1 (RV_t h)) (by omega) (by omega))
theorem cm12 (h : RV L t μ) (h0 : 0 ≤ i) (h1 : i + 4 < L) (hL : L ≤ 2560) (ht : t ≤ 1000) (hck : 13 ≤ ck) (hsk : 406 ≤ sk) (q : KT L t i ck sk Q) : G 174 991 [zR 1 0, zR 2 0, zR 100 0, zR 200 0, zI i, x5, x6] [] (HM μ) ck sk Q := by
  have h2 : i + 4 < μ 0 2 0 := by rw [h.1]; exact h1
  have h4 : i ≤ 100000 := by omega
  obtain ⟨a1, a2, a3, a4, a5⟩ := h.2.2.2.1
  have hv : ∀ d, 0 ≤ d → d < μ 0 0 30 → (0 ≤ μ 30 d 8 ∧ μ 30 d 8 ≤ 12) ∧ (0 ≤ μ 30 d 9 ∧ μ 30 d 9 ≤ 60) ∧ 0 ≤ μ 30 d 10 ∧ μ 30 d 10 ≤ 100000 := fun d d0 d1 => by
    obtain ⟨⟨s1, s2, s3, -⟩, b2, b3, b4, b5⟩ := a4 d d0 d1
    omega
  have hr : ∀ d, 0 ≤ d → d < μ 0 0 30 → μ 116 0 d = μ 30 d 10 ∧ μ 119 0 d = μ 30 d 8 ∧ μ 122 0 d = μ 30 d 9 := fun d d0 d1 => by
    obtain ⟨⟨s1, s2, s3, -⟩, b2, b3, b4, b5⟩ := a4 d d0 d1
    omega
  have hD := RV_rd h
  rw [k12 h0 h2 (by omega) (by omega) h4, c56 a1.2 (fun x0 x1 => ⟨(hv _ x0 x1).1, (hv _ x0 x1).2.2⟩)]
  by_cases g0 : 0 ≤ μ 1 0 (i + 1) ∧ μ 1 0 (i + 1) < μ 0 0 30
  · by_cases g1 : 0 ≤ μ 1 0 (i + 2) ∧ μ 1 0 (i + 2) ≤ 3
    · by_cases g2 : 12 ≤ μ 30 (μ 1 0 (i + 1)) 8
      · have hr0 := hr _ g0.1 g0.2
        rw [if_pos g0, if_pos g1, if_pos g2, b160_2, e12 h0 h2 h4, c117 hD (by omega), a3, if_pos g0, if_pos g1, if_pos (by have := hv _ g0.1 g0.2; omega)]
        exact r12 thr_e (fun z => absurd z (by decide)) (q _ _ _ _ _ (RV_1 (RV_t h)) (by omega) (by omega))
      · have hr0 := hr _ g0.1 g0.2
        rw [if_pos g0, if_pos g1, if_neg g2, b160_v, e12 h0 (by simp (disch := decide) only [mu_g]; exact h2) h4]
        simp (disch := decide) only [mu_g (k' := 1)]
        rw [c117 (rdOK_c hD (by simp (disch := decide) only [mu_g]) (by simp (disch := decide) only [mu_g]) (by simp (disch := decide) only [mu_g]) (by simp (disch := decide) only [mu_g])) (by omega)]
        simp (disch := decide) only [mu_g]
        rw [a3, if_pos g0, if_pos g1, if_neg (by have := hv _ g0.1 g0.2; omega)]
        exact r12 (by simp (disch := decide) only [rpa, thr, mu_g, mu_at]) (fun _ => by simp (disch := decide) only [rpa, thr, mu_g, mu_at]; rw [hr0.2.1]) (q _ _ _ _ _ (RV_par h g0.1 g0.2 g1 (by omega)) (by omega) (by omega))
    · have hr0 := hr _ g0.1 g0.2
      rw [if_pos g0, if_neg g1, b160_0, e12 h0 h2 h4, c117 hD (by omega), a3, if_pos g0, if_neg g1]
      exact r12 thr_e (fun z => absurd z (by decide)) (q _ _ _ _ _ (RV_1 (RV_t h)) (by omega) (by omega))
  · rw [if_neg g0, b160_1, e12 h0 h2 h4, c117 hD (by omega), a3, if_neg g0]
    exact r12 thr_e (fun z => absurd z (by decide)) (q _ _ _ _ _ (RV_1 (RV_t h)) (by omega) (by omega))
theorem cm13 (h : RV L t μ) (h0 : 0 ≤ i) (h1 : i + 4 < L) (hL : L ≤ 2560) (ht : t ≤ 1000) (hck : 13 ≤ ck) (hsk : 406 ≤ sk) (q : KT L t i ck sk Q) : G 174 1059 [zR 1 0, zR 2 0, zR 100 0, zR 200 0, zI i, x5, x6] [] (HM μ) ck sk Q := by
  have h2 : i + 4 < μ 0 2 0 := by rw [h.1]; exact h1
  have h4 : i ≤ 100000 := by omega
  obtain ⟨a1, a2, a3, a4, a5⟩ := h.2.2.2.1
  have hv : ∀ d, 0 ≤ d → d < μ 0 0 30 → (0 ≤ μ 30 d 8 ∧ μ 30 d 8 ≤ 12) ∧ (0 ≤ μ 30 d 9 ∧ μ 30 d 9 ≤ 60) ∧ 0 ≤ μ 30 d 10 ∧ μ 30 d 10 ≤ 100000 := fun d d0 d1 => by
    obtain ⟨⟨s1, s2, s3, -⟩, b2, b3, b4, b5⟩ := a4 d d0 d1
    omega
  have hr : ∀ d, 0 ≤ d → d < μ 0 0 30 → μ 116 0 d = μ 30 d 10 ∧ μ 119 0 d = μ 30 d 8 ∧ μ 122 0 d = μ 30 d 9 := fun d d0 d1 => by
    obtain ⟨⟨s1, s2, s3, -⟩, b2, b3, b4, b5⟩ := a4 d d0 d1
    omega
  have hD := RV_rd h
  rw [k13 h0 h2 (by omega) (by omega) h4, c57 a1.2 (fun x0 x1 => hv _ x0 x1)]
  by_cases g0 : 0 ≤ μ 1 0 (i + 1) ∧ μ 1 0 (i + 1) < μ 0 0 30
  · by_cases g1 : kall (zlshl (Int64.ofInt (μ 1 0 (i + 2))) 32 ||| Int64.ofInt (μ 1 0 (i + 3)) &&& Int64.ofNat 4294967295) 26 8
    · by_cases g2 : μ 30 (μ 1 0 (i + 1)) 8 = 0 ∨ 60 ≤ μ 30 (μ 1 0 (i + 1)) 9
      · have hr0 := hr _ g0.1 g0.2
        rw [if_pos g0, if_pos g1, if_pos g2, b161_2, e13 h0 h2 h4, c119 hD (by omega), a3, if_pos g0, if_pos (kln_26.mp g1), if_pos (by have := hv _ g0.1 g0.2; omega)]
        exact r13 thr_e (fun z => absurd z (by decide)) (q _ _ _ _ _ (RV_1 (RV_t h)) (by omega) (by omega))
      · have hr0 := hr _ g0.1 g0.2
        rw [if_pos g0, if_pos g1, if_neg g2, b161_v, e13 h0 (by simp (disch := decide) only [mu_g, mad]; exact h2) h4]
        simp (disch := decide) only [mu_g (k' := 1), mad]
        rw [c119 (rdOK_c hD (by simp (disch := decide) only [mu_g, mad]) (by simp (disch := decide) only [mu_g, mad]) (by simp (disch := decide) only [mu_g, mad]) (by simp (disch := decide) only [mu_g, mad])) (by omega)]
        simp (disch := decide) only [mu_g, mad]
        rw [a3, if_pos g0, if_pos (kln_26.mp g1), if_neg (by have := hv _ g0.1 g0.2; omega)]
        exact r13 (by simp (disch := decide) only [rad, thr, mu_g, mu_at]) (fun _ => by simp (disch := decide) only [rad, thr, mu_g, mu_at]; rw [hr0.2.2]) (q _ _ _ _ _ (RV_ad h g0.1 g0.2 (by omega) (by omega) (by omega)) (by omega) (by omega))
    · have hr0 := hr _ g0.1 g0.2
      rw [if_pos g0, if_neg g1, b161_0, e13 h0 h2 h4, c119 hD (by omega), a3, if_pos g0, if_neg (fun z => g1 (kln_26.mpr z))]
      exact r13 thr_e (fun z => absurd z (by decide)) (q _ _ _ _ _ (RV_1 (RV_t h)) (by omega) (by omega))
  · rw [if_neg g0, b161_1, e13 h0 h2 h4, c119 hD (by omega), a3, if_neg g0]
    exact r13 thr_e (fun z => absurd z (by decide)) (q _ _ _ _ _ (RV_1 (RV_t h)) (by omega) (by omega))
theorem cm14 (h : RV L t μ) (h0 : 0 ≤ i) (h1 : i + 4 < L) (hL : L ≤ 2560) (ht : t ≤ 1000) (hck : 13 ≤ ck) (hsk : 406 ≤ sk) (q : KT L t i ck sk Q) : G 174 1159 [zR 1 0, zR 2 0, zR 100 0, zR 200 0, zI i, x5, x6] [] (HM μ) ck sk Q := by
  have h2 : i + 4 < μ 0 2 0 := by rw [h.1]; exact h1
  have h4 : i ≤ 100000 := by omega
  obtain ⟨a1, a2, a3, a4, a5⟩ := h.2.2.2.1
  have hv : ∀ d, 0 ≤ d → d < μ 0 0 30 → (0 ≤ μ 30 d 8 ∧ μ 30 d 8 ≤ 12) ∧ (0 ≤ μ 30 d 9 ∧ μ 30 d 9 ≤ 60) ∧ 0 ≤ μ 30 d 10 ∧ μ 30 d 10 ≤ 100000 := fun d d0 d1 => by
    obtain ⟨⟨s1, s2, s3, -⟩, b2, b3, b4, b5⟩ := a4 d d0 d1
    omega
  have hr : ∀ d, 0 ≤ d → d < μ 0 0 30 → μ 116 0 d = μ 30 d 10 ∧ μ 119 0 d = μ 30 d 8 ∧ μ 122 0 d = μ 30 d 9 := fun d d0 d1 => by
    obtain ⟨⟨s1, s2, s3, -⟩, b2, b3, b4, b5⟩ := a4 d d0 d1
    omega
  have hD := RV_rd h
  rw [k14 h0 h2 (by omega) (by omega) h4, c58 a1.2 (fun x0 x1 => hv _ x0 x1)]
  by_cases g0 : (0 ≤ μ 1 0 (i + 1) ∧ μ 1 0 (i + 1) < μ 0 0 30) ∧ 0 ≤ μ 1 0 (i + 2) ∧ μ 1 0 (i + 2) < μ 30 (μ 1 0 (i + 1)) 8
  · by_cases g1 : 60 ≤ μ 30 (μ 1 0 (i + 1)) 9
    · have hr0 := hr _ g0.1.1 g0.1.2
      rw [if_pos g0, if_pos g1, b162_2, e14 h0 h2 h4, c120 hD (by omega), a3, if_pos (by rw [hr0.2.1]; exact g0), if_pos (by have := hv _ g0.1.1 g0.1.2; omega)]
      exact r14 thr_e (fun z => absurd z (by decide)) (q _ _ _ _ _ (RV_1 (RV_t h)) (by omega) (by omega))
    · have hr0 := hr _ g0.1.1 g0.1.2
      rw [if_pos g0, if_neg g1, b162_v, e14 h0 (by simp (disch := decide) only [mu_g, mad]; exact h2) h4]
      simp (disch := decide) only [mu_g (k' := 1), mad]
      rw [c120 (rdOK_c hD (by simp (disch := decide) only [mu_g, mad]) (by simp (disch := decide) only [mu_g, mad]) (by simp (disch := decide) only [mu_g, mad]) (by simp (disch := decide) only [mu_g, mad])) (by omega)]
      simp (disch := decide) only [mu_g, mad]
      rw [a3, if_pos (by rw [hr0.2.1]; exact g0), if_neg (by have := hv _ g0.1.1 g0.1.2; omega)]
      have hh := hv _ g0.1.1 g0.1.2
      exact r14 (by simp (disch := decide) only [rad, thr, mu_g, mu_at]) (fun _ => by simp (disch := decide) only [rad, thr, mu_g, mu_at]; rw [hr0.2.2]) (q _ _ _ _ _ (RV_ad h g0.1.1 g0.1.2 (by omega) (by omega) (by omega)) (by omega) (by omega))
  · rw [if_neg g0, b162_1, e14 h0 h2 h4, c120 hD (by omega), a3, if_neg (fun z => g0 ⟨z.1, z.2.1, by have := hr _ z.1.1 z.1.2; omega⟩)]
    exact r14 thr_e (fun z => absurd z (by decide)) (q _ _ _ _ _ (RV_1 (RV_t h)) (by omega) (by omega))
end ZCQ
