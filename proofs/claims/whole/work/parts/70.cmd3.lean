/-! ===== the commands on quotas and documents ===== -/
section ZCO
variable {ck sk : Nat} {Q : ZO → ZH → Prop} {L t i a b c d e j k l s v w x y o : Int} {u u' u1 u2 u3 u4 x5 x6 : ZV} {μ ν : ZU}
theorem r7_b (h : RV L t μ) : 0 ≤ a → a ≤ 3 → 0 ≤ μ 7 0 a ∧ μ 7 0 a ≤ 1000000 := fun a0 a1 => (h.2.2.2.2.1 a a0 a1).2
theorem RV_qu (h : RV L t μ) (hv : 0 ≤ v ∧ v ≤ 1000000) : RV L t (mu (thr (mu (mu μ 7 0 a v) 200 0 0 o) 0) 125 0 a v) := by
  refine RV_ld h (fun x x0 x1 => ?_) (by simp (disch := omega) only [thr, mu_g, mu_j, mu_i]) (by simp (disch := omega) only [thr, mu_g, mu_j, mu_i]) (fun j hj => by simp (disch := omega) only [thr, mu_g, mu_j, mu_i]) (fun k hk => by simp (disch := omega) only [thr, mu_g, mu_j, mu_i])
  by_cases hx : x = a
  · have e : mu (thr (mu (mu μ 7 0 a v) 200 0 0 o) 0) 125 0 a v 7 0 a = v := by simp (disch := decide) only [thr, mu_g, mu_at]
    rw [hx, mu_at, e]
    exact ⟨rfl, hv⟩
  · have e : mu (thr (mu (mu μ 7 0 a v) 200 0 0 o) 0) 125 0 a v 7 0 x = μ 7 0 x := by simp (disch := first | decide | assumption) only [thr, mu_g, mu_j]
    have e2 : mu (thr (mu (mu μ 7 0 a v) 200 0 0 o) 0) 125 0 a v 125 0 x = μ 125 0 x := by simp (disch := first | decide | assumption) only [thr, mu_g, mu_j]
    rw [e, e2]
    exact h.2.2.2.2.1 x x0 x1
theorem cm16 (h : RV L t μ) (h0 : 0 ≤ i) (h1 : i + 4 < L) (hL : L ≤ 2560) (ht : t ≤ 1000) (hck : 13 ≤ ck) (hsk : 406 ≤ sk) (q : KT L t i ck sk Q) : G 174 1283 [zR 1 0, zR 2 0, zR 100 0, zR 200 0, zI i, x5, x6] [] (HM μ) ck sk Q := by
  have h2 : i + 4 < μ 0 2 0 := by rw [h.1]; exact h1
  have h4 : i ≤ 100000 := by omega
  have hp : ∀ x, 0 ≤ x → x ≤ 3 → 0 ≤ μ 7 0 x ∧ μ 7 0 x ≤ 1000000 := fun x => r7_b h
  have hq : ∀ x, 0 ≤ x → x ≤ 3 → μ 125 0 x = μ 7 0 x := fun x x0 x1 => (h.2.2.2.2.1 x x0 x1).1
  rw [k16 h0 h2 (by omega) (by omega) h4, c60 (hp _)]
  by_cases g0 : (0 ≤ μ 1 0 (i + 1) ∧ μ 1 0 (i + 1) ≤ 3) ∧ 1 ≤ μ 1 0 (i + 2) ∧ μ 1 0 (i + 2) ≤ 10000
  · have e7 := hq _ g0.1.1 g0.1.2
    have b7 := hp _ g0.1.1 g0.1.2
    rw [if_pos g0]
    by_cases g1 : 1000000 < μ 7 0 (μ 1 0 (i + 1)) + μ 1 0 (i + 2)
    · rw [if_pos g1, b164_2, e16 h0 h2 h4, c132 (fun x0 x1 => by rw [hq _ x0 x1]; exact hp _ x0 x1), if_pos g0, e7, if_pos g1]
      exact r16 thr_e (fun z => absurd z (by decide)) (q _ _ _ _ _ (RV_1 (RV_t h)) (by omega) (by omega))
    · rw [if_neg g1, b164_v, e16 h0 (by simp (disch := decide) only [mu_g]; exact h2) h4]
      simp (disch := decide) only [mu_g (k' := 1)]
      rw [c132 (fun x0 x1 => by simp (disch := decide) only [mu_g]; rw [hq _ x0 x1]; exact hp _ x0 x1)]
      simp (disch := decide) only [mu_g (k' := 125)]
      rw [if_pos g0, e7, if_neg g1]
      exact r16 (by simp (disch := decide) only [thr, mu_g, mu_at]) (fun _ => by simp (disch := decide) only [thr, mu_g, mu_at]) (q _ _ _ _ _ (RV_1 (RV_qu h (by omega))) (by omega) (by omega))
  · rw [if_neg g0, b164_0, e16 h0 h2 h4, c132 (fun x0 x1 => by rw [hq _ x0 x1]; exact hp _ x0 x1), if_neg g0]
    exact r16 thr_e (fun z => absurd z (by decide)) (q _ _ _ _ _ (RV_1 (RV_t h)) (by omega) (by omega))
theorem staD_x (h : staD μ d) (hc : ∀ k, 30 ≤ k → k ≤ 35 → ν k d = μ k d) (h1 : ∀ k, (k = 114 ∨ k = 115 ∨ k = 116 ∨ k = 118 ∨ k = 119 ∨ k = 122) → ν k 0 d = μ k 0 d) (h117 : ∀ s, 0 ≤ s → s < 4 → ν 117 0 (4 * d + s) = μ 117 0 (4 * d + s)) (h120 : ∀ p, 0 ≤ p → p < 12 → ν 120 0 (12 * d + p) = μ 120 0 (12 * d + p) ∧ ν 121 0 (12 * d + p) = μ 121 0 (12 * d + p)) (h123 : ∀ w, 0 ≤ w → w < 60 → ν 123 0 (60 * d + w) = μ 123 0 (60 * d + w) ∧ ν 124 0 (60 * d + w) = μ 124 0 (60 * d + w)) : staD ν d := by
  obtain ⟨s1, s2, s3, s8, s9, ⟨s10, s11, s12⟩, s13⟩ := h
  unfold staD
  rw [h1 122 (by decide), h1 119 (by decide), h1 114 (by decide), h1 115 (by decide), h1 118 (by decide), hc 30 (by decide) (by decide)]
  have he : ∀ p, 0 ≤ p → p < 12 → eof ν d p = eof μ d p := fun p p0 p1 => by
    unfold eof
    rw [h1 122 (by decide), h1 119 (by decide)]
    by_cases hp : p + 1 < μ 119 0 d
    · have := (h120 (p + 1) (by omega) (by omega)).2
      rw [show 12 * d + p + 1 = 12 * d + (p + 1) by omega, if_pos hp, if_pos hp, this]
    · rw [if_neg hp, if_neg hp]
  refine ⟨s1, s2, s3, s8, fun w w0 w1 => ?_, ⟨fun p p0 p1 => ?_, fun z => ?_, fun z => ?_⟩, fun s x0 x1 => ?_⟩
  · rw [h1 122 (by decide)] at w1
    rw [hc 34 (by decide) (by decide), hc 35 (by decide) (by decide), (h123 w w0 (by omega)).1, (h123 w w0 (by omega)).2]
    exact s9 w w0 w1
  · rw [h1 119 (by decide)] at p1
    rw [he p p0 (by omega), hc 32 (by decide) (by decide), hc 33 (by decide) (by decide), (h120 p p0 (by omega)).1, (h120 p p0 (by omega)).2, h1 122 (by decide)]
    exact s10 p p0 p1
  · rw [h1 119 (by decide)] at z
    have := (h120 0 (by decide) (by decide)).2
    rw [this]
    exact s11 z
  · rw [h1 119 (by decide)] at z
    rw [h1 122 (by decide)]
    exact s12 z
  · rw [hc 31 (by decide) (by decide), h117 s x0 x1]
    exact s13 s x0 x1
theorem RLc_u (h : RLc t μ) (d0 : 0 ≤ d) (d1 : d < μ 0 0 30) (e1 : ν 0 0 30 = μ 0 0 30) (e2 : ν 2 0 8 = μ 2 0 8) (e3 : ν 100 0 12 = μ 100 0 12) (hc : ∀ d', d' ≠ d → ∀ k, 30 ≤ k → k ≤ 35 → ν k d' = μ k d') (hr : ∀ k, (k = 114 ∨ k = 115 ∨ k = 116 ∨ k = 118 ∨ k = 119 ∨ k = 122) → ∀ j, j ≠ d → ν k 0 j = μ k 0 j) (h117 : ∀ j, ¬ (4 * d ≤ j ∧ j < 4 * d + 4) → ν 117 0 j = μ 117 0 j) (h120 : ∀ j, ¬ (12 * d ≤ j ∧ j < 12 * d + 12) → ν 120 0 j = μ 120 0 j ∧ ν 121 0 j = μ 121 0 j) (h123 : ∀ j, ¬ (60 * d ≤ j ∧ j < 60 * d + 60) → ν 123 0 j = μ 123 0 j ∧ ν 124 0 j = μ 124 0 j)
    (hn : staD ν d ∧ docOK (ν 30 d) (ν 31 d) (ν 32 d) (ν 33 d) ∧ ν 116 0 d = ν 30 d 10 ∧ 0 ≤ ν 30 d 10 ∧ ν 30 d 10 ≤ t) : RLc t ν := by
  obtain ⟨a1, a2, a3, a4, a5⟩ := h
  unfold RLc
  rw [e1, e2, e3]
  refine ⟨a1, a2, a3, fun x x0 x1 => ?_, fun x x0 x1 => ?_⟩
  · by_cases hx : x = d
    · rw [hx]
      exact hn
    · obtain ⟨b1, b2, b3, b4⟩ := a4 x x0 x1
      rw [hc x hx 30 (by decide) (by decide), hc x hx 31 (by decide) (by decide), hc x hx 32 (by decide) (by decide), hc x hx 33 (by decide) (by decide), hr 116 (by decide) x hx]
      exact ⟨staD_x b1 (hc x hx) (fun k hk => hr k hk x hx) (fun s y0 y1 => h117 _ (by omega)) (fun s y0 y1 => h120 _ (by omega)) (fun s y0 y1 => h123 _ (by omega)), b2, b3, b4⟩
  · have hx : x ≠ d := by omega
    rw [hr 116 (by decide) x hx, hr 118 (by decide) x hx, hr 119 (by decide) x hx, hr 122 (by decide) x hx]
    exact a5 x x0 x1
end ZCO
