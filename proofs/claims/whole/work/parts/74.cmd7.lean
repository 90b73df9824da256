/-! ===== the command include ===== -/
section ZCS
variable {ck sk : Nat} {Q : ZO → ZH → Prop} {L t i a b c d e j k l s v w x o f m : Int} {y : Int64} {u u' u1 u2 u3 u4 x5 x6 : ZV} {μ ν : ZU}
theorem zinc (h : 5 ≤ f ∧ f ≤ 9) : zand (zshr x f) 1 = 1 ↔ ¬ zand x (zshl 1 f) = 0 := by
  have hf : f = 5 ∨ f = 6 ∨ f = 7 ∨ f = 8 ∨ f = 9 := by omega
  unfold zand zshr zshl
  rw [Int32.ofInt_toInt, Int32.ofInt_toInt]
  generalize Int32.ofInt x = X
  have i1 : ∀ A : Int32, A.toInt = 1 ↔ A.toBitVec = 1#32 := fun A => ⟨fun z => by
    have e : A = 1 := Int32.toInt_inj.mp z
    rw [e]
    rfl, fun z => by
    have e : A = 1 := Int32.toBitVec_inj.mp z
    rw [e]
    rfl⟩
  have i0 : ∀ A : Int32, A.toInt = 0 ↔ A.toBitVec = 0#32 := fun A => ⟨fun z => by
    have e : A = 0 := Int32.toInt_inj.mp z
    rw [e]
    rfl, fun z => by
    have e : A = 0 := Int32.toBitVec_inj.mp z
    rw [e]
    rfl⟩
  rw [i1, i0]
  rcases hf with rfl | rfl | rfl | rfl | rfl
  · exact zbit X.toBitVec 5 (by decide)
  · exact zbit X.toBitVec 6 (by decide)
  · exact zbit X.toBitVec 7 (by decide)
  · exact zbit X.toBitVec 8 (by decide)
  · exact zbit X.toBitVec 9 (by decide)
theorem RV_inc (h : RV L t μ) (d0 : 0 ≤ d) (d1 : d < μ 0 0 30)  : RV L (t + 1) (mu (mu (thr (mu (mu (mu μ 30 d 7 m) 30 d 10 (μ 30 d 10 + 1)) 200 0 0 o) 0) 118 0 d m) 116 0 d (μ 116 0 d + 1)) := by
  have hd := h.2.2.2.1.2.2.2.1 d d0 d1
  obtain ⟨⟨s1, s2, ⟨s3, s4, s5, s6, s7⟩, s8, s9, ⟨s10, s11, s12⟩, s13⟩, ⟨b2, b2', b2''⟩, b3, b4, b5⟩ := hd
  generalize hν : mu (mu (thr (mu (mu (mu μ 30 d 7 m) 30 d 10 (μ 30 d 10 + 1)) 200 0 0 o) 0) 118 0 d m) 116 0 d (μ 116 0 d + 1) = ν
  refine RV_lc (RV_1 h) (RLc_u (d := d) (RLc_s h.2.2.2.1 (by omega)) d0 d1 (by subst hν; simp (disch := omega) only [thr, mu_g, mu_i, mu_j, mu_at]) (by subst hν; simp (disch := omega) only [thr, mu_g, mu_i, mu_j, mu_at]) (by subst hν; simp (disch := omega) only [thr, mu_g, mu_i, mu_j, mu_at]) (fun x hx k k0 k1 => funext fun j => by subst hν; simp (disch := omega) only [thr, mu_g, mu_i, mu_j, mu_at]) (fun k hk j hj => by
    rcases hk with rfl | rfl | rfl | rfl | rfl | rfl <;> (subst hν; simp (disch := omega) only [thr, mu_g, mu_i, mu_j])) (fun j hj => by subst hν; simp (disch := omega) only [thr, mu_g, mu_i, mu_j, mu_at]) (fun j hj => ⟨by subst hν; simp (disch := omega) only [thr, mu_g, mu_i, mu_j, mu_at], by subst hν; simp (disch := omega) only [thr, mu_g, mu_i, mu_j, mu_at]⟩) (fun j hj => ⟨by subst hν; simp (disch := omega) only [thr, mu_g, mu_i, mu_j, mu_at], by subst hν; simp (disch := omega) only [thr, mu_g, mu_i, mu_j, mu_at]⟩) ?_) (by subst hν; simp (disch := omega) only [thr, mu_g, mu_i, mu_j, mu_at]) (by subst hν; simp (disch := omega) only [thr, mu_g, mu_i, mu_j, mu_at]) (fun j hj => by subst hν; simp (disch := omega) only [thr, mu_g, mu_i, mu_j, mu_at]) (fun k hk => by subst hν; simp (disch := omega) only [thr, mu_g, mu_i, mu_j, mu_at])
  have e30 : ∀ j, j ≠ 10 → j ≠ 7 → ν 30 d j = μ 30 d j := fun j hj hj2 => by subst hν; simp (disch := omega) only [thr, mu_g, mu_i, mu_j, mu_at]
  have e10 : ν 30 d 10 = μ 30 d 10 + 1 := by subst hν; simp (disch := omega) only [thr, mu_g, mu_i, mu_j, mu_at]
  have e7 : ν 30 d 7 = m := by subst hν; simp (disch := omega) only [thr, mu_g, mu_i, mu_j, mu_at]
  have e118 : ν 118 0 d = m := by subst hν; simp (disch := omega) only [thr, mu_g, mu_i, mu_j, mu_at]
  have e116 : ν 116 0 d = μ 116 0 d + 1 := by subst hν; simp (disch := omega) only [thr, mu_g, mu_i, mu_j, mu_at]
  have ek : ∀ k, (k = 31 ∨ k = 32 ∨ k = 33 ∨ k = 34 ∨ k = 35 ∨ k = 114 ∨ k = 115 ∨ k = 117 ∨ k = 119 ∨ k = 120 ∨ k = 121 ∨ k = 122 ∨ k = 123 ∨ k = 124) → ν k = μ k := fun k hk => by subst hν; simp (disch := omega) only [thr, mu_g, mu_i, mu_j, mu_at]
  refine ⟨?_, ?_, by rw [e10, e116, b3], by rw [e10]; omega, by rw [e10]; omega⟩
  · unfold staD stW stP stS eof
    rw [ek 122 (by decide), ek 119 (by decide), ek 114 (by decide), ek 115 (by decide), ek 34 (by decide), ek 35 (by decide), ek 123 (by decide), ek 124 (by decide), ek 120 (by decide), ek 121 (by decide), ek 32 (by decide), ek 33 (by decide), ek 31 (by decide), ek 117 (by decide), e30 9 (by decide) (by decide), e30 0 (by decide) (by decide), e30 1 (by decide) (by decide), e7, e118, e30 8 (by decide) (by decide)]
    exact ⟨s1, s2, ⟨s3, s4, s5, rfl, s7⟩, s8, s9, ⟨s10, s11, s12⟩, s13⟩
  · unfold docOK
    rw [ek 31 (by decide), ek 32 (by decide), ek 33 (by decide), e30 9 (by decide) (by decide)]
    exact ⟨b2, b2', b2''⟩
theorem cm11 (h : RV L t μ) (h0 : 0 ≤ i) (h1 : i + 4 < L) (hL : L ≤ 2560) (ht : t ≤ 1000) (hck : 13 ≤ ck) (hsk : 406 ≤ sk) (q : KT L t i ck sk Q) : G 174 888 [zR 1 0, zR 2 0, zR 100 0, zR 200 0, zI i, x5, x6] [] (HM μ) ck sk Q := by
  have h2 : i + 4 < μ 0 2 0 := by rw [h.1]; exact h1
  have h4 : i ≤ 100000 := by omega
  obtain ⟨a1, a2, a3, a4, a5⟩ := h.2.2.2.1
  have hv : ∀ d, 0 ≤ d → d < μ 0 0 30 → 0 ≤ μ 30 d 10 ∧ μ 30 d 10 ≤ 100000 := fun d d0 d1 => by
    obtain ⟨-, b2, b3, b4, b5⟩ := a4 d d0 d1
    omega
  have hD := RV_rd h
  obtain ⟨c, hc⟩ : ∃ c : Int, c = if μ 1 0 (i + 3) = 0 then 0 else 1 := ⟨_, rfl⟩
  have hc1 : c = 0 ∨ c = 1 := by
    rw [hc]
    split
    · exact Or.inl rfl
    · exact Or.inr rfl
  rw [k11 h0 h2 hc (by omega) (by omega) h4, c55 a1.2 hc1 (fun x0 x1 => hv _ x0 x1)]
  by_cases g0 : 0 ≤ μ 1 0 (i + 1) ∧ μ 1 0 (i + 1) < μ 0 0 30
  · by_cases g1 : 5 ≤ μ 1 0 (i + 2) ∧ μ 1 0 (i + 2) ≤ 9
    · have hs := (a4 _ g0.1 g0.2).1.2.2.1.2.2.2.1
      have hz : ∀ p : Prop, [Decidable p] → (if p then (1 : Int) else 0) = 0 ∨ (if p then (1 : Int) else 0) = 1 := fun p _ => by
        split
        · exact Or.inr rfl
        · exact Or.inl rfl
      rw [if_pos g0, if_pos g1, b159_v (hz _), e11 (c := c) h0 (by simp (disch := decide) only [mu_g]; exact h2) (by simp (disch := decide) only [mu_g]; exact hc) h4]
      simp (disch := decide) only [mu_g (k' := 1)]
      rw [c116 (rdOK_c hD (by simp (disch := decide) only [mu_g]) (by simp (disch := decide) only [mu_g]) (by simp (disch := decide) only [mu_g]) (by simp (disch := decide) only [mu_g])) (by omega) hc1]
      simp (disch := decide) only [mu_g]
      rw [a3, if_pos g0, if_pos g1]
      have e : (if zand (zshr (μ 118 0 (μ 1 0 (i + 1))) (μ 1 0 (i + 2))) 1 = 1 then (1 : Int) else 0) = if ¬ zand (μ 30 (μ 1 0 (i + 1)) 7) (zshl 1 (μ 1 0 (i + 2))) = 0 then 1 else 0 := by
        have hi := zinc (x := μ 118 0 (μ 1 0 (i + 1))) g1
        rw [hs]
        by_cases hb : zand (μ 118 0 (μ 1 0 (i + 1))) (zshl 1 (μ 1 0 (i + 2))) = 0
        · rw [if_neg (fun z => hi.mp z hb), if_neg (fun z => z hb)]
        · rw [if_pos (hi.mpr hb), if_pos hb]
      rw [e, ← hs]
      exact r11 (by simp (disch := decide) only [thr, mu_g, mu_at]) (fun _ => by simp (disch := decide) only [thr, mu_g, mu_at]) (hz _) (q _ _ _ _ _ (RV_inc h g0.1 g0.2) (by omega) (by omega))
    · rw [if_pos g0, if_neg g1, b159_0, e11 h0 h2 hc h4, c116 hD (by omega) hc1, a3, if_pos g0, if_neg g1]
      exact r11 thr_e (fun z => absurd z (by decide)) (Or.inl rfl) (q _ _ _ _ _ (RV_1 (RV_t h)) (by omega) (by omega))
  · rw [if_neg g0, b159_1, e11 h0 h2 hc h4, c116 hD (by omega) hc1, a3, if_neg g0]
    exact r11 thr_e (fun z => absurd z (by decide)) (Or.inl rfl) (q _ _ _ _ _ (RV_1 (RV_t h)) (by omega) (by omega))
end ZCS
