/-! ===== the command layer ===== -/
section ZCV
variable {ck sk : Nat} {Q : ZO → ZH → Prop} {L t i a b c d e j k l s v w x o f m n : Int} {y : Int64} {u u' u1 u2 u3 u4 x5 x6 : ZV} {μ ν : ZU}
theorem mLy_g {k : Nat} (h0 : k ≠ 0) (h : ¬ (10 ≤ k ∧ k ≤ 14)) : mLy n μ k = μ k := by
  unfold mLy
  rw [mu_g h0, mzs_g]
  simp only [List.mem_cons, List.not_mem_nil, or_false]
  omega
theorem mLy_0 {p j : Int} (h : ¬ (p = 0 ∧ j = 10)) : mLy n μ 0 p j = μ 0 p j := by
  unfold mLy
  have e : mzs [10, 11, 12, 13, 14] n μ 0 = μ 0 := mzs_g (by decide)
  rw [← e]
  exact if_neg fun z => h z.2
theorem mLy_n {k : Nat} {p j : Int} (h0 : k = 10 ∨ k = 12 ∨ k = 13 ∨ k = 14) : (p = n → mLy n μ k p j = 0) ∧ (p ≠ n → mLy n μ k p j = μ k p j) := by
  unfold mLy
  have hk : k ∈ [10, 11, 12, 13, 14] := by
    simp only [List.mem_cons, List.not_mem_nil, or_false]
    omega
  rw [mu_g (by omega)]
  exact ⟨fun z => if_pos ⟨hk, z⟩, fun z => if_neg fun q => z q.2⟩
theorem RV_ly (h : RV L t μ) (hn : μ 0 0 10 = n) (h6 : n < 24) : RV L t (mu (thr (mu (mLy n (mu μ 2 0 6 (n + 1))) 200 0 0 o) 0) 100 0 0 (n + 1)) := by
  obtain ⟨r1, r2, r3, r4, r5, r6, r7, r8⟩ := h
  obtain ⟨c1, c2, c3, c4, c5⟩ := r2
  generalize hν : mu (thr (mu (mLy n (mu μ 2 0 6 (n + 1))) 200 0 0 o) 0) 100 0 0 (n + 1) = ν
  have ek : ∀ k, (k = 7 ∨ (20 ≤ k ∧ k ≤ 56) ∨ (102 ≤ k ∧ k ≤ 145)) → ν k = μ k := fun k hk => by subst hν; simp (disch := omega) only [thr, mu_g, mLy_g]
  have e0 : ∀ p j, ¬ (p = 0 ∧ j = 10) → ν 0 p j = μ 0 p j := fun p j hj => by subst hν; simp (disch := first | omega | assumption) only [thr, mu_g, mLy_0]
  have e010 : ν 0 0 10 = n + 1 := by subst hν; simp (disch := omega) only [thr, mu_g]; exact mu_at ..
  have e2 : ∀ j, j ≠ 6 → ν 2 0 j = μ 2 0 j := fun j hj => by subst hν; simp (disch := omega) only [thr, mu_g, mLy_g, mu_j]
  have e26 : ν 2 0 6 = n + 1 := by subst hν; simp (disch := omega) only [thr, mu_g, mLy_g, mu_at]
  have e100 : ∀ j, j ≠ 0 → j < 45 → ν 100 0 j = μ 100 0 j := fun j hj hj2 => by subst hν; simp (disch := omega) only [thr, mu_g, mLy_g, mu_j]
  have e110 : ν 100 0 0 = n + 1 := by subst hν; exact mu_at ..
  have en : ∀ k, (k = 10 ∨ k = 12 ∨ k = 13 ∨ k = 14) → ∀ p j, (p = n → ν k p j = 0) ∧ (p ≠ n → ν k p j = μ k p j) := fun k hk p j => by
    have e : ν k = mLy n (mu μ 2 0 6 (n + 1)) k := by subst hν; simp (disch := omega) only [thr, mu_g]
    have e3 : mu μ 2 0 6 (n + 1) k = μ k := mu_g (by omega)
    rw [e, ← e3]
    exact mLy_n hk
  refine ⟨by rw [e0 _ _ (by omega)]; exact r1, ?_, RLb_c r3 (e0 _ _ (by omega)) (e2 _ (by decide)) (e100 _ (by decide) (by decide)) (e0 _ _ (by omega)) (funext fun j => e0 _ _ (by omega)) (by rw [e010]; omega) (fun k hk => ek k (by omega)), RLc_c r4 (e0 _ _ (by omega)) (e2 _ (by decide)) (e100 _ (by decide) (by decide)) (fun k hk => ek k (by omega)), RLd_c r5 (ek 7 (by decide)) (ek 125 (by decide)), RLe_c r6 (e0 _ _ (by omega)) (e2 _ (by decide)) (e100 _ (by decide) (by decide)) (by rw [e0 _ _ (by omega)]; exact Int.le_refl _) (by rw [e0 _ _ (by omega)]; exact Int.le_refl _) (e0 _ _ (by omega)) (fun k hk => ek k (by omega)), RLf_c r7 (e0 _ _ (by omega)) (e2 _ (by decide)) (e100 _ (by decide) (by decide)) (e0 _ _ (by omega)) (by rw [e0 _ _ (by omega)]; exact Int.le_refl _) (by rw [e0 _ _ (by omega)]; exact Int.le_refl _) (ek 41 (by decide)) (fun i _ _ => ⟨by rw [ek 22 (by decide)], by rw [ek 23 (by decide)], by rw [ek 24 (by decide)]⟩) (fun k hk b _ _ => by rw [ek k (by omega)]) (fun k hk => ek k (by omega)), by rw [e0 _ _ (by omega), e0 _ _ (by omega)]; exact r8⟩
  unfold RLa
  rw [e010, e26, e110, ek 102 (by decide), ek 103 (by decide), ek 104 (by decide), ek 105 (by decide)]
  refine ⟨by omega, rfl, rfl, fun p p0 p1 => ?_, fun p p0 p1 => c5 p (by omega) p1⟩
  by_cases hp : p = n
  · obtain ⟨f1, f2⟩ := c5 p (by omega) (by omega)
    rw [(en 10 (by decide) p 1).1 hp]
    refine ⟨f1, by omega, fun f f0 f1 => ?_⟩
    rw [(en 12 (by decide) p f).1 hp, (en 13 (by decide) p f).1 hp, (en 14 (by decide) p f).1 hp]
    obtain ⟨g1, g2, g3⟩ := f2 f f0 f1
    exact ⟨g1, g2, g3, by omega, by omega, fun _ => by omega⟩
  · obtain ⟨g1, g2, g3⟩ := c4 p p0 (by omega)
    rw [(en 10 (by decide) p 1).2 hp]
    refine ⟨g1, g2, fun f f0 f1 => ?_⟩
    rw [(en 12 (by decide) p f).2 hp, (en 13 (by decide) p f).2 hp, (en 14 (by decide) p f).2 hp]
    exact g3 f f0 f1
theorem cm0 (h : RV L t μ) (h0 : 0 ≤ i) (h1 : i + 4 < L) (hL : L ≤ 2560) (hck : 13 ≤ ck) (hsk : 406 ≤ sk) (q : KT L t i ck sk Q) : G 174 156 [zR 1 0, zR 2 0, zR 100 0, zR 200 0, zI i, x5, x6] [] (HM μ) ck sk Q := by
  have h2 : i + 4 < μ 0 2 0 := by rw [h.1]; exact h1
  have h4 : i ≤ 100000 := by omega
  obtain ⟨a1, a2, a3, a4, a5⟩ := h.2.1
  rw [k0 h0 h2 (by omega) (by omega) h4]
  by_cases g1 : μ 2 0 6 < 24
  · refine c44 a2 rfl a1.1 (by omega) ?_
    rw [b148_v]
    have ex : mu (mLy (μ 0 0 10) (mu μ 2 0 6 (μ 0 0 10 + 1))) 200 0 0 (Int64.ofInt (μ 0 0 10)).toInt 0 2 0 = μ 0 2 0 := by
      rw [mu_g (by decide), mLy_0 (by omega), mu_g (by decide)]
    have e3 : mu (mLy (μ 0 0 10) (mu μ 2 0 6 (μ 0 0 10 + 1))) 200 0 0 (Int64.ofInt (μ 0 0 10)).toInt 100 0 0 = μ 0 0 10 := by simp (disch := omega) only [mu_g, mLy_g]; exact a3
    rw [e0 h0 (by rw [ex]; exact h2) h4, c96 (by rw [e3]; exact a1.1) (by rw [e3]; exact a1.2), e3, if_neg (by omega)]
    have hR := RV_ly (o := (Int64.ofInt (μ 0 0 10)).toInt) h rfl (by omega)
    exact r0 (by simp (disch := omega) only [thr, mu_g, mu_at, mu_j]) (fun _ => by simp (disch := omega) only [thr, mu_g, mu_at]) (q _ _ _ _ _ (RV_1 hR) (by omega) (by omega))
  · rw [c44_x g1, b148_2, e0 h0 h2 h4, c96 (by omega) (by omega), a3, if_pos (by omega)]
    exact r0 thr_e (fun z => absurd z (by decide)) (q _ _ _ _ _ (RV_1 (RV_t h)) (by omega) (by omega))
end ZCV
