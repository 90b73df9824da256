/-! ===== the command document ===== -/
section ZCU
variable {ck sk : Nat} {Q : ZO → ZH → Prop} {L t i a b c d e j k l s v w x o f m n : Int} {y : Int64} {u u' u1 u2 u3 u4 x5 x6 : ZV} {μ ν : ZU}
theorem mDc_g {k : Nat} (h0 : k ≠ 0) (h : ¬ (30 ≤ k ∧ k ≤ 35)) : mDc n a b μ k = μ k := by
  funext p j
  show (if k = 0 then _ else if p = n then (if k = 30 then _ else if k = 31 then _ else if 32 ≤ k ∧ k ≤ 35 then 0 else μ k p j) else μ k p j) = _
  rw [if_neg h0]
  by_cases hp : p = n
  · rw [if_pos hp, if_neg (by omega), if_neg (by omega), if_neg (by omega)]
  · rw [if_neg hp]
theorem mDc_i {k : Nat} {p : Int} (h0 : k ≠ 0) (h : p ≠ n) : mDc n a b μ k p = μ k p := by
  funext j
  show (if k = 0 then _ else if p = n then _ else μ k p j) = _
  rw [if_neg h0, if_neg h]
theorem mDc_0 {p j : Int} (h : ¬ (p = 0 ∧ j = 30)) : mDc n a b μ 0 p j = μ 0 p j := by
  show (if (0 : Nat) = 0 then (if p = 0 ∧ j = 30 then n + 1 else μ 0 p j) else 0) = _
  rw [if_pos rfl, if_neg h]
theorem RV_dc (h : RV L t μ) (hn : μ 0 0 30 = n) (h6 : n < 6) (ha : 20 ≤ a ∧ a ≤ 200) (hb : 3 ≤ b ∧ b ≤ 12) (ht : 0 ≤ t) : RV L t (rdoc (thr (mu (mDc n a b (mu μ 2 0 8 (n + 1))) 200 0 0 o) 0) n a b) := by
  obtain ⟨r1, r2, r3, r4, r5, r6, r7, r8⟩ := h
  obtain ⟨c1, c2, c3, c4, c5⟩ := r4
  generalize hν : rdoc (thr (mu (mDc n a b (mu μ 2 0 8 (n + 1))) 200 0 0 o) 0) n a b = ν
  have ek : ∀ k, ((7 ≤ k ∧ k ≤ 26) ∨ (40 ≤ k ∧ k ≤ 56) ∨ (102 ≤ k ∧ k ≤ 112) ∨ k = 116 ∨ (118 ≤ k ∧ k ≤ 145)) → ν k = μ k := fun k hk => by subst hν; simp (disch := omega) only [rdoc, thr, mu_g, mDc_g]
  have e0 : ∀ p j, ¬ (p = 0 ∧ j = 30) → ν 0 p j = μ 0 p j := fun p j hj => by subst hν; simp (disch := first | omega | assumption) only [rdoc, thr, mu_g, mDc_0]
  have e030 : ν 0 0 30 = n + 1 := by subst hν; simp (disch := omega) only [rdoc, thr, mu_g]; rfl
  have e2 : ∀ j, j ≠ 8 → ν 2 0 j = μ 2 0 j := fun j hj => by subst hν; simp (disch := omega) only [rdoc, thr, mu_g, mDc_g, mu_j]
  have e28 : ν 2 0 8 = n + 1 := by subst hν; simp (disch := omega) only [rdoc, thr, mu_g, mDc_g, mu_at]
  have e100 : ∀ j, j ≠ 12 → j < 45 → ν 100 0 j = μ 100 0 j := fun j hj hj2 => by subst hν; simp (disch := omega) only [rdoc, thr, mu_g, mDc_g, mu_j]
  have e112 : ν 100 0 12 = n + 1 := by subst hν; simp (disch := omega) only [rdoc, mu_at]
  have ec : ∀ d, d ≠ n → ∀ k, 30 ≤ k → k ≤ 35 → ν k d = μ k d := fun d hd k k0 k1 => by
    have e : ν k = mDc n a b (mu μ 2 0 8 (n + 1)) k := by subst hν; simp (disch := omega) only [rdoc, thr, mu_g]
    rw [e, mDc_i (by omega) hd, mu_g (by omega)]
  have en : ∀ k j, 30 ≤ k → k ≤ 35 → ν k n j = mDc n a b (mu μ 2 0 8 (n + 1)) k n j := fun k j k0 k1 => by subst hν; simp (disch := omega) only [rdoc, thr, mu_g]
  have n30 : ∀ j, ν 30 n j = if j = 0 then a else if j = 1 then b else 0 := fun j => by
    rw [en 30 j (by decide) (by decide)]
    show (if n = n then _ else _) = _
    rw [if_pos rfl]
    rfl
  have n31 : ∀ j, ν 31 n j = if 0 ≤ j ∧ j < 4 then j else 0 := fun j => by
    rw [en 31 j (by decide) (by decide)]
    show (if n = n then _ else _) = _
    rw [if_pos rfl]
    rfl
  have e114 : ∀ d, (d = n → ν 114 0 d = a ∧ ν 115 0 d = b) ∧ (d ≠ n → ν 114 0 d = μ 114 0 d ∧ ν 115 0 d = μ 115 0 d) := fun d => ⟨fun z => by subst z; exact ⟨by subst hν; simp (disch := omega) only [rdoc, thr, mu_g, mu_at], by subst hν; simp (disch := omega) only [rdoc, thr, mu_g, mu_at]⟩, fun z => ⟨by subst hν; simp (disch := omega) only [rdoc, thr, mu_g, mu_j, mDc_g], by subst hν; simp (disch := omega) only [rdoc, thr, mu_g, mu_j, mDc_g]⟩⟩
  have e117 : ∀ j, ¬ (4 * n ≤ j ∧ j < 4 * n + 4) → ν 117 0 j = μ 117 0 j := fun j hj => by subst hν; simp (disch := omega) only [rdoc, thr, mu_g, mu_j, mDc_g]
  have n117 : ∀ s, 0 ≤ s → s < 4 → ν 117 0 (4 * n + s) = s := fun s s0 s1 => by
    have : s = 0 ∨ s = 1 ∨ s = 2 ∨ s = 3 := by omega
    rcases this with rfl | rfl | rfl | rfl <;> (subst hν; simp (disch := omega) only [rdoc, thr, mu_g, mu_j, mu_at])
  have m10 : ν 30 n 10 = 0 := (n30 10).trans rfl
  have m9 : ν 30 n 9 = 0 := (n30 9).trans rfl
  obtain ⟨f1, f2, f3, f4⟩ := c5 n (by omega) h6
  refine ⟨by rw [e0 _ _ (by omega)]; exact r1, RLa_c r2 (e0 _ _ (by omega)) (e2 _ (by decide)) (e100 _ (by decide) (by decide)) (fun k hk => ek k (by omega)), RLb_c r3 (e0 _ _ (by omega)) (e2 _ (by decide)) (e100 _ (by decide) (by decide)) (e0 _ _ (by omega)) (funext fun j => e0 _ _ (by omega)) (by rw [e0 _ _ (by omega)]; exact Int.le_refl _) (fun k hk => ek k (by omega)), ?_, RLd_c r5 (ek 7 (by decide)) (ek 125 (by decide)), RLe_c r6 (e0 _ _ (by omega)) (e2 _ (by decide)) (e100 _ (by decide) (by decide)) (by rw [e030]; omega) (by rw [e0 _ _ (by omega)]; exact Int.le_refl _) (e0 _ _ (by omega)) (fun k hk => ek k (by omega)), RLf_c r7 (e0 _ _ (by omega)) (e2 _ (by decide)) (e100 _ (by decide) (by decide)) (e0 _ _ (by omega)) (by rw [e030]; omega) (by rw [e0 _ _ (by omega)]; exact Int.le_refl _) (ek 41 (by decide)) (fun i _ _ => ⟨by rw [ek 22 (by decide)], by rw [ek 23 (by decide)], by rw [ek 24 (by decide)]⟩) (fun k hk b _ _ => by rw [ek k (by omega)]) (fun k hk => ek k (by omega)), by rw [e0 _ _ (by omega), e0 _ _ (by omega)]; exact r8⟩
  unfold RLc
  rw [e030, e28, e112, ek 116 (by decide), ek 118 (by decide), ek 119 (by decide), ek 122 (by decide)]
  refine ⟨by omega, rfl, rfl, fun d d0 d1 => ?_, fun d d0 d1 => c5 d (by omega) d1⟩
  by_cases hd : d = n
  · rw [hd]
    refine ⟨?_, ?_, by rw [f1, m10], by rw [m10]; exact Int.le_refl _, by rw [m10]; exact ht⟩
    · unfold staD stW stP stS
      rw [ek 122 (by decide), ek 119 (by decide), ek 118 (by decide), f2, f3, f4, ((e114 n).1 rfl).1, ((e114 n).1 rfl).2, n30, n30, n30, n30, n30]
      refine ⟨by omega, by omega, ⟨rfl, rfl, rfl, rfl, rfl⟩, ⟨ha, hb⟩, fun w w0 w1 => by omega, ⟨fun p p0 p1 => by omega, fun z => by omega, fun _ => rfl⟩, fun s s0 s1 => ?_⟩
      rw [n31, n117 s s0 s1, if_pos ⟨s0, s1⟩]
      exact ⟨rfl, s0, by omega⟩
    · unfold docOK
      rw [m9]
      exact ⟨by decide, by decide, fun w w0 w1 => by omega⟩
  · obtain ⟨b1, b2, b3, b4⟩ := c4 d d0 (by omega)
    rw [ec d hd 30 (by decide) (by decide), ec d hd 31 (by decide) (by decide), ec d hd 32 (by decide) (by decide), ec d hd 33 (by decide) (by decide)]
    refine ⟨staD_x b1 (ec d hd) (fun k hk => ?_) (fun s s0 s1 => e117 _ (by omega)) (fun p p0 p1 => ⟨by rw [ek 120 (by decide)], by rw [ek 121 (by decide)]⟩) (fun w w0 w1 => ⟨by rw [ek 123 (by decide)], by rw [ek 124 (by decide)]⟩), b2, b3, b4⟩
    rcases hk with rfl | rfl | rfl | rfl | rfl | rfl
    · exact ((e114 d).2 hd).1
    · exact ((e114 d).2 hd).2
    · rw [ek 116 (by decide)]
    · rw [ek 118 (by decide)]
    · rw [ek 119 (by decide)]
    · rw [ek 122 (by decide)]
theorem cm9 (h : RV L t μ) (h0 : 0 ≤ i) (h1 : i + 4 < L) (hL : L ≤ 2560) (ht : 0 ≤ t) (hck : 13 ≤ ck) (hsk : 406 ≤ sk) (q : KT L t i ck sk Q) : G 174 740 [zR 1 0, zR 2 0, zR 100 0, zR 200 0, zI i, x5, x6] [] (HM μ) ck sk Q := by
  have h2 : i + 4 < μ 0 2 0 := by rw [h.1]; exact h1
  have h4 : i ≤ 100000 := by omega
  obtain ⟨a1, a2, a3, a4, a5⟩ := h.2.2.2.1
  rw [k9 h0 h2 (by omega) (by omega) h4]
  by_cases g0 : (20 ≤ μ 1 0 (i + 1) ∧ μ 1 0 (i + 1) ≤ 200) ∧ 3 ≤ μ 1 0 (i + 2) ∧ μ 1 0 (i + 2) ≤ 12
  · by_cases g1 : μ 2 0 8 < 6
    · refine c53 g0.1 g0.2 a2 rfl a1.1 (by omega) ?_
      rw [b157_v]
      have e1 : mu (mDc (μ 0 0 30) (μ 1 0 (i + 1)) (μ 1 0 (i + 2)) (mu μ 2 0 8 (μ 0 0 30 + 1))) 200 0 0 (Int64.ofInt (μ 0 0 30)).toInt 1 = μ 1 := by simp (disch := omega) only [mu_g, mDc_g]
      have e0 : mu (mDc (μ 0 0 30) (μ 1 0 (i + 1)) (μ 1 0 (i + 2)) (mu μ 2 0 8 (μ 0 0 30 + 1))) 200 0 0 (Int64.ofInt (μ 0 0 30)).toInt 0 2 0 = μ 0 2 0 := by
        rw [mu_g (by decide), mDc_0 (by omega), mu_g (by decide)]
      have e3 : mu (mDc (μ 0 0 30) (μ 1 0 (i + 1)) (μ 1 0 (i + 2)) (mu μ 2 0 8 (μ 0 0 30 + 1))) 200 0 0 (Int64.ofInt (μ 0 0 30)).toInt 100 0 12 = μ 0 0 30 := by simp (disch := omega) only [mu_g, mDc_g]; exact a3
      rw [e9 h0 (by rw [e0]; exact h2) h4, e1, c114 (by rw [e3]; exact a1.1) (by rw [e3]; exact a1.2), e3, if_pos g0, if_neg (by omega)]
      have hR := RV_dc (o := (Int64.ofInt (μ 0 0 30)).toInt) h rfl (by omega) g0.1 g0.2 ht
      exact r9 (by simp (disch := omega) only [rdoc, thr, mu_g, mu_at, mu_j]) (fun _ => by simp (disch := omega) only [rdoc, thr, mu_g, mu_at]) (q _ _ _ _ _ (RV_1 hR) (by omega) (by omega))
    · rw [c53_y g0.1 g0.2 g1, b157_2, e9 h0 h2 h4, c114 (by omega) (by omega), a3, if_pos g0, if_pos (by omega)]
      exact r9 thr_e (fun z => absurd z (by decide)) (q _ _ _ _ _ (RV_1 (RV_t h)) (by omega) (by omega))
  · rw [c53_x g0, b157_0, e9 h0 h2 h4, c114 (by omega) (by omega), if_neg g0]
    exact r9 thr_e (fun z => absurd z (by decide)) (q _ _ _ _ _ (RV_1 (RV_t h)) (by omega) (by omega))
end ZCU
