/-! ===== the commands seal, include ===== -/
section ZCR
variable {ck sk : Nat} {Q : ZO → ZH → Prop} {L t i a b c d e j k l s v w x o f : Int} {y : Int64} {u u' u1 u2 u3 u4 x5 x6 : ZV} {μ ν : ZU}
theorem slp_c (h0 : ν 0 = μ 0) (h1 : ν 10 = μ 10) (h2 : ν 12 = μ 12) (h3 : ν 13 = μ 13) (h4 : ν 14 = μ 14) : slp ν a = slp μ a := by
  funext j
  unfold slp lal ksm
  rw [h0, h1, h2, h3, h4]
theorem RV_se (h : RV L t μ) (hv : 0 ≤ v ∧ v ≤ 2) (a0 : 0 ≤ a) (a1 : a < μ 0 0 10) : RV L t (mu (thr (mu (mu μ 10 a 1 v) 200 0 0 o) 0) 102 0 a v) := by
  obtain ⟨r1, r2, r3, r4, r5⟩ := h.2.1
  generalize hν : mu (thr (mu (mu μ 10 a 1 v) 200 0 0 o) 0) 102 0 a v = ν
  refine RV_la h ?_ (by subst hν; simp (disch := omega) only [thr, mu_g]) (by subst hν; simp (disch := omega) only [thr, mu_g]) (fun j hj => by subst hν; simp (disch := omega) only [thr, mu_g, mu_j]) (fun k hk => by subst hν; simp (disch := omega) only [thr, mu_g])
  have ek : ∀ k, (k = 0 ∨ k = 2 ∨ k = 12 ∨ k = 13 ∨ k = 14 ∨ k = 103 ∨ k = 104 ∨ k = 105) → ν k = μ k := fun k hk => by subst hν; simp (disch := omega) only [thr, mu_g]
  have e100 : ν 100 0 0 = μ 100 0 0 := by subst hν; simp (disch := omega) only [thr, mu_g, mu_j]
  have e10 : ∀ x, (x = a → ν 10 x 1 = v ∧ ν 102 0 x = v) ∧ (x ≠ a → ν 10 x 1 = μ 10 x 1 ∧ ν 102 0 x = μ 102 0 x) := fun x => ⟨fun z => by subst z; exact ⟨by subst hν; simp (disch := omega) only [thr, mu_g, mu_at], by subst hν; simp (disch := omega) only [thr, mu_g, mu_at]⟩, fun z => ⟨by subst hν; simp (disch := omega) only [thr, mu_g, mu_i], by subst hν; simp (disch := omega) only [thr, mu_g, mu_j]⟩⟩
  unfold RLa
  rw [ek 0 (by decide), ek 2 (by decide), ek 12 (by decide), ek 13 (by decide), ek 14 (by decide), ek 103 (by decide), ek 104 (by decide), ek 105 (by decide), e100]
  refine ⟨r1, r2, r3, fun x x0 x1 => ?_, fun x x0 x1 => ?_⟩
  · obtain ⟨p1, p2, p3⟩ := r4 x x0 x1
    by_cases hx : x = a
    · rw [((e10 x).1 hx).1, ((e10 x).1 hx).2]
      exact ⟨rfl, hv, p3⟩
    · rw [((e10 x).2 hx).1, ((e10 x).2 hx).2]
      exact ⟨p1, p2, p3⟩
  · rw [((e10 x).2 (by omega)).2]
    exact r5 x x0 x1
theorem cm4 (h : RV L t μ) (h0 : 0 ≤ i) (h1 : i + 4 < L) (hL : L ≤ 2560) (hck : 13 ≤ ck) (hsk : 406 ≤ sk) (q : KT L t i ck sk Q) : G 174 392 [zR 1 0, zR 2 0, zR 100 0, zR 200 0, zI i, x5, x6] [] (HM μ) ck sk Q := by
  have h2 : i + 4 < μ 0 2 0 := by rw [h.1]; exact h1
  have h4 : i ≤ 100000 := by omega
  obtain ⟨p1, p2, p3, p4, p5⟩ := h.2.1
  rw [k4 h0 h2 (by omega) (by omega) h4, c48 p1.2]
  by_cases g0 : 0 ≤ μ 1 0 (i + 1) ∧ μ 1 0 (i + 1) < μ 0 0 10
  · by_cases g1 : μ 10 (μ 1 0 (i + 1)) 1 = 0
    · rw [if_pos g0, if_pos g1, b152_v, e4 h0 (by simp (disch := decide) only [mu_g]; exact h2) h4]
      simp (disch := decide) only [mu_g (k' := 1)]
      rw [c102 (by simp (disch := decide) only [mu_g]; omega) (by simp (disch := decide) only [mu_g]; omega)]
      simp (disch := decide) only [mu_g (k' := 100), mu_g (k' := 102)]
      rw [p3, (p4 _ g0.1 g0.2).1, if_pos g0, if_pos g1]
      have hR := RV_se (o := (Int64.ofInt (zff (slp (mu μ 10 (μ 1 0 (i + 1)) 1 1) (μ 1 0 (i + 1))) 24 0)).toInt) h (v := 1) (by decide) g0.1 g0.2
      refine r4 (by simp (disch := decide) only [thr, mu_g, mu_at]) (fun _ => ?_) (q _ _ _ _ _ (RV_1 hR) (by omega) (by omega))
      have es := slp_sfp hR.2.1 (a := μ 1 0 (i + 1)) g0.1 (by simp (disch := decide) only [thr, mu_g]; exact g0.2)
      have e0 : mu (thr (mu (mu μ 10 (μ 1 0 (i + 1)) 1 1) 200 0 0 (Int64.ofInt (zff (slp (mu μ 10 (μ 1 0 (i + 1)) 1 1) (μ 1 0 (i + 1))) 24 0)).toInt) 0) 102 0 (μ 1 0 (i + 1)) 1 0 0 10 = μ 0 0 10 := by simp (disch := decide) only [thr, mu_g]
      rw [e0] at es
      have ec := slp_c (a := (μ 1 0 (i + 1))) (ν := mu (thr (mu (mu μ 10 (μ 1 0 (i + 1)) 1 1) 200 0 0 (Int64.ofInt (zff (slp (mu μ 10 (μ 1 0 (i + 1)) 1 1) (μ 1 0 (i + 1))) 24 0)).toInt) 0) 102 0 (μ 1 0 (i + 1)) 1) (μ := (mu μ 10 (μ 1 0 (i + 1)) 1 1)) (by simp (disch := decide) only [thr, mu_g]) (by simp (disch := decide) only [thr, mu_g]) (by simp (disch := decide) only [thr, mu_g]) (by simp (disch := decide) only [thr, mu_g]) (by simp (disch := decide) only [thr, mu_g])
      rw [← es, ec]
      simp (disch := decide) only [thr, mu_g, mu_at]
    · rw [if_pos g0, if_neg g1, b152_2, e4 h0 h2 h4, c102 (by omega) (by omega), p3, (p4 _ g0.1 g0.2).1, if_pos g0, if_neg g1]
      exact r4 thr_e (fun z => absurd z (by decide)) (q _ _ _ _ _ (RV_1 (RV_t h)) (by omega) (by omega))
  · rw [if_neg g0, b152_1, e4 h0 h2 h4, c102 (by omega) (by omega), p3, if_neg g0]
    exact r4 thr_e (fun z => absurd z (by decide)) (q _ _ _ _ _ (RV_1 (RV_t h)) (by omega) (by omega))
theorem zbit (X : BitVec 32) (k : Nat) (hk : k < 32) : (BitVec.sshiftRight X k &&& 1#32 = 1#32) ↔ ¬ X &&& (1#32 <<< k) = 0#32 := by
  have e1 : X &&& (1#32 <<< k) = if X.getLsbD k then 1#32 <<< k else 0#32 := by
    apply BitVec.eq_of_getLsbD_eq
    intro j hj
    by_cases hx : X.getLsbD k
    · rw [if_pos hx]
      simp only [BitVec.getLsbD_and, BitVec.getLsbD_shiftLeft, BitVec.getLsbD_one]
      by_cases hjk : j = k
      · subst hjk
        simp [hx]
      · have : ¬ j - k = 0 ∨ j < k := by omega
        rcases this with z | z <;> simp [z]
    · rw [if_neg hx]
      simp only [BitVec.getLsbD_and, BitVec.getLsbD_shiftLeft, BitVec.getLsbD_one, BitVec.getLsbD_zero]
      by_cases hjk : j = k
      · subst hjk
        simp [hx]
      · have : ¬ j - k = 0 ∨ j < k := by omega
        rcases this with z | z <;> simp [z]
  have e2 : BitVec.sshiftRight X k &&& 1#32 = if X.getLsbD k then 1#32 else 0#32 := by
    apply BitVec.eq_of_getLsbD_eq
    intro j hj
    by_cases hj0 : j = 0
    · subst hj0
      by_cases hx : X.getLsbD k
      · simp [hx, BitVec.getLsbD_sshiftRight, hk]
      · have hx' : X.getLsbD k = false := eq_false_of_ne_true hx
        have e3 : (BitVec.sshiftRight X k).getLsbD 0 = false := by
          rw [BitVec.getLsbD_sshiftRight, Nat.add_zero, hx']
          simp [hk]
        rw [if_neg hx, BitVec.getLsbD_and, e3]
        rfl
    · by_cases hx : X.getLsbD k
      · rw [if_pos hx]
        simp [hj0, BitVec.getLsbD_one]
      · rw [if_neg hx]
        simp [hj0, BitVec.getLsbD_one]
  rw [e1, e2]
  by_cases hx : X.getLsbD k
  · rw [if_pos hx, if_pos hx]
    refine ⟨fun _ hz => ?_, fun _ => rfl⟩
    have := congrArg (fun z => BitVec.getLsbD z k) hz
    simp [BitVec.getLsbD_shiftLeft, hk] at this
  · rw [if_neg hx, if_neg hx]
    exact ⟨fun z => absurd z (by decide), fun z => absurd rfl z⟩
end ZCR
