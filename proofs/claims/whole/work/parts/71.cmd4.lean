/-! ===== the commands on documents: style, paragraph, word, reference ===== -/
section ZCP
variable {ck sk : Nat} {Q : ZO → ZH → Prop} {L t i a b c d e j k l s v w x y o f : Int} {u u' u1 u2 u3 u4 x5 x6 : ZV} {μ ν : ZU}
theorem RV_sty (h : RV L t μ) (d0 : 0 ≤ d) (d1 : d < μ 0 0 30) (ha : 0 ≤ a ∧ a ≤ 3) (hb : 0 ≤ b ∧ b ≤ 4) : RV L (t + 1) (mu (mu (thr (mu (mu (mu μ 31 d a b) 30 d 10 (μ 30 d 10 + 1)) 200 0 0 o) 0) 117 0 (4 * d + a) b) 116 0 d (μ 116 0 d + 1)) := by
  have hd := h.2.2.2.1.2.2.2.1 d d0 d1
  obtain ⟨⟨s1, s2, ⟨s3, s4, s5, s6, s7⟩, s8, s9, ⟨s10, s11, s12⟩, s13⟩, ⟨b2, b2', b2''⟩, b3, b4, b5⟩ := hd
  generalize hν : mu (mu (thr (mu (mu (mu μ 31 d a b) 30 d 10 (μ 30 d 10 + 1)) 200 0 0 o) 0) 117 0 (4 * d + a) b) 116 0 d (μ 116 0 d + 1) = ν
  refine RV_lc (RV_1 h) (RLc_u (d := d) (RLc_s h.2.2.2.1 (by omega)) d0 d1 (by subst hν; simp (disch := omega) only [thr, mu_g, mu_i, mu_j, mu_at]) (by subst hν; simp (disch := omega) only [thr, mu_g, mu_i, mu_j, mu_at]) (by subst hν; simp (disch := omega) only [thr, mu_g, mu_i, mu_j, mu_at]) (fun x hx k k0 k1 => funext fun j => by subst hν; simp (disch := omega) only [thr, mu_g, mu_i, mu_j, mu_at]) (fun k hk j hj => by
    rcases hk with rfl | rfl | rfl | rfl | rfl | rfl <;> (subst hν; simp (disch := omega) only [thr, mu_g, mu_i, mu_j])) (fun j hj => by subst hν; simp (disch := omega) only [thr, mu_g, mu_i, mu_j, mu_at]) (fun j hj => ⟨by subst hν; simp (disch := omega) only [thr, mu_g, mu_i, mu_j, mu_at], by subst hν; simp (disch := omega) only [thr, mu_g, mu_i, mu_j, mu_at]⟩) (fun j hj => ⟨by subst hν; simp (disch := omega) only [thr, mu_g, mu_i, mu_j, mu_at], by subst hν; simp (disch := omega) only [thr, mu_g, mu_i, mu_j, mu_at]⟩) ?_) (by subst hν; simp (disch := omega) only [thr, mu_g, mu_i, mu_j, mu_at]) (by subst hν; simp (disch := omega) only [thr, mu_g, mu_i, mu_j, mu_at]) (fun j hj => by subst hν; simp (disch := omega) only [thr, mu_g, mu_i, mu_j, mu_at]) (fun k hk => by subst hν; simp (disch := omega) only [thr, mu_g, mu_i, mu_j, mu_at])
  have e30 : ∀ j, j ≠ 10 → ν 30 d j = μ 30 d j := fun j hj => by subst hν; simp (disch := omega) only [thr, mu_g, mu_i, mu_j, mu_at]
  have e10 : ν 30 d 10 = μ 30 d 10 + 1 := by subst hν; simp (disch := omega) only [thr, mu_g, mu_i, mu_j, mu_at]
  have e116 : ν 116 0 d = μ 116 0 d + 1 := by subst hν; simp (disch := omega) only [thr, mu_g, mu_i, mu_j, mu_at]
  have ek : ∀ k, (k = 32 ∨ k = 33 ∨ k = 34 ∨ k = 35 ∨ k = 114 ∨ k = 115 ∨ k = 118 ∨ k = 119 ∨ k = 120 ∨ k = 121 ∨ k = 122 ∨ k = 123 ∨ k = 124) → ν k = μ k := fun k hk => by subst hν; simp (disch := omega) only [thr, mu_g, mu_i, mu_j, mu_at]
  have e31 : ∀ x, (x = a → ν 31 d x = b) ∧ (x ≠ a → ν 31 d x = μ 31 d x) := fun x => ⟨fun z => by subst z; subst hν; simp (disch := omega) only [thr, mu_g, mu_i, mu_j, mu_at], fun z => by subst hν; simp (disch := omega) only [thr, mu_g, mu_i, mu_j, mu_at]⟩
  have e117 : ∀ x, (x = a → ν 117 0 (4 * d + x) = b) ∧ (x ≠ a → ν 117 0 (4 * d + x) = μ 117 0 (4 * d + x)) := fun x => ⟨fun z => by subst z; subst hν; simp (disch := omega) only [thr, mu_g, mu_i, mu_j, mu_at], fun z => by subst hν; simp (disch := omega) only [thr, mu_g, mu_i, mu_j, mu_at]⟩
  have f31 : ∀ x, 0 ≤ μ 31 d x ∧ μ 31 d x < 5 → 0 ≤ ν 31 d x ∧ ν 31 d x < 5 := fun x hx => by
    by_cases z : x = a
    · rw [(e31 x).1 z]
      omega
    · rw [(e31 x).2 z]
      exact hx
  refine ⟨?_, ?_, by rw [e10, e116, b3], by rw [e10]; omega, by rw [e10]; omega⟩
  · unfold staD stW stP eof
    rw [ek 122 (by decide), ek 119 (by decide), ek 114 (by decide), ek 115 (by decide), ek 118 (by decide), ek 34 (by decide), ek 35 (by decide), ek 123 (by decide), ek 124 (by decide), ek 120 (by decide), ek 121 (by decide), ek 32 (by decide), ek 33 (by decide), e30 9 (by decide), e30 0 (by decide), e30 1 (by decide), e30 7 (by decide), e30 8 (by decide)]
    refine ⟨s1, s2, ⟨s3, s4, s5, s6, s7⟩, s8, s9, ⟨s10, s11, s12⟩, fun s y0 y1 => ?_⟩
    obtain ⟨z1, z2, z3⟩ := s13 s y0 y1
    by_cases z : s = a
    · rw [(e31 s).1 z, (e117 s).1 z]
      omega
    · rw [(e31 s).2 z, (e117 s).2 z]
      exact ⟨z1, z2, z3⟩
  · unfold docOK
    rw [ek 32 (by decide), ek 33 (by decide), e30 9 (by decide)]
    refine ⟨b2, b2', fun w w0 w1 => ?_⟩
    obtain ⟨z1, z2, z3⟩ := b2'' w w0 w1
    exact ⟨z1, z2, f31 _ z3⟩
end ZCP
