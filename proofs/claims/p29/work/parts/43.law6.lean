/-! ===== the law: setting whole ===== -/
section ZQF
variable {h : ZH} {μ ν : ZU} {ck sk : Nat} {Q : ZO → ZH → Prop} {a b c d e f g i j l n p r s t v w x y z L H lb pe : Int} {k : Nat} {u u' u'' u1 u2 u3 u4 u5 u6 u7 u8 : ZV}
theorem lnA_7 (h4 : j ≠ 4) : lnA μ L v r 107 0 j = μ 107 0 j := by
  unfold lnA
  rw [mu_g (by decide), mu_g (by decide), mu_j h4]
theorem lnB_7 (h0 : j ≠ 0) (h4 : j ≠ 4) : lnB μ L t x v r 107 0 j = μ 107 0 j := by
  unfold lnB
  rw [mu_j h0, mu_g (by decide), mu_g (by decide), mu_j h4]
theorem lk1_7 (h0 : j ≠ 0) (h4 : j ≠ 4) : lk1 a x μ 107 0 j = μ 107 0 j := by
  unfold lk1
  split
  · exact lnA_7 h4
  · exact lnB_7 h0 h4
theorem lnN_7 (h0 : j ≠ 0) (h4 : j ≠ 4) : ∀ (n : Nat) (x : Int) (μ : ZU), lnN a n x μ 107 0 j = μ 107 0 j
  | 0, _, _ => rfl
  | n + 1, x, μ => by
    unfold lnN
    rw [lnN_7 h0 h4 n, lk1_7 h0 h4]
theorem lnS_7 (h0 : j ≠ 0) (h4 : j ≠ 4) : lnS a μ 107 0 j = μ 107 0 j := by
  unfold lnS
  rw [lnN_7 h0 h4, mu_j h0]
theorem ptC_g {q : Nat} (h0 : q ≠ 0) (h7 : q ≠ 107) (h9 : q ≠ 109) (h1 : q ≠ 113) (h2 : q ≠ 114) : ptC s μ q = μ q := by
  unfold ptC
  rw [nqN_g h7 h9, mu_g h7, mu_g h7, ptB_g h0 h1 h2]
theorem ptS_g {q : Nat} (h0 : q ≠ 0) (h7 : q ≠ 107) (h9 : q ≠ 109) (h1 : q ≠ 113) (h2 : q ≠ 114) : ptS s μ q = μ q := by
  unfold ptS
  rw [mu_g h7, ptC_g h0 h7 h9 h1 h2]
theorem ptS_0 : ptS s μ 0 = mPt (μ 0 0 113) μ 0 := by
  unfold ptS ptC
  rw [mu_g (by decide), nqN_g (by decide) (by decide), mu_g (by decide), mu_g (by decide), ptB_0]
theorem ptS_7 (h1 : j ≠ 1) (h3 : j ≠ 3) : ptS s μ 107 0 j = μ 107 0 j := by
  unfold ptS ptC
  rw [mu_j h3, nqN_7 h1, mu_j h3, mu_j h1, ptB_g (by decide) (by decide) (by decide)]
theorem nqN_E : ∀ (m : Nat) (k nx : Int) (μ : ZU), 0 ≤ k → k + m ≤ 40 → 0 ≤ μ 107 0 1 ∧ μ 107 0 1 ≤ k → (∀ q, 0 ≤ q → q < 41 → 0 ≤ μ 109 0 q ∧ μ 109 0 q ≤ 50000) → (k = 0 → nx = 0) → (0 < k → 1 ≤ μ 107 0 1) →
    ∀ q, 0 ≤ q → q < 41 → 0 ≤ nqN n m k nx μ 109 0 q ∧ nqN n m k nx μ 109 0 q ≤ 50000
  | 0, k, nx, μ, h0, hi, hf, hx, hz, hz2 => hx
  | m + 1, k, nx, μ, h0, hi, hf, hx, hz, hz2 => by
    have hxk := hx k h0 (by omega)
    unfold nqN
    by_cases q1 : k = nx
    · rw [if_pos q1]
      exact nqN_E m (k + 1) _ _ (by omega) (by omega) (by rw [mu_g (by decide), mu_at]; omega) (fun p h1 h2 => by
          by_cases hp : p = k
          · rw [hp, mu_at]
            omega
          · rw [mu_j hp, mu_g (by decide)]
            exact hx p h1 h2) (fun z => by omega) (fun _ => by rw [mu_g (by decide), mu_at]; omega)
    · have hk0 : 0 < k := by
        by_cases z : k = 0
        · exact absurd (z.trans (hz z).symm) q1
        · omega
      have := hz2 hk0
      rw [if_neg q1]
      exact nqN_E m (k + 1) _ _ (by omega) (by omega) (by rw [mu_g (by decide)]; omega) (fun p h1 h2 => by
          by_cases hp : p = k
          · rw [hp, mu_at]
            omega
          · rw [mu_j hp]
            exact hx p h1 h2) (fun z => by omega) (fun _ => by rw [mu_g (by decide)]; omega)
theorem ptS_E (hP : lnP μ) (hE : lnE μ) : lnP (ptS s μ) ∧ lnE (ptS s μ) := by
  have hL := hP.2
  have b7 : ptB s μ 107 = μ 107 := ptB_g (by decide) (by decide) (by decide)
  have b9 : ptB s μ 109 = μ 109 := ptB_g (by decide) (by decide) (by decide)
  have h9 : ∀ q, 0 ≤ q → q < 41 → 0 ≤ ptS s μ 109 0 q ∧ ptS s μ 109 0 q ≤ 50000 := by
    have e9 : ptS s μ 109 = ptC s μ 109 := by unfold ptS; rw [mu_g (by decide)]
    rw [e9]
    unfold ptC
    exact nqN_E _ 0 0 _ (by omega) (by omega) (by rw [mu_j (by decide), mu_at]; omega) (fun p h1 h2 => by rw [mu_g (by decide), mu_g (by decide), b9]; exact (hE p h1 h2).2) (fun _ => rfl) (fun z => by omega)
  have h8 : ptS s μ 108 = μ 108 := ptS_g (by decide) (by decide) (by decide) (by decide) (by decide)
  have h7 : ptS s μ 107 0 0 = μ 107 0 0 := ptS_7 (by decide) (by decide)
  refine ⟨⟨fun q h1 h2 => ⟨by rw [h8]; exact (hP.1 q h1 h2).1, (h9 q h1 h2).1⟩, by rw [h7]; exact hL⟩, fun q h1 h2 => ⟨by rw [h8]; exact (hE q h1 h2).1, h9 q h1 h2⟩⟩
theorem lnI_PE (h : lnI μ x) (hx : x ≤ 40) : lnP μ ∧ lnE μ := by
  obtain ⟨i1, i2, i3⟩ := h
  exact ⟨⟨fun q h1 h2 => ⟨(i2 q h1 h2).1.1, (i2 q h1 h2).2.1⟩, by omega⟩, i2⟩
theorem l1p_g {q : Nat} (h0 : q ≠ 0) (h7 : q ≠ 107) (h8 : q ≠ 108) (h9 : q ≠ 109) (h1 : q ≠ 113) (h2 : q ≠ 114) : l1p a s μ q = μ q := by
  unfold l1p
  rw [ptS_g h0 h7 h9 h1 h2, lnS_g h7 h8 h9, mu_g h7]
theorem l1p_0 : l1p a s μ 0 = mPt (μ 0 0 113) μ 0 := by
  unfold l1p
  rw [ptS_0]
  have e : lnS a (mu μ 107 0 2 (μ 107 0 2 + 1)) 0 = μ 0 := by rw [lnS_g (by decide) (by decide) (by decide), mu_g (by decide)]
  funext i j
  by_cases h : i = 0 ∧ j = 113
  · obtain ⟨rfl, rfl⟩ := h
    rw [mPt_c, mPt_c, e]
  · rw [mPt_0 h, mPt_0 h, e]
theorem l1p_2 : l1p a s μ 107 0 2 = μ 107 0 2 + 1 := by
  unfold l1p
  rw [ptS_7 (by decide) (by decide), lnS_7 (by decide) (by decide), mu_at]
theorem lnE_of (h8 : ν 108 = μ 108) (h9 : ν 109 = μ 109) (h : lnE μ) : lnE ν := by
  unfold lnE
  rw [h8, h9]
  exact h
theorem l1p_I (hD : ldB μ) (hE : lnE μ) : lnI (lnS a (mu μ 107 0 2 (μ 107 0 2 + 1))) (μ 106 0 2) := by
  have := lnS_I (a := a) (μ := mu μ 107 0 2 (μ 107 0 2 + 1)) (ldB_of (mu_g (by decide)) (mu_g (by decide)) (mu_g (by decide)) hD) (lnE_of (mu_g (by decide)) (mu_g (by decide)) hE)
  rw [mu_g (by decide)] at this
  exact this
theorem l1p_PE (hD : ldB μ) (hE : lnE μ) : lnP (l1p a s μ) ∧ lnE (l1p a s μ) := by
  have h := lnI_PE (l1p_I (a := a) hD hE) hD.1.2
  exact ptS_E h.1 h.2
theorem c102_1 (hB : rwB μ) (hD : ldB μ) (hE : lnE μ) (ha : 0 ≤ a) (ha2 : a < 13) (hs : 0 ≤ s ∧ s ≤ 15) (h0 : 0 ≤ μ 0 0 113) (hf : 0 ≤ μ 107 0 2 ∧ μ 107 0 2 ≤ 100) (hck : 2 ≤ ck) (hsk : 82 ≤ sk)
    (q : G 102 157 [zR 101 0, zR 103 0, zR 104 0, zR 105 0, zR 106 0, zR 107 0, zR 108 0, zR 109 0, zR 110 0, zI a, zI s, zI 0, zI 0, u'] [] (HM (l1p a s μ)) (ck - 2) (sk - 82) Q) : G 102 106 [zR 101 0, zR 103 0, zR 104 0, zR 105 0, zR 106 0, zR 107 0, zR 108 0, zR 109 0, zR 110 0, zI a, zI s, zI 1, u, u'] [] (HM μ) ck sk Q := by
  have hI := l1p_I (a := a) hD hE
  have hPE := lnI_PE hI hD.1.2
  have e97 := fun (ck sk : Nat) (Q : ZO → ZH → Prop) (u1 u u' u'' : ZV) => c97 (μ := mu μ 107 0 2 (μ 107 0 2 + 1)) (ck := ck) (sk := sk) (Q := Q) (u1 := u1) (u := u) (u' := u') (u'' := u'') (rwB_mu (by decide) (by decide) hB) (ldB_of (mu_g (by decide)) (mu_g (by decide)) (mu_g (by decide)) hD) (lnE_of (mu_g (by decide)) (mu_g (by decide)) hE) ha ha2
  simp (disch := first | omega | (simp (disch := decide) only [zmu0, mu_g, List.length_nil, List.length_cons]; omega)) only [g102_106, g102_108, g102_111, g102_113, g102_114, g102_115, g102_116, g102_117, g102_118, g102_119, g102_120, g102_121, g102_122, g102_123, g102_125, g102_127, g102_129, g102_131, g102_133, g102_135, g102_138, g102_140, g102_142, g102_144, g102_146, rd107, wr107, Nat.sub_zero, Int.reduceSub, Int.reduceAdd, Int.add_zero, Int.zero_add, Int.cast_ofNat_Int, Bool.false_eq_true, decide_true, decide_false, zbndI, zbwI, zbzI, zb1I, zoA_at, gback_v, gback_n, zem, zisr, zro_at, zrl_at, mu_g, mu_at, mu_mu, mu_self, not_true, not_false_iff, zb0, zb1, zbnd, zbw, zbz, zne1, zone, mrgI, List.length_nil, List.length_cons, Nat.reduceAdd, Nat.reduceSub, Nat.reduceLeDiff, Nat.zero_le, and_true, true_and, false_and, and_false, true_or, or_true, false_or, or_false, G_ite, z10, z1n, z1and, z1or, z0not, z0and, itn, if_true, if_false, reduceIte, Int.reduceEq, Int.reduceLT, Int.reduceNeg, Nat.reduceEqDiff, ite_self, e97]
  rw [g102_148]
  refine ⟨⟨hck, hsk, by decide, trivial⟩, ?_⟩
  have d6 : lnS a (mu μ 107 0 2 (μ 107 0 2 + 1)) 106 = μ 106 := by rw [lnS_g (by decide) (by decide) (by decide), mu_g (by decide)]
  have d0 : lnS a (mu μ 107 0 2 (μ 107 0 2 + 1)) 0 = μ 0 := by rw [lnS_g (by decide) (by decide) (by decide), mu_g (by decide)]
  refine c100 hPE.1 hPE.2 hs (by rw [d6]; exact hD.2.2.2.1) (by rw [d0]; exact h0) ?_
  rw [gback_n]
  simp only [g102_151, g102_152, g102_154, g102_155]
  exact q
theorem rhN_g {q : Nat} (h : q ≠ 110) : ∀ (n : Nat) (k : Int) (μ : ZU), rhN n k μ q = μ q
  | 0, _, _ => rfl
  | n + 1, k, μ => by
    unfold rhN
    rw [rhN_g h n, mu_g h]
theorem h1N_g {q : Nat} (h : q ≠ 110) : ∀ (n : Nat) (k : Int) (μ : ZU), h1N n k μ q = μ q
  | 0, _, _ => rfl
  | n + 1, k, μ => by
    unfold h1N
    rw [h1N_g h n, mu_g h]
theorem c102_l (ha : 0 ≤ a) (ha2 : a < 13) (hs : 0 ≤ s ∧ s ≤ 15) : ∀ (n : Nat) (μ : ZU) (ck sk : Nat) (u u' : ZV), rwB μ → ldB μ → lnE μ → 0 ≤ μ 0 0 113 → 0 ≤ μ 107 0 2 → μ 107 0 2 + n = 4 → 2 * (n + 1) ≤ ck → 82 * (n + 1) ≤ sk → Q (.inl none) (HM (ssN a s n μ)) → G 102 106 [zR 101 0, zR 103 0, zR 104 0, zR 105 0, zR 106 0, zR 107 0, zR 108 0, zR 109 0, zR 110 0, zI a, zI s, zI 1, u, u'] [] (HM μ) ck sk Q
  | n, μ, ck, sk, u, u', hB, hD, hE, h0, hf0, hf, hck, hsk, q => by
    refine c102_1 hB hD hE ha ha2 hs h0 (by omega) (by omega) (by omega) ?_
    have hPE := l1p_PE (a := a) (s := s) hD hE
    have d6 : l1p a s μ 106 = μ 106 := l1p_g (by decide) (by decide) (by decide) (by decide) (by decide) (by decide)
    have d4 : l1p a s μ 104 = μ 104 := l1p_g (by decide) (by decide) (by decide) (by decide) (by decide) (by decide)
    have d5 : l1p a s μ 105 = μ 105 := l1p_g (by decide) (by decide) (by decide) (by decide) (by decide) (by decide)
    have d1 : l1p a s μ 101 = μ 101 := l1p_g (by decide) (by decide) (by decide) (by decide) (by decide) (by decide)
    have d3 : l1p a s μ 103 = μ 103 := l1p_g (by decide) (by decide) (by decide) (by decide) (by decide) (by decide)
    have f2 : l1p a s μ 107 0 2 = μ 107 0 2 + 1 := l1p_2
    have hD' : ldB (l1p a s μ) := ldB_of d4 d5 d6 hD
    have hw : ∀ k, 0 ≤ k → k < 40 → -11 ≤ l1p a s μ 104 0 k ∧ l1p a s μ 104 0 k < 9223372036854775808 := fun k h1 h2 => by
      have := hD'.2.2.2.2.2.2 k h1 h2
      exact ⟨this.1, this.2.1⟩
    have hc := c102_c (ck := ck - 2) (sk := sk - 82) (Q := Q) (u := u') (a := a) (s := s) hPE.1 hPE.2 hD'.1 hw (l1p a s μ 106 0 2).toNat 0 0 (by omega) (by have := hD'.1; omega) (Or.inl rfl)
    rw [hc]
    by_cases hst : stl (l1p a s μ)
    · have hst' : zall (chk (l1p a s μ)) (l1p a s μ 106 0 2).toNat 0 = true := hst
      rw [if_neg (fun z => by rcases z with z | z; omega; exact z hst')]
      have hq : ssN a s n μ = l1p a s μ := by
        match n with
        | 0 => rfl
        | n + 1 => exact if_pos hst
      rw [hq] at q
      have hg2 := hD'.1
      rw [g102_219]
      by_cases h2 : 0 < l1p a s μ 106 0 2
      · simp (disch := first | omega | (simp (disch := decide) only [zmu0, mu_g, List.length_nil, List.length_cons]; omega)) only [g102_0, g102_1, g102_3, g102_5, g102_6, g102_8, g102_9, g102_10, g102_11, g102_12, g102_14, g102_16, g102_18, g102_21, g102_22, g102_23, g102_25, g102_27, g102_30, g102_32, g102_34, g102_36, g102_37, g102_38, g102_40, g102_41, g102_42, g102_43, g102_44, g102_47, g102_49, g102_50, g102_51, g102_54, g102_56, g102_57, g102_58, g102_61, g102_62, g102_63, g102_66, g102_67, g102_68, g102_70, g102_73, g102_76, g102_77, g102_79, g102_81, g102_83, g102_86, g102_88, g102_90, g102_91, g102_92, g102_95, g102_98, g102_99, g102_101, g102_103, g102_104, g102_105, g102_108, g102_111, g102_113, g102_114, g102_115, g102_116, g102_117, g102_118, g102_119, g102_120, g102_121, g102_122, g102_123, g102_125, g102_127, g102_129, g102_131, g102_133, g102_135, g102_138, g102_140, g102_142, g102_144, g102_146, g102_148, g102_151, g102_152, g102_154, g102_155, g102_157, g102_159, g102_161, g102_162, g102_163, g102_166, g102_168, g102_171, g102_172, g102_174, g102_175, g102_176, g102_177, g102_180, g102_182, g102_184, g102_186, g102_189, g102_190, g102_192, g102_193, g102_194, g102_195, g102_198, g102_200, g102_202, g102_203, g102_206, g102_207, g102_210, g102_211, g102_213, g102_216, g102_221, g102_224, g102_226, g102_227, g102_228, g102_229, g102_232, g102_233, g102_236, g102_237, g102_239, g102_240, g102_242, g102_244, g102_246, g102_247, g102_248, g102_251, g102_253, g102_256, g102_258, g102_260, g102_261, g102_263, g102_264, g102_265, g102_266, g102_269, g102_271, g102_273, g102_275, g102_278, g102_279, g102_281, g102_282, g102_283, g102_284, g102_287, g102_290, g102_291, g102_292, g102_295, g102_298, g102_301, g102_106, rd106, wr106, rd107, wr107, Nat.sub_zero, Int.reduceSub, Int.reduceAdd, Int.add_zero, Int.zero_add, Int.cast_ofNat_Int, Bool.false_eq_true, decide_true, decide_false, zbndI, zbwI, zbzI, zb1I, zoA_at, gback_v, gback_n, zem, zisr, zro_at, zrl_at, mu_g, mu_at, mu_mu, mu_self, not_true, not_false_iff, zb0, zb1, zbnd, zbw, zbz, zne1, zone, mrgI, List.length_nil, List.length_cons, Nat.reduceAdd, Nat.reduceSub, Nat.reduceLeDiff, Nat.zero_le, and_true, true_and, false_and, and_false, true_or, or_true, false_or, or_false, G_ite, z10, z1n, z1and, z1or, z0not, z0and, itn, if_true, if_false, reduceIte, Int.reduceEq, Int.reduceLT, Int.reduceNeg, Nat.reduceEqDiff, ite_self, h2]
        exact q
      · simp (disch := first | omega | (simp (disch := decide) only [zmu0, mu_g, List.length_nil, List.length_cons]; omega)) only [g102_0, g102_1, g102_3, g102_5, g102_6, g102_8, g102_9, g102_10, g102_11, g102_12, g102_14, g102_16, g102_18, g102_21, g102_22, g102_23, g102_25, g102_27, g102_30, g102_32, g102_34, g102_36, g102_37, g102_38, g102_40, g102_41, g102_42, g102_43, g102_44, g102_47, g102_49, g102_50, g102_51, g102_54, g102_56, g102_57, g102_58, g102_61, g102_62, g102_63, g102_66, g102_67, g102_68, g102_70, g102_73, g102_76, g102_77, g102_79, g102_81, g102_83, g102_86, g102_88, g102_90, g102_91, g102_92, g102_95, g102_98, g102_99, g102_101, g102_103, g102_104, g102_105, g102_108, g102_111, g102_113, g102_114, g102_115, g102_116, g102_117, g102_118, g102_119, g102_120, g102_121, g102_122, g102_123, g102_125, g102_127, g102_129, g102_131, g102_133, g102_135, g102_138, g102_140, g102_142, g102_144, g102_146, g102_148, g102_151, g102_152, g102_154, g102_155, g102_157, g102_159, g102_161, g102_162, g102_163, g102_166, g102_168, g102_171, g102_172, g102_174, g102_175, g102_176, g102_177, g102_180, g102_182, g102_184, g102_186, g102_189, g102_190, g102_192, g102_193, g102_194, g102_195, g102_198, g102_200, g102_202, g102_203, g102_206, g102_207, g102_210, g102_211, g102_213, g102_216, g102_221, g102_224, g102_226, g102_227, g102_228, g102_229, g102_232, g102_233, g102_236, g102_237, g102_239, g102_240, g102_242, g102_244, g102_246, g102_247, g102_248, g102_251, g102_253, g102_256, g102_258, g102_260, g102_261, g102_263, g102_264, g102_265, g102_266, g102_269, g102_271, g102_273, g102_275, g102_278, g102_279, g102_281, g102_282, g102_283, g102_284, g102_287, g102_290, g102_291, g102_292, g102_295, g102_298, g102_301, g102_106, rd106, wr106, rd107, wr107, Nat.sub_zero, Int.reduceSub, Int.reduceAdd, Int.add_zero, Int.zero_add, Int.cast_ofNat_Int, Bool.false_eq_true, decide_true, decide_false, zbndI, zbwI, zbzI, zb1I, zoA_at, gback_v, gback_n, zem, zisr, zro_at, zrl_at, mu_g, mu_at, mu_mu, mu_self, not_true, not_false_iff, zb0, zb1, zbnd, zbw, zbz, zne1, zone, mrgI, List.length_nil, List.length_cons, Nat.reduceAdd, Nat.reduceSub, Nat.reduceLeDiff, Nat.zero_le, and_true, true_and, false_and, and_false, true_or, or_true, false_or, or_false, G_ite, z10, z1n, z1and, z1or, z0not, z0and, itn, if_true, if_false, reduceIte, Int.reduceEq, Int.reduceLT, Int.reduceNeg, Nat.reduceEqDiff, ite_self, h2]
        exact q
    · have hst' : ¬ zall (chk (l1p a s μ)) (l1p a s μ 106 0 2).toNat 0 = true := hst
      rw [if_pos (Or.inr hst')]
      have hg2 := hD'.1
      match n, hf, hck, hsk, q with
      | 0, hf, hck, hsk, q =>
        have f5 : ¬ l1p a s μ 107 0 2 < 5 := by omega
        have q : Q (.inl none) (HM (l1p a s μ)) := q
        rw [g102_219]
        by_cases h2 : 0 < l1p a s μ 106 0 2
        · simp (disch := first | omega | (simp (disch := decide) only [zmu0, mu_g, List.length_nil, List.length_cons]; omega)) only [g102_0, g102_1, g102_3, g102_5, g102_6, g102_8, g102_9, g102_10, g102_11, g102_12, g102_14, g102_16, g102_18, g102_21, g102_22, g102_23, g102_25, g102_27, g102_30, g102_32, g102_34, g102_36, g102_37, g102_38, g102_40, g102_41, g102_42, g102_43, g102_44, g102_47, g102_49, g102_50, g102_51, g102_54, g102_56, g102_57, g102_58, g102_61, g102_62, g102_63, g102_66, g102_67, g102_68, g102_70, g102_73, g102_76, g102_77, g102_79, g102_81, g102_83, g102_86, g102_88, g102_90, g102_91, g102_92, g102_95, g102_98, g102_99, g102_101, g102_103, g102_104, g102_105, g102_108, g102_111, g102_113, g102_114, g102_115, g102_116, g102_117, g102_118, g102_119, g102_120, g102_121, g102_122, g102_123, g102_125, g102_127, g102_129, g102_131, g102_133, g102_135, g102_138, g102_140, g102_142, g102_144, g102_146, g102_148, g102_151, g102_152, g102_154, g102_155, g102_157, g102_159, g102_161, g102_162, g102_163, g102_166, g102_168, g102_171, g102_172, g102_174, g102_175, g102_176, g102_177, g102_180, g102_182, g102_184, g102_186, g102_189, g102_190, g102_192, g102_193, g102_194, g102_195, g102_198, g102_200, g102_202, g102_203, g102_206, g102_207, g102_210, g102_211, g102_213, g102_216, g102_221, g102_224, g102_226, g102_227, g102_228, g102_229, g102_232, g102_233, g102_236, g102_237, g102_239, g102_240, g102_242, g102_244, g102_246, g102_247, g102_248, g102_251, g102_253, g102_256, g102_258, g102_260, g102_261, g102_263, g102_264, g102_265, g102_266, g102_269, g102_271, g102_273, g102_275, g102_278, g102_279, g102_281, g102_282, g102_283, g102_284, g102_287, g102_290, g102_291, g102_292, g102_295, g102_298, g102_301, g102_106, rd106, wr106, rd107, wr107, Nat.sub_zero, Int.reduceSub, Int.reduceAdd, Int.add_zero, Int.zero_add, Int.cast_ofNat_Int, Bool.false_eq_true, decide_true, decide_false, zbndI, zbwI, zbzI, zb1I, zoA_at, gback_v, gback_n, zem, zisr, zro_at, zrl_at, mu_g, mu_at, mu_mu, mu_self, not_true, not_false_iff, zb0, zb1, zbnd, zbw, zbz, zne1, zone, mrgI, List.length_nil, List.length_cons, Nat.reduceAdd, Nat.reduceSub, Nat.reduceLeDiff, Nat.zero_le, and_true, true_and, false_and, and_false, true_or, or_true, false_or, or_false, G_ite, z10, z1n, z1and, z1or, z0not, z0and, itn, if_true, if_false, reduceIte, Int.reduceEq, Int.reduceLT, Int.reduceNeg, Nat.reduceEqDiff, ite_self, h2, f5]
          exact q
        · simp (disch := first | omega | (simp (disch := decide) only [zmu0, mu_g, List.length_nil, List.length_cons]; omega)) only [g102_0, g102_1, g102_3, g102_5, g102_6, g102_8, g102_9, g102_10, g102_11, g102_12, g102_14, g102_16, g102_18, g102_21, g102_22, g102_23, g102_25, g102_27, g102_30, g102_32, g102_34, g102_36, g102_37, g102_38, g102_40, g102_41, g102_42, g102_43, g102_44, g102_47, g102_49, g102_50, g102_51, g102_54, g102_56, g102_57, g102_58, g102_61, g102_62, g102_63, g102_66, g102_67, g102_68, g102_70, g102_73, g102_76, g102_77, g102_79, g102_81, g102_83, g102_86, g102_88, g102_90, g102_91, g102_92, g102_95, g102_98, g102_99, g102_101, g102_103, g102_104, g102_105, g102_108, g102_111, g102_113, g102_114, g102_115, g102_116, g102_117, g102_118, g102_119, g102_120, g102_121, g102_122, g102_123, g102_125, g102_127, g102_129, g102_131, g102_133, g102_135, g102_138, g102_140, g102_142, g102_144, g102_146, g102_148, g102_151, g102_152, g102_154, g102_155, g102_157, g102_159, g102_161, g102_162, g102_163, g102_166, g102_168, g102_171, g102_172, g102_174, g102_175, g102_176, g102_177, g102_180, g102_182, g102_184, g102_186, g102_189, g102_190, g102_192, g102_193, g102_194, g102_195, g102_198, g102_200, g102_202, g102_203, g102_206, g102_207, g102_210, g102_211, g102_213, g102_216, g102_221, g102_224, g102_226, g102_227, g102_228, g102_229, g102_232, g102_233, g102_236, g102_237, g102_239, g102_240, g102_242, g102_244, g102_246, g102_247, g102_248, g102_251, g102_253, g102_256, g102_258, g102_260, g102_261, g102_263, g102_264, g102_265, g102_266, g102_269, g102_271, g102_273, g102_275, g102_278, g102_279, g102_281, g102_282, g102_283, g102_284, g102_287, g102_290, g102_291, g102_292, g102_295, g102_298, g102_301, g102_106, rd106, wr106, rd107, wr107, Nat.sub_zero, Int.reduceSub, Int.reduceAdd, Int.add_zero, Int.zero_add, Int.cast_ofNat_Int, Bool.false_eq_true, decide_true, decide_false, zbndI, zbwI, zbzI, zb1I, zoA_at, gback_v, gback_n, zem, zisr, zro_at, zrl_at, mu_g, mu_at, mu_mu, mu_self, not_true, not_false_iff, zb0, zb1, zbnd, zbw, zbz, zne1, zone, mrgI, List.length_nil, List.length_cons, Nat.reduceAdd, Nat.reduceSub, Nat.reduceLeDiff, Nat.zero_le, and_true, true_and, false_and, and_false, true_or, or_true, false_or, or_false, G_ite, z10, z1n, z1and, z1or, z0not, z0and, itn, if_true, if_false, reduceIte, Int.reduceEq, Int.reduceLT, Int.reduceNeg, Nat.reduceEqDiff, ite_self, h2, f5]
          exact q
      | n + 1, hf, hck, hsk, q =>
        have f5 : l1p a s μ 107 0 2 < 5 := by omega
        have hq : ssN a s (n + 1) μ = ssN a s n (rhN (μ 106 0 2).toNat 0 (l1p a s μ)) := if_neg hst
        rw [hq] at q
        have hr := c102_r (μ := l1p a s μ) (ck := ck - 2) (sk := sk - 82) (Q := Q) (u := u') (a := a) (s := s) hw (l1p a s μ 106 0 2).toNat 0 (l1p a s μ) rfl hPE.1 hPE.2 (by omega) (by omega) hg2.2
        rw [g102_219]
        simp (disch := first | omega | (simp (disch := decide) only [zmu0, mu_g, List.length_nil, List.length_cons]; omega)) only [g102_221, g102_224, g102_226, g102_227, g102_228, g102_229, g102_232, g102_233, g102_237, g102_239, g102_240, rd107, wr107, Nat.sub_zero, Int.reduceSub, Int.reduceAdd, Int.add_zero, Int.zero_add, Int.cast_ofNat_Int, Bool.false_eq_true, decide_true, decide_false, zbndI, zbwI, zbzI, zb1I, zoA_at, gback_v, gback_n, zem, zisr, zro_at, zrl_at, mu_g, mu_at, mu_mu, mu_self, not_true, not_false_iff, zb0, zb1, zbnd, zbw, zbz, zne1, zone, mrgI, List.length_nil, List.length_cons, Nat.reduceAdd, Nat.reduceSub, Nat.reduceLeDiff, Nat.zero_le, and_true, true_and, false_and, and_false, true_or, or_true, false_or, or_false, G_ite, z10, z1n, z1and, z1or, z0not, z0and, itn, if_true, if_false, reduceIte, Int.reduceEq, Int.reduceLT, Int.reduceNeg, Nat.reduceEqDiff, ite_self, f5]
        rw [hr, d6]
        have r0 : rhN (μ 106 0 2).toNat 0 (l1p a s μ) 0 = l1p a s μ 0 := rhN_g (by decide) _ _ _
        have r7 : rhN (μ 106 0 2).toNat 0 (l1p a s μ) 107 = l1p a s μ 107 := rhN_g (by decide) _ _ _
        refine c102_l ha ha2 hs n _ _ _ _ _ (rwB_of ((rhN_g (by decide) _ _ _).trans d1) ((rhN_g (by decide) _ _ _).trans d3) hB) (ldB_of ((rhN_g (by decide) _ _ _).trans d4) ((rhN_g (by decide) _ _ _).trans d5) ((rhN_g (by decide) _ _ _).trans d6) hD) (lnE_of (rhN_g (by decide) _ _ _) (rhN_g (by decide) _ _ _) hPE.2) ?_ ?_ ?_ (by omega) (by omega) q
        · rw [r0, l1p_0, mPt_c]
          omega
        · rw [r7, f2]
          omega
        · rw [r7, f2]
          omega
theorem ss0_g {q : Nat} (h7 : q ≠ 107) (h0 : q ≠ 110) : ss0 μ q = μ q := by
  unfold ss0
  rw [mu_g h7, h1N_g h0, mu_g h7]
theorem c102 (hB : rwB μ) (hD : ldB μ) (hE : lnE μ) (ha : 0 ≤ a) (ha2 : a < 13) (h0 : 0 ≤ μ 0 0 113) (hg : 0 ≤ μ 106 0 5 ∧ μ 106 0 5 < 1024) (hsz : ∀ t, 5 ≤ t → t < 10 → 0 < lfv μ a t → 0 ≤ lsz μ a t ∧ lsz μ a t ≤ 3) (q : Q (.inl none) (HM (ssS a μ))) : G 102 0 [zR 101 0, zR 103 0, zR 104 0, zR 105 0, zR 106 0, zR 107 0, zR 108 0, zR 109 0, zR 110 0, zI a, u, u', u1, u2] [] (HM μ) 10 410 Q := by
  have e1 : mu μ 107 0 4 (μ 106 0 5) 106 = μ 106 := mu_g (by decide)
  have el : lfv (mu μ 107 0 4 (μ 106 0 5)) a = lfv μ a := lfv_mu (by decide) (by decide)
  have ez : lsz (mu μ 107 0 4 (μ 106 0 5)) a = lsz μ a := lsz_mu (by decide) (by decide)
  have eh : lhs (mu μ 107 0 4 (μ 106 0 5)) a = lhs μ a := lhs_mu (by decide) (by decide)
  obtain ⟨v, v', es⟩ := c102_s (μ := mu μ 107 0 4 (μ 106 0 5)) (ck := 10) (sk := 410) (Q := Q) (rwB_mu (by decide) (by decide) hB) ha ha2 (by rw [e1]; exact hg) (by rw [el, ez]; exact hsz) 5 5 0 u1 u2 (by omega) (by omega) (by omega) (by omega)
  rw [e1, eh, ez] at es
  simp (disch := first | omega | (simp (disch := decide) only [zmu0, mu_g, List.length_nil, List.length_cons]; omega)) only [g102_0, g102_1, g102_3, g102_5, g102_6, g102_8, g102_9, g102_10, g102_11, g102_12, rd106, wr106, rd107, wr107, Nat.sub_zero, Int.reduceSub, Int.reduceAdd, Int.add_zero, Int.zero_add, Int.cast_ofNat_Int, Bool.false_eq_true, decide_true, decide_false, zbndI, zbwI, zbzI, zb1I, zoA_at, gback_v, gback_n, zem, zisr, zro_at, zrl_at, mu_g, mu_at, mu_mu, mu_self, not_true, not_false_iff, zb0, zb1, zbnd, zbw, zbz, zne1, zone, mrgI, List.length_nil, List.length_cons, Nat.reduceAdd, Nat.reduceSub, Nat.reduceLeDiff, Nat.zero_le, and_true, true_and, false_and, and_false, true_or, or_true, false_or, or_false, G_ite, z10, z1n, z1and, z1or, z0not, z0and, itn, if_true, if_false, reduceIte, Int.reduceEq, Int.reduceLT, Int.reduceNeg, Nat.reduceEqDiff, ite_self, es]
  have hh := fun (u u' : ZV) => c102_h (ck := 10) (sk := 410) (Q := Q) (a := a) (s := spc (μ 106 0 5) (lhs μ a) (lsz μ a) 5 5 0) (u := u) (u' := u') 40 0 (mu μ 107 0 4 (μ 106 0 5)) (by omega) (by omega)
  simp (disch := first | omega | (simp (disch := decide) only [zmu0, mu_g, List.length_nil, List.length_cons]; omega)) only [g102_76, g102_77, hh, g102_98, g102_99, g102_101, g102_103, g102_104, g102_105, rd107, wr107, Nat.sub_zero, Int.reduceSub, Int.reduceAdd, Int.add_zero, Int.zero_add, Int.cast_ofNat_Int, Bool.false_eq_true, decide_true, decide_false, zbndI, zbwI, zbzI, zb1I, zoA_at, gback_v, gback_n, zem, zisr, zro_at, zrl_at, mu_g, mu_at, mu_mu, mu_self, not_true, not_false_iff, zb0, zb1, zbnd, zbw, zbz, zne1, zone, mrgI, List.length_nil, List.length_cons, Nat.reduceAdd, Nat.reduceSub, Nat.reduceLeDiff, Nat.zero_le, and_true, true_and, false_and, and_false, true_or, or_true, false_or, or_false, G_ite, z10, z1n, z1and, z1or, z0not, z0and, itn, if_true, if_false, reduceIte, Int.reduceEq, Int.reduceLT, Int.reduceNeg, Nat.reduceEqDiff, ite_self]
  have hsp := spc_b3 (i := μ 106 0 5) hsz 5 5 0 (by omega) (by omega) (by omega) (by omega)
  refine c102_l ha ha2 hsp 4 (ss0 μ) 10 410 _ _ (rwB_of (ss0_g (by decide) (by decide)) (ss0_g (by decide) (by decide)) hB) (ldB_of (ss0_g (by decide) (by decide)) (ss0_g (by decide) (by decide)) (ss0_g (by decide) (by decide)) hD) (lnE_of (ss0_g (by decide) (by decide)) (ss0_g (by decide) (by decide)) hE) ?_ ?_ ?_ (by omega) (by omega) q
  · rw [ss0_g (by decide) (by decide)]
    exact h0
  · unfold ss0
    rw [mu_at]
    omega
  · unfold ss0
    rw [mu_at]
    omega
end ZQF
