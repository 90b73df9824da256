/-! ===== the law: pages numbered; parts whole ===== -/
def mPt (n : Int) (μ : ZU) : ZU := fun k i j => if k = 0 then (if i = 0 ∧ j = 113 then n + 1 else μ k i j) else if (k = 113 ∨ k = 114) ∧ i = n then 0 else μ k i j
def nqN (n : Int) : Nat → Int → Int → ZU → ZU
  | 0, _, _, μ => μ
  | m + 1, k, nx, μ => if k = nx then nqN n m (k + 1) (μ 114 n k) (mu (mu μ 107 0 1 (μ 107 0 1 + 1)) 109 0 k (μ 109 0 k % 1024 + 1024 * (μ 107 0 1 + 1 - 1))) else nqN n m (k + 1) nx (mu μ 109 0 k (μ 109 0 k % 1024 + 1024 * (μ 107 0 1 - 1)))
def ptB (s : Int) (μ : ZU) : ZU := lbN (μ 0 0 113) s (μ 107 0 0).toNat (mPt (μ 0 0 113) μ)
def ptC (s : Int) (μ : ZU) : ZU := nqN (μ 0 0 113) (μ 107 0 0).toNat 0 0 (mu (mu (ptB s μ) 107 0 1 0) 107 0 3 (ptB s μ 113 (μ 0 0 113) 0))
def ptS (s : Int) (μ : ZU) : ZU := mu (ptC s μ) 107 0 3 (if μ 107 0 0 = 0 then 0 else ptB s μ 113 (μ 0 0 113) 0)
section ZQD
variable {h : ZH} {μ ν : ZU} {ck sk : Nat} {Q : ZO → ZH → Prop} {a b c d e f g i j l n p r s t v w x y z L H lb pe : Int} {k : Nat} {u u' u'' u1 u2 u3 u4 u5 u6 u7 u8 : ZV}
theorem no113 (h : ¬ i < μ 0 0 113) : HM μ 113 i = none := if_neg (fun z => h z.2)
theorem no114 (h : ¬ i < μ 0 0 113) : HM μ 114 i = none := if_neg (fun z => h z.2)
theorem kA_113 {t : FieldType} {m : Nat} (h : zkl zKA k = some (t, m, 113)) : k = 113 ∨ k = 114 :=
  (show ∀ x ∈ zKA, x.2.2.2 = 113 → x.1 = 113 ∨ x.1 = 114 by decide) _ (zkl_mem h) rfl
theorem kO_113 {m : Nat} (h : zkl zKO k = some (m, 113)) : False :=
  (show ∀ x ∈ zKO, x.2.2 = 113 → False by decide) _ (zkl_mem h) rfl
theorem kB_113 {c m : Nat} (h : zkl zKB k = some (c, m, 113)) : False :=
  (show ∀ x ∈ zKB, x.2.2.2 = 113 → False by decide) _ (zkl_mem h) rfl
theorem mPt_0 (hj : ¬ (i = 0 ∧ j = 113)) : mPt n μ 0 i j = μ 0 i j := by
  show (if (0 : Nat) = 0 then (if i = 0 ∧ j = 113 then n + 1 else μ 0 i j) else _) = _
  rw [if_pos rfl, if_neg hj]
theorem mPt_c : mPt n μ 0 0 113 = n + 1 := rfl
theorem mPt_g (h0 : k ≠ 0) (h1 : k ≠ 113) (h2 : k ≠ 114) : mPt n μ k = μ k := by
  funext i j
  show (if k = 0 then _ else if (k = 113 ∨ k = 114) ∧ i = n then 0 else μ k i j) = _
  rw [if_neg h0, if_neg (fun q => by rcases q.1 with q | q <;> contradiction)]
theorem mPt_113 : mPt n μ 113 n j = 0 := by
  show (if (113 : Nat) = 0 then _ else if ((113 : Nat) = 113 ∨ (113 : Nat) = 114) ∧ n = n then 0 else _) = _
  rw [if_neg (by decide), if_pos ⟨Or.inl rfl, rfl⟩]
theorem mPt_114 : mPt n μ 114 n j = 0 := by
  show (if (114 : Nat) = 0 then _ else if ((114 : Nat) = 113 ∨ (114 : Nat) = 114) ∧ n = n then 0 else _) = _
  rw [if_neg (by decide), if_pos ⟨Or.inr rfl, rfl⟩]
theorem HM_pt (hn : μ 0 0 113 = n) (h0 : 0 ≤ n) : zset (zset (HM μ) 113 n (.inr (.int, 41, fun _ => zI 0))) 114 n (.inr (.int, 41, fun _ => zI 0)) = HM (mPt n μ) := by
  have hbd : ∀ c, c ≠ 113 → zbd (mPt n μ) c = zbd μ c := fun c hc => by
    match c with
    | 0 => rfl
    | c + 1 => exact mPt_0 (fun z => by have := z.2; omega)
  funext k i
  refine zset_pt ?_ fun n14 => ?_
  · have e : HM (mPt n μ) 114 n = some (.inr (.int, 41, fun j => zI (mPt n μ 114 n j))) := if_pos ⟨h0, by show n < mPt n μ 0 0 113; rw [mPt_c]; omega⟩
    rw [e]
    simp only [mPt_114]
  · refine zset_pt ?_ fun n13 => ?_
    · have e : HM (mPt n μ) 113 n = some (.inr (.int, 41, fun j => zI (mPt n μ 113 n j))) := if_pos ⟨h0, by show n < mPt n μ 0 0 113; rw [mPt_c]; omega⟩
      rw [e]
      simp only [mPt_113]
    · refine HM_same (fun t m' c hc => ?_) (fun c m' hc => ?_) (fun c m' e hc hi => ?_) (fun hk _ => ?_) (fun hk => ?_) (fun hk => ?_) (fun hk j => ?_)
      · by_cases h1 : c = 113
        · subst h1
          have hi : i ≠ n := fun z => by
            rcases kA_113 hc with q | q
            · exact n13 ⟨q, z⟩
            · exact n14 ⟨q, z⟩
          show i < mPt n μ 0 0 113 ↔ i < μ 0 0 113
          rw [mPt_c, hn]
          omega
        · rw [hbd c h1]
      · by_cases h1 : m' = 113
        · subst h1
          exact (kO_113 hc).elim
        · rw [hbd m' h1]
      · by_cases h1 : e = 113
        · subst h1
          exact (kB_113 hc).elim
        · exact mPt_0 (fun z => by have := z.2; omega)
      · exact mPt_0 (fun z => absurd z.2 (by decide))
      · exact mPt_0 (fun z => absurd z.1 (by decide))
      · exact ⟨mPt_0 (fun z => absurd z.1 (by decide)), by rw [mPt_0 (fun z => absurd z.2 (by decide))]⟩
      · show (if k = 0 then _ else if (k = 113 ∨ k = 114) ∧ i = n then 0 else μ k i j) = μ k i j
        rw [if_neg hk, if_neg (fun q => by
          rcases q.1 with q1 | q1
          · exact n13 ⟨q1, q.2⟩
          · exact n14 ⟨q1, q.2⟩)]
theorem nqN_g {q : Nat} (h1 : q ≠ 107) (h2 : q ≠ 109) : ∀ (m : Nat) (k nx : Int) (μ : ZU), nqN n m k nx μ q = μ q
  | 0, _, _, _ => rfl
  | m + 1, k, nx, μ => by
    unfold nqN
    split
    · rw [nqN_g h1 h2 m, mu_g h2, mu_g h1]
    · rw [nqN_g h1 h2 m, mu_g h2]
theorem nqN_7 (hj : j ≠ 1) : ∀ (m : Nat) (k nx : Int) (μ : ZU), nqN n m k nx μ 107 0 j = μ 107 0 j
  | 0, _, _, _ => rfl
  | m + 1, k, nx, μ => by
    unfold nqN
    split
    · rw [nqN_7 hj m, mu_g (by decide), mu_j hj]
    · rw [nqN_7 hj m, mu_g (by decide)]
theorem c100_n : ∀ (m : Nat) (k nx : Int) (μ : ZU) (u1 u2 u3 u4 : ZV), 0 ≤ n → n < μ 0 0 113 → 0 ≤ k → k + m = μ 107 0 0 → μ 107 0 0 ≤ 40 → 0 ≤ μ 107 0 1 ∧ μ 107 0 1 ≤ k → (∀ q, 0 ≤ q → q < 41 → 0 ≤ μ 109 0 q ∧ μ 109 0 q ≤ 50000) → (k = 0 → nx = 0) → (0 < k → 1 ≤ μ 107 0 1) →
    (G 100 265 [zR 106 0, zR 107 0, zR 108 0, zR 109 0, zI s, zR 113 n, zR 114 n, zI nx, zI k, u1, u2, u3, u4] [] (HM μ) ck sk Q ↔ Q (.inl none) (HM (mu (nqN n m k nx μ) 107 0 3 (if μ 107 0 0 = 0 then 0 else μ 107 0 3))))
  | 0, k, nx, μ, u1, u2, u3, u4, hn, hn2, h0, hi, hL, hf, hx, hz, hz2 => by
    have q : ¬ k < μ 107 0 0 := by omega
    rw [g100_265]
    unfold nqN
    by_cases q2 : μ 107 0 0 = 0
    · have q' : ¬ k < 0 := by omega
      simp (disch := first | omega | (simp (disch := decide) only [zmu0, mu_g, List.length_nil, List.length_cons]; omega)) only [g100_0, g100_2, g100_4, g100_6, g100_8, g100_10, g100_12, g100_13, g100_14, g100_15, g100_16, g100_17, g100_19, g100_21, g100_24, g100_25, g100_27, g100_29, g100_31, g100_33, g100_34, g100_36, g100_38, g100_40, g100_41, g100_42, g100_43, g100_46, g100_48, g100_49, g100_50, g100_51, g100_53, g100_56, g100_59, g100_61, g100_64, g100_65, g100_66, g100_67, g100_69, g100_71, g100_72, g100_74, g100_75, g100_78, g100_79, g100_82, g100_83, g100_85, g100_86, g100_88, g100_89, g100_91, g100_93, g100_94, g100_95, g100_96, g100_97, g100_98, g100_101, g100_102, g100_105, g100_106, g100_108, g100_111, g100_114, g100_115, g100_116, g100_118, g100_121, g100_124, g100_126, g100_129, g100_130, g100_131, g100_132, g100_134, g100_135, g100_136, g100_139, g100_142, g100_143, g100_145, g100_146, g100_147, g100_150, g100_153, g100_155, g100_158, g100_159, g100_160, g100_162, g100_164, g100_165, g100_166, g100_167, g100_168, g100_169, g100_172, g100_173, g100_176, g100_178, g100_180, g100_181, g100_183, g100_184, g100_186, g100_188, g100_189, g100_190, g100_191, g100_192, g100_194, g100_196, g100_198, g100_201, g100_203, g100_204, g100_206, g100_207, g100_210, g100_212, g100_214, g100_216, g100_217, g100_220, g100_222, g100_224, g100_226, g100_227, g100_229, g100_231, g100_233, g100_234, g100_235, g100_236, g100_239, g100_242, g100_245, g100_248, g100_249, g100_250, g100_251, g100_252, g100_253, g100_254, g100_256, g100_257, g100_258, g100_259, g100_260, g100_262, g100_263, g100_267, g100_268, g100_269, g100_270, g100_273, g100_274, g100_275, g100_276, g100_277, g100_279, g100_281, g100_284, g100_285, g100_288, g100_289, g100_290, g100_291, g100_293, g100_295, g100_298, g100_300, g100_302, g100_303, g100_306, g100_308, g100_310, g100_311, g100_313, g100_314, g100_316, g100_317, g100_320, g100_321, g100_324, g100_325, g100_326, g100_327, g100_328, g100_329, g100_330, g100_331, g100_332, g100_335, g100_338, g100_339, g100_340, g100_341, g100_342, g100_343, g100_346, g100_347, g100_350, g100_351, g100_352, g100_353, g100_354, rd107, wr107, Nat.sub_zero, Int.reduceSub, Int.reduceAdd, Int.add_zero, Int.zero_add, Int.cast_ofNat_Int, Bool.false_eq_true, decide_true, decide_false, zbndI, zbwI, zbzI, zb1I, zoA_at, gback_v, gback_n, zem, zisr, zro_at, zrl_at, mu_g, mu_at, mu_mu, mu_self, not_true, not_false_iff, zb0, zb1, zbnd, zbw, zbz, zne1, zone, mrgI, List.length_nil, List.length_cons, Nat.reduceAdd, Nat.reduceSub, Nat.reduceLeDiff, Nat.zero_le, and_true, true_and, false_and, and_false, true_or, or_true, false_or, or_false, G_ite, z10, z1n, z1and, z1or, z0not, z0and, itn, if_true, if_false, reduceIte, Int.reduceEq, Int.reduceLT, Int.reduceNeg, Nat.reduceEqDiff, ite_self, q, q2, q']
    · simp (disch := first | omega | (simp (disch := decide) only [zmu0, mu_g, List.length_nil, List.length_cons]; omega)) only [g100_0, g100_2, g100_4, g100_6, g100_8, g100_10, g100_12, g100_13, g100_14, g100_15, g100_16, g100_17, g100_19, g100_21, g100_24, g100_25, g100_27, g100_29, g100_31, g100_33, g100_34, g100_36, g100_38, g100_40, g100_41, g100_42, g100_43, g100_46, g100_48, g100_49, g100_50, g100_51, g100_53, g100_56, g100_59, g100_61, g100_64, g100_65, g100_66, g100_67, g100_69, g100_71, g100_72, g100_74, g100_75, g100_78, g100_79, g100_82, g100_83, g100_85, g100_86, g100_88, g100_89, g100_91, g100_93, g100_94, g100_95, g100_96, g100_97, g100_98, g100_101, g100_102, g100_105, g100_106, g100_108, g100_111, g100_114, g100_115, g100_116, g100_118, g100_121, g100_124, g100_126, g100_129, g100_130, g100_131, g100_132, g100_134, g100_135, g100_136, g100_139, g100_142, g100_143, g100_145, g100_146, g100_147, g100_150, g100_153, g100_155, g100_158, g100_159, g100_160, g100_162, g100_164, g100_165, g100_166, g100_167, g100_168, g100_169, g100_172, g100_173, g100_176, g100_178, g100_180, g100_181, g100_183, g100_184, g100_186, g100_188, g100_189, g100_190, g100_191, g100_192, g100_194, g100_196, g100_198, g100_201, g100_203, g100_204, g100_206, g100_207, g100_210, g100_212, g100_214, g100_216, g100_217, g100_220, g100_222, g100_224, g100_226, g100_227, g100_229, g100_231, g100_233, g100_234, g100_235, g100_236, g100_239, g100_242, g100_245, g100_248, g100_249, g100_250, g100_251, g100_252, g100_253, g100_254, g100_256, g100_257, g100_258, g100_259, g100_260, g100_262, g100_263, g100_267, g100_268, g100_269, g100_270, g100_273, g100_274, g100_275, g100_276, g100_277, g100_279, g100_281, g100_284, g100_285, g100_288, g100_289, g100_290, g100_291, g100_293, g100_295, g100_298, g100_300, g100_302, g100_303, g100_306, g100_308, g100_310, g100_311, g100_313, g100_314, g100_316, g100_317, g100_320, g100_321, g100_324, g100_325, g100_326, g100_327, g100_328, g100_329, g100_330, g100_331, g100_332, g100_335, g100_338, g100_339, g100_340, g100_341, g100_342, g100_343, g100_346, g100_347, g100_350, g100_351, g100_352, g100_353, g100_354, rd107, wr107, Nat.sub_zero, Int.reduceSub, Int.reduceAdd, Int.add_zero, Int.zero_add, Int.cast_ofNat_Int, Bool.false_eq_true, decide_true, decide_false, zbndI, zbwI, zbzI, zb1I, zoA_at, gback_v, gback_n, zem, zisr, zro_at, zrl_at, mu_g, mu_at, mu_mu, mu_self, not_true, not_false_iff, zb0, zb1, zbnd, zbw, zbz, zne1, zone, mrgI, List.length_nil, List.length_cons, Nat.reduceAdd, Nat.reduceSub, Nat.reduceLeDiff, Nat.zero_le, and_true, true_and, false_and, and_false, true_or, or_true, false_or, or_false, G_ite, z10, z1n, z1and, z1or, z0not, z0and, itn, if_true, if_false, reduceIte, Int.reduceEq, Int.reduceLT, Int.reduceNeg, Nat.reduceEqDiff, ite_self, q, q2]
  | m + 1, k, nx, μ, u1, u2, u3, u4, hn, hn2, h0, hi, hL, hf, hx, hz, hz2 => by
    have q : k < μ 107 0 0 := by omega
    have hxk := hx k h0 (by omega)
    rw [g100_265]
    unfold nqN
    by_cases q1 : k = nx
    · have ih := fun u1 u2 u3 u4 => c100_n m (k + 1) (μ 114 n k) (mu (mu μ 107 0 1 (μ 107 0 1 + 1)) 109 0 k (μ 109 0 k % 1024 + 1024 * (μ 107 0 1 + 1 - 1))) u1 u2 u3 u4 hn (by rw [zmu0 (by decide), zmu0 (by decide)]; exact hn2) (by omega) (by rw [mu_g (by decide), mu_j (by decide)]; omega) (by rw [mu_g (by decide), mu_j (by decide)]; omega) (by rw [mu_g (by decide), mu_at]; omega) (fun p h1 h2 => by
          by_cases hp : p = k
          · rw [hp, mu_at]
            omega
          · rw [mu_j hp, mu_g (by decide)]
            exact hx p h1 h2) (fun z => by omega) (fun _ => by rw [mu_g (by decide), mu_at]; omega)
      have e1 : mu (mu μ 107 0 1 (μ 107 0 1 + 1)) 109 0 k (μ 109 0 k % 1024 + 1024 * (μ 107 0 1 + 1 - 1)) 107 0 0 = μ 107 0 0 := by rw [mu_g (by decide), mu_j (by decide)]
      have e3 : mu (mu μ 107 0 1 (μ 107 0 1 + 1)) 109 0 k (μ 109 0 k % 1024 + 1024 * (μ 107 0 1 + 1 - 1)) 107 0 3 = μ 107 0 3 := by rw [mu_g (by decide), mu_j (by decide)]
      rw [e1, e3] at ih
      rw [if_pos q1]
      simp (disch := first | omega | (simp (disch := decide) only [zmu0, mu_g, List.length_nil, List.length_cons]; omega)) only [g100_0, g100_2, g100_4, g100_6, g100_8, g100_10, g100_12, g100_13, g100_14, g100_15, g100_16, g100_17, g100_19, g100_21, g100_24, g100_25, g100_27, g100_29, g100_31, g100_33, g100_34, g100_36, g100_38, g100_40, g100_41, g100_42, g100_43, g100_46, g100_48, g100_49, g100_50, g100_51, g100_53, g100_56, g100_59, g100_61, g100_64, g100_65, g100_66, g100_67, g100_69, g100_71, g100_72, g100_74, g100_75, g100_78, g100_79, g100_82, g100_83, g100_85, g100_86, g100_88, g100_89, g100_91, g100_93, g100_94, g100_95, g100_96, g100_97, g100_98, g100_101, g100_102, g100_105, g100_106, g100_108, g100_111, g100_114, g100_115, g100_116, g100_118, g100_121, g100_124, g100_126, g100_129, g100_130, g100_131, g100_132, g100_134, g100_135, g100_136, g100_139, g100_142, g100_143, g100_145, g100_146, g100_147, g100_150, g100_153, g100_155, g100_158, g100_159, g100_160, g100_162, g100_164, g100_165, g100_166, g100_167, g100_168, g100_169, g100_172, g100_173, g100_176, g100_178, g100_180, g100_181, g100_183, g100_184, g100_186, g100_188, g100_189, g100_190, g100_191, g100_192, g100_194, g100_196, g100_198, g100_201, g100_203, g100_204, g100_206, g100_207, g100_210, g100_212, g100_214, g100_216, g100_217, g100_220, g100_222, g100_224, g100_226, g100_227, g100_229, g100_231, g100_233, g100_234, g100_235, g100_236, g100_239, g100_242, g100_245, g100_248, g100_249, g100_250, g100_251, g100_252, g100_253, g100_254, g100_256, g100_257, g100_258, g100_259, g100_260, g100_262, g100_263, g100_267, g100_268, g100_269, g100_270, g100_273, g100_274, g100_275, g100_276, g100_277, g100_279, g100_281, g100_284, g100_285, g100_288, g100_289, g100_290, g100_291, g100_293, g100_295, g100_298, g100_300, g100_302, g100_303, g100_306, g100_308, g100_310, g100_311, g100_313, g100_314, g100_316, g100_317, g100_320, g100_321, g100_324, g100_325, g100_326, g100_327, g100_328, g100_329, g100_330, g100_331, g100_332, g100_335, g100_338, g100_339, g100_340, g100_341, g100_342, g100_343, g100_346, g100_347, g100_350, g100_351, g100_352, g100_353, g100_354, rd107, wr107, rd109, wr109, rd114, wr114, Nat.sub_zero, Int.reduceSub, Int.reduceAdd, Int.add_zero, Int.zero_add, Int.cast_ofNat_Int, Bool.false_eq_true, decide_true, decide_false, zbndI, zbwI, zbzI, zb1I, zoA_at, gback_v, gback_n, zem, zisr, zro_at, zrl_at, mu_g, mu_at, mu_mu, mu_self, not_true, not_false_iff, zb0, zb1, zbnd, zbw, zbz, zne1, zone, mrgI, List.length_nil, List.length_cons, Nat.reduceAdd, Nat.reduceSub, Nat.reduceLeDiff, Nat.zero_le, and_true, true_and, false_and, and_false, true_or, or_true, false_or, or_false, G_ite, z10, z1n, z1and, z1or, z0not, z0and, itn, if_true, if_false, reduceIte, Int.reduceEq, Int.reduceLT, Int.reduceNeg, Nat.reduceEqDiff, ite_self, q, ← q1]
      exact ih _ _ _ _
    · have hk0 : 0 < k := by
        by_cases z : k = 0
        · exact absurd (z.trans (hz z).symm) q1
        · omega
      have := hz2 hk0
      have ih := fun u1 u2 u3 u4 => c100_n m (k + 1) nx (mu μ 109 0 k (μ 109 0 k % 1024 + 1024 * (μ 107 0 1 - 1))) u1 u2 u3 u4 hn (by rw [zmu0 (by decide)]; exact hn2) (by omega) (by rw [mu_g (by decide)]; omega) (by rw [mu_g (by decide)]; omega) (by rw [mu_g (by decide)]; omega) (fun p h1 h2 => by
          by_cases hp : p = k
          · rw [hp, mu_at]
            omega
          · rw [mu_j hp]
            exact hx p h1 h2) (fun z => by omega) (fun _ => by rw [mu_g (by decide)]; omega)
      have e1 : mu μ 109 0 k (μ 109 0 k % 1024 + 1024 * (μ 107 0 1 - 1)) 107 = μ 107 := mu_g (by decide)
      rw [e1] at ih
      rw [if_neg q1]
      simp (disch := first | omega | (simp (disch := decide) only [zmu0, mu_g, List.length_nil, List.length_cons]; omega)) only [g100_0, g100_2, g100_4, g100_6, g100_8, g100_10, g100_12, g100_13, g100_14, g100_15, g100_16, g100_17, g100_19, g100_21, g100_24, g100_25, g100_27, g100_29, g100_31, g100_33, g100_34, g100_36, g100_38, g100_40, g100_41, g100_42, g100_43, g100_46, g100_48, g100_49, g100_50, g100_51, g100_53, g100_56, g100_59, g100_61, g100_64, g100_65, g100_66, g100_67, g100_69, g100_71, g100_72, g100_74, g100_75, g100_78, g100_79, g100_82, g100_83, g100_85, g100_86, g100_88, g100_89, g100_91, g100_93, g100_94, g100_95, g100_96, g100_97, g100_98, g100_101, g100_102, g100_105, g100_106, g100_108, g100_111, g100_114, g100_115, g100_116, g100_118, g100_121, g100_124, g100_126, g100_129, g100_130, g100_131, g100_132, g100_134, g100_135, g100_136, g100_139, g100_142, g100_143, g100_145, g100_146, g100_147, g100_150, g100_153, g100_155, g100_158, g100_159, g100_160, g100_162, g100_164, g100_165, g100_166, g100_167, g100_168, g100_169, g100_172, g100_173, g100_176, g100_178, g100_180, g100_181, g100_183, g100_184, g100_186, g100_188, g100_189, g100_190, g100_191, g100_192, g100_194, g100_196, g100_198, g100_201, g100_203, g100_204, g100_206, g100_207, g100_210, g100_212, g100_214, g100_216, g100_217, g100_220, g100_222, g100_224, g100_226, g100_227, g100_229, g100_231, g100_233, g100_234, g100_235, g100_236, g100_239, g100_242, g100_245, g100_248, g100_249, g100_250, g100_251, g100_252, g100_253, g100_254, g100_256, g100_257, g100_258, g100_259, g100_260, g100_262, g100_263, g100_267, g100_268, g100_269, g100_270, g100_273, g100_274, g100_275, g100_276, g100_277, g100_279, g100_281, g100_284, g100_285, g100_288, g100_289, g100_290, g100_291, g100_293, g100_295, g100_298, g100_300, g100_302, g100_303, g100_306, g100_308, g100_310, g100_311, g100_313, g100_314, g100_316, g100_317, g100_320, g100_321, g100_324, g100_325, g100_326, g100_327, g100_328, g100_329, g100_330, g100_331, g100_332, g100_335, g100_338, g100_339, g100_340, g100_341, g100_342, g100_343, g100_346, g100_347, g100_350, g100_351, g100_352, g100_353, g100_354, rd107, wr107, rd109, wr109, rd114, wr114, Nat.sub_zero, Int.reduceSub, Int.reduceAdd, Int.add_zero, Int.zero_add, Int.cast_ofNat_Int, Bool.false_eq_true, decide_true, decide_false, zbndI, zbwI, zbzI, zb1I, zoA_at, gback_v, gback_n, zem, zisr, zro_at, zrl_at, mu_g, mu_at, mu_mu, mu_self, not_true, not_false_iff, zb0, zb1, zbnd, zbw, zbz, zne1, zone, mrgI, List.length_nil, List.length_cons, Nat.reduceAdd, Nat.reduceSub, Nat.reduceLeDiff, Nat.zero_le, and_true, true_and, false_and, and_false, true_or, or_true, false_or, or_false, G_ite, z10, z1n, z1and, z1or, z0not, z0and, itn, if_true, if_false, reduceIte, Int.reduceEq, Int.reduceLT, Int.reduceNeg, Nat.reduceEqDiff, ite_self, q, q1]
      exact ih _ _ _ _
theorem ptB_g {q : Nat} (h0 : q ≠ 0) (h1 : q ≠ 113) (h2 : q ≠ 114) : ptB s μ q = μ q := by
  unfold ptB
  rw [lbN_g h1 h2, mPt_g h0 h1 h2]
theorem ptB_0 : ptB s μ 0 = mPt (μ 0 0 113) μ 0 := by
  unfold ptB
  rw [lbN_g (by decide) (by decide)]
theorem c100 (hP : lnP μ) (hE : lnE μ) (hs : 0 ≤ s ∧ s ≤ 15) (hH : 3 ≤ μ 106 0 11 ∧ μ 106 0 11 ≤ 12) (h0 : 0 ≤ μ 0 0 113) (q : Q (.inl none) (HM (ptS s μ))) : G 100 0 [zR 106 0, zR 107 0, zR 108 0, zR 109 0, zI s, u1, u2, u3, u4, u5, u6, u7, u8] [] (HM μ) 2 82 Q := by
  have hL := hP.2
  simp only [g100_0]
  rw [g100_2]
  refine ⟨⟨⟨by decide, by decide⟩, by decide, by decide⟩, 113, μ 0 0 113, by decide, no113 (by omega), ?_⟩
  simp only [g100_4, g100_6]
  rw [g100_8]
  refine ⟨⟨⟨by decide, by decide⟩, by decide, by decide⟩, 114, μ 0 0 113, by decide, ?_, ?_⟩
  · rw [zset_k (by decide)]
    exact no114 (by omega)
  have e0 : zset (zset (HM μ) 113 (μ 0 0 113) (.inr (.int, (41 : Int).toNat, fun _ => zI 0))) 114 (μ 0 0 113) (.inr (.int, (41 : Int).toNat, fun _ => zI 0)) = HM (mPt (μ 0 0 113) μ) := HM_pt rfl h0
  rw [e0]
  have e7 : mPt (μ 0 0 113) μ 107 = μ 107 := mPt_g (by decide) (by decide) (by decide)
  have e6 : mPt (μ 0 0 113) μ 106 = μ 106 := mPt_g (by decide) (by decide) (by decide)
  have e8 : mPt (μ 0 0 113) μ 108 = μ 108 := mPt_g (by decide) (by decide) (by decide)
  have e9 : mPt (μ 0 0 113) μ 109 = μ 109 := mPt_g (by decide) (by decide) (by decide)
  have ec : mPt (μ 0 0 113) μ 0 0 113 = μ 0 0 113 + 1 := mPt_c
  have hk := fun (ck sk : Nat) (u4 u5 u6 u7 u8 : ZV) => c100_k (ck := ck) (sk := sk) (Q := Q) hs h0 (μ 107 0 0).toNat (mPt (μ 0 0 113) μ) u4 u5 u6 u7 u8 (lnP_of e7 e8 e9 hP) (by rw [e6]; exact hH) (by rw [ec]; omega) (by rw [e7]; omega) (fun e h1 h2 => by rw [e7] at h2; omega)
  have eB : lbN (μ 0 0 113) s (μ 107 0 0).toNat (mPt (μ 0 0 113) μ) = ptB s μ := rfl
  rw [eB] at hk
  have em : (((μ 107 0 0).toNat : Nat) : Int) + (-1) = μ 107 0 0 - 1 := by omega
  rw [em] at hk
  simp (disch := first | omega | (simp (disch := decide) only [zmu0, mu_g, List.length_nil, List.length_cons]; omega)) only [g100_10, g100_12, g100_13, g100_14, g100_15, g100_16, g100_17, rd107, wr107, Nat.sub_zero, Int.reduceSub, Int.reduceAdd, Int.add_zero, Int.zero_add, Int.cast_ofNat_Int, Bool.false_eq_true, decide_true, decide_false, zbndI, zbwI, zbzI, zb1I, zoA_at, gback_v, gback_n, zem, zisr, zro_at, zrl_at, mu_g, mu_at, mu_mu, mu_self, not_true, not_false_iff, zb0, zb1, zbnd, zbw, zbz, zne1, zone, mrgI, List.length_nil, List.length_cons, Nat.reduceAdd, Nat.reduceSub, Nat.reduceLeDiff, Nat.zero_le, and_true, true_and, false_and, and_false, true_or, or_true, false_or, or_false, G_ite, z10, z1n, z1and, z1or, z0not, z0and, itn, if_true, if_false, reduceIte, Int.reduceEq, Int.reduceLT, Int.reduceNeg, Nat.reduceEqDiff, ite_self, e7]
  obtain ⟨v1, v2, v3, v4, v5, hk⟩ := hk (2 - 1 - 1) (82 - (41 : Int).toNat - (41 : Int).toNat) u4 u5 u6 u7 u8
  refine hk.mpr ?_
  have b0 : ptB s μ 0 0 113 = μ 0 0 113 + 1 := by rw [ptB_0, ec]
  have b7 : ptB s μ 107 = μ 107 := ptB_g (by decide) (by decide) (by decide)
  have b9 : ptB s μ 109 = μ 109 := ptB_g (by decide) (by decide) (by decide)
  have en := fun (ck sk : Nat) (u1 u2 u3 u4 : ZV) => c100_n (ck := ck) (sk := sk) (Q := Q) (s := s) (n := μ 0 0 113) (μ 107 0 0).toNat 0 0 (mu (mu (ptB s μ) 107 0 1 0) 107 0 3 (ptB s μ 113 (μ 0 0 113) 0)) u1 u2 u3 u4 h0 (by rw [zmu0 (by decide), zmu0 (by decide), b0]; omega) (by omega) (by rw [mu_j (by decide), mu_j (by decide), b7]; omega) (by rw [mu_j (by decide), mu_j (by decide), b7]; omega) (by rw [mu_j (by decide), mu_at]; omega) (fun p h1 h2 => by rw [mu_g (by decide), mu_g (by decide), b9]; exact (hE p h1 h2).2) (fun _ => rfl) (fun z => by omega)
  have d0 : mu (mu (ptB s μ) 107 0 1 0) 107 0 3 (ptB s μ 113 (μ 0 0 113) 0) 107 0 0 = μ 107 0 0 := by rw [mu_j (by decide), mu_j (by decide), b7]
  rw [d0, mu_at] at en
  simp (disch := first | omega | (simp (disch := decide) only [zmu0, mu_g, List.length_nil, List.length_cons]; omega)) only [g100_248, g100_249, g100_250, g100_251, g100_252, g100_253, g100_254, g100_256, g100_257, g100_258, g100_259, g100_260, g100_262, g100_263, rd107, wr107, rd113, wr113, Nat.sub_zero, Int.reduceSub, Int.reduceAdd, Int.add_zero, Int.zero_add, Int.cast_ofNat_Int, Bool.false_eq_true, decide_true, decide_false, zbndI, zbwI, zbzI, zb1I, zoA_at, gback_v, gback_n, zem, zisr, zro_at, zrl_at, mu_g, mu_at, mu_mu, mu_self, not_true, not_false_iff, zb0, zb1, zbnd, zbw, zbz, zne1, zone, mrgI, List.length_nil, List.length_cons, Nat.reduceAdd, Nat.reduceSub, Nat.reduceLeDiff, Nat.zero_le, and_true, true_and, false_and, and_false, true_or, or_true, false_or, or_false, G_ite, z10, z1n, z1and, z1or, z0not, z0and, itn, if_true, if_false, reduceIte, Int.reduceEq, Int.reduceLT, Int.reduceNeg, Nat.reduceEqDiff, ite_self, b0]
  refine (en _ _ _ _ _ _).mpr ?_
  exact q
end ZQD
