/-! ===== the law: include, paragraph, reference ===== -/
def mPa (s : Int) (μ : ZU) : ZU := mu (mu (mu (mu (mu (mu μ 105 0 (μ 106 0 3) (s + 4 * μ 106 0 2)) 106 0 3 (μ 106 0 3 + 1)) 106 0 4 (μ 106 0 4 + 1)) 32 0 (μ 30 0 8) s) 30 0 8 (μ 30 0 8 + 1)) 30 0 10 (μ 30 0 10 + 1)
/-- a word more: w in the law's row, y and x in the class's -/
def mWd (w y x : Int) (μ : ZU) : ZU := mad (mu (mu (mu μ 104 0 (μ 106 0 2) w) 106 0 2 (μ 106 0 2 + 1)) 106 0 4 (μ 106 0 4 + 1)) 0 y x
section ZPI
variable {ck sk : Nat} {Q : ZO → ZH → Prop} {μ ν κ β : ZU} {a b c d e f g h i j k l m p r s t t' v w x y z L H M R : Int} {u u1 u2 u3 u4 u5 u6 : ZV}
theorem zbitv (h : 5 ≤ f ∧ f ≤ 9) : zand (zshr x f) 1 = if ¬ zand x (zshl 1 f) = 0 then 1 else 0 := by
  have h1 := zinc (x := x) h
  have h2 : zand (zshr x f) 1 = zshr x f % 2 := zand_1
  by_cases q : zand x (zshl 1 f) = 0
  · rw [if_neg (fun z => z q)]
    have : ¬ zand (zshr x f) 1 = 1 := fun z => h1.mp z q
    omega
  · rw [if_pos q]
    exact h1.mpr q
theorem c110_1 (h : RW μ t) (ht : t + 1 ≤ 100) (ha : 0 ≤ a) (hb : 0 ≤ b) (hK : ∀ ν, RW ν (t + 1) → Q (.inl (some (zI 1))) (HM ν)) : G 110 0 [zR 2 0, zR 104 0, zR 105 0, zR 106 0, zI 1, zI a, zI b, u1, u2, u3, u4, u5] [] (HM μ) 20 500 Q := by
  obtain ⟨d1, d2, d3, d4, -⟩ := id h.2.2.2.2.1
  have a3 := h.2.1.2.2.1
  have h0 := h.1
  have hsb := zshl_b (t := 5 + a % 6)
  by_cases hi : 5 + a % 6 < 10
  · have hsb := hsb (by omega) (by omega)
    have hv := zbitv (x := μ 106 0 5) (f := 5 + a % 6) (by omega)
    have hW : zand (zshr (μ 106 0 5) (5 + a % 6)) 1 = 0 ∨ zand (zshr (μ 106 0 5) (5 + a % 6)) 1 = 1 := by
      rw [hv]
      split
      · exact Or.inr rfl
      · exact Or.inl rfl
    have key : ∀ (cc x : Int), (cc = 0 ∨ cc = 1) → x = (if cc = 0 then zand (μ 106 0 5) (zxor (zshl 1 (5 + a % 6)) (-1)) else zor (μ 106 0 5) (zshl 1 (5 + a % 6))) → ∀ (Q : ZO → ZH → Prop) (u u' u'' : ZV), G 55 0 [zR 2 0, zI 0, zI (5 + a % 6), zI cc, u, u', u''] [] (HM (mu (mu μ 106 0 5 x) 106 0 4 (μ 106 0 4 + 1))) 2 12 Q ↔ Q (.inl (some (zI (zand (zshr (μ 106 0 5) (5 + a % 6)) 1)))) (HM (mIn x μ)) := fun cc x hc hx Q u u' u'' => by
      have e7 : mu (mu μ 106 0 5 x) 106 0 4 (μ 106 0 4 + 1) 30 = μ 30 := by simp (disch := decide) only [mu_g]
      rw [c55 (by simp (disch := decide) only [mu_g]; omega) hc (fun _ _ => by rw [e7]; omega), if_pos (by simp (disch := decide) only [mu_g]; omega), if_pos ⟨by omega, by omega⟩, e7, d1.2.2.2.1, ← hx, hv]
      rfl
    by_cases hc : 0 < b % 3
    · have ho := zor_b d3.1 d3.2 hsb.1 hsb.2
      have hr := RW_in h ht ho
      have e55 := key 1 (zor (μ 106 0 5) (zshl 1 (5 + a % 6))) (Or.inr rfl) rfl
      rcases hW with hW | hW
      · rw [hW] at e55
        simp (disch := first | omega | (simp (disch := decide) only [zmu0, mu_g, List.length_nil, List.length_cons]; omega)) only [g110_0, g110_2, g110_124, g110_126, g110_127, g110_130, g110_131, g110_133, g110_135, g110_136, g110_137, g110_139, g110_141, g110_143, g110_146, g110_147, g110_150, g110_151, g110_153, g110_155, g110_156, g110_157, g110_160, g110_161, g110_164, g110_165, g110_167, g110_168, g110_169, g110_170, g110_172, g110_173, g110_174, g110_175, g110_177, g110_178, g110_179, g110_181, g110_184, g110_185, g110_186, g110_187, g110_190, g110_192, g110_195, g110_196, g110_197, g110_198, g110_199, g110_201, g110_202, g110_203, g110_206, g110_207, g110_208, g110_209, g110_210, g110_212, g110_213, g110_214, g110_215, g110_216, g110_217, g110_218, g110_219, g110_220, g110_221, g110_223, g110_226, g110_227, g110_230, g110_231, g110_232, g110_233, g110_234, g110_236, g110_237, g110_239, g110_241, g110_244, g110_245, g110_248, g110_249, g110_250, g110_253, g110_255, g110_258, g110_260, g110_263, g110_266, g110_269, g110_270, g110_273, g110_274, rd106, wr106, w92_9_0, w92_9_1, x92_9_0_0, x92_9_0_1, x92_9_0_2, x92_9_1_0, x92_9_1_1, x92_9_1_2, g92_181, g92_184, g92_185, g92_188, g92_189, g92_327, e55, Nat.sub_zero, Int.reduceSub, Int.reduceAdd, Int.add_zero, Int.zero_add, Int.cast_ofNat_Int, Bool.false_eq_true, decide_true, decide_false, zbndI, zbwI, zbzI, zb1I, zoA_at, gback_v, gback_n, zem, zisr, zro_at, zrl_at, mu_g, mu_at, mu_mu, mu_self, not_true, not_false_iff, zb0, zb1, zbnd, zbw, zbz, zne1, zone, mrgI, List.length_nil, List.length_cons, Nat.reduceAdd, Nat.reduceSub, Nat.reduceLeDiff, Nat.zero_le, and_true, true_and, false_and, and_false, true_or, or_true, false_or, or_false, G_ite, z10, z1n, z1and, z1or, z0not, z0and, itn, if_true, if_false, reduceIte, Int.reduceEq, Int.reduceLT, Int.reduceNeg, Nat.reduceEqDiff, ite_self, hi, hc, mu_j, eq_self, hW]
        exact hK _ hr
      · rw [hW] at e55
        simp (disch := first | omega | (simp (disch := decide) only [zmu0, mu_g, List.length_nil, List.length_cons]; omega)) only [g110_0, g110_2, g110_124, g110_126, g110_127, g110_130, g110_131, g110_133, g110_135, g110_136, g110_137, g110_139, g110_141, g110_143, g110_146, g110_147, g110_150, g110_151, g110_153, g110_155, g110_156, g110_157, g110_160, g110_161, g110_164, g110_165, g110_167, g110_168, g110_169, g110_170, g110_172, g110_173, g110_174, g110_175, g110_177, g110_178, g110_179, g110_181, g110_184, g110_185, g110_186, g110_187, g110_190, g110_192, g110_195, g110_196, g110_197, g110_198, g110_199, g110_201, g110_202, g110_203, g110_206, g110_207, g110_208, g110_209, g110_210, g110_212, g110_213, g110_214, g110_215, g110_216, g110_217, g110_218, g110_219, g110_220, g110_221, g110_223, g110_226, g110_227, g110_230, g110_231, g110_232, g110_233, g110_234, g110_236, g110_237, g110_239, g110_241, g110_244, g110_245, g110_248, g110_249, g110_250, g110_253, g110_255, g110_258, g110_260, g110_263, g110_266, g110_269, g110_270, g110_273, g110_274, rd106, wr106, w92_9_0, w92_9_1, x92_9_0_0, x92_9_0_1, x92_9_0_2, x92_9_1_0, x92_9_1_1, x92_9_1_2, g92_181, g92_184, g92_185, g92_188, g92_189, g92_327, e55, Nat.sub_zero, Int.reduceSub, Int.reduceAdd, Int.add_zero, Int.zero_add, Int.cast_ofNat_Int, Bool.false_eq_true, decide_true, decide_false, zbndI, zbwI, zbzI, zb1I, zoA_at, gback_v, gback_n, zem, zisr, zro_at, zrl_at, mu_g, mu_at, mu_mu, mu_self, not_true, not_false_iff, zb0, zb1, zbnd, zbw, zbz, zne1, zone, mrgI, List.length_nil, List.length_cons, Nat.reduceAdd, Nat.reduceSub, Nat.reduceLeDiff, Nat.zero_le, and_true, true_and, false_and, and_false, true_or, or_true, false_or, or_false, G_ite, z10, z1n, z1and, z1or, z0not, z0and, itn, if_true, if_false, reduceIte, Int.reduceEq, Int.reduceLT, Int.reduceNeg, Nat.reduceEqDiff, ite_self, hi, hc, mu_j, eq_self, hW]
        exact hK _ hr
    · have ho := zand_b (y := zxor (zshl 1 (5 + a % 6)) (-1)) d3.1 d3.2
      have hr := RW_in h ht ho
      have e55 := key 0 (zand (μ 106 0 5) (zxor (zshl 1 (5 + a % 6)) (-1))) (Or.inl rfl) rfl
      rcases hW with hW | hW
      · rw [hW] at e55
        simp (disch := first | omega | (simp (disch := decide) only [zmu0, mu_g, List.length_nil, List.length_cons]; omega)) only [g110_0, g110_2, g110_124, g110_126, g110_127, g110_130, g110_131, g110_133, g110_135, g110_136, g110_137, g110_139, g110_141, g110_143, g110_146, g110_147, g110_150, g110_151, g110_153, g110_155, g110_156, g110_157, g110_160, g110_161, g110_164, g110_165, g110_167, g110_168, g110_169, g110_170, g110_172, g110_173, g110_174, g110_175, g110_177, g110_178, g110_179, g110_181, g110_184, g110_185, g110_186, g110_187, g110_190, g110_192, g110_195, g110_196, g110_197, g110_198, g110_199, g110_201, g110_202, g110_203, g110_206, g110_207, g110_208, g110_209, g110_210, g110_212, g110_213, g110_214, g110_215, g110_216, g110_217, g110_218, g110_219, g110_220, g110_221, g110_223, g110_226, g110_227, g110_230, g110_231, g110_232, g110_233, g110_234, g110_236, g110_237, g110_239, g110_241, g110_244, g110_245, g110_248, g110_249, g110_250, g110_253, g110_255, g110_258, g110_260, g110_263, g110_266, g110_269, g110_270, g110_273, g110_274, rd106, wr106, w92_9_0, w92_9_1, x92_9_0_0, x92_9_0_1, x92_9_0_2, x92_9_1_0, x92_9_1_1, x92_9_1_2, g92_181, g92_184, g92_185, g92_188, g92_189, g92_327, e55, Nat.sub_zero, Int.reduceSub, Int.reduceAdd, Int.add_zero, Int.zero_add, Int.cast_ofNat_Int, Bool.false_eq_true, decide_true, decide_false, zbndI, zbwI, zbzI, zb1I, zoA_at, gback_v, gback_n, zem, zisr, zro_at, zrl_at, mu_g, mu_at, mu_mu, mu_self, not_true, not_false_iff, zb0, zb1, zbnd, zbw, zbz, zne1, zone, mrgI, List.length_nil, List.length_cons, Nat.reduceAdd, Nat.reduceSub, Nat.reduceLeDiff, Nat.zero_le, and_true, true_and, false_and, and_false, true_or, or_true, false_or, or_false, G_ite, z10, z1n, z1and, z1or, z0not, z0and, itn, if_true, if_false, reduceIte, Int.reduceEq, Int.reduceLT, Int.reduceNeg, Nat.reduceEqDiff, ite_self, hi, hc, mu_j, eq_self, hW]
        exact hK _ hr
      · rw [hW] at e55
        simp (disch := first | omega | (simp (disch := decide) only [zmu0, mu_g, List.length_nil, List.length_cons]; omega)) only [g110_0, g110_2, g110_124, g110_126, g110_127, g110_130, g110_131, g110_133, g110_135, g110_136, g110_137, g110_139, g110_141, g110_143, g110_146, g110_147, g110_150, g110_151, g110_153, g110_155, g110_156, g110_157, g110_160, g110_161, g110_164, g110_165, g110_167, g110_168, g110_169, g110_170, g110_172, g110_173, g110_174, g110_175, g110_177, g110_178, g110_179, g110_181, g110_184, g110_185, g110_186, g110_187, g110_190, g110_192, g110_195, g110_196, g110_197, g110_198, g110_199, g110_201, g110_202, g110_203, g110_206, g110_207, g110_208, g110_209, g110_210, g110_212, g110_213, g110_214, g110_215, g110_216, g110_217, g110_218, g110_219, g110_220, g110_221, g110_223, g110_226, g110_227, g110_230, g110_231, g110_232, g110_233, g110_234, g110_236, g110_237, g110_239, g110_241, g110_244, g110_245, g110_248, g110_249, g110_250, g110_253, g110_255, g110_258, g110_260, g110_263, g110_266, g110_269, g110_270, g110_273, g110_274, rd106, wr106, w92_9_0, w92_9_1, x92_9_0_0, x92_9_0_1, x92_9_0_2, x92_9_1_0, x92_9_1_1, x92_9_1_2, g92_181, g92_184, g92_185, g92_188, g92_189, g92_327, e55, Nat.sub_zero, Int.reduceSub, Int.reduceAdd, Int.add_zero, Int.zero_add, Int.cast_ofNat_Int, Bool.false_eq_true, decide_true, decide_false, zbndI, zbwI, zbzI, zb1I, zoA_at, gback_v, gback_n, zem, zisr, zro_at, zrl_at, mu_g, mu_at, mu_mu, mu_self, not_true, not_false_iff, zb0, zb1, zbnd, zbw, zbz, zne1, zone, mrgI, List.length_nil, List.length_cons, Nat.reduceAdd, Nat.reduceSub, Nat.reduceLeDiff, Nat.zero_le, and_true, true_and, false_and, and_false, true_or, or_true, false_or, or_false, G_ite, z10, z1n, z1and, z1or, z0not, z0and, itn, if_true, if_false, reduceIte, Int.reduceEq, Int.reduceLT, Int.reduceNeg, Nat.reduceEqDiff, ite_self, hi, hc, mu_j, eq_self, hW]
        exact hK _ hr
  · have hr := RW_up h ht
    have key : ∀ (cc : Int), (cc = 0 ∨ cc = 1) → ∀ (Q : ZO → ZH → Prop) (u u' u'' : ZV), G 55 0 [zR 2 0, zI 0, zI (5 + a % 6), zI cc, u, u', u''] [] (HM μ) 2 12 Q ↔ Q (.inr 0) (HM μ) := fun cc hc Q u u' u'' => by
      rw [c55 (by omega) hc (fun _ _ => by omega), if_pos (by omega), if_neg (by omega)]
    by_cases hc : 0 < b % 3
    · have e55 := key 1 (Or.inr rfl)
      simp (disch := first | omega | (simp (disch := decide) only [zmu0, mu_g, List.length_nil, List.length_cons]; omega)) only [g110_0, g110_2, g110_124, g110_126, g110_127, g110_130, g110_131, g110_133, g110_135, g110_136, g110_137, g110_139, g110_141, g110_143, g110_146, g110_147, g110_150, g110_151, g110_153, g110_155, g110_156, g110_157, g110_160, g110_161, g110_164, g110_165, g110_167, g110_168, g110_169, g110_170, g110_172, g110_173, g110_174, g110_175, g110_177, g110_178, g110_179, g110_181, g110_184, g110_185, g110_186, g110_187, g110_190, g110_192, g110_195, g110_196, g110_197, g110_198, g110_199, g110_201, g110_202, g110_203, g110_206, g110_207, g110_208, g110_209, g110_210, g110_212, g110_213, g110_214, g110_215, g110_216, g110_217, g110_218, g110_219, g110_220, g110_221, g110_223, g110_226, g110_227, g110_230, g110_231, g110_232, g110_233, g110_234, g110_236, g110_237, g110_239, g110_241, g110_244, g110_245, g110_248, g110_249, g110_250, g110_253, g110_255, g110_258, g110_260, g110_263, g110_266, g110_269, g110_270, g110_273, g110_274, rd106, wr106, w92_9_0, w92_9_1, x92_9_0_0, x92_9_0_1, x92_9_0_2, x92_9_1_0, x92_9_1_1, x92_9_1_2, g92_181, g92_184, g92_185, g92_188, g92_189, g92_327, e55, Nat.sub_zero, Int.reduceSub, Int.reduceAdd, Int.add_zero, Int.zero_add, Int.cast_ofNat_Int, Bool.false_eq_true, decide_true, decide_false, zbndI, zbwI, zbzI, zb1I, zoA_at, gback_v, gback_n, zem, zisr, zro_at, zrl_at, mu_g, mu_at, mu_mu, mu_self, not_true, not_false_iff, zb0, zb1, zbnd, zbw, zbz, zne1, zone, mrgI, List.length_nil, List.length_cons, Nat.reduceAdd, Nat.reduceSub, Nat.reduceLeDiff, Nat.zero_le, and_true, true_and, false_and, and_false, true_or, or_true, false_or, or_false, G_ite, z10, z1n, z1and, z1or, z0not, z0and, itn, if_true, if_false, reduceIte, Int.reduceEq, Int.reduceLT, Int.reduceNeg, Nat.reduceEqDiff, ite_self, hi, hc, mu_j, eq_self]
      exact hK _ hr
    · have e55 := key 0 (Or.inl rfl)
      simp (disch := first | omega | (simp (disch := decide) only [zmu0, mu_g, List.length_nil, List.length_cons]; omega)) only [g110_0, g110_2, g110_124, g110_126, g110_127, g110_130, g110_131, g110_133, g110_135, g110_136, g110_137, g110_139, g110_141, g110_143, g110_146, g110_147, g110_150, g110_151, g110_153, g110_155, g110_156, g110_157, g110_160, g110_161, g110_164, g110_165, g110_167, g110_168, g110_169, g110_170, g110_172, g110_173, g110_174, g110_175, g110_177, g110_178, g110_179, g110_181, g110_184, g110_185, g110_186, g110_187, g110_190, g110_192, g110_195, g110_196, g110_197, g110_198, g110_199, g110_201, g110_202, g110_203, g110_206, g110_207, g110_208, g110_209, g110_210, g110_212, g110_213, g110_214, g110_215, g110_216, g110_217, g110_218, g110_219, g110_220, g110_221, g110_223, g110_226, g110_227, g110_230, g110_231, g110_232, g110_233, g110_234, g110_236, g110_237, g110_239, g110_241, g110_244, g110_245, g110_248, g110_249, g110_250, g110_253, g110_255, g110_258, g110_260, g110_263, g110_266, g110_269, g110_270, g110_273, g110_274, rd106, wr106, w92_9_0, w92_9_1, x92_9_0_0, x92_9_0_1, x92_9_0_2, x92_9_1_0, x92_9_1_1, x92_9_1_2, g92_181, g92_184, g92_185, g92_188, g92_189, g92_327, e55, Nat.sub_zero, Int.reduceSub, Int.reduceAdd, Int.add_zero, Int.zero_add, Int.cast_ofNat_Int, Bool.false_eq_true, decide_true, decide_false, zbndI, zbwI, zbzI, zb1I, zoA_at, gback_v, gback_n, zem, zisr, zro_at, zrl_at, mu_g, mu_at, mu_mu, mu_self, not_true, not_false_iff, zb0, zb1, zbnd, zbw, zbz, zne1, zone, mrgI, List.length_nil, List.length_cons, Nat.reduceAdd, Nat.reduceSub, Nat.reduceLeDiff, Nat.zero_le, and_true, true_and, false_and, and_false, true_or, or_true, false_or, or_false, G_ite, z10, z1n, z1and, z1or, z0not, z0and, itn, if_true, if_false, reduceIte, Int.reduceEq, Int.reduceLT, Int.reduceNeg, Nat.reduceEqDiff, ite_self, hi, hc, mu_j, eq_self]
      exact hK _ hr
theorem lph_lo : ∀ (n : Nat) (j s : Int), (∀ q, j ≤ q → q < j + n → ν 105 0 q = μ 105 0 q) → lph ν k n j s = lph μ k n j s
  | 0, _, _, _ => rfl
  | n + 1, j, s, h => by
    unfold lph
    rw [h j (by omega) (by omega)]
    exact lph_lo n _ _ fun q a b => h q (by omega) (by omega)
theorem lph_last : ∀ (n : Nat) (j s : Int), lph μ k (n + 1) j s = if μ 105 0 (j + n) / 4 ≤ k then j + n else lph μ k n j s
  | 0, j, s => by
    have e : j + ((0 : Nat) : Int) = j := by omega
    rw [e]
    rfl
  | n + 1, j, s => by
    have e : j + ((n + 1 : Nat) : Int) = j + 1 + n := by omega
    show lph μ k (n + 1) (j + 1) (if μ 105 0 j / 4 ≤ k then j else s) = _
    rw [lph_last n, e]
    rfl
theorem RW_105 (h : RW μ t) (ht : t + 1 ≤ 100) (hv : 0 ≤ v ∧ v < 1000) : RW (mu μ 105 0 (μ 106 0 3) v) (t + 1) := by
  obtain ⟨r0, ra, rb, rc, rd, re, rf, rg, rh⟩ := id h
  obtain ⟨d1, d2, d3, d4, d5, d6, d7, d8⟩ := id rd
  obtain ⟨l1, l2, l3, l4, l5, l6, l7⟩ := id d5
  have ng : ∀ q, q ≠ 105 → mu μ 105 0 (μ 106 0 3) v q = μ q := fun q hq => mu_g hq
  have hh : ∀ k, lhome (mu μ 105 0 (μ 106 0 3) v) k = lhome μ k := fun k => by
    unfold lhome
    rw [ng 106 (by decide)]
    exact lph_lo _ _ _ fun q a b => mu_j (by omega)
  have hf : ∀ i, lfv (mu μ 105 0 (μ 106 0 3) v) i = lfv μ i := fun i => lfv_mu (by decide) (by decide)
  refine ⟨by rw [ng 0 (by decide)]; omega, ?_, RWb_of (by rw [ng 0 (by decide)]) (ng _ (by decide)) (ng _ (by decide)) (ng _ (by decide)) (ng _ (by decide)) (ng _ (by decide)) (ng _ (by decide)) rb, RWc_of (ng _ (by decide)) (ng _ (by decide)) (ng _ (by decide)) (ng _ (by decide)) (ng _ (by decide)) (ng _ (by decide)) (ng _ (by decide)) (ng _ (by decide)) (ng _ (by decide)) (by omega) rc, ?_, RWe_of (ng _ (by decide)) (fun j _ _ => by rw [ng 106 (by decide)]) (by omega) re, RWf_of (by rw [ng 0 (by decide)]) (by rw [ng 0 (by decide)]) (by rw [ng 0 (by decide)]; omega) (ng _ (by decide)) rf, ?_, lnE_of (ng _ (by decide)) (ng _ (by decide)) rh⟩
  · unfold RWa
    rw [ng 0 (by decide), ng 2 (by decide), ng 106 (by decide)]
    exact ra
  · unfold RWd ldB RWw
    simp only [hh, ng 30 (by decide), ng 31 (by decide), ng 32 (by decide), ng 33 (by decide), ng 34 (by decide), ng 35 (by decide), ng 104 (by decide), ng 106 (by decide)]
    refine ⟨d1, by omega, d3, d4, ⟨l1, l2, l3, l4, l5, fun j j0 j1 => ?_, l7⟩, fun j j0 j1 => ?_, d7, d8⟩
    · by_cases q : j = μ 106 0 3
      · rw [q, mu_at]
        exact hv
      · rw [mu_j q]
        exact l6 j j0 j1
    · rw [mu_j (by omega)]
      exact d6 j j0 j1
  · exact RWg_of (by rw [ng 0 (by decide)]) (by rw [ng 0 (by decide)]; omega) (ng _ (by decide)) (fun b _ _ k k0 k1 => by rw [ng k (by omega)]) (ng _ (by decide)) (ng _ (by decide)) (fun i _ _ => hf i) (by rw [ng 30 (by decide)]; omega) (fun _ i _ _ => sfi_of (ng _ (by decide)) (ng _ (by decide)) (ng _ (by decide)) (ng _ (by decide)) (ng _ (by decide)) (ng _ (by decide)) (by rw [ng 22 (by decide)]) (by rw [ng 23 (by decide)]) (by rw [ng 24 (by decide)])) rg
theorem RW_pa (h : RW μ t) (ht : t + 1 ≤ 100) (hs : 0 ≤ s ∧ s < 4) (h10 : μ 106 0 3 < 10) : RW (mPa s μ) (t + 1) := by
  obtain ⟨d1, d2, d3, d4, d5, d6, d7, d8⟩ := id h.2.2.2.2.1
  obtain ⟨l1, l2, l3, l4, l5, l6, l7⟩ := id d5
  have n30 : ∀ j, j ≠ 10 → j ≠ 8 → mPa s μ 30 0 j = μ 30 0 j := fun j hj h2 => by
    unfold mPa
    simp (disch := first | decide | assumption) only [mu_g, mu_j]
  have n38 : mPa s μ 30 0 8 = μ 30 0 8 + 1 := by
    unfold mPa
    rw [mu_j (by decide), mu_at]
  have nv : mPa s μ 30 0 10 = μ 30 0 10 + 1 := by
    unfold mPa
    rw [mu_at]
  have n32 : ∀ j, mPa s μ 32 0 j = if j = μ 106 0 3 then s else μ 32 0 j := fun j => by
    unfold mPa
    rw [mu_g (by decide), mu_g (by decide), d1.2.2.2.2.1]
    by_cases q : j = μ 106 0 3
    · rw [q, mu_at, if_pos rfl]
    · rw [mu_j q, if_neg q]
      simp (disch := decide) only [mu_g]
  have n6 : ∀ j, j ≠ 4 → j ≠ 3 → mPa s μ 106 0 j = μ 106 0 j := fun j h1 h2 => by
    unfold mPa
    simp (disch := first | decide | assumption) only [mu_g, mu_j]
  have n64 : mPa s μ 106 0 4 = μ 106 0 4 + 1 := by
    unfold mPa
    simp (disch := decide) only [mu_g, mu_at]
  have n63 : mPa s μ 106 0 3 = μ 106 0 3 + 1 := by
    unfold mPa
    simp (disch := decide) only [mu_g, mu_j, mu_at]
  have n5 : ∀ j, mPa s μ 105 0 j = if j = μ 106 0 3 then s + 4 * μ 106 0 2 else μ 105 0 j := fun j => by
    unfold mPa
    simp (disch := decide) only [mu_g]
    by_cases q : j = μ 106 0 3
    · rw [q, mu_at, if_pos rfl]
    · rw [mu_j q, if_neg q]
  have ng : ∀ q, q ≠ 30 → q ≠ 32 → q ≠ 105 → q ≠ 106 → mPa s μ q = μ q := fun q h1 h2 h3 h4 => by
    unfold mPa
    rw [mu_g h1, mu_g h1, mu_g h2, mu_g h4, mu_g h4, mu_g h3]
  refine RW_doc h ht (fun q h1 h2 h3 h4 => ng q (by omega) (by omega) h3 h4) (fun j hj => n6 j (by omega) (by omega)) (by omega) ?_
  have e2 := n6 2 (by decide) (by decide)
  have e5 := n6 5 (by decide) (by decide)
  have e10 := n6 10 (by decide) (by decide)
  have e11 := n6 11 (by decide) (by decide)
  have hh : ∀ k, k < μ 106 0 2 → lhome (mPa s μ) k = lhome μ k := fun k hk => by
    unfold lhome
    have ez : (0 : Int) + ((μ 106 0 3).toNat : Int) = μ 106 0 3 := by omega
    rw [n63, show (μ 106 0 3 + 1).toNat = (μ 106 0 3).toNat + 1 by omega, lph_last, n5, ez, if_pos rfl, if_neg (by omega)]
    exact lph_lo _ _ _ fun q a b => by rw [n5, if_neg (by omega)]
  refine ⟨?_, by rw [n64]; omega, by rw [e5]; exact d3, fun s' s0 s1 => ?_, ⟨by rw [e2]; exact l1, by rw [n63]; omega, by rw [e10]; exact l3, by rw [e11]; exact l4, fun s' s0 s1 => ?_, fun j j0 j1 => ?_, by rw [ng 104 (by decide) (by decide) (by decide) (by decide)]; exact l7⟩, fun j j0 j1 => ?_, by rw [e2, n63]; omega, fun k k0 k1 => ?_⟩
  · rw [n30 0 (by decide) (by decide), n30 1 (by decide) (by decide), n30 9 (by decide) (by decide), n30 7 (by decide) (by decide), n38, nv, n64, n63, e2, e5, e10, e11]
    omega
  · rw [ng 31 (by decide) (by decide) (by decide) (by decide), n6 _ (by omega) (by omega)]
    exact d4 s' s0 s1
  · rw [n6 _ (by omega) (by omega)]
    exact l5 s' s0 s1
  · rw [n5]
    split
    · omega
    · exact l6 j j0 j1
  · rw [n63] at j1
    rw [n32, n5, e2]
    by_cases q : j = μ 106 0 3
    · rw [if_pos q, if_pos q]
      omega
    · rw [if_neg q, if_neg q]
      exact d6 j j0 (by omega)
  · rw [e2] at k1
    obtain ⟨q1, q2, q3⟩ := d8 k k0 k1
    unfold RWw
    rw [hh k k1, n63, ng 33 (by decide) (by decide) (by decide) (by decide), ng 104 (by decide) (by decide) (by decide) (by decide), ng 35 (by decide) (by decide) (by decide) (by decide), ng 34 (by decide) (by decide) (by decide) (by decide)]
    refine ⟨q1, by omega, ?_⟩
    rcases q3 with ⟨z1, z2, z3, z4⟩ | z
    · exact Or.inl ⟨z1, z2, z3, by omega⟩
    · exact Or.inr z
theorem lph_all : ∀ (n : Nat), (∀ q, 0 ≤ q → q < (n : Int) + 1 → μ 105 0 q / 4 ≤ k) → lph μ k (n + 1) 0 0 = n := fun n h => by
  rw [lph_last, if_pos (h _ (by omega) (by omega))]
  omega
theorem RW_wd (h : RW μ t) (ht : t + 1 ≤ 100) (h40 : μ 106 0 2 < 40) (h3 : 0 < μ 106 0 3) (hw : (w < 0 ∧ x = -1 - w ∧ y = 0 ∧ x < μ 106 0 3) ∨ (0 < w ∧ x = -1 ∧ y = w)) (hw2 : -11 ≤ w ∧ w < 9223372036854775808 ∧ (0 < w → ∀ j, 0 ≤ j → j < 8 → lcd w j ≤ 26)) : RW (mWd w y x μ) (t + 1) := by
  obtain ⟨d1, d2, d3, d4, d5, d6, d7, d8⟩ := id h.2.2.2.2.1
  obtain ⟨l1, l2, l3, l4, l5, l6, l7⟩ := id d5
  have n30 : ∀ j, j ≠ 10 → j ≠ 9 → mWd w y x μ 30 0 j = μ 30 0 j := fun j hj h2 => by
    unfold mWd mad
    simp (disch := first | decide | assumption) only [mu_g, mu_j]
  have n39 : mWd w y x μ 30 0 9 = μ 30 0 9 + 1 := by
    unfold mWd mad
    rw [mu_j (by decide), mu_at]
    simp (disch := decide) only [mu_g]
  have nv : mWd w y x μ 30 0 10 = μ 30 0 10 + 1 := by
    unfold mWd mad
    rw [mu_at]
    simp (disch := decide) only [mu_g]
  have n33 : ∀ j, mWd w y x μ 33 0 j = if j = μ 106 0 2 then μ 106 0 3 - 1 else μ 33 0 j := fun j => by
    unfold mWd mad
    simp (disch := decide) only [mu_g]
    rw [d1.2.2.1, d1.2.2.2.2.1]
    by_cases q : j = μ 106 0 2
    · rw [q, mu_at, if_pos rfl]
    · rw [mu_j q, if_neg q]
      simp (disch := decide) only [mu_g]
  have n34 : ∀ j, mWd w y x μ 34 0 j = if j = μ 106 0 2 then y else μ 34 0 j := fun j => by
    unfold mWd mad
    simp (disch := decide) only [mu_g]
    rw [d1.2.2.1]
    by_cases q : j = μ 106 0 2
    · rw [q, mu_at, if_pos rfl]
    · rw [mu_j q, if_neg q]
      simp (disch := decide) only [mu_g]
  have n35 : ∀ j, mWd w y x μ 35 0 j = if j = μ 106 0 2 then x else μ 35 0 j := fun j => by
    unfold mWd mad
    simp (disch := decide) only [mu_g]
    rw [d1.2.2.1]
    by_cases q : j = μ 106 0 2
    · rw [q, mu_at, if_pos rfl]
    · rw [mu_j q, if_neg q]
      simp (disch := decide) only [mu_g]
  have n4 : ∀ j, mWd w y x μ 104 0 j = if j = μ 106 0 2 then w else μ 104 0 j := fun j => by
    unfold mWd mad
    simp (disch := decide) only [mu_g]
    by_cases q : j = μ 106 0 2
    · rw [q, mu_at, if_pos rfl]
    · rw [mu_j q, if_neg q]
  have n6 : ∀ j, j ≠ 4 → j ≠ 2 → mWd w y x μ 106 0 j = μ 106 0 j := fun j h1 h2 => by
    unfold mWd mad
    simp (disch := first | decide | assumption) only [mu_g, mu_j]
  have n64 : mWd w y x μ 106 0 4 = μ 106 0 4 + 1 := by
    unfold mWd mad
    simp (disch := decide) only [mu_g, mu_at]
  have n62 : mWd w y x μ 106 0 2 = μ 106 0 2 + 1 := by
    unfold mWd mad
    simp (disch := decide) only [mu_g, mu_j, mu_at]
  have ng : ∀ q, q ≠ 30 → q ≠ 33 → q ≠ 34 → q ≠ 35 → q ≠ 104 → q ≠ 106 → mWd w y x μ q = μ q := fun q h1 h2 h3 h4 h5 h6 => by
    unfold mWd mad
    rw [mu_g h1, mu_g h1, mu_g h4, mu_g h3, mu_g h2, mu_g h6, mu_g h6, mu_g h5]
  refine RW_doc h ht (fun q h1 h2 h3 h4 => ng q (by omega) (by omega) (by omega) (by omega) h2 h4) (fun j hj => n6 j (by omega) (by omega)) (by omega) ?_
  have e3 := n6 3 (by decide) (by decide)
  have e5 := n6 5 (by decide) (by decide)
  have e10 := n6 10 (by decide) (by decide)
  have e11 := n6 11 (by decide) (by decide)
  have e105 : mWd w y x μ 105 = μ 105 := ng _ (by decide) (by decide) (by decide) (by decide) (by decide) (by decide)
  have hh : ∀ k, lhome (mWd w y x μ) k = lhome μ k := fun k => sfl_lhome e105 e3
  refine ⟨?_, by rw [n64]; omega, by rw [e5]; exact d3, fun s' s0 s1 => ?_, ⟨by rw [n62]; omega, by rw [e3]; exact l2, by rw [e10]; exact l3, by rw [e11]; exact l4, fun s' s0 s1 => ?_, by rw [e105]; exact l6, fun k k0 k1 => ?_⟩, fun j j0 j1 => ?_, by rw [e3]; omega, fun k k0 k1 => ?_⟩
  · rw [n30 0 (by decide) (by decide), n30 1 (by decide) (by decide), n39, n30 7 (by decide) (by decide), n30 8 (by decide) (by decide), nv, n64, n62, e3, e5, e10, e11]
    omega
  · rw [ng 31 (by decide) (by decide) (by decide) (by decide) (by decide) (by decide), n6 _ (by omega) (by omega)]
    exact d4 s' s0 s1
  · rw [n6 _ (by omega) (by omega)]
    exact l5 s' s0 s1
  · rw [n4]
    split
    · exact hw2
    · exact l7 k k0 k1
  · rw [e3] at j1
    rw [ng 32 (by decide) (by decide) (by decide) (by decide) (by decide) (by decide), e105, n62]
    have := d6 j j0 j1
    omega
  · rw [n62] at k1
    unfold RWw
    rw [hh, e3, n33, n4, n35, n34]
    by_cases q : k = μ 106 0 2
    · rw [if_pos q, if_pos q, if_pos q, if_pos q]
      have hl : lhome μ k = μ 106 0 3 - 1 := by
        unfold lhome
        rw [show (μ 106 0 3).toNat = (μ 106 0 3 - 1).toNat + 1 by omega, lph_all _ (fun q' a b => by have := (d6 q' a (by omega)).2; omega)]
        omega
      rw [hl]
      exact ⟨rfl, by omega, hw⟩
    · rw [if_neg q, if_neg q, if_neg q, if_neg q]
      exact d8 k k0 (by omega)
end ZPI
