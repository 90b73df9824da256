/-! ===== the law: lines ===== -/
/-- the paragraph of the word k -/
def lph (μ : ZU) (k : Int) : Nat → Int → Int → Int
  | 0, _, s => s
  | n + 1, j, s => lph μ k n (j + 1) (if μ 105 0 j / 4 ≤ k then j else s)
def lhome (μ : ZU) (k : Int) : Int := lph μ k (μ 106 0 3).toNat 0 0
/-- a word's letters: how wide, what was read -/
def lwl (hs : Int → Bool) (sz dt cd : Int → Int) (f : Int) (p : Bool) : Nat → Int → Int → Int → Int × Int
  | 0, _, s, r => (s, r)
  | n + 1, j, s, r => if p = true ∧ ¬ cd j = 0 then lwl hs sz dt cd f p n (j + 1) (s + (lw hs sz dt f (cd j - 1) 5 0 r).1) (lw hs sz dt f (cd j - 1) 5 0 r).2 else (s, r)
/-- the font of the word k -/
def lfo (μ : ZU) (k : Int) : Int := μ 106 0 (6 + μ 105 0 (lhome μ k) % 4)
/-- the word k: how wide, what was read -/
def lwk (μ : ZU) (a k : Int) : Int × Int := lwl (lhs μ a) (lsz μ a) (ldt μ a) (lcd (μ 104 0 k)) (lfo μ k) (decide (0 < μ 104 0 k)) 8 0 (if μ 104 0 k < 0 then (if 9 < μ 110 0 k then 12 else 6) else 0) (μ 107 0 4)
def lnA (μ : ZU) (L v r : Int) : ZU := mu (mu (mu μ 107 0 4 r) 109 0 (L - 1) (μ 109 0 (L - 1) + (4 + v))) 108 0 (L - 1) (μ 108 0 (L - 1) + 1024)
def lnB (μ : ZU) (L t k v r : Int) : ZU := mu (mu (mu (mu μ 107 0 4 r) 108 0 L (t + 16 * k + 1024 * k)) 109 0 L v) 107 0 0 (L + 1)
def lk1 (a k : Int) (μ : ZU) : ZU := if 1 ≤ μ 107 0 0 ∧ μ 108 0 (μ 107 0 0 - 1) % 16 = lhome μ k ∧ μ 109 0 (μ 107 0 0 - 1) + 4 + (lwk μ a k).1 ≤ μ 106 0 10 then lnA μ (μ 107 0 0) (lwk μ a k).1 (lwk μ a k).2 else lnB μ (μ 107 0 0) (lhome μ k) k (lwk μ a k).1 (lwk μ a k).2
def lnN (a : Int) : Nat → Int → ZU → ZU
  | 0, _, μ => μ
  | n + 1, k, μ => lnN a n (k + 1) (lk1 a k μ)
/-- the law's document -/
def ldB (μ : ZU) : Prop := (0 ≤ μ 106 0 2 ∧ μ 106 0 2 ≤ 40) ∧ (0 ≤ μ 106 0 3 ∧ μ 106 0 3 ≤ 10) ∧ (20 ≤ μ 106 0 10 ∧ μ 106 0 10 ≤ 200) ∧ (3 ≤ μ 106 0 11 ∧ μ 106 0 11 ≤ 12) ∧ (∀ s, 0 ≤ s → s < 4 → 0 ≤ μ 106 0 (6 + s) ∧ μ 106 0 (6 + s) < 5) ∧ (∀ j, 0 ≤ j → j < 11 → 0 ≤ μ 105 0 j ∧ μ 105 0 j < 1000) ∧ ∀ k, 0 ≤ k → k < 40 → -11 ≤ μ 104 0 k ∧ μ 104 0 k < 9223372036854775808 ∧ (0 < μ 104 0 k → ∀ j, 0 ≤ j → j < 8 → lcd (μ 104 0 k) j ≤ 26)
def lnI (μ : ZU) (k : Int) : Prop := (0 ≤ μ 107 0 0 ∧ μ 107 0 0 ≤ k) ∧ (∀ q, 0 ≤ q → q < 41 → (0 ≤ μ 108 0 q ∧ μ 108 0 q ≤ 50000) ∧ 0 ≤ μ 109 0 q ∧ μ 109 0 q ≤ 50000) ∧ ∀ q, 0 ≤ q → q < μ 107 0 0 → μ 108 0 q < 1024 * k ∧ μ 109 0 q ≤ 260
section ZQB
variable {h : ZH} {μ ν : ZU} {ck sk : Nat} {Q : ZO → ZH → Prop} {a b c d e f i j k l m p r s t v w x y z L : Int} {u u' u'' u1 u2 u3 u4 : ZV} {hs : Int → Bool} {sz dt cd : Int → Int} {P : Bool}
theorem lw_c (hf : 0 ≤ f) (hsz : ∀ t, 0 ≤ t → t < 5 → 0 ≤ sz t ∧ sz t ≤ 31) : ∀ (n : Nat) (i r : Int), 0 ≤ i → 0 ≤ (lw hs sz dt f l n i r).1 ∧ (lw hs sz dt f l n i r).1 ≤ 31
  | 0, i, r, _ => by
    unfold lw
    exact ⟨(by decide : (0 : Int) ≤ 10), (by decide : (10 : Int) ≤ 31)⟩
  | n + 1, i, r, hi => by
    unfold lw
    split
    · exact hsz _ (by omega) (by omega)
    · exact lw_c hf hsz n (i + 1) _ (by omega)
theorem lsz_c : ∀ t, 0 ≤ t → t < 5 → 0 ≤ lsz μ a t ∧ lsz μ a t ≤ 31 := fun t _ _ => by
  unfold lsz
  omega
theorem lwl_c (hf : 0 ≤ f) (hsz : ∀ t, 0 ≤ t → t < 5 → 0 ≤ sz t ∧ sz t ≤ 31) : ∀ (n : Nat) (j s r : Int), 0 ≤ s → s ≤ (lwl hs sz dt cd f P n j s r).1 ∧ (lwl hs sz dt cd f P n j s r).1 ≤ s + 31 * n
  | 0, j, s, r, _ => by
    unfold lwl
    exact ⟨Int.le_refl _, by omega⟩
  | n + 1, j, s, r, h => by
    have h1 := lw_c (hs := hs) (dt := dt) (l := cd j - 1) hf hsz 5 0 r (by omega)
    unfold lwl
    split
    · have := lwl_c hf hsz n (j + 1) (s + (lw hs sz dt f (cd j - 1) 5 0 r).1) (lw hs sz dt f (cd j - 1) 5 0 r).2 (by omega)
      exact ⟨by omega, by omega⟩
    · exact ⟨Int.le_refl _, by show s ≤ _; omega⟩
theorem lph_b : ∀ (n : Nat) (j s : Int), 0 ≤ j → 0 ≤ s → s < m → j + n ≤ m → 0 ≤ lph μ k n j s ∧ lph μ k n j s < m
  | 0, j, s, h1, h2, h3, h4 => ⟨h2, h3⟩
  | n + 1, j, s, h1, h2, h3, h4 => by
    unfold lph
    split
    · exact lph_b n (j + 1) j (by omega) h1 (by omega) (by omega)
    · exact lph_b n (j + 1) s (by omega) h2 h3 (by omega)
theorem lhome_b (hD : ldB μ) : 0 ≤ lhome μ k ∧ lhome μ k < 11 := by
  obtain ⟨-, h3, -⟩ := hD
  exact lph_b _ 0 0 (by omega) (by omega) (by omega) (by omega)
theorem lfo_b (hD : ldB μ) : 0 ≤ lfo μ k ∧ lfo μ k < 5 := by
  have h1 := lhome_b (k := k) hD
  have h2 := hD.2.2.2.2.2.1 (lhome μ k) h1.1 h1.2
  exact hD.2.2.2.2.1 (μ 105 0 (lhome μ k) % 4) (by omega) (by omega)
theorem c97_p : ∀ (n : Nat) (j s : Int), 0 ≤ j → j + n = μ 106 0 3 → μ 106 0 3 ≤ 10 → (∀ j, 0 ≤ j → j < 11 → 0 ≤ μ 105 0 j ∧ μ 105 0 j < 1000) → (G 97 23 [zR 101 0, zR 103 0, zR 104 0, zR 105 0, zR 106 0, zR 107 0, zR 108 0, zR 109 0, zR 110 0, zI a, zI k, zI s, zI j, u] [] (HM μ) ck sk Q ↔ G 97 58 [zR 101 0, zR 103 0, zR 104 0, zR 105 0, zR 106 0, zR 107 0, zR 108 0, zR 109 0, zR 110 0, zI a, zI k, zI (lph μ k n j s), zI (μ 106 0 3), u] [] (HM μ) ck sk Q)
  | 0, j, s, h1, h2, h3, hp => by
    have h5 : ¬ j < μ 106 0 3 := by omega
    have h6 : j = μ 106 0 3 := by omega
    rw [g97_23]
    simp (disch := first | omega | (simp (disch := decide) only [zmu0, mu_g, List.length_nil, List.length_cons]; omega)) only [g97_25, g97_27, g97_28, g97_29, rd106, wr106, Nat.sub_zero, Int.reduceSub, Int.reduceAdd, Int.add_zero, Int.zero_add, Int.cast_ofNat_Int, Bool.false_eq_true, decide_true, decide_false, zbndI, zbwI, zbzI, zb1I, zoA_at, gback_v, gback_n, zem, zisr, zro_at, zrl_at, mu_g, mu_at, mu_mu, mu_self, not_true, not_false_iff, zb0, zb1, zbnd, zbw, zbz, zne1, zone, mrgI, List.length_nil, List.length_cons, Nat.reduceAdd, Nat.reduceSub, Nat.reduceLeDiff, Nat.zero_le, and_true, true_and, false_and, and_false, true_or, or_true, false_or, or_false, G_ite, z10, z1n, z1and, z1or, z0not, z0and, itn, if_true, if_false, reduceIte, Int.reduceEq, Int.reduceLT, Int.reduceNeg, Nat.reduceEqDiff, ite_self, h5, lph]
    rw [h6]
  | n + 1, j, s, h1, h2, h3, hp => by
    have h5 : j < μ 106 0 3 := by omega
    have hj := hp j (by omega) (by omega)
    have ih1 := c97_p n (j + 1) j (by omega) (by omega) h3 hp
    have ih2 := c97_p n (j + 1) s (by omega) (by omega) h3 hp
    rw [g97_23]
    unfold lph
    by_cases h6 : μ 105 0 j / 4 ≤ k
    · have h7 : ¬ k < μ 105 0 j / 4 := by omega
      rw [if_pos h6, ← ih1]
      simp (disch := first | omega | (simp (disch := decide) only [zmu0, mu_g, List.length_nil, List.length_cons]; omega)) only [g97_0, g97_2, g97_3, g97_4, g97_5, g97_6, g97_8, g97_10, g97_12, g97_13, g97_14, g97_17, g97_18, g97_20, g97_21, g97_25, g97_27, g97_28, g97_29, g97_32, g97_33, g97_35, g97_36, g97_37, g97_38, g97_40, g97_43, g97_45, g97_48, g97_50, g97_52, g97_55, g97_58, g97_59, g97_61, g97_62, g97_63, g97_64, g97_67, g97_69, g97_71, g97_72, g97_74, g97_77, g97_79, g97_82, g97_84, g97_87, g97_88, g97_90, g97_91, g97_93, g97_95, g97_97, g97_100, g97_101, g97_103, g97_104, g97_105, g97_106, g97_109, g97_110, g97_112, g97_113, g97_115, g97_118, g97_121, g97_123, g97_124, g97_125, g97_127, g97_129, g97_131, g97_133, g97_134, g97_136, g97_137, g97_138, g97_139, g97_140, g97_141, g97_142, g97_144, g97_145, g97_147, g97_150, g97_153, g97_154, g97_156, g97_159, g97_162, g97_164, g97_165, g97_166, g97_167, g97_168, g97_170, g97_172, g97_175, g97_177, g97_179, g97_180, g97_182, g97_183, g97_185, g97_188, g97_190, g97_192, g97_193, g97_194, g97_195, g97_197, g97_198, g97_200, g97_202, g97_203, g97_206, g97_208, g97_210, g97_211, g97_212, g97_213, g97_215, g97_216, g97_217, g97_218, g97_220, g97_222, g97_223, g97_224, g97_227, g97_228, g97_229, g97_232, g97_234, g97_236, g97_237, g97_238, g97_240, g97_242, g97_244, g97_245, g97_246, g97_249, g97_251, g97_252, g97_253, g97_254, g97_256, g97_258, g97_259, g97_260, g97_262, g97_263, g97_265, g97_266, g97_267, g97_268, g97_269, g97_270, g97_271, g97_274, g97_277, rd105, wr105, rd106, wr106, Nat.sub_zero, Int.reduceSub, Int.reduceAdd, Int.add_zero, Int.zero_add, Int.cast_ofNat_Int, Bool.false_eq_true, decide_true, decide_false, zbndI, zbwI, zbzI, zb1I, zoA_at, gback_v, gback_n, zem, zisr, zro_at, zrl_at, mu_g, mu_at, mu_mu, mu_self, not_true, not_false_iff, zb0, zb1, zbnd, zbw, zbz, zne1, zone, mrgI, List.length_nil, List.length_cons, Nat.reduceAdd, Nat.reduceSub, Nat.reduceLeDiff, Nat.zero_le, and_true, true_and, false_and, and_false, true_or, or_true, false_or, or_false, G_ite, z10, z1n, z1and, z1or, z0not, z0and, itn, if_true, if_false, reduceIte, Int.reduceEq, Int.reduceLT, Int.reduceNeg, Nat.reduceEqDiff, ite_self, h5, h7]
    · have h7 : k < μ 105 0 j / 4 := by omega
      rw [if_neg h6, ← ih2]
      simp (disch := first | omega | (simp (disch := decide) only [zmu0, mu_g, List.length_nil, List.length_cons]; omega)) only [g97_0, g97_2, g97_3, g97_4, g97_5, g97_6, g97_8, g97_10, g97_12, g97_13, g97_14, g97_17, g97_18, g97_20, g97_21, g97_25, g97_27, g97_28, g97_29, g97_32, g97_33, g97_35, g97_36, g97_37, g97_38, g97_40, g97_43, g97_45, g97_48, g97_50, g97_52, g97_55, g97_58, g97_59, g97_61, g97_62, g97_63, g97_64, g97_67, g97_69, g97_71, g97_72, g97_74, g97_77, g97_79, g97_82, g97_84, g97_87, g97_88, g97_90, g97_91, g97_93, g97_95, g97_97, g97_100, g97_101, g97_103, g97_104, g97_105, g97_106, g97_109, g97_110, g97_112, g97_113, g97_115, g97_118, g97_121, g97_123, g97_124, g97_125, g97_127, g97_129, g97_131, g97_133, g97_134, g97_136, g97_137, g97_138, g97_139, g97_140, g97_141, g97_142, g97_144, g97_145, g97_147, g97_150, g97_153, g97_154, g97_156, g97_159, g97_162, g97_164, g97_165, g97_166, g97_167, g97_168, g97_170, g97_172, g97_175, g97_177, g97_179, g97_180, g97_182, g97_183, g97_185, g97_188, g97_190, g97_192, g97_193, g97_194, g97_195, g97_197, g97_198, g97_200, g97_202, g97_203, g97_206, g97_208, g97_210, g97_211, g97_212, g97_213, g97_215, g97_216, g97_217, g97_218, g97_220, g97_222, g97_223, g97_224, g97_227, g97_228, g97_229, g97_232, g97_234, g97_236, g97_237, g97_238, g97_240, g97_242, g97_244, g97_245, g97_246, g97_249, g97_251, g97_252, g97_253, g97_254, g97_256, g97_258, g97_259, g97_260, g97_262, g97_263, g97_265, g97_266, g97_267, g97_268, g97_269, g97_270, g97_271, g97_274, g97_277, rd105, wr105, rd106, wr106, Nat.sub_zero, Int.reduceSub, Int.reduceAdd, Int.add_zero, Int.zero_add, Int.cast_ofNat_Int, Bool.false_eq_true, decide_true, decide_false, zbndI, zbwI, zbzI, zb1I, zoA_at, gback_v, gback_n, zem, zisr, zro_at, zrl_at, mu_g, mu_at, mu_mu, mu_self, not_true, not_false_iff, zb0, zb1, zbnd, zbw, zbz, zne1, zone, mrgI, List.length_nil, List.length_cons, Nat.reduceAdd, Nat.reduceSub, Nat.reduceLeDiff, Nat.zero_le, and_true, true_and, false_and, and_false, true_or, or_true, false_or, or_false, G_ite, z10, z1n, z1and, z1or, z0not, z0and, itn, if_true, if_false, reduceIte, Int.reduceEq, Int.reduceLT, Int.reduceNeg, Nat.reduceEqDiff, ite_self, h5, h7]
theorem c97_a (ha : 0 ≤ a) (ha2 : a < 13) (hk : 0 ≤ k) (hk2 : k < 40) (ht : 0 ≤ t) (ht2 : t < 11) (hx : x = μ 104 0 k) (hf : f = μ 106 0 (6 + μ 105 0 t % 4)) (hf0 : 0 ≤ f) (hf2 : f < 5) (hp : 0 ≤ μ 105 0 t ∧ μ 105 0 t < 1000) (hw : -11 ≤ x ∧ x < 9223372036854775808) (hw2 : 0 < x → ∀ j, 0 ≤ j → j < 8 → lcd x j ≤ 26) (hL : 0 ≤ μ 107 0 0 ∧ μ 107 0 0 ≤ 40) (hB : rwB μ) :
    ∀ (n : Nat) (j s r : Int), 0 ≤ j → j + n = 8 → 0 ≤ s → s ≤ 12 + 31 * j →
    (G 97 93 [zR 101 0, zR 103 0, zR 104 0, zR 105 0, zR 106 0, zR 107 0, zR 108 0, zR 109 0, zR 110 0, zI a, zI k, zI t, zI s, zI j] [] (HM (mu μ 107 0 4 r)) ck sk Q ↔ G 97 170 [zR 101 0, zR 103 0, zR 104 0, zR 105 0, zR 106 0, zR 107 0, zR 108 0, zR 109 0, zR 110 0, zI a, zI k, zI t, zI (lwl (lhs μ a) (lsz μ a) (ldt μ a) (lcd x) f (decide (0 < x)) n j s r).1, zI (μ 107 0 0 - 1)] [] (HM (mu μ 107 0 4 (lwl (lhs μ a) (lsz μ a) (ldt μ a) (lcd x) f (decide (0 < x)) n j s r).2)) ck sk Q)
  | 0, j, s, r, h1, h2, h3, h4 => by
    have h5 : ¬ j < 8 := by omega
    rw [g97_93]
    simp (disch := first | omega | (simp (disch := decide) only [zmu0, mu_g, List.length_nil, List.length_cons]; omega)) only [g97_95, g97_97, g97_162, g97_164, g97_165, g97_166, g97_167, g97_168, rd107, wr107, Nat.sub_zero, Int.reduceSub, Int.reduceAdd, Int.add_zero, Int.zero_add, Int.cast_ofNat_Int, Bool.false_eq_true, decide_true, decide_false, zbndI, zbwI, zbzI, zb1I, zoA_at, gback_v, gback_n, zem, zisr, zro_at, zrl_at, mu_g, mu_at, mu_mu, mu_self, not_true, not_false_iff, zb0, zb1, zbnd, zbw, zbz, zne1, zone, mrgI, List.length_nil, List.length_cons, Nat.reduceAdd, Nat.reduceSub, Nat.reduceLeDiff, Nat.zero_le, and_true, true_and, false_and, and_false, true_or, or_true, false_or, or_false, G_ite, z10, z1n, z1and, z1or, z0not, z0and, itn, if_true, if_false, reduceIte, Int.reduceEq, Int.reduceLT, Int.reduceNeg, Nat.reduceEqDiff, ite_self, h5, lwl, mu_j]
  | n + 1, j, s, r, h1, h2, h3, h4 => by
    have h5 : j < 8 := by omega
    rw [g97_93]
    unfold lwl
    by_cases h6 : 0 < x
    · have h6' : ¬ x ≤ 0 := by omega
      have hcb := lcd_b (x := x) (j := j)
      have hc26 := hw2 h6 j h1 h5
      have e95 := fun (h : ZH) (ck sk : Nat) (Q : ZO → ZH → Prop) => c95 (h := h) (ck := ck) (sk := sk) (Q := Q) (x := x) (j := j) h1 h5 (by omega) (by omega)
      by_cases h7 : lcd x j = 0
      · have h7' : lcd x j - 1 < 0 := by omega
        rw [if_neg (fun q => q.2 h7)]
        subst hx
        simp (disch := first | omega | (simp (disch := decide) only [zmu0, mu_g, List.length_nil, List.length_cons]; omega)) only [g97_95, g97_97, g97_100, g97_101, g97_103, g97_104, g97_105, g97_106, g97_109, g97_110, g97_112, g97_113, g97_115, g97_118, g97_162, g97_164, g97_165, g97_166, g97_167, g97_168, rd104, wr104, rd107, wr107, Nat.sub_zero, Int.reduceSub, Int.reduceAdd, Int.add_zero, Int.zero_add, Int.cast_ofNat_Int, Bool.false_eq_true, decide_true, decide_false, zbndI, zbwI, zbzI, zb1I, zoA_at, gback_v, gback_n, zem, zisr, zro_at, zrl_at, mu_g, mu_at, mu_mu, mu_self, not_true, not_false_iff, zb0, zb1, zbnd, zbw, zbz, zne1, zone, mrgI, List.length_nil, List.length_cons, Nat.reduceAdd, Nat.reduceSub, Nat.reduceLeDiff, Nat.zero_le, and_true, true_and, false_and, and_false, true_or, or_true, false_or, or_false, G_ite, z10, z1n, z1and, z1or, z0not, z0and, itn, if_true, if_false, reduceIte, Int.reduceEq, Int.reduceLT, Int.reduceNeg, Nat.reduceEqDiff, ite_self, h5, h6, h6', h7', zcI_gt, e95, mu_j]
      · have h7' : ¬ lcd x j - 1 < 0 := by omega
        have hlw := lw_c (hs := lhs μ a) (sz := lsz μ a) (dt := ldt μ a) (l := lcd x j - 1) hf0 lsz_c 5 0 r (by omega)
        have e96 := fun (ck sk : Nat) (Q : ZO → ZH → Prop) (u u1 u2 u3 : ZV) => c96 (μ := mu μ 107 0 4 r) (ck := ck) (sk := sk) (Q := Q) (u := u) (u1 := u1) (u2 := u2) (u3 := u3) (f := f) (l := lcd x j - 1) (rwB_mu (by decide) (by decide) hB) ha ha2 hf0 hf2 (by omega) (by omega)
        simp (disch := decide) only [lhs_mu, lsz_mu, ldt_mu, mu_mu, mu_at] at e96
        have ih := c97_a ha ha2 hk hk2 ht ht2 hx hf hf0 hf2 hp hw hw2 hL hB n (j + 1) (s + (lw (lhs μ a) (lsz μ a) (ldt μ a) f (lcd x j - 1) 5 0 r).1) (lw (lhs μ a) (lsz μ a) (ldt μ a) f (lcd x j - 1) 5 0 r).2 (by omega) (by omega) (by omega) (by omega)
        rw [if_pos ⟨decide_eq_true h6, h7⟩, ← ih]
        subst hx
        have h8 : 0 ≤ 6 + μ 105 0 t % 4 ∧ 6 + μ 105 0 t % 4 < 19 := by omega
        simp (disch := first | omega | (simp (disch := decide) only [zmu0, mu_g, List.length_nil, List.length_cons]; omega)) only [g97_0, g97_2, g97_3, g97_4, g97_5, g97_6, g97_8, g97_10, g97_12, g97_13, g97_14, g97_17, g97_18, g97_20, g97_21, g97_23, g97_25, g97_27, g97_28, g97_29, g97_32, g97_33, g97_35, g97_36, g97_37, g97_38, g97_40, g97_43, g97_45, g97_48, g97_50, g97_52, g97_55, g97_58, g97_59, g97_61, g97_62, g97_63, g97_64, g97_67, g97_69, g97_71, g97_72, g97_74, g97_77, g97_79, g97_82, g97_84, g97_87, g97_88, g97_90, g97_91, g97_95, g97_97, g97_100, g97_101, g97_103, g97_104, g97_105, g97_106, g97_109, g97_110, g97_112, g97_113, g97_115, g97_118, g97_121, g97_123, g97_124, g97_125, g97_127, g97_129, g97_131, g97_133, g97_134, g97_136, g97_137, g97_138, g97_139, g97_140, g97_141, g97_142, g97_144, g97_145, g97_147, g97_150, g97_153, g97_154, g97_156, g97_159, g97_162, g97_164, g97_165, g97_166, g97_167, g97_168, g97_170, g97_172, g97_175, g97_177, g97_179, g97_180, g97_182, g97_183, g97_185, g97_188, g97_190, g97_192, g97_193, g97_194, g97_195, g97_197, g97_198, g97_200, g97_202, g97_203, g97_206, g97_208, g97_210, g97_211, g97_212, g97_213, g97_215, g97_216, g97_217, g97_218, g97_220, g97_222, g97_223, g97_224, g97_227, g97_228, g97_229, g97_232, g97_234, g97_236, g97_237, g97_238, g97_240, g97_242, g97_244, g97_245, g97_246, g97_249, g97_251, g97_252, g97_253, g97_254, g97_256, g97_258, g97_259, g97_260, g97_262, g97_263, g97_265, g97_266, g97_267, g97_268, g97_269, g97_270, g97_271, g97_274, g97_277, rd104, wr104, rd105, wr105, rd106, wr106, rd107, wr107, Nat.sub_zero, Int.reduceSub, Int.reduceAdd, Int.add_zero, Int.zero_add, Int.cast_ofNat_Int, Bool.false_eq_true, decide_true, decide_false, zbndI, zbwI, zbzI, zb1I, zoA_at, gback_v, gback_n, zem, zisr, zro_at, zrl_at, mu_g, mu_at, mu_mu, mu_self, not_true, not_false_iff, zb0, zb1, zbnd, zbw, zbz, zne1, zone, mrgI, List.length_nil, List.length_cons, Nat.reduceAdd, Nat.reduceSub, Nat.reduceLeDiff, Nat.zero_le, and_true, true_and, false_and, and_false, true_or, or_true, false_or, or_false, G_ite, z10, z1n, z1and, z1or, z0not, z0and, itn, if_true, if_false, reduceIte, Int.reduceEq, Int.reduceLT, Int.reduceNeg, Nat.reduceEqDiff, ite_self, h5, h6, h6', h7', zcI_gt, e95, ← hf, e96]
    · have h6' : x ≤ 0 := by omega
      rw [if_neg (fun q => h6 (of_decide_eq_true q.1))]
      subst hx
      simp (disch := first | omega | (simp (disch := decide) only [zmu0, mu_g, List.length_nil, List.length_cons]; omega)) only [g97_95, g97_97, g97_100, g97_101, g97_103, g97_104, g97_105, g97_106, g97_162, g97_164, g97_165, g97_166, g97_167, g97_168, rd104, wr104, rd107, wr107, Nat.sub_zero, Int.reduceSub, Int.reduceAdd, Int.add_zero, Int.zero_add, Int.cast_ofNat_Int, Bool.false_eq_true, decide_true, decide_false, zbndI, zbwI, zbzI, zb1I, zoA_at, gback_v, gback_n, zem, zisr, zro_at, zrl_at, mu_g, mu_at, mu_mu, mu_self, not_true, not_false_iff, zb0, zb1, zbnd, zbw, zbz, zne1, zone, mrgI, List.length_nil, List.length_cons, Nat.reduceAdd, Nat.reduceSub, Nat.reduceLeDiff, Nat.zero_le, and_true, true_and, false_and, and_false, true_or, or_true, false_or, or_false, G_ite, z10, z1n, z1and, z1or, z0not, z0and, itn, if_true, if_false, reduceIte, Int.reduceEq, Int.reduceLT, Int.reduceNeg, Nat.reduceEqDiff, ite_self, h5, h6, h6', zcI_gt, mu_j]
theorem lwk_b (hD : ldB μ) : 0 ≤ (lwk μ a k).1 ∧ (lwk μ a k).1 ≤ 260 := by
  have h := lwl_c (hs := lhs μ a) (sz := lsz μ a) (dt := ldt μ a) (cd := lcd (μ 104 0 k)) (P := decide (0 < μ 104 0 k)) (f := lfo μ k) (lfo_b hD).1 lsz_c 8 0 (if μ 104 0 k < 0 then (if 9 < μ 110 0 k then 12 else 6) else 0) (μ 107 0 4) (by split <;> (try split) <;> omega)
  unfold lwk
  have h2 : (0 : Int) ≤ (if μ 104 0 k < 0 then (if 9 < μ 110 0 k then 12 else 6) else 0) ∧ (if μ 104 0 k < 0 then (if 9 < μ 110 0 k then 12 else 6) else 0) ≤ (12 : Int) := by split <;> (try split) <;> omega
  omega
theorem lk1_g {q : Nat} (h7 : q ≠ 107) (h8 : q ≠ 108) (h9 : q ≠ 109) : lk1 a k μ q = μ q := by
  unfold lk1 lnA lnB
  split
  · rw [mu_g h8, mu_g h9, mu_g h7]
  · rw [mu_g h7, mu_g h9, mu_g h8, mu_g h7]
theorem ldB_of (h4 : ν 104 = μ 104) (h5 : ν 105 = μ 105) (h6 : ν 106 = μ 106) (h : ldB μ) : ldB ν := by
  unfold ldB
  rw [h4, h5, h6]
  exact h
theorem rwB_of (h4 : ν 101 = μ 101) (h5 : ν 103 = μ 103) (h : rwB μ) : rwB ν := by
  unfold rwB
  rw [h4, h5]
  exact h
theorem lnA_g {q : Nat} (h7 : q ≠ 107) (h8 : q ≠ 108) (h9 : q ≠ 109) : lnA μ L v r q = μ q := by
  unfold lnA
  rw [mu_g h8, mu_g h9, mu_g h7]
theorem lnB_g {q : Nat} (h7 : q ≠ 107) (h8 : q ≠ 108) (h9 : q ≠ 109) : lnB μ L t k v r q = μ q := by
  unfold lnB
  rw [mu_g h7, mu_g h9, mu_g h8, mu_g h7]
theorem lk1_I (hD : ldB μ) (hk : 0 ≤ k) (hk2 : k < 40) (hI : lnI μ k) : lnI (lk1 a k μ) (k + 1) := by
  have hb := lwk_b (a := a) (k := k) hD
  have ht := lhome_b (k := k) hD
  have hm := hD.2.2.1
  obtain ⟨i1, i2, i3⟩ := hI
  unfold lk1
  split
  · rename_i q
    obtain ⟨q1, -, q3⟩ := q
    unfold lnA
    have e0 : mu (mu (mu μ 107 0 4 (lwk μ a k).2) 109 0 (μ 107 0 0 - 1) (μ 109 0 (μ 107 0 0 - 1) + (4 + (lwk μ a k).1))) 108 0 (μ 107 0 0 - 1) (μ 108 0 (μ 107 0 0 - 1) + 1024) 107 0 0 = μ 107 0 0 := by
      rw [mu_g (by decide), mu_g (by decide), mu_j (by decide)]
    have i4 := i3 (μ 107 0 0 - 1) (by omega) (by omega)
    have i5 := i2 (μ 107 0 0 - 1) (by omega) (by omega)
    refine ⟨by rw [e0]; omega, fun q h1 h2 => ?_, fun q h1 h2 => ?_⟩
    · have := i2 q h1 h2
      rw [mu_g (k' := 109) (by decide)]
      by_cases hq : q = μ 107 0 0 - 1
      · subst hq
        rw [mu_at, mu_at]
        omega
      · simp (disch := first | decide | assumption) only [mu_g, mu_j]
        exact this
    · rw [e0] at h2
      have := i3 q h1 h2
      rw [mu_g (k' := 109) (by decide)]
      by_cases hq : q = μ 107 0 0 - 1
      · subst hq
        rw [mu_at, mu_at]
        omega
      · simp (disch := first | decide | assumption) only [mu_g, mu_j]
        omega
  · unfold lnB
    refine ⟨by rw [mu_at]; omega, fun q h1 h2 => ?_, fun q h1 h2 => ?_⟩
    · have := i2 q h1 h2
      rw [mu_g (k' := 108) (by decide), mu_g (k' := 108) (by decide), mu_g (k' := 109) (by decide)]
      by_cases hq : q = μ 107 0 0
      · subst hq
        rw [mu_at, mu_at]
        omega
      · simp (disch := first | decide | assumption) only [mu_g, mu_j]
        exact this
    · rw [mu_at] at h2
      rw [mu_g (k' := 108) (by decide), mu_g (k' := 108) (by decide), mu_g (k' := 109) (by decide)]
      by_cases hq : q = μ 107 0 0
      · subst hq
        rw [mu_at, mu_at]
        omega
      · have := i3 q h1 (by omega)
        simp (disch := first | decide | assumption) only [mu_g, mu_j]
        omega
theorem c97_f (hk : 0 ≤ k) (hk2 : k < 40) (ht : 0 ≤ t ∧ t < 11) (hv : 0 ≤ v ∧ v ≤ 260) (hI : lnI μ k) :
    G 97 170 [zR 101 0, zR 103 0, zR 104 0, zR 105 0, zR 106 0, zR 107 0, zR 108 0, zR 109 0, zR 110 0, zI a, zI k, zI t, zI v, zI (μ 107 0 0 - 1)] [] (HM (mu μ 107 0 4 r)) ck sk Q ↔ G 97 8 [zR 101 0, zR 103 0, zR 104 0, zR 105 0, zR 106 0, zR 107 0, zR 108 0, zR 109 0, zR 110 0, zI a, zI (k + 1), zI t, zI v, zI (μ 107 0 0 - 1)] [] (HM (if 1 ≤ μ 107 0 0 ∧ μ 108 0 (μ 107 0 0 - 1) % 16 = t ∧ μ 109 0 (μ 107 0 0 - 1) + 4 + v ≤ μ 106 0 10 then lnA μ (μ 107 0 0) v r else lnB μ (μ 107 0 0) t k v r)) ck sk Q := by
  obtain ⟨i1, i2, i3⟩ := hI
  rw [g97_170]
  by_cases h1 : 1 ≤ μ 107 0 0
  · have h1' : ¬ μ 107 0 0 - 1 < 0 := by omega
    have i4 := i3 (μ 107 0 0 - 1) (by omega) (by omega)
    have i5 := i2 (μ 107 0 0 - 1) (by omega) (by omega)
    by_cases h2 : μ 108 0 (μ 107 0 0 - 1) % 16 = t
    · by_cases h3 : μ 109 0 (μ 107 0 0 - 1) + 4 + v ≤ μ 106 0 10
      · have h3' : ¬ μ 106 0 10 < μ 109 0 (μ 107 0 0 - 1) + 4 + v := by omega
        rw [if_pos ⟨h1, h2, h3⟩]
        unfold lnA
        simp (disch := first | omega | (simp (disch := decide) only [zmu0, mu_g, List.length_nil, List.length_cons]; omega)) only [g97_0, g97_2, g97_3, g97_4, g97_5, g97_6, g97_10, g97_12, g97_13, g97_14, g97_17, g97_18, g97_20, g97_21, g97_23, g97_25, g97_27, g97_28, g97_29, g97_32, g97_33, g97_35, g97_36, g97_37, g97_38, g97_40, g97_43, g97_45, g97_48, g97_50, g97_52, g97_55, g97_58, g97_59, g97_61, g97_62, g97_63, g97_64, g97_67, g97_69, g97_71, g97_72, g97_74, g97_77, g97_79, g97_82, g97_84, g97_87, g97_88, g97_90, g97_91, g97_93, g97_95, g97_97, g97_100, g97_101, g97_103, g97_104, g97_105, g97_106, g97_109, g97_110, g97_112, g97_113, g97_115, g97_118, g97_121, g97_123, g97_124, g97_125, g97_127, g97_129, g97_131, g97_133, g97_134, g97_136, g97_137, g97_138, g97_139, g97_140, g97_141, g97_142, g97_144, g97_145, g97_147, g97_150, g97_153, g97_154, g97_156, g97_159, g97_162, g97_164, g97_165, g97_166, g97_167, g97_168, g97_172, g97_175, g97_177, g97_179, g97_180, g97_182, g97_183, g97_185, g97_188, g97_190, g97_192, g97_193, g97_194, g97_195, g97_197, g97_198, g97_200, g97_202, g97_203, g97_206, g97_208, g97_210, g97_211, g97_212, g97_213, g97_215, g97_216, g97_217, g97_218, g97_220, g97_222, g97_223, g97_224, g97_227, g97_228, g97_229, g97_232, g97_234, g97_236, g97_237, g97_238, g97_240, g97_242, g97_244, g97_245, g97_246, g97_249, g97_251, g97_252, g97_253, g97_254, g97_256, g97_258, g97_259, g97_260, g97_262, g97_263, g97_265, g97_266, g97_267, g97_268, g97_269, g97_270, g97_271, g97_274, g97_277, rd106, wr106, rd107, wr107, rd108, wr108, rd109, wr109, Nat.sub_zero, Int.reduceSub, Int.reduceAdd, Int.add_zero, Int.zero_add, Int.cast_ofNat_Int, Bool.false_eq_true, decide_true, decide_false, zbndI, zbwI, zbzI, zb1I, zoA_at, gback_v, gback_n, zem, zisr, zro_at, zrl_at, mu_g, mu_at, mu_mu, mu_self, not_true, not_false_iff, zb0, zb1, zbnd, zbw, zbz, zne1, zone, mrgI, List.length_nil, List.length_cons, Nat.reduceAdd, Nat.reduceSub, Nat.reduceLeDiff, Nat.zero_le, and_true, true_and, false_and, and_false, true_or, or_true, false_or, or_false, G_ite, z10, z1n, z1and, z1or, z0not, z0and, itn, if_true, if_false, reduceIte, Int.reduceEq, Int.reduceLT, Int.reduceNeg, Nat.reduceEqDiff, ite_self, h1', h2, h3', mu_j]
      · have h3' : μ 106 0 10 < μ 109 0 (μ 107 0 0 - 1) + 4 + v := by omega
        rw [if_neg (fun q => h3 q.2.2)]
        unfold lnB
        simp (disch := first | omega | (simp (disch := decide) only [zmu0, mu_g, List.length_nil, List.length_cons]; omega)) only [g97_0, g97_2, g97_3, g97_4, g97_5, g97_6, g97_10, g97_12, g97_13, g97_14, g97_17, g97_18, g97_20, g97_21, g97_23, g97_25, g97_27, g97_28, g97_29, g97_32, g97_33, g97_35, g97_36, g97_37, g97_38, g97_40, g97_43, g97_45, g97_48, g97_50, g97_52, g97_55, g97_58, g97_59, g97_61, g97_62, g97_63, g97_64, g97_67, g97_69, g97_71, g97_72, g97_74, g97_77, g97_79, g97_82, g97_84, g97_87, g97_88, g97_90, g97_91, g97_93, g97_95, g97_97, g97_100, g97_101, g97_103, g97_104, g97_105, g97_106, g97_109, g97_110, g97_112, g97_113, g97_115, g97_118, g97_121, g97_123, g97_124, g97_125, g97_127, g97_129, g97_131, g97_133, g97_134, g97_136, g97_137, g97_138, g97_139, g97_140, g97_141, g97_142, g97_144, g97_145, g97_147, g97_150, g97_153, g97_154, g97_156, g97_159, g97_162, g97_164, g97_165, g97_166, g97_167, g97_168, g97_172, g97_175, g97_177, g97_179, g97_180, g97_182, g97_183, g97_185, g97_188, g97_190, g97_192, g97_193, g97_194, g97_195, g97_197, g97_198, g97_200, g97_202, g97_203, g97_206, g97_208, g97_210, g97_211, g97_212, g97_213, g97_215, g97_216, g97_217, g97_218, g97_220, g97_222, g97_223, g97_224, g97_227, g97_228, g97_229, g97_232, g97_234, g97_236, g97_237, g97_238, g97_240, g97_242, g97_244, g97_245, g97_246, g97_249, g97_251, g97_252, g97_253, g97_254, g97_256, g97_258, g97_259, g97_260, g97_262, g97_263, g97_265, g97_266, g97_267, g97_268, g97_269, g97_270, g97_271, g97_274, g97_277, rd106, wr106, rd107, wr107, rd108, wr108, rd109, wr109, Nat.sub_zero, Int.reduceSub, Int.reduceAdd, Int.add_zero, Int.zero_add, Int.cast_ofNat_Int, Bool.false_eq_true, decide_true, decide_false, zbndI, zbwI, zbzI, zb1I, zoA_at, gback_v, gback_n, zem, zisr, zro_at, zrl_at, mu_g, mu_at, mu_mu, mu_self, not_true, not_false_iff, zb0, zb1, zbnd, zbw, zbz, zne1, zone, mrgI, List.length_nil, List.length_cons, Nat.reduceAdd, Nat.reduceSub, Nat.reduceLeDiff, Nat.zero_le, and_true, true_and, false_and, and_false, true_or, or_true, false_or, or_false, G_ite, z10, z1n, z1and, z1or, z0not, z0and, itn, if_true, if_false, reduceIte, Int.reduceEq, Int.reduceLT, Int.reduceNeg, Nat.reduceEqDiff, ite_self, h1', h2, h3', mu_j]
    · rw [if_neg (fun q => h2 q.2.1)]
      unfold lnB
      simp (disch := first | omega | (simp (disch := decide) only [zmu0, mu_g, List.length_nil, List.length_cons]; omega)) only [g97_0, g97_2, g97_3, g97_4, g97_5, g97_6, g97_10, g97_12, g97_13, g97_14, g97_17, g97_18, g97_20, g97_21, g97_23, g97_25, g97_27, g97_28, g97_29, g97_32, g97_33, g97_35, g97_36, g97_37, g97_38, g97_40, g97_43, g97_45, g97_48, g97_50, g97_52, g97_55, g97_58, g97_59, g97_61, g97_62, g97_63, g97_64, g97_67, g97_69, g97_71, g97_72, g97_74, g97_77, g97_79, g97_82, g97_84, g97_87, g97_88, g97_90, g97_91, g97_93, g97_95, g97_97, g97_100, g97_101, g97_103, g97_104, g97_105, g97_106, g97_109, g97_110, g97_112, g97_113, g97_115, g97_118, g97_121, g97_123, g97_124, g97_125, g97_127, g97_129, g97_131, g97_133, g97_134, g97_136, g97_137, g97_138, g97_139, g97_140, g97_141, g97_142, g97_144, g97_145, g97_147, g97_150, g97_153, g97_154, g97_156, g97_159, g97_162, g97_164, g97_165, g97_166, g97_167, g97_168, g97_172, g97_175, g97_177, g97_179, g97_180, g97_182, g97_183, g97_185, g97_188, g97_190, g97_192, g97_193, g97_194, g97_195, g97_197, g97_198, g97_200, g97_202, g97_203, g97_206, g97_208, g97_210, g97_211, g97_212, g97_213, g97_215, g97_216, g97_217, g97_218, g97_220, g97_222, g97_223, g97_224, g97_227, g97_228, g97_229, g97_232, g97_234, g97_236, g97_237, g97_238, g97_240, g97_242, g97_244, g97_245, g97_246, g97_249, g97_251, g97_252, g97_253, g97_254, g97_256, g97_258, g97_259, g97_260, g97_262, g97_263, g97_265, g97_266, g97_267, g97_268, g97_269, g97_270, g97_271, g97_274, g97_277, rd106, wr106, rd107, wr107, rd108, wr108, rd109, wr109, Nat.sub_zero, Int.reduceSub, Int.reduceAdd, Int.add_zero, Int.zero_add, Int.cast_ofNat_Int, Bool.false_eq_true, decide_true, decide_false, zbndI, zbwI, zbzI, zb1I, zoA_at, gback_v, gback_n, zem, zisr, zro_at, zrl_at, mu_g, mu_at, mu_mu, mu_self, not_true, not_false_iff, zb0, zb1, zbnd, zbw, zbz, zne1, zone, mrgI, List.length_nil, List.length_cons, Nat.reduceAdd, Nat.reduceSub, Nat.reduceLeDiff, Nat.zero_le, and_true, true_and, false_and, and_false, true_or, or_true, false_or, or_false, G_ite, z10, z1n, z1and, z1or, z0not, z0and, itn, if_true, if_false, reduceIte, Int.reduceEq, Int.reduceLT, Int.reduceNeg, Nat.reduceEqDiff, ite_self, h1', h2, mu_j]
  · have h1' : μ 107 0 0 - 1 < 0 := by omega
    rw [if_neg (fun q => h1 q.1)]
    unfold lnB
    simp (disch := first | omega | (simp (disch := decide) only [zmu0, mu_g, List.length_nil, List.length_cons]; omega)) only [g97_0, g97_2, g97_3, g97_4, g97_5, g97_6, g97_10, g97_12, g97_13, g97_14, g97_17, g97_18, g97_20, g97_21, g97_23, g97_25, g97_27, g97_28, g97_29, g97_32, g97_33, g97_35, g97_36, g97_37, g97_38, g97_40, g97_43, g97_45, g97_48, g97_50, g97_52, g97_55, g97_58, g97_59, g97_61, g97_62, g97_63, g97_64, g97_67, g97_69, g97_71, g97_72, g97_74, g97_77, g97_79, g97_82, g97_84, g97_87, g97_88, g97_90, g97_91, g97_93, g97_95, g97_97, g97_100, g97_101, g97_103, g97_104, g97_105, g97_106, g97_109, g97_110, g97_112, g97_113, g97_115, g97_118, g97_121, g97_123, g97_124, g97_125, g97_127, g97_129, g97_131, g97_133, g97_134, g97_136, g97_137, g97_138, g97_139, g97_140, g97_141, g97_142, g97_144, g97_145, g97_147, g97_150, g97_153, g97_154, g97_156, g97_159, g97_162, g97_164, g97_165, g97_166, g97_167, g97_168, g97_172, g97_175, g97_177, g97_179, g97_180, g97_182, g97_183, g97_185, g97_188, g97_190, g97_192, g97_193, g97_194, g97_195, g97_197, g97_198, g97_200, g97_202, g97_203, g97_206, g97_208, g97_210, g97_211, g97_212, g97_213, g97_215, g97_216, g97_217, g97_218, g97_220, g97_222, g97_223, g97_224, g97_227, g97_228, g97_229, g97_232, g97_234, g97_236, g97_237, g97_238, g97_240, g97_242, g97_244, g97_245, g97_246, g97_249, g97_251, g97_252, g97_253, g97_254, g97_256, g97_258, g97_259, g97_260, g97_262, g97_263, g97_265, g97_266, g97_267, g97_268, g97_269, g97_270, g97_271, g97_274, g97_277, rd106, wr106, rd107, wr107, rd108, wr108, rd109, wr109, Nat.sub_zero, Int.reduceSub, Int.reduceAdd, Int.add_zero, Int.zero_add, Int.cast_ofNat_Int, Bool.false_eq_true, decide_true, decide_false, zbndI, zbwI, zbzI, zb1I, zoA_at, gback_v, gback_n, zem, zisr, zro_at, zrl_at, mu_g, mu_at, mu_mu, mu_self, not_true, not_false_iff, zb0, zb1, zbnd, zbw, zbz, zne1, zone, mrgI, List.length_nil, List.length_cons, Nat.reduceAdd, Nat.reduceSub, Nat.reduceLeDiff, Nat.zero_le, and_true, true_and, false_and, and_false, true_or, or_true, false_or, or_false, G_ite, z10, z1n, z1and, z1or, z0not, z0and, itn, if_true, if_false, reduceIte, Int.reduceEq, Int.reduceLT, Int.reduceNeg, Nat.reduceEqDiff, ite_self, h1', mu_j]
theorem c97_s (hB : rwB μ) (hD : ldB μ) (ha : 0 ≤ a) (ha2 : a < 13) (hk : 0 ≤ k) (hk2 : k < μ 106 0 2) (hI : lnI μ k) : ∃ u1 u2 u3, G 97 8 [zR 101 0, zR 103 0, zR 104 0, zR 105 0, zR 106 0, zR 107 0, zR 108 0, zR 109 0, zR 110 0, zI a, zI k, u, u', u''] [] (HM μ) ck sk Q ↔ G 97 8 [zR 101 0, zR 103 0, zR 104 0, zR 105 0, zR 106 0, zR 107 0, zR 108 0, zR 109 0, zR 110 0, zI a, zI (k + 1), u1, u2, u3] [] (HM (lk1 a k μ)) ck sk Q := by
  have hb := lwk_b (a := a) (k := k) hD
  have ht := lhome_b (k := k) hD
  obtain ⟨d1, d2, d3, d4, d5, d6, d7⟩ := id hD
  have hw := d7 k hk (by omega)
  obtain ⟨i1, i2, i3⟩ := hI
  have hfo := lfo_b (k := k) hD
  have ep := fun (ck sk : Nat) (Q : ZO → ZH → Prop) (u : ZV) => c97_p (μ := μ) (a := a) (k := k) (u := u) (ck := ck) (sk := sk) (Q := Q) (μ 106 0 3).toNat 0 0 (by omega) (by omega) d2.2 d6
  have ea := c97_a (μ := μ) (ck := ck) (sk := sk) (Q := Q) (a := a) (k := k) (t := lhome μ k) (x := μ 104 0 k) (f := lfo μ k) ha ha2 hk (by omega) ht.1 ht.2 rfl rfl hfo.1 hfo.2 (d6 _ ht.1 ht.2) ⟨hw.1, hw.2.1⟩ hw.2.2 (by omega) hB 8 0 (if μ 104 0 k < 0 then (if 9 < μ 110 0 k then 12 else 6) else 0) (μ 107 0 4) (by omega) (by omega) (by split <;> (try split) <;> omega) (by split <;> (try split) <;> omega)
  rw [mu_self] at ea
  have eW : lwl (lhs μ a) (lsz μ a) (ldt μ a) (lcd (μ 104 0 k)) (lfo μ k) (decide (0 < μ 104 0 k)) 8 0 (if μ 104 0 k < 0 then (if 9 < μ 110 0 k then 12 else 6) else 0) (μ 107 0 4) = lwk μ a k := rfl
  rw [eW] at ea
  have e0 : G 97 8 [zR 101 0, zR 103 0, zR 104 0, zR 105 0, zR 106 0, zR 107 0, zR 108 0, zR 109 0, zR 110 0, zI a, zI k, u, u', u''] [] (HM μ) ck sk Q ↔ G 97 170 [zR 101 0, zR 103 0, zR 104 0, zR 105 0, zR 106 0, zR 107 0, zR 108 0, zR 109 0, zR 110 0, zI a, zI k, zI (lhome μ k), zI (lwk μ a k).1, zI (μ 107 0 0 - 1)] [] (HM (mu μ 107 0 4 (lwk μ a k).2)) ck sk Q := by
    rw [← ea, g97_8]
    have eH : lph μ k (μ 106 0 3).toNat 0 0 = lhome μ k := rfl
    simp (disch := first | omega | (simp (disch := decide) only [zmu0, mu_g, List.length_nil, List.length_cons]; omega)) only [g97_10, g97_12, g97_13, g97_14, g97_17, g97_18, g97_20, g97_21, ep, eH, rd106, wr106, Nat.sub_zero, Int.reduceSub, Int.reduceAdd, Int.add_zero, Int.zero_add, Int.cast_ofNat_Int, Bool.false_eq_true, decide_true, decide_false, zbndI, zbwI, zbzI, zb1I, zoA_at, gback_v, gback_n, zem, zisr, zro_at, zrl_at, mu_g, mu_at, mu_mu, mu_self, not_true, not_false_iff, zb0, zb1, zbnd, zbw, zbz, zne1, zone, mrgI, List.length_nil, List.length_cons, Nat.reduceAdd, Nat.reduceSub, Nat.reduceLeDiff, Nat.zero_le, and_true, true_and, false_and, and_false, true_or, or_true, false_or, or_false, G_ite, z10, z1n, z1and, z1or, z0not, z0and, itn, if_true, if_false, reduceIte, Int.reduceEq, Int.reduceLT, Int.reduceNeg, Nat.reduceEqDiff, ite_self, hk2]
    by_cases hx : μ 104 0 k < 0
    · by_cases h9 : 9 < μ 110 0 k
      · have h9' : ¬ μ 110 0 k ≤ 9 := by omega
        simp (disch := first | omega | (simp (disch := decide) only [zmu0, mu_g, List.length_nil, List.length_cons]; omega)) only [g97_0, g97_2, g97_3, g97_4, g97_5, g97_6, g97_10, g97_12, g97_13, g97_14, g97_17, g97_18, g97_20, g97_21, g97_23, g97_25, g97_27, g97_28, g97_29, g97_32, g97_33, g97_35, g97_36, g97_37, g97_38, g97_40, g97_43, g97_45, g97_48, g97_50, g97_52, g97_55, g97_58, g97_59, g97_61, g97_62, g97_63, g97_64, g97_67, g97_69, g97_71, g97_72, g97_74, g97_77, g97_79, g97_82, g97_84, g97_87, g97_88, g97_90, g97_91, g97_95, g97_97, g97_100, g97_101, g97_103, g97_104, g97_105, g97_106, g97_109, g97_110, g97_112, g97_113, g97_115, g97_118, g97_121, g97_123, g97_124, g97_125, g97_127, g97_129, g97_131, g97_133, g97_134, g97_136, g97_137, g97_138, g97_139, g97_140, g97_141, g97_142, g97_144, g97_145, g97_147, g97_150, g97_153, g97_154, g97_156, g97_159, g97_162, g97_164, g97_165, g97_166, g97_167, g97_168, g97_172, g97_175, g97_177, g97_179, g97_180, g97_182, g97_183, g97_185, g97_188, g97_190, g97_192, g97_193, g97_194, g97_195, g97_197, g97_198, g97_200, g97_202, g97_203, g97_206, g97_208, g97_210, g97_211, g97_212, g97_213, g97_215, g97_216, g97_217, g97_218, g97_220, g97_222, g97_223, g97_224, g97_227, g97_228, g97_229, g97_232, g97_234, g97_236, g97_237, g97_238, g97_240, g97_242, g97_244, g97_245, g97_246, g97_249, g97_251, g97_252, g97_253, g97_254, g97_256, g97_258, g97_259, g97_260, g97_262, g97_263, g97_265, g97_266, g97_267, g97_268, g97_269, g97_270, g97_271, g97_274, g97_277, rd104, wr104, rd110, wr110, Nat.sub_zero, Int.reduceSub, Int.reduceAdd, Int.add_zero, Int.zero_add, Int.cast_ofNat_Int, Bool.false_eq_true, decide_true, decide_false, zbndI, zbwI, zbzI, zb1I, zoA_at, gback_v, gback_n, zem, zisr, zro_at, zrl_at, mu_g, mu_at, mu_mu, mu_self, not_true, not_false_iff, zb0, zb1, zbnd, zbw, zbz, zne1, zone, mrgI, List.length_nil, List.length_cons, Nat.reduceAdd, Nat.reduceSub, Nat.reduceLeDiff, Nat.zero_le, and_true, true_and, false_and, and_false, true_or, or_true, false_or, or_false, G_ite, z10, z1n, z1and, z1or, z0not, z0and, itn, if_true, if_false, reduceIte, Int.reduceEq, Int.reduceLT, Int.reduceNeg, Nat.reduceEqDiff, ite_self, hx, h9, h9', zcI_lt]
      · have h9' : μ 110 0 k ≤ 9 := by omega
        simp (disch := first | omega | (simp (disch := decide) only [zmu0, mu_g, List.length_nil, List.length_cons]; omega)) only [g97_0, g97_2, g97_3, g97_4, g97_5, g97_6, g97_10, g97_12, g97_13, g97_14, g97_17, g97_18, g97_20, g97_21, g97_23, g97_25, g97_27, g97_28, g97_29, g97_32, g97_33, g97_35, g97_36, g97_37, g97_38, g97_40, g97_43, g97_45, g97_48, g97_50, g97_52, g97_55, g97_58, g97_59, g97_61, g97_62, g97_63, g97_64, g97_67, g97_69, g97_71, g97_72, g97_74, g97_77, g97_79, g97_82, g97_84, g97_87, g97_88, g97_90, g97_91, g97_95, g97_97, g97_100, g97_101, g97_103, g97_104, g97_105, g97_106, g97_109, g97_110, g97_112, g97_113, g97_115, g97_118, g97_121, g97_123, g97_124, g97_125, g97_127, g97_129, g97_131, g97_133, g97_134, g97_136, g97_137, g97_138, g97_139, g97_140, g97_141, g97_142, g97_144, g97_145, g97_147, g97_150, g97_153, g97_154, g97_156, g97_159, g97_162, g97_164, g97_165, g97_166, g97_167, g97_168, g97_172, g97_175, g97_177, g97_179, g97_180, g97_182, g97_183, g97_185, g97_188, g97_190, g97_192, g97_193, g97_194, g97_195, g97_197, g97_198, g97_200, g97_202, g97_203, g97_206, g97_208, g97_210, g97_211, g97_212, g97_213, g97_215, g97_216, g97_217, g97_218, g97_220, g97_222, g97_223, g97_224, g97_227, g97_228, g97_229, g97_232, g97_234, g97_236, g97_237, g97_238, g97_240, g97_242, g97_244, g97_245, g97_246, g97_249, g97_251, g97_252, g97_253, g97_254, g97_256, g97_258, g97_259, g97_260, g97_262, g97_263, g97_265, g97_266, g97_267, g97_268, g97_269, g97_270, g97_271, g97_274, g97_277, rd104, wr104, rd110, wr110, Nat.sub_zero, Int.reduceSub, Int.reduceAdd, Int.add_zero, Int.zero_add, Int.cast_ofNat_Int, Bool.false_eq_true, decide_true, decide_false, zbndI, zbwI, zbzI, zb1I, zoA_at, gback_v, gback_n, zem, zisr, zro_at, zrl_at, mu_g, mu_at, mu_mu, mu_self, not_true, not_false_iff, zb0, zb1, zbnd, zbw, zbz, zne1, zone, mrgI, List.length_nil, List.length_cons, Nat.reduceAdd, Nat.reduceSub, Nat.reduceLeDiff, Nat.zero_le, and_true, true_and, false_and, and_false, true_or, or_true, false_or, or_false, G_ite, z10, z1n, z1and, z1or, z0not, z0and, itn, if_true, if_false, reduceIte, Int.reduceEq, Int.reduceLT, Int.reduceNeg, Nat.reduceEqDiff, ite_self, hx, h9, h9', zcI_lt]
    · simp (disch := first | omega | (simp (disch := decide) only [zmu0, mu_g, List.length_nil, List.length_cons]; omega)) only [g97_0, g97_2, g97_3, g97_4, g97_5, g97_6, g97_10, g97_12, g97_13, g97_14, g97_17, g97_18, g97_20, g97_21, g97_23, g97_25, g97_27, g97_28, g97_29, g97_32, g97_33, g97_35, g97_36, g97_37, g97_38, g97_40, g97_43, g97_45, g97_48, g97_50, g97_52, g97_55, g97_58, g97_59, g97_61, g97_62, g97_63, g97_64, g97_67, g97_69, g97_71, g97_72, g97_74, g97_77, g97_79, g97_82, g97_84, g97_87, g97_88, g97_90, g97_91, g97_95, g97_97, g97_100, g97_101, g97_103, g97_104, g97_105, g97_106, g97_109, g97_110, g97_112, g97_113, g97_115, g97_118, g97_121, g97_123, g97_124, g97_125, g97_127, g97_129, g97_131, g97_133, g97_134, g97_136, g97_137, g97_138, g97_139, g97_140, g97_141, g97_142, g97_144, g97_145, g97_147, g97_150, g97_153, g97_154, g97_156, g97_159, g97_162, g97_164, g97_165, g97_166, g97_167, g97_168, g97_172, g97_175, g97_177, g97_179, g97_180, g97_182, g97_183, g97_185, g97_188, g97_190, g97_192, g97_193, g97_194, g97_195, g97_197, g97_198, g97_200, g97_202, g97_203, g97_206, g97_208, g97_210, g97_211, g97_212, g97_213, g97_215, g97_216, g97_217, g97_218, g97_220, g97_222, g97_223, g97_224, g97_227, g97_228, g97_229, g97_232, g97_234, g97_236, g97_237, g97_238, g97_240, g97_242, g97_244, g97_245, g97_246, g97_249, g97_251, g97_252, g97_253, g97_254, g97_256, g97_258, g97_259, g97_260, g97_262, g97_263, g97_265, g97_266, g97_267, g97_268, g97_269, g97_270, g97_271, g97_274, g97_277, rd104, wr104, rd110, wr110, Nat.sub_zero, Int.reduceSub, Int.reduceAdd, Int.add_zero, Int.zero_add, Int.cast_ofNat_Int, Bool.false_eq_true, decide_true, decide_false, zbndI, zbwI, zbzI, zb1I, zoA_at, gback_v, gback_n, zem, zisr, zro_at, zrl_at, mu_g, mu_at, mu_mu, mu_self, not_true, not_false_iff, zb0, zb1, zbnd, zbw, zbz, zne1, zone, mrgI, List.length_nil, List.length_cons, Nat.reduceAdd, Nat.reduceSub, Nat.reduceLeDiff, Nat.zero_le, and_true, true_and, false_and, and_false, true_or, or_true, false_or, or_false, G_ite, z10, z1n, z1and, z1or, z0not, z0and, itn, if_true, if_false, reduceIte, Int.reduceEq, Int.reduceLT, Int.reduceNeg, Nat.reduceEqDiff, ite_self, hx, zcI_lt]
  refine ⟨zI (lhome μ k), zI (lwk μ a k).1, zI (μ 107 0 0 - 1), e0.trans ?_⟩
  exact c97_f hk (by omega) ht hb ⟨i1, i2, i3⟩
theorem c97_l (ha : 0 ≤ a) (ha2 : a < 13) : ∀ (n : Nat) (k : Int) (u u' u'' : ZV) (μ : ZU), rwB μ → ldB μ → lnI μ k → 0 ≤ k → k + n = μ 106 0 2 → (G 97 8 [zR 101 0, zR 103 0, zR 104 0, zR 105 0, zR 106 0, zR 107 0, zR 108 0, zR 109 0, zR 110 0, zI a, zI k, u, u', u''] [] (HM μ) ck sk Q ↔ Q (.inl none) (HM (lnN a n k μ)))
  | 0, k, u, u', u'', μ, hB, hD, hI, h0, hi => by
    have h1 : ¬ k < μ 106 0 2 := by omega
    rw [g97_8]
    simp (disch := first | omega | (simp (disch := decide) only [zmu0, mu_g, List.length_nil, List.length_cons]; omega)) only [g97_10, g97_12, g97_13, g97_14, g97_277, rd106, wr106, Nat.sub_zero, Int.reduceSub, Int.reduceAdd, Int.add_zero, Int.zero_add, Int.cast_ofNat_Int, Bool.false_eq_true, decide_true, decide_false, zbndI, zbwI, zbzI, zb1I, zoA_at, gback_v, gback_n, zem, zisr, zro_at, zrl_at, mu_g, mu_at, mu_mu, mu_self, not_true, not_false_iff, zb0, zb1, zbnd, zbw, zbz, zne1, zone, mrgI, List.length_nil, List.length_cons, Nat.reduceAdd, Nat.reduceSub, Nat.reduceLeDiff, Nat.zero_le, and_true, true_and, false_and, and_false, true_or, or_true, false_or, or_false, G_ite, z10, z1n, z1and, z1or, z0not, z0and, itn, if_true, if_false, reduceIte, Int.reduceEq, Int.reduceLT, Int.reduceNeg, Nat.reduceEqDiff, ite_self, h1, lnN]
  | n + 1, k, u, u', u'', μ, hB, hD, hI, h0, hi => by
    have hd := hD.1
    obtain ⟨u1, u2, u3, e⟩ := c97_s (ck := ck) (sk := sk) (Q := Q) (u := u) (u' := u') (u'' := u'') hB hD ha ha2 h0 (by omega) hI
    have eN : lnN a (n + 1) k μ = lnN a n (k + 1) (lk1 a k μ) := rfl
    rw [eN, e]
    exact c97_l ha ha2 n (k + 1) u1 u2 u3 (lk1 a k μ) (rwB_of (lk1_g (by decide) (by decide) (by decide)) (lk1_g (by decide) (by decide) (by decide)) hB) (ldB_of (lk1_g (by decide) (by decide) (by decide)) (lk1_g (by decide) (by decide) (by decide)) (lk1_g (by decide) (by decide) (by decide)) hD) (lk1_I hD h0 (by omega) hI) (by omega) (by rw [lk1_g (by decide) (by decide) (by decide)]; omega)
def lnE (μ : ZU) : Prop := ∀ q, 0 ≤ q → q < 41 → (0 ≤ μ 108 0 q ∧ μ 108 0 q ≤ 50000) ∧ 0 ≤ μ 109 0 q ∧ μ 109 0 q ≤ 50000
theorem lnI_0 (hE : lnE μ) : lnI (mu μ 107 0 0 0) 0 := by
  refine ⟨by rw [mu_at]; omega, ?_, fun q h1 h2 => ?_⟩
  · rw [mu_g (by decide), mu_g (by decide)]
    exact hE
  · rw [mu_at] at h2
    omega
def lnS (a : Int) (μ : ZU) : ZU := lnN a (μ 106 0 2).toNat 0 (mu μ 107 0 0 0)
theorem c97 (hB : rwB μ) (hD : ldB μ) (hE : lnE μ) (ha : 0 ≤ a) (ha2 : a < 13) : G 97 0 [zR 101 0, zR 103 0, zR 104 0, zR 105 0, zR 106 0, zR 107 0, zR 108 0, zR 109 0, zR 110 0, zI a, u1, u, u', u''] [] (HM μ) ck sk Q ↔ Q (.inl none) (HM (lnS a μ)) := by
  have hd := hD.1
  have e := fun (u u' u'' : ZV) => c97_l (ck := ck) (sk := sk) (Q := Q) ha ha2 (μ 106 0 2).toNat 0 u u' u'' (mu μ 107 0 0 0) (rwB_mu (by decide) (by decide) hB) (ldB_of (mu_g (by decide)) (mu_g (by decide)) (mu_g (by decide)) hD) (lnI_0 hE) (by omega) (by rw [mu_g (by decide)]; omega)
  have eS : lnS a μ = lnN a (μ 106 0 2).toNat 0 (mu μ 107 0 0 0) := rfl
  rw [eS]
  simp (disch := first | omega | (simp (disch := decide) only [zmu0, mu_g, List.length_nil, List.length_cons]; omega)) only [g97_0, g97_2, g97_3, g97_4, g97_5, g97_6, rd107, wr107, Nat.sub_zero, Int.reduceSub, Int.reduceAdd, Int.add_zero, Int.zero_add, Int.cast_ofNat_Int, Bool.false_eq_true, decide_true, decide_false, zbndI, zbwI, zbzI, zb1I, zoA_at, gback_v, gback_n, zem, zisr, zro_at, zrl_at, mu_g, mu_at, mu_mu, mu_self, not_true, not_false_iff, zb0, zb1, zbnd, zbw, zbz, zne1, zone, mrgI, List.length_nil, List.length_cons, Nat.reduceAdd, Nat.reduceSub, Nat.reduceLeDiff, Nat.zero_le, and_true, true_and, false_and, and_false, true_or, or_true, false_or, or_false, G_ite, z10, z1n, z1and, z1or, z0not, z0and, itn, if_true, if_false, reduceIte, Int.reduceEq, Int.reduceLT, Int.reduceNeg, Nat.reduceEqDiff, ite_self, e]
theorem lnN_I (a : Int) : ∀ (n : Nat) (k : Int) (μ : ZU), ldB μ → lnI μ k → 0 ≤ k → k + n = μ 106 0 2 → lnI (lnN a n k μ) (μ 106 0 2)
  | 0, k, μ, hD, hI, h0, hi => by
    have : k = μ 106 0 2 := by omega
    rw [← this]
    exact hI
  | n + 1, k, μ, hD, hI, h0, hi => by
    have hd := hD.1
    have e : lk1 a k μ 106 = μ 106 := lk1_g (by decide) (by decide) (by decide)
    have := lnN_I a n (k + 1) (lk1 a k μ) (ldB_of (lk1_g (by decide) (by decide) (by decide)) (lk1_g (by decide) (by decide) (by decide)) (lk1_g (by decide) (by decide) (by decide)) hD) (lk1_I hD h0 (by omega) hI) (by omega) (by rw [e]; omega)
    rw [e] at this
    exact this
theorem lnN_g {q : Nat} (h7 : q ≠ 107) (h8 : q ≠ 108) (h9 : q ≠ 109) : ∀ (n : Nat) (k : Int) (μ : ZU), lnN a n k μ q = μ q
  | 0, k, μ => rfl
  | n + 1, k, μ => by
    unfold lnN
    rw [lnN_g h7 h8 h9 n, lk1_g h7 h8 h9]
theorem lnS_g {q : Nat} (h7 : q ≠ 107) (h8 : q ≠ 108) (h9 : q ≠ 109) : lnS a μ q = μ q := by
  unfold lnS
  rw [lnN_g h7 h8 h9, mu_g h7]
theorem lnS_I (hD : ldB μ) (hE : lnE μ) : lnI (lnS a μ) (μ 106 0 2) := by
  have hd := hD.1
  have e : mu μ 107 0 0 0 106 = μ 106 := mu_g (by decide)
  have := lnN_I a (μ 106 0 2).toNat 0 (mu μ 107 0 0 0) (ldB_of (mu_g (by decide)) (mu_g (by decide)) e hD) (lnI_0 hE) (by omega) (by rw [e]; omega)
  rw [e] at this
  exact this
end ZQB
