/-! ===== the law: isSet ===== -/
section ZPQ
variable {ck sk : Nat} {Q : ZO → ZH → Prop} {μ ν κ β : ZU} {a b c d e f g h i j k l m p r s t t' v w x y z L H M R W C J B : Int} {u u1 u2 u3 u4 u5 u6 u7 u8 u9 u10 : ZV}
theorem as64 (h : AS ν t j B) (k0 : 0 ≤ k) (w0 : 0 ≤ w) (w4 : w ≤ 4) : G 64 0 [zR 2 0, zI j, zI k, zI w, u] [] (HM ν) 3 18 Q ↔ Q (.inl (some (zI (tll ν B k w)))) (HM ν) := by
  obtain ⟨h1, h2, h3, h4, -⟩ := h
  rw [c64 h1.jobOK h1.bldOK, if_pos ⟨h2, k0⟩, if_pos ⟨w0, w4⟩, h3, if_neg (by omega)]
theorem as65 (h : AS ν t j B) (k0 : 0 ≤ k) : G 65 0 [zR 2 0, zI j, zI k, u] [] (HM ν) 2 12 Q ↔ Q (.inl (some (zI (if k < ν 106 0 2 then ν 51 B k else -1)))) (HM ν) := by
  have hf := ASf h
  obtain ⟨h1, h2, h3, h4, -⟩ := h
  rw [c65 h1.jobOK h1.bldOK, if_pos ⟨h2, k0⟩, h3, if_neg (by omega), hf.2.2.2.2.2]
theorem as66 (h : AS ν t j B) (k0 : 0 ≤ k) : G 66 0 [zR 2 0, zI j, zI k, u] [] (HM ν) 2 12 Q ↔ Q (.inl (some (zI (if k < ν 107 0 0 then ν 109 0 k / 1024 else -1)))) (HM (stt (ν 0 0 50 - 1) 0 (ν 40 j 1) ν)) := by
  obtain ⟨n1, n2⟩ := ASn h
  obtain ⟨h1, h2, h3, h4, h5, -⟩ := h
  have hj := (h1.2.2.2.2.2.2.1.1 j h2.1 h2.2).1
  rw [c66 h1.jobOK h1.bldOK h1.dcOK (fun i i0 i1 => h1.flOK i0 i1), if_pos ⟨h2, k0⟩, if_neg h5, hj]
  have e : tll (stt (ν 0 0 50 - 1) 0 (ν 40 j 1) ν) (ν 0 0 50 - 1) k 4 = if k < ν 107 0 0 then ν 109 0 k / 1024 else -1 := by
    unfold tll
    rw [n1]
    by_cases q : k < ν 107 0 0
    · rw [if_pos q, if_pos q]
      exact n2 k k0 q
    · rw [if_neg q, if_neg q]
  rw [e]
theorem as63 (h : AS ν t j B) (w0 : 2 ≤ w) (w4 : w ≤ 6) : G 63 0 [zR 2 0, zI j, zI w, u] [] (HM ν) 2 12 Q ↔ Q (.inl (some (zI (tlb ν B w)))) (HM ν) := by
  obtain ⟨h1, h2, h3, h4, -⟩ := h
  rw [c63 h1.jobOK h1.bldOK, if_pos h2, if_pos ⟨by omega, w4⟩, h3, if_neg (by omega), if_neg (by omega), if_neg (by omega)]
theorem as67 (h : AS ν t j B) : G 67 0 [zR 2 0, zI j, u] [] (HM ν) 1 6 Q ↔ Q (.inl (some (zI (ν 107 0 3)))) (HM ν) := by
  have hf := ASf h
  obtain ⟨h1, h2, h3, h4, -⟩ := h
  rw [c67 h1.jobOK h1.bldOK, if_pos h2, h3, if_neg (by omega), hf.2.2.2.2.1]
theorem as68 (h : AS ν t j B) : G 68 0 [zR 2 0, zI j, zI j, u, u1] [] (HM ν) 2 12 Q ↔ Q (.inl (some (zI 0))) (HM ν) := by
  obtain ⟨h1, h2, h3, h4, -⟩ := h
  rw [c68 h1.jobOK h1.bldOK, if_pos ⟨h2, h2⟩, h3, if_neg (by omega), pul_self]
theorem c103_e (h : AS ν t j B) (hck : 7 ≤ ck) (hsk : 42 ≤ sk) (q : ∀ κ, AS κ t j B → Q (.inl (some (zI 1))) (HM κ)) : G 103 303 [zR 2 0, zR 104 0, zR 106 0, zR 107 0, zR 108 0, zR 109 0, zR 110 0, zI j, zI 1, u] [] (HM ν) ck sk Q := by
  have hP := h.2.2.2.2.2.2.2
  have hf := ASf h
  have hd := h.1.2.2.2.2.1.2.2.2.2.1.1
  have e1 := fun (Q : ZO → ZH → Prop) (u : ZV) => as64 (k := ν 107 0 0) (w := 0) (Q := Q) (u := u) h hP.2.1 (by omega) (by omega)
  have e2 := fun (Q : ZO → ZH → Prop) (u : ZV) => as65 (k := ν 106 0 2) (Q := Q) (u := u) h hd.1
  have e3 := fun (Q : ZO → ZH → Prop) (u : ZV) => as66 (k := ν 107 0 0) (Q := Q) (u := u) h hP.2.1
  have t1 : tll ν B (ν 107 0 0) 0 = -1 := by
    unfold tll
    rw [hf.2.1, if_neg (by omega)]
  rw [t1] at e1
  rw [if_neg (by omega)] at e2 e3
  have k1 : 3 ≤ ck := by omega
  have k2 : 2 ≤ ck - 3 := by omega
  have k3 : 2 ≤ ck - 3 - 2 := by omega
  have s1 : 18 ≤ sk := by omega
  have s2 : 12 ≤ sk - 18 := by omega
  have s3 : 12 ≤ sk - 18 - 12 := by omega
  have q := q _ (ASa h)
  rw [g103_303]
  simp (disch := first | omega | (simp (disch := decide) only [zmu0, mu_g, List.length_nil, List.length_cons]; omega)) only [g103_305, g103_308, g103_309, g103_311, g103_312, g103_313, g103_314, g103_315, g103_318, g103_319, g103_322, g103_323, g103_325, g103_326, g103_327, g103_328, g103_331, g103_332, g103_335, g103_336, g103_338, g103_339, g103_340, g103_341, g103_344, g103_345, g103_348, g103_349, g103_352, g103_353, ob2, oc2, fl2_0, fl2_1, fl2_2, fl2_3, fl2_4, fl2_5, fl2_6, wo2_6, fl2_7, wo2_7, fl2_8, wo2_8, fl2_9, wo2_9, fl2_10, wo2_10, rd106, wr106, rd107, wr107, Nat.sub_zero, Int.reduceSub, Int.reduceAdd, Int.add_zero, Int.zero_add, Int.cast_ofNat_Int, Bool.false_eq_true, decide_true, decide_false, zbndI, zbwI, zbzI, zb1I, zoA_at, gback_v, gback_n, zem, zisr, zro_at, zrl_at, mu_g, mu_at, mu_mu, mu_self, not_true, not_false_iff, zb0, zb1, zbnd, zbw, zbz, zne1, zone, mrgI, List.length_nil, List.length_cons, Nat.reduceAdd, Nat.reduceSub, Nat.reduceLeDiff, Nat.zero_le, and_true, true_and, false_and, and_false, true_or, or_true, false_or, or_false, G_ite, z10, z1n, z1and, z1or, z0not, z0and, itn, if_true, if_false, reduceIte, Int.reduceEq, Int.reduceLT, Int.reduceNeg, Nat.reduceEqDiff, ite_self, e1, e2, e3, k1, k2, k3, s1, s2, s3]
  exact q
theorem c103_s : ∀ (n : Nat) (k : Int) (ck sk : Nat), AS ν t j B → 0 ≤ k → k + n = ν 106 0 2 → 2 * n + 7 ≤ ck → 12 * n + 42 ≤ sk → (∀ κ, AS κ t j B → Q (.inl (some (zI 1))) (HM κ)) → G 103 248 [zR 2 0, zR 104 0, zR 106 0, zR 107 0, zR 108 0, zR 109 0, zR 110 0, zI j, zI 1, zI k] [] (HM ν) ck sk Q
  | 0, k, ck, sk, h, k0, kn, hck, hsk, q => by
    have hq : ¬ k < ν 106 0 2 := by omega
    have e := c103_e (u := zI k) h (by omega) (by omega) q
    rw [g103_248]
    simp (disch := first | omega | (simp (disch := decide) only [zmu0, mu_g, List.length_nil, List.length_cons]; omega)) only [g103_250, g103_251, g103_252, g103_253, rd106, wr106, Nat.sub_zero, Int.reduceSub, Int.reduceAdd, Int.add_zero, Int.zero_add, Int.cast_ofNat_Int, Bool.false_eq_true, decide_true, decide_false, zbndI, zbwI, zbzI, zb1I, zoA_at, gback_v, gback_n, zem, zisr, zro_at, zrl_at, mu_g, mu_at, mu_mu, mu_self, not_true, not_false_iff, zb0, zb1, zbnd, zbw, zbz, zne1, zone, mrgI, List.length_nil, List.length_cons, Nat.reduceAdd, Nat.reduceSub, Nat.reduceLeDiff, Nat.zero_le, and_true, true_and, false_and, and_false, true_or, or_true, false_or, or_false, G_ite, z10, z1n, z1and, z1or, z0not, z0and, itn, if_true, if_false, reduceIte, Int.reduceEq, Int.reduceLT, Int.reduceNeg, Nat.reduceEqDiff, ite_self, hq]
    exact e
  | n + 1, k, ck, sk, h, k0, kn, hck, hsk, q => by
    have hq : k < ν 106 0 2 := by omega
    have hd := h.1.2.2.2.2.1.2.2.2.2.1
    have hd1 := hd.1
    have hw := hd.2.2.2.2.2.2 k k0 (by omega)
    have e2 := fun (Q : ZO → ZH → Prop) (u : ZV) => as65 (k := k) (Q := Q) (u := u) h k0
    rw [if_pos hq, ASw h k0 hq] at e2
    have k1 : 2 ≤ ck := by omega
    have s1 : 12 ≤ sk := by omega
    have ih := c103_s n (k + 1) (ck - 2) (sk - 12) h (by omega) (by omega) (by omega) (by omega) q
    rw [g103_248]
    by_cases hn : ν 104 0 k < 0
    · rw [if_pos hn] at e2
      simp (disch := first | omega | (simp (disch := decide) only [zmu0, mu_g, List.length_nil, List.length_cons]; omega)) only [g103_250, g103_251, g103_252, g103_253, g103_256, g103_258, g103_261, g103_262, g103_264, g103_266, g103_269, g103_270, g103_272, g103_273, g103_274, g103_275, g103_278, g103_280, g103_282, g103_283, g103_286, g103_287, g103_290, g103_291, g103_294, g103_295, g103_297, g103_300, ob2, oc2, fl2_0, fl2_1, fl2_2, fl2_3, fl2_4, fl2_5, fl2_6, wo2_6, fl2_7, wo2_7, fl2_8, wo2_8, fl2_9, wo2_9, fl2_10, wo2_10, rd104, wr104, rd106, wr106, rd110, wr110, Nat.sub_zero, Int.reduceSub, Int.reduceAdd, Int.add_zero, Int.zero_add, Int.cast_ofNat_Int, Bool.false_eq_true, decide_true, decide_false, zbndI, zbwI, zbzI, zb1I, zoA_at, gback_v, gback_n, zem, zisr, zro_at, zrl_at, mu_g, mu_at, mu_mu, mu_self, not_true, not_false_iff, zb0, zb1, zbnd, zbw, zbz, zne1, zone, mrgI, List.length_nil, List.length_cons, Nat.reduceAdd, Nat.reduceSub, Nat.reduceLeDiff, Nat.zero_le, and_true, true_and, false_and, and_false, true_or, or_true, false_or, or_false, G_ite, z10, z1n, z1and, z1or, z0not, z0and, itn, if_true, if_false, reduceIte, Int.reduceEq, Int.reduceLT, Int.reduceNeg, Nat.reduceEqDiff, ite_self, hq, e2, k1, s1, zcI_lt, hn]
      exact ih
    · rw [if_neg hn] at e2
      simp (disch := first | omega | (simp (disch := decide) only [zmu0, mu_g, List.length_nil, List.length_cons]; omega)) only [g103_250, g103_251, g103_252, g103_253, g103_256, g103_258, g103_261, g103_262, g103_264, g103_266, g103_269, g103_270, g103_272, g103_273, g103_274, g103_275, g103_278, g103_280, g103_282, g103_283, g103_286, g103_287, g103_290, g103_291, g103_294, g103_295, g103_297, g103_300, ob2, oc2, fl2_0, fl2_1, fl2_2, fl2_3, fl2_4, fl2_5, fl2_6, wo2_6, fl2_7, wo2_7, fl2_8, wo2_8, fl2_9, wo2_9, fl2_10, wo2_10, rd104, wr104, rd106, wr106, rd110, wr110, Nat.sub_zero, Int.reduceSub, Int.reduceAdd, Int.add_zero, Int.zero_add, Int.cast_ofNat_Int, Bool.false_eq_true, decide_true, decide_false, zbndI, zbwI, zbzI, zb1I, zoA_at, gback_v, gback_n, zem, zisr, zro_at, zrl_at, mu_g, mu_at, mu_mu, mu_self, not_true, not_false_iff, zb0, zb1, zbnd, zbw, zbz, zne1, zone, mrgI, List.length_nil, List.length_cons, Nat.reduceAdd, Nat.reduceSub, Nat.reduceLeDiff, Nat.zero_le, and_true, true_and, false_and, and_false, true_or, or_true, false_or, or_false, G_ite, z10, z1n, z1and, z1or, z0not, z0and, itn, if_true, if_false, reduceIte, Int.reduceEq, Int.reduceLT, Int.reduceNeg, Nat.reduceEqDiff, ite_self, hq, e2, k1, s1, zcI_lt, hn]
      exact ih
theorem c103_l : ∀ (n : Nat) (k : Int) (ν : ZU) (ck sk : Nat), AS ν t j B → 0 ≤ k → k + n = ν 107 0 0 → 17 * n + 87 ≤ ck → 102 * n + 522 ≤ sk → (∀ κ, AS κ t j B → Q (.inl (some (zI 1))) (HM κ)) → G 103 86 [zR 2 0, zR 104 0, zR 106 0, zR 107 0, zR 108 0, zR 109 0, zR 110 0, zI j, zI 1, zI k] [] (HM ν) ck sk Q
  | 0, k, ν, ck, sk, h, k0, kn, hck, hsk, q => by
    have hq : ¬ k < ν 107 0 0 := by omega
    have hd := h.1.2.2.2.2.1.2.2.2.2.1.1
    have e := c103_s (ν := ν) (ν 106 0 2).toNat 0 ck sk h (by omega) (by omega) (by omega) (by omega) q
    rw [g103_86]
    simp (disch := first | omega | (simp (disch := decide) only [zmu0, mu_g, List.length_nil, List.length_cons]; omega)) only [g103_88, g103_89, g103_90, g103_91, g103_245, g103_246, rd107, wr107, Nat.sub_zero, Int.reduceSub, Int.reduceAdd, Int.add_zero, Int.zero_add, Int.cast_ofNat_Int, Bool.false_eq_true, decide_true, decide_false, zbndI, zbwI, zbzI, zb1I, zoA_at, gback_v, gback_n, zem, zisr, zro_at, zrl_at, mu_g, mu_at, mu_mu, mu_self, not_true, not_false_iff, zb0, zb1, zbnd, zbw, zbz, zne1, zone, mrgI, List.length_nil, List.length_cons, Nat.reduceAdd, Nat.reduceSub, Nat.reduceLeDiff, Nat.zero_le, and_true, true_and, false_and, and_false, true_or, or_true, false_or, or_false, G_ite, z10, z1n, z1and, z1or, z0not, z0and, itn, if_true, if_false, reduceIte, Int.reduceEq, Int.reduceLT, Int.reduceNeg, Nat.reduceEqDiff, ite_self, hq]
    exact e
  | n + 1, k, ν, ck, sk, h, k0, kn, hck, hsk, q => by
    have hq : k < ν 107 0 0 := by omega
    have hP := h.2.2.2.2.2.2.2
    have hP2 := hP.2.2
    have hk41 : k < 41 := by omega
    have hf := ASf h
    obtain ⟨l1, l2, l3, l4, l5, l6, l7⟩ := ASl h k0 hq
    have e0 := fun (Q : ZO → ZH → Prop) (u : ZV) => as64 (k := k) (w := 0) (Q := Q) (u := u) h k0 (by omega) (by omega)
    have e1 := fun (Q : ZO → ZH → Prop) (u : ZV) => as64 (k := k) (w := 1) (Q := Q) (u := u) h k0 (by omega) (by omega)
    have e2 := fun (Q : ZO → ZH → Prop) (u : ZV) => as64 (k := k) (w := 2) (Q := Q) (u := u) h k0 (by omega) (by omega)
    have e3 := fun (Q : ZO → ZH → Prop) (u : ZV) => as64 (k := k) (w := 3) (Q := Q) (u := u) h k0 (by omega) (by omega)
    have e4 := fun (Q : ZO → ZH → Prop) (u : ZV) => as64 (k := k) (w := 4) (Q := Q) (u := u) h k0 (by omega) (by omega)
    have e5 := fun (Q : ZO → ZH → Prop) (u : ZV) => as66 (k := k) (Q := Q) (u := u) h k0
    have q1 : k < ν 50 B 1 := by omega
    have t0 : tll ν B k 0 = ν 108 0 k % 16 := (if_pos q1).trans l1
    have t1 : tll ν B k 1 = ν 108 0 k / 16 % 64 := (if_pos q1).trans l2
    have t2 : tll ν B k 2 = ν 108 0 k / 1024 := (if_pos q1).trans l3
    have t3 : tll ν B k 3 = ν 109 0 k % 1024 := (if_pos q1).trans l4
    have t4 : tll ν B k 4 = ν 109 0 k / 1024 := (if_pos q1).trans l5
    rw [t0] at e0
    rw [t1] at e1
    rw [t2] at e2
    rw [t3] at e3
    rw [t4] at e4
    rw [if_pos hq] at e5
    have hE := h.1.2.2.2.2.2.2.2.2 k k0 (by omega)
    have g : ∀ q : Nat, q < 50 ∨ 66 < q → stt (ν 0 0 50 - 1) 0 (ν 40 j 1) ν q = ν q := fun q hq => stt_g hq
    have k1 : 3 ≤ ck := by omega
    have k2 : 3 ≤ ck - 3 := by omega
    have k3 : 3 ≤ ck - 3 - 3 := by omega
    have k4 : 3 ≤ ck - 3 - 3 - 3 := by omega
    have k5 : 3 ≤ ck - 3 - 3 - 3 - 3 := by omega
    have k6 : 2 ≤ ck - 3 - 3 - 3 - 3 - 3 := by omega
    have s1 : 18 ≤ sk := by omega
    have s2 : 18 ≤ sk - 18 := by omega
    have s3 : 18 ≤ sk - 18 - 18 := by omega
    have s4 : 18 ≤ sk - 18 - 18 - 18 := by omega
    have s5 : 18 ≤ sk - 18 - 18 - 18 - 18 := by omega
    have s6 : 12 ≤ sk - 18 - 18 - 18 - 18 - 18 := by omega
    rw [g103_86]
    by_cases hm : k % 4 = 0
    · have ih := c103_l n (k + 1) _ (ck - 3 - 3 - 3 - 3 - 3 - 2) (sk - 18 - 18 - 18 - 18 - 18 - 12) (ASa h) (by omega) (by rw [g 107 (by omega)]; omega) (by omega) (by omega) q
      have hm' : ¬ 0 < k % 4 := by omega
      simp (disch := first | omega | (simp (disch := decide) only [zmu0, mu_g, List.length_nil, List.length_cons]; omega)) only [g103_88, g103_89, g103_90, g103_91, g103_94, g103_96, g103_99, g103_100, g103_102, g103_104, g103_105, g103_108, g103_110, g103_112, g103_113, g103_115, g103_116, g103_119, g103_120, g103_122, g103_124, g103_125, g103_128, g103_130, g103_132, g103_133, g103_135, g103_136, g103_138, g103_139, g103_142, g103_143, g103_145, g103_147, g103_148, g103_151, g103_153, g103_155, g103_156, g103_159, g103_160, g103_163, g103_164, g103_166, g103_168, g103_169, g103_172, g103_174, g103_176, g103_177, g103_180, g103_181, g103_184, g103_185, g103_187, g103_189, g103_190, g103_193, g103_195, g103_197, g103_198, g103_201, g103_202, g103_205, g103_207, g103_208, g103_209, g103_212, g103_213, g103_215, g103_217, g103_220, g103_222, g103_224, g103_225, g103_228, g103_229, g103_232, g103_233, g103_236, g103_237, g103_239, g103_242, ob2, oc2, fl2_0, fl2_1, fl2_2, fl2_3, fl2_4, fl2_5, fl2_6, wo2_6, fl2_7, wo2_7, fl2_8, wo2_8, fl2_9, wo2_9, fl2_10, wo2_10, rd107, wr107, rd108, wr108, rd109, wr109, g, Nat.sub_zero, Int.reduceSub, Int.reduceAdd, Int.add_zero, Int.zero_add, Int.cast_ofNat_Int, Bool.false_eq_true, decide_true, decide_false, zbndI, zbwI, zbzI, zb1I, zoA_at, gback_v, gback_n, zem, zisr, zro_at, zrl_at, mu_g, mu_at, mu_mu, mu_self, not_true, not_false_iff, zb0, zb1, zbnd, zbw, zbz, zne1, zone, mrgI, List.length_nil, List.length_cons, Nat.reduceAdd, Nat.reduceSub, Nat.reduceLeDiff, Nat.zero_le, and_true, true_and, false_and, and_false, true_or, or_true, false_or, or_false, G_ite, z10, z1n, z1and, z1or, z0not, z0and, itn, if_true, if_false, reduceIte, Int.reduceEq, Int.reduceLT, Int.reduceNeg, Nat.reduceEqDiff, ite_self, hq, e0, e1, e2, e3, e4, e5, k1, k2, k3, k4, k5, k6, s1, s2, s3, s4, s5, s6, hm, eq_self]
      exact ih
    · have ih := c103_l n (k + 1) ν (ck - 3 - 3 - 3 - 3 - 3) (sk - 18 - 18 - 18 - 18 - 18) h (by omega) (by omega) (by omega) (by omega) q
      have hm' : 0 < k % 4 := by omega
      simp (disch := first | omega | (simp (disch := decide) only [zmu0, mu_g, List.length_nil, List.length_cons]; omega)) only [g103_88, g103_89, g103_90, g103_91, g103_94, g103_96, g103_99, g103_100, g103_102, g103_104, g103_105, g103_108, g103_110, g103_112, g103_113, g103_115, g103_116, g103_119, g103_120, g103_122, g103_124, g103_125, g103_128, g103_130, g103_132, g103_133, g103_135, g103_136, g103_138, g103_139, g103_142, g103_143, g103_145, g103_147, g103_148, g103_151, g103_153, g103_155, g103_156, g103_159, g103_160, g103_163, g103_164, g103_166, g103_168, g103_169, g103_172, g103_174, g103_176, g103_177, g103_180, g103_181, g103_184, g103_185, g103_187, g103_189, g103_190, g103_193, g103_195, g103_197, g103_198, g103_201, g103_202, g103_205, g103_207, g103_208, g103_209, g103_212, g103_213, g103_215, g103_217, g103_220, g103_222, g103_224, g103_225, g103_228, g103_229, g103_232, g103_233, g103_236, g103_237, g103_239, g103_242, ob2, oc2, fl2_0, fl2_1, fl2_2, fl2_3, fl2_4, fl2_5, fl2_6, wo2_6, fl2_7, wo2_7, fl2_8, wo2_8, fl2_9, wo2_9, fl2_10, wo2_10, rd107, wr107, rd108, wr108, rd109, wr109, Nat.sub_zero, Int.reduceSub, Int.reduceAdd, Int.add_zero, Int.zero_add, Int.cast_ofNat_Int, Bool.false_eq_true, decide_true, decide_false, zbndI, zbwI, zbzI, zb1I, zoA_at, gback_v, gback_n, zem, zisr, zro_at, zrl_at, mu_g, mu_at, mu_mu, mu_self, not_true, not_false_iff, zb0, zb1, zbnd, zbw, zbz, zne1, zone, mrgI, List.length_nil, List.length_cons, Nat.reduceAdd, Nat.reduceSub, Nat.reduceLeDiff, Nat.zero_le, and_true, true_and, false_and, and_false, true_or, or_true, false_or, or_false, G_ite, z10, z1n, z1and, z1or, z0not, z0and, itn, if_true, if_false, reduceIte, Int.reduceEq, Int.reduceLT, Int.reduceNeg, Nat.reduceEqDiff, ite_self, hq, e0, e1, e2, e3, e4, e5, k1, k2, k3, k4, k5, k6, s1, s2, s3, s4, s5, s6, hm', eq_self]
      exact ih
theorem c103 (h : AS ν t j B) (q : ∀ κ, AS κ t j B → Q (.inl (some (zI 1))) (HM κ)) : G 103 0 [zR 2 0, zR 104 0, zR 106 0, zR 107 0, zR 108 0, zR 109 0, zR 110 0, zI j, u, u1] [] (HM ν) 2000 20000 Q := by
  have hP := h.2.2.2.2.2.2.2
  have hP1 := hP.2.1
  have hP2 := hP.2.2
  have hf := ASf h
  have e3 := fun (Q : ZO → ZH → Prop) (u : ZV) => as63 (w := 3) (Q := Q) (u := u) h (by omega) (by omega)
  have e4 := fun (Q : ZO → ZH → Prop) (u : ZV) => as63 (w := 4) (Q := Q) (u := u) h (by omega) (by omega)
  have e5 := fun (Q : ZO → ZH → Prop) (u : ZV) => as63 (w := 5) (Q := Q) (u := u) h (by omega) (by omega)
  have e6 := fun (Q : ZO → ZH → Prop) (u : ZV) => as63 (w := 6) (Q := Q) (u := u) h (by omega) (by omega)
  have e7 := fun (Q : ZO → ZH → Prop) (u : ZV) => as67 (Q := Q) (u := u) h
  have e8 := fun (Q : ZO → ZH → Prop) (u u1 : ZV) => as68 (Q := Q) (u := u) (u1 := u1) h
  have t3 : tlb ν B 3 = ν 107 0 1 := hf.1
  have t4 : tlb ν B 4 = ν 107 0 0 := hf.2.1
  have t5 : tlb ν B 5 = ν 107 0 2 := hf.2.2.1
  have t6 : tlb ν B 6 = ν 107 0 4 := hf.2.2.2.1
  rw [t3] at e3
  rw [t4] at e4
  rw [t5] at e5
  rw [t6] at e6
  have e := c103_l (ν 107 0 0).toNat 0 ν 1989 19934 h (by omega) (by omega) (by omega) (by omega) q
  simp (disch := first | omega | (simp (disch := decide) only [zmu0, mu_g, List.length_nil, List.length_cons]; omega)) only [g103_0, g103_1, g103_3, g103_4, g103_7, g103_8, g103_9, g103_10, g103_13, g103_14, g103_16, g103_17, g103_20, g103_21, g103_22, g103_23, g103_26, g103_27, g103_29, g103_30, g103_33, g103_34, g103_35, g103_36, g103_39, g103_40, g103_42, g103_44, g103_47, g103_48, g103_49, g103_50, g103_53, g103_54, g103_56, g103_59, g103_60, g103_61, g103_62, g103_65, g103_66, g103_68, g103_70, g103_73, g103_76, g103_77, g103_80, g103_81, g103_83, g103_84, ob2, oc2, fl2_0, fl2_1, fl2_2, fl2_3, fl2_4, fl2_5, fl2_6, wo2_6, fl2_7, wo2_7, fl2_8, wo2_8, fl2_9, wo2_9, fl2_10, wo2_10, rd107, wr107, Nat.sub_zero, Int.reduceSub, Int.reduceAdd, Int.add_zero, Int.zero_add, Int.cast_ofNat_Int, Bool.false_eq_true, decide_true, decide_false, zbndI, zbwI, zbzI, zb1I, zoA_at, gback_v, gback_n, zem, zisr, zro_at, zrl_at, mu_g, mu_at, mu_mu, mu_self, not_true, not_false_iff, zb0, zb1, zbnd, zbw, zbz, zne1, zone, mrgI, List.length_nil, List.length_cons, Nat.reduceAdd, Nat.reduceSub, Nat.reduceLeDiff, Nat.zero_le, and_true, true_and, false_and, and_false, true_or, or_true, false_or, or_false, G_ite, z10, z1n, z1and, z1or, z0not, z0and, itn, if_true, if_false, reduceIte, Int.reduceEq, Int.reduceLT, Int.reduceNeg, Nat.reduceEqDiff, ite_self, e3, e4, e5, e6, e7, e8, eq_self]
  exact e
end ZPQ
