/-! ===== the law: isJob, a job that ran; isJob ===== -/
section ZPX
variable {ck sk : Nat} {Q : ZO → ZH → Prop} {μ ν κ β M Φ : ZU} {a b c d e f g h i j k l m n o p r s t t' v w x y z L H R W C J B K : Int} {u u1 u2 u3 u4 u5 u6 u7 u8 u9 u10 u11 : ZV}
theorem c105_v (hi : 0 ≤ i ∧ i < 13) : ∀ (n : Nat) (k : Int) (ν : ZU), rwB ν → ν 106 0 13 = m → 0 ≤ m → m < 6 → 0 ≤ k → k + n = 10 → (G 105 452 [zR 2 0, zR 101 0, zR 103 0, zR 104 0, zR 105 0, zR 106 0, zR 107 0, zR 108 0, zR 109 0, zR 110 0, zR 111 0, zR 112 0, zI a, zI b, u1, zI i, u3, u4, u5, u6, u7, u8, u9, u10, zI k] [] (HM ν) ck sk Q ↔ G 105 488 [zR 2 0, zR 101 0, zR 103 0, zR 104 0, zR 105 0, zR 106 0, zR 107 0, zR 108 0, zR 109 0, zR 110 0, zR 111 0, zR 112 0, zI a, zI b, u1, zI i, u3, u4, u5, u6, u7, u8, u9, u10, zI 10] [] (HM (vN m i n k ν)) ck sk Q)
  | 0, k, ν, hB, hm, m0, m6, k0, kn => by
    have q : ¬ k < 10 := by omega
    have q' : k = 10 := by omega
    subst q'
    rw [g105_452]
    simp (disch := first | omega | (simp (disch := decide) only [zmu0, mu_g, List.length_nil, List.length_cons]; omega)) only [g105_454, g105_456, Nat.sub_zero, Int.reduceSub, Int.reduceAdd, Int.add_zero, Int.zero_add, Int.cast_ofNat_Int, Bool.false_eq_true, decide_true, decide_false, zbndI, zbwI, zbzI, zb1I, zoA_at, gback_v, gback_n, zem, zisr, zro_at, zrl_at, mu_g, mu_at, mu_mu, mu_self, not_true, not_false_iff, zb0, zb1, zbnd, zbw, zbz, zne1, zone, mrgI, List.length_nil, List.length_cons, Nat.reduceAdd, Nat.reduceSub, Nat.reduceLeDiff, Nat.zero_le, and_true, true_and, false_and, and_false, true_or, or_true, false_or, or_false, G_ite, z10, z1n, z1and, z1or, z0not, z0and, itn, if_true, if_false, reduceIte, Int.reduceEq, Int.reduceLT, Int.reduceNeg, Nat.reduceEqDiff, ite_self, q, vN]
  | n + 1, k, ν, hB, hm, m0, m6, k0, kn => by
    have q : k < 10 := by omega
    have e94 := fun (Q : ZO → ZH → Prop) (u1 u2 u3 u4 : ZV) => c94 (ck := 0) (sk := 0) (Q := Q) (u1 := u1) (u2 := u2) (u3 := u3) (u4 := u4) hB hi.1 hi.2 (j := k) k0 q
    have ih := c105_v hi n (k + 1) (mu ν 112 0 (10 * m + k) (lfv ν i k)) (rwB_mu (by decide) (by decide) hB) (by rw [mu_g (by decide)]; exact hm) m0 m6 (by omega) (by omega)
    have ev : vN m i (n + 1) k ν = vN m i n (k + 1) (mu ν 112 0 (10 * m + k) (lfv ν i k)) := rfl
    rw [ev, ← ih, g105_452]
    simp (disch := first | omega | (simp (disch := decide) only [zmu0, mu_g, List.length_nil, List.length_cons]; omega)) only [g105_454, g105_456, g105_459, g105_461, g105_463, g105_465, g105_467, g105_468, g105_469, g105_471, g105_472, g105_473, g105_474, g105_476, g105_478, g105_481, g105_482, g105_485, rd106, wr106, rd112, wr112, e94, Nat.sub_zero, Int.reduceSub, Int.reduceAdd, Int.add_zero, Int.zero_add, Int.cast_ofNat_Int, Bool.false_eq_true, decide_true, decide_false, zbndI, zbwI, zbzI, zb1I, zoA_at, gback_v, gback_n, zem, zisr, zro_at, zrl_at, mu_g, mu_at, mu_mu, mu_self, not_true, not_false_iff, zb0, zb1, zbnd, zbw, zbz, zne1, zone, mrgI, List.length_nil, List.length_cons, Nat.reduceAdd, Nat.reduceSub, Nat.reduceLeDiff, Nat.zero_le, and_true, true_and, false_and, and_false, true_or, or_true, false_or, or_false, G_ite, z10, z1n, z1and, z1or, z0not, z0and, itn, if_true, if_false, reduceIte, Int.reduceEq, Int.reduceLT, Int.reduceNeg, Nat.reduceEqDiff, ite_self, q, hm]
theorem c105_R (h : RW M t) (ht : t + 1 ≤ 100) (h40 : M 0 0 40 < 40) (h41 : M 0 0 41 < 6) (hi : 0 ≤ i ∧ i < M 0 0 20) (ho : 0 ≤ o ∧ o < 4) (hA : ¬ M 20 i 3 = 0) (hL : SLT M M i) (hP : lnP M) (hk : kbi M 0 i = -1) (hx : x = M 107 0 2 * (5 + M 107 0 0)) (hx0 : 0 ≤ x) (hx2 : x ≤ M 7 0 o) (q : ∀ ν, RW ν (t + 1) → Q (.inl (some (zI 1))) (HM ν)) : G 105 169 [zR 2 0, zR 101 0, zR 103 0, zR 104 0, zR 105 0, zR 106 0, zR 107 0, zR 108 0, zR 109 0, zR 110 0, zR 111 0, zR 112 0, zI a, zI b, zI o, zI i, u3, u4, zI (-1), zI x, u7, u8, u9, u10, u11] [] (HM M) 2090 20590 Q := by
  have hA' := RW_fV h ht h40 h41 hi ho ⟨hx0, hx2⟩ hA hL hP
  have hr := hA'.1
  have ha2 := h.2.1.2.1
  have ha3 := h.2.1.2.2.1
  have ha4 := h.2.1.2.2.2.1
  have ha5 := h.2.1.2.2.2.2.1
  have hd1 := h.2.2.2.2.1.1
  have hd2 := h.2.2.2.2.1.2.1
  have hrd := h.rdb (i := i)
  have hc := cost_eq (o := o) (x := x) h hi hL
  have hL4 := hL.2.2.2
  have gV : ∀ q : Nat, q ≠ 106 → q ≠ 111 → q ≠ 112 → fR o i x M q = fV o i x M q := fun q h1 h2 h3 => by
    unfold fV
    rw [mu_g h1, vN_g h3, mu_g h2]
  have hJ : jobOK (fR o i x M) := by
    have := hr.jobOK
    unfold jobOK at this ⊢
    rw [gV 0 (by decide) (by decide) (by decide), gV 40 (by decide) (by decide) (by decide)]
    exact this
  have hB : bldOK (fR o i x M) := by
    have := hr.bldOK
    unfold bldOK at this ⊢
    rw [gV 0 (by decide) (by decide) (by decide), gV 41 (by decide) (by decide) (by decide), gV 50 (by decide) (by decide) (by decide)]
    exact this
  have c40 : fR o i x M 0 0 40 = M 0 0 40 + 1 := mJb_n
  have n2 : fR o i x M 40 (M 0 0 40) 2 = 0 := by
    unfold fR
    rw [mJb_at]
    rfl
  have n3 : fR o i x M 40 (M 0 0 40) 3 = x := by
    unfold fR
    rw [mJb_at]
    rfl
  have gM : ∀ q : Nat, (q = 101 ∨ q = 103 ∨ q = 107) → fR o i x M q = M q := fun q hq => by
    unfold fR
    rw [mJb_g (by omega) (by omega), mu_g (by omega), mBd_g (by omega) (by omega) (by omega), mu_g (by omega), mu_g (by omega), stt_g (by omega), mG_g (by omega)]
  have g107 := gM 107 (by omega)
  have g6 : fR o i x M 106 = mG o x M 106 := by
    unfold fR
    rw [mJb_g (by decide) (by decide), mu_g (by decide), mBd_g (by decide) (by decide) (by decide), mu_g (by decide), mu_g (by decide), stt_g (by omega)]
  have g613 : fR o i x M 106 0 13 = M 0 0 41 := by rw [g6, mG_j (by omega) (by omega)]; omega
  have g64 : fR o i x M 106 0 4 = M 106 0 4 := by rw [g6, mG_j (by omega) (by omega)]
  have hq := h.2.2.2.2.2.1 o ho.1 ho.2
  have g614 : fR o i x M 106 0 (14 + o) = M 7 0 o - x := by
    rw [g6, mG_o, hq.1]
  have g7 : fR o i x M 7 0 o = M 7 0 o - x := by
    unfold fR
    rw [mJb_g (by decide) (by decide), mu_g (by decide), mBd_g (by decide) (by decide) (by decide), mu_g (by decide), mu_at]
  have hb0 := (hr.2.2.2.2.2.2.2.1 (M 0 0 41) hA'.2.2.2.1.1 hA'.2.2.2.1.2).1
  have hn0 : 0 ≤ M 0 0 40 := by omega
  have hn1 : M 0 0 40 < fR o i x M 0 0 40 := by omega
  have e0 := fun (Q : ZO → ZH → Prop) (u : ZV) => jq0 (u := u) (Q := Q) hJ hB hn0 hn1 n2
  have e1 := fun (Q : ZO → ZH → Prop) (u : ZV) => jq1 (u := u) (Q := Q) hJ hB hn0 hn1 n3
  have e2 := fun (Q : ZO → ZH → Prop) (u : ZV) => as63 (w := 2) (Q := Q) (u := u) hA' (by omega) (by omega)
  have e69 := fun (Q : ZO → ZH → Prop) => jq69 (Φ := fR o i x M) (Q := Q) ho g7
  have t2 : tlb (fV o i x M) (M 0 0 41) 2 = M 0 0 41 := hb0
  rw [t2] at e2
  have e14 : M 106 0 (14 + o) = M 7 0 o := hq.1
  have hx3 : ¬ M 7 0 o < x := by omega
  simp (disch := first | omega | (simp (disch := decide) only [zmu0, mu_g, List.length_nil, List.length_cons]; omega)) only [g105_169, g105_171, g105_174, g105_176, g105_178, g105_180, g105_182, g105_183, g105_184, g105_187, g105_188, g105_191, g105_192, g105_194, g105_196, g105_199, g105_200, g105_203, g105_205, g105_208, g105_210, g105_212, g105_214, g105_215, g105_216, g105_219, g105_221, g105_223, g105_225, g105_227, g105_228, g105_230, g105_232, g105_234, g105_235, g105_236, g105_237, g105_238, g105_239, g105_241, g105_243, g105_245, g105_246, g105_247, g105_248, g105_250, g105_251, g105_252, g105_253, g105_255, g105_257, g105_258, g105_260, rd106, wr106, mu_j, e14, Nat.sub_zero, Int.reduceSub, Int.reduceAdd, Int.add_zero, Int.zero_add, Int.cast_ofNat_Int, Bool.false_eq_true, decide_true, decide_false, zbndI, zbwI, zbzI, zb1I, zoA_at, gback_v, gback_n, zem, zisr, zro_at, zrl_at, mu_g, mu_at, mu_mu, mu_self, not_true, not_false_iff, zb0, zb1, zbnd, zbw, zbz, zne1, zone, mrgI, List.length_nil, List.length_cons, Nat.reduceAdd, Nat.reduceSub, Nat.reduceLeDiff, Nat.zero_le, and_true, true_and, false_and, and_false, true_or, or_true, false_or, or_false, G_ite, z10, z1n, z1and, z1or, z0not, z0and, itn, if_true, if_false, reduceIte, Int.reduceEq, Int.reduceLT, Int.reduceNeg, Nat.reduceEqDiff, ite_self, hx2, hx3]
  have em : mu (mu M 106 0 12 (M 106 0 12 + 1)) 106 0 (14 + o) (M 7 0 o - x) = mG o x M := by
    unfold mG
    rw [e14]
  rw [em, g105_261]
  refine ⟨⟨by decide, by decide, by decide, trivial⟩, ?_⟩
  rw [w92_13]
  have gg : ∀ q : Nat, q ≠ 106 → mG o x M q = M q := fun q hq => mG_g hq
  refine c61_R (n := M 0 0 40) (m := M 0 0 41) (t := t) (by rw [gg 0 (by decide)]; omega) (by rw [gg 0 (by decide)]; omega) (jobOK_G h.jobOK) (bldOK_G h.bldOK) (by omega) (by rw [gg 0 (by decide)]; omega) (by rw [gg 0 (by decide)]; exact hi) (by rw [gg 20 (by decide)]; exact hA) (by rw [gg 2 (by decide)]; omega) (by rw [gg 0 (by decide)]) (by omega) h40 (by rw [kbi_G]; exact hk) (dcOK_G h.dcOK) (flOK_G (h.flOK hi.1 hi.2)) (by rw [gg 7 (by decide)]; omega) (by rw [gg 0 (by decide)]) (by rw [gg 2 (by decide)]; omega) (by rw [gg 0 (by decide), gg 7 (by decide), hc, ← hx]; omega) ?_
  rw [gg 0 (by decide), gg 7 (by decide), gg 30 (by decide), hc, ← hx]
  have ef : mJb (M 0 0 40) 0 i 0 x (M 0 0 41) (mu (mBd (M 0 0 41) 0 i (M 30 0 10) (mu (mu (stt (M 0 0 50 - 1) 0 i (mG o x M)) 7 0 o (M 7 0 o - x)) 2 0 10 (M 0 0 41 + 1))) 2 0 9 (M 0 0 40 + 1)) = fR o i x M := rfl
  rw [ef, v92_13, gback_v]
  have e12 : M 106 0 12 = M 0 0 40 := ha4.1
  rw [e12]
  have hr4 : 0 ≤ M 107 0 4 ∧ M 107 0 4 < 1024 := by rw [hL4]; exact hrd
  have hwB : rwB (mu (fR o i x M) 111 0 (M 0 0 41) (M 106 0 4 + 1024 * M 107 0 4)) := by
    refine rwB_of ?_ ?_ h.rwB
    · rw [mu_g (by decide)]
      exact gM _ (by omega)
    · rw [mu_g (by decide)]
      exact gM _ (by omega)
  have hv := fun (u3 u4 u5 u6 u7 u8 u9 u10 : ZV) (ck sk : Nat) (Q : ZO → ZH → Prop) => c105_v (m := M 0 0 41) (i := i) (u1 := zI o) (u3 := u3) (u4 := u4) (u5 := u5) (u6 := u6) (u7 := u7) (u8 := u8) (u9 := u9) (u10 := u10) (ck := ck) (sk := sk) (Q := Q) (a := a) (b := b) ⟨hi.1, by omega⟩ 10 0 (mu (fR o i x M) 111 0 (M 0 0 41) (M 106 0 4 + 1024 * M 107 0 4)) hwB (by rw [mu_g (by decide)]; exact g613) (by omega) h41 (by omega) (by omega)
  have gv : vN (M 0 0 41) i 10 0 (mu (fR o i x M) 111 0 (M 0 0 41) (M 106 0 4 + 1024 * M 107 0 4)) 106 0 13 = M 0 0 41 := by rw [vN_g (by decide), mu_g (by decide), g613]
  simp (disch := first | omega | (simp (disch := decide) only [zmu0, mu_g, List.length_nil, List.length_cons]; omega)) only [g105_264, g105_266, g105_269, g105_270, g105_272, g105_273, g105_276, g105_278, g105_281, g105_282, g105_285, g105_287, g105_290, g105_291, g105_294, g105_295, g105_298, g105_299, g105_301, g105_302, g105_305, g105_307, g105_310, g105_311, g105_313, g105_316, g105_318, g105_320, g105_322, g105_323, g105_324, g105_327, g105_328, g105_331, g105_332, g105_334, g105_336, g105_339, g105_341, g105_344, g105_345, g105_347, g105_348, g105_351, g105_352, g105_355, g105_356, g105_358, g105_360, g105_363, g105_364, g105_367, g105_368, g105_370, g105_371, g105_372, g105_375, g105_376, g105_379, g105_380, g105_382, g105_385, g105_386, g105_389, g105_390, g105_392, g105_393, g105_396, g105_397, g105_400, g105_402, g105_403, g105_404, g105_407, g105_408, g105_410, g105_411, g105_414, g105_417, g105_418, g105_421, g105_422, g105_423, g105_425, g105_428, g105_430, g105_432, g105_434, g105_435, g105_437, g105_438, g105_439, g105_442, g105_444, g105_445, g105_446, g105_447, g105_448, g105_449, g105_450, ob2, oc2, fl2_0, fl2_1, fl2_2, fl2_3, fl2_4, fl2_5, fl2_6, wo2_6, fl2_7, wo2_7, fl2_8, wo2_8, fl2_9, wo2_9, fl2_10, wo2_10, rd106, wr106, rd107, wr107, rd111, wr111, e0, e1, e69, g107, g613, g64, g614, Nat.sub_zero, Int.reduceSub, Int.reduceAdd, Int.add_zero, Int.zero_add, Int.cast_ofNat_Int, Bool.false_eq_true, decide_true, decide_false, zbndI, zbwI, zbzI, zb1I, zoA_at, gback_v, gback_n, zem, zisr, zro_at, zrl_at, mu_g, mu_at, mu_mu, mu_self, not_true, not_false_iff, zb0, zb1, zbnd, zbw, zbz, zne1, zone, mrgI, List.length_nil, List.length_cons, Nat.reduceAdd, Nat.reduceSub, Nat.reduceLeDiff, Nat.zero_le, and_true, true_and, false_and, and_false, true_or, or_true, false_or, or_false, G_ite, z10, z1n, z1and, z1or, z0not, z0and, itn, if_true, if_false, reduceIte, Int.reduceEq, Int.reduceLT, Int.reduceNeg, Nat.reduceEqDiff, ite_self, eq_self]
  rw [hv]
  simp (disch := first | omega | (simp (disch := decide) only [zmu0, mu_g, List.length_nil, List.length_cons]; omega)) only [g105_488, g105_490, g105_492, g105_493, g105_494, g105_495, g105_496, rd106, wr106, gv, Nat.sub_zero, Int.reduceSub, Int.reduceAdd, Int.add_zero, Int.zero_add, Int.cast_ofNat_Int, Bool.false_eq_true, decide_true, decide_false, zbndI, zbwI, zbzI, zb1I, zoA_at, gback_v, gback_n, zem, zisr, zro_at, zrl_at, mu_g, mu_at, mu_mu, mu_self, not_true, not_false_iff, zb0, zb1, zbnd, zbw, zbz, zne1, zone, mrgI, List.length_nil, List.length_cons, Nat.reduceAdd, Nat.reduceSub, Nat.reduceLeDiff, Nat.zero_le, and_true, true_and, false_and, and_false, true_or, or_true, false_or, or_false, G_ite, z10, z1n, z1and, z1or, z0not, z0and, itn, if_true, if_false, reduceIte, Int.reduceEq, Int.reduceLT, Int.reduceNeg, Nat.reduceEqDiff, ite_self]
  have eV : mu (vN (M 0 0 41) i 10 0 (mu (fR o i x M) 111 0 (M 0 0 41) (M 106 0 4 + 1024 * M 107 0 4))) 106 0 13 (M 0 0 41 + 1) = fV o i x M := rfl
  rw [eV]
  have g13 : fV o i x M 106 0 13 = M 0 0 41 + 1 := mu_at _ _ _ _
  simp (disch := first | omega | (simp (disch := decide) only [zmu0, mu_g, List.length_nil, List.length_cons]; omega)) only [g105_497, g105_499, g105_502, g105_503, g105_505, g105_506, g105_509, g105_511, g105_514, g105_516, g105_519, g105_521, g105_523, g105_524, g105_525, g105_526, g105_529, g105_530, g105_531, g105_533, g105_535, g105_537, g105_539, g105_541, ob2, oc2, fl2_0, fl2_1, fl2_2, fl2_3, fl2_4, fl2_5, fl2_6, wo2_6, fl2_7, wo2_7, fl2_8, wo2_8, fl2_9, wo2_9, fl2_10, wo2_10, rd106, wr106, e2, g13, Int.add_sub_cancel, Nat.sub_zero, Int.reduceSub, Int.reduceAdd, Int.add_zero, Int.zero_add, Int.cast_ofNat_Int, Bool.false_eq_true, decide_true, decide_false, zbndI, zbwI, zbzI, zb1I, zoA_at, gback_v, gback_n, zem, zisr, zro_at, zrl_at, mu_g, mu_at, mu_mu, mu_self, not_true, not_false_iff, zb0, zb1, zbnd, zbw, zbz, zne1, zone, mrgI, List.length_nil, List.length_cons, Nat.reduceAdd, Nat.reduceSub, Nat.reduceLeDiff, Nat.zero_le, and_true, true_and, false_and, and_false, true_or, or_true, false_or, or_false, G_ite, z10, z1n, z1and, z1or, z0not, z0and, itn, if_true, if_false, reduceIte, Int.reduceEq, Int.reduceLT, Int.reduceNeg, Nat.reduceEqDiff, ite_self, eq_self]
  rw [g105_543]
  refine ⟨⟨by decide, by decide, by decide, trivial⟩, ?_⟩
  refine c103 hA' fun κ hκ => ?_
  rw [gback_v]
  simp (disch := first | omega | (simp (disch := decide) only [zmu0, mu_g, List.length_nil, List.length_cons]; omega)) only [g105_546, g105_549, g105_550, g105_553, g105_554, Nat.sub_zero, Int.reduceSub, Int.reduceAdd, Int.add_zero, Int.zero_add, Int.cast_ofNat_Int, Bool.false_eq_true, decide_true, decide_false, zbndI, zbwI, zbzI, zb1I, zoA_at, gback_v, gback_n, zem, zisr, zro_at, zrl_at, mu_g, mu_at, mu_mu, mu_self, not_true, not_false_iff, zb0, zb1, zbnd, zbw, zbz, zne1, zone, mrgI, List.length_nil, List.length_cons, Nat.reduceAdd, Nat.reduceSub, Nat.reduceLeDiff, Nat.zero_le, and_true, true_and, false_and, and_false, true_or, or_true, false_or, or_false, G_ite, z10, z1n, z1and, z1or, z0not, z0and, itn, if_true, if_false, reduceIte, Int.reduceEq, Int.reduceLT, Int.reduceNeg, Nat.reduceEqDiff, ite_self]
  exact q κ hκ.1
/-- isJob -/
theorem c105 (h : RW μ t) (ht : t + 1 ≤ 100) (h40 : μ 0 0 40 < 40) (h41 : μ 0 0 41 < 6) (ha : 0 ≤ a) (hb : 0 ≤ b) (hK : ∀ ν, RW ν (t + 1) → Q (.inl (some (zI 1))) (HM ν)) : G 105 0 [zR 2 0, zR 101 0, zR 103 0, zR 104 0, zR 105 0, zR 106 0, zR 107 0, zR 108 0, zR 109 0, zR 110 0, zR 111 0, zR 112 0, zI a, zI b, u1, u2, u3, u4, u5, u6, u7, u8, u9, u10, u11] [] (HM μ) 2100 21000 Q := by
  by_cases hc : a % 5 < 4 ∧ b % (μ 106 0 1 + 1) < μ 0 0 20 ∧ 0 < μ 20 (b % (μ 106 0 1 + 1)) 3
  · obtain ⟨c1, c2, c3⟩ := hc
    have ha2 := h.2.1.2.1
    have hm := Int.emod_nonneg b (b := μ 106 0 1 + 1) (by omega)
    rw [c105_0 h hb ⟨ha, c1⟩ c2 c3]
    have ho : 0 ≤ a % 5 ∧ a % 5 < 4 := by omega
    generalize a % 5 = o at *
    generalize b % (μ 106 0 1 + 1) = i at *
    refine c105_1 h ⟨hm, c2⟩ ?_
    have hD := h.2.2.2.2.1.2.2.2.2.1
    have hE := h.2.2.2.2.2.2.2.2
    obtain ⟨g1, g2, g3, g4, g5⟩ := ssS_r (a := i) hD hE h.2.1.2.2.2.2.2.2.1
    have hr := RW_ss (a := i) h
    obtain ⟨p1, p2, p3⟩ := f2_b h ⟨hm, c2⟩
    have gs : ∀ q : Nat, (1 ≤ q ∧ q ≤ 106) → ssS i μ q = μ q := fun q hq => g1 q (by omega) (by omega) (by omega) (by omega) (by omega) (by omega) (by omega)
    have hs : sfi μ (ssS i μ) 0 i := sfi_of (gs _ (by omega)) (gs _ (by omega)) (gs _ (by omega)) (gs _ (by omega)) (gs _ (by omega)) (gs _ (by omega)) (by rw [gs 22 (by omega)]) (by rw [gs 23 (by omega)]) (by rw [gs 24 (by omega)])
    have hL : SLT (ssS i μ) (ssS i μ) i := by
      have := ssS_SLT hD (h.TI hm c2)
      obtain ⟨e1, e2⟩ := inp_sf hs
      unfold SLT at this ⊢
      rw [e1, e2, gs 106 (by omega), gs 104 (by omega)]
      exact this
    have b20 : ssS i μ 0 0 20 = μ 0 0 20 := g2 _ _ (by omega)
    have b40 : ssS i μ 0 0 40 = μ 0 0 40 := g2 _ _ (by omega)
    have b41 : ssS i μ 0 0 41 = μ 0 0 41 := g2 _ _ (by omega)
    have ek := kept_eq hr (i := i) hm (by omega)
    have eb : bdk (ssS i μ) i = bdk μ i := by
      have el : lfv (ssS i μ) i = lfv μ i := lfv_congr (by rw [gs 101 (by omega)]) (by rw [gs 103 (by omega)])
      funext k
      unfold bdk
      rw [el, gs 106 (by omega), g1 111 (by decide) (by decide) (by decide) (by decide) (by decide) (by decide) (by decide), g1 112 (by decide) (by decide) (by decide) (by decide) (by decide) (by decide) (by decide)]
    rw [eb, gs 106 (by omega)] at ek
    have hA : ¬ ssS i μ 20 i 3 = 0 := by rw [gs 20 (by omega)]; omega
    rcases ek with ⟨k1, k2⟩ | ⟨k1, k2, k3⟩
    · rw [k1]
      by_cases hx : ssS i μ 7 0 o < ssS i μ 107 0 2 * (5 + ssS i μ 107 0 0)
      · exact c105_S hr ht (by omega) ⟨hm, by omega⟩ ho hA hL g4 k2 rfl hx hK
      · exact c105_R hr ht (by omega) (by omega) ⟨hm, by omega⟩ ho hA hL g4 k2 rfl p3.1 (by omega) hK
    · exact c105_K hr ht (by omega) ⟨hm, by omega⟩ ho hA hL g4 k1 k2 k3 hK
  · exact c105_x h ht ha hb hc hK
end ZPX
