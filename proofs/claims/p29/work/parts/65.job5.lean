/-! ===== the law: isJob, a job kept ===== -/
section ZPV
variable {ck sk : Nat} {Q : ZO → ZH → Prop} {μ ν κ β M Φ : ZU} {a b c d e f g h i j k l m n o p r s t t' v w x y z L H R W C J B K : Int} {u u1 u2 u3 u4 u5 u6 u7 u8 u9 u10 u11 : ZV}
theorem jq0 (hJ : jobOK Φ) (hB : bldOK Φ) (h0 : 0 ≤ n) (h1 : n < Φ 0 0 40) (e : Φ 40 n 2 = v) : G 63 0 [zR 2 0, zI n, zI 0, u] [] (HM Φ) 2 12 Q ↔ Q (.inl (some (zI v))) (HM Φ) := by
  rw [c63 hJ hB, if_pos ⟨h0, h1⟩, if_pos (by omega), if_pos rfl, e]
theorem jq1 (hJ : jobOK Φ) (hB : bldOK Φ) (h0 : 0 ≤ n) (h1 : n < Φ 0 0 40) (e : Φ 40 n 3 = v) : G 63 0 [zR 2 0, zI n, zI 1, u] [] (HM Φ) 2 12 Q ↔ Q (.inl (some (zI v))) (HM Φ) := by
  rw [c63 hJ hB, if_pos ⟨h0, h1⟩, if_pos (by omega), if_neg (by omega), if_pos rfl, e]
theorem jqm (hJ : jobOK Φ) (hB : bldOK Φ) (h0 : 0 ≤ n) (h1 : n < Φ 0 0 40) (w0 : 2 ≤ w) (w6 : w ≤ 6) (e : Φ 40 n 4 < 0) : G 63 0 [zR 2 0, zI n, zI w, u] [] (HM Φ) 2 12 Q ↔ Q (.inl (some (zI (-1)))) (HM Φ) := by
  rw [c63 hJ hB, if_pos ⟨h0, h1⟩, if_pos (by omega), if_neg (by omega), if_neg (by omega), if_pos e]
theorem jq69 (h : 0 ≤ o ∧ o < 4) (e : Φ 7 0 o = v) : G 69 0 [zR 2 0, zI o] [] (HM Φ) 1 6 Q ↔ Q (.inl (some (zI v))) (HM Φ) := by
  rw [c69, if_pos (by omega), e]
theorem kept_SHT (h : RW M t) (hi : 0 ≤ i ∧ i < M 0 0 20) (hK : 0 ≤ K ∧ K < M 0 0 41) (hv : svd M K 0 i = true) : SHT M K M 0 i := by
  have hd5 := h.2.2.2.2.1.2.2.2.2.1.1
  have hd1 := h.2.2.2.2.1.1
  have h9 : 0 ≤ M 30 0 9 := by omega
  obtain ⟨q1, q2, q3, q4, q5, q6, q7, q8, q9⟩ := h.2.2.2.2.2.2.2.1 K hK.1 hK.2
  unfold svd at hv
  obtain ⟨v1, v2, v3⟩ := of_decide_eq_true hv
  have hS := q9 v2
  refine SHT_lo hS (fun t t0 t1 ht => ?_) h9 h.fo
  have e := zall_iff.mp v3 t t0 (by omega)
  rw [hS.2.2.2.1] at e
  unfold ksm at e
  rcases of_decide_eq_true e with z | z
  · exact z
  · exact absurd z ht
theorem c105_K (h : RW M t) (ht : t + 1 ≤ 100) (h40 : M 0 0 40 < 40) (hi : 0 ≤ i ∧ i < M 0 0 20) (ho : 0 ≤ o ∧ o < 4) (hA : ¬ M 20 i 3 = 0) (hL : SLT M M i) (hP : lnP M) (hK : 0 ≤ K ∧ K < M 0 0 41) (hv : svd M K 0 i = true) (hk : (0 ≤ kbi M 0 i ∧ kbi M 0 i < M 0 0 40) ∧ M 40 (kbi M 0 i) 4 = K) (q : ∀ ν, RW ν (t + 1) → Q (.inl (some (zI 1))) (HM ν)) : G 105 169 [zR 2 0, zR 101 0, zR 103 0, zR 104 0, zR 105 0, zR 106 0, zR 107 0, zR 108 0, zR 109 0, zR 110 0, zR 111 0, zR 112 0, zI a, zI b, zI o, zI i, u3, u4, zI K, zI x, u7, u8, u9, u10, u11] [] (HM M) 2090 20590 Q := by
  have hA' := AS_fK h ht h40 hi ho hK hA hL hP (kept_SHT h hi hK hv)
  have hr := hA'.1
  have ha2 := h.2.1.2.1
  have ha3 := h.2.1.2.2.1
  have ha4 := h.2.1.2.2.2.1
  have hJ := hr.jobOK
  have hB := hr.bldOK
  have c40 : fK o i K M 0 0 40 = M 0 0 40 + 1 := mJb_n
  have n2 : fK o i K M 40 (M 0 0 40) 2 = 1 := by
    unfold fK
    rw [mJb_at]
    rfl
  have n3 : fK o i K M 40 (M 0 0 40) 3 = 0 := by
    unfold fK
    rw [mJb_at]
    rfl
  have hq := h.2.2.2.2.2.1 o ho.1 ho.2
  have hq2 := (hr.2.2.2.2.2.1 o ho.1 ho.2).1
  have hb0 := (hr.2.2.2.2.2.2.2.1 K hA'.2.2.2.1.1 hA'.2.2.2.1.2).1
  have hn0 : 0 ≤ M 0 0 40 := by omega
  have hn1 : M 0 0 40 < fK o i K M 0 0 40 := by omega
  have e0 := fun (Q : ZO → ZH → Prop) (u : ZV) => jq0 (u := u) (Q := Q) hJ hB hn0 hn1 n2
  have e1 := fun (Q : ZO → ZH → Prop) (u : ZV) => jq1 (u := u) (Q := Q) hJ hB hn0 hn1 n3
  have e2 := fun (Q : ZO → ZH → Prop) (u : ZV) => as63 (w := 2) (Q := Q) (u := u) hA' (by omega) (by omega)
  have e69 := fun (Q : ZO → ZH → Prop) => jq69 (Φ := fK o i K M) (Q := Q) ho hq2.symm
  have t2 : tlb (fK o i K M) K 2 = K := hb0
  rw [t2] at e2
  have hK0 : ¬ K < 0 := by omega
  have hK1 := hK.1
  simp (disch := first | omega | (simp (disch := decide) only [zmu0, mu_g, List.length_nil, List.length_cons]; omega)) only [g105_169, g105_171, g105_174, g105_176, g105_178, g105_180, g105_182, g105_183, g105_184, g105_187, g105_188, g105_191, g105_192, g105_194, g105_196, g105_199, g105_200, g105_203, g105_205, g105_208, g105_210, g105_212, g105_214, g105_215, g105_216, g105_219, g105_221, g105_223, g105_225, g105_227, g105_228, g105_230, g105_232, g105_234, g105_235, g105_236, g105_237, g105_238, g105_239, g105_241, g105_243, g105_245, g105_246, g105_247, g105_248, g105_250, g105_251, g105_252, g105_253, g105_255, g105_257, g105_258, g105_260, rd106, wr106, mu_j, Nat.sub_zero, Int.reduceSub, Int.reduceAdd, Int.add_zero, Int.zero_add, Int.cast_ofNat_Int, Bool.false_eq_true, decide_true, decide_false, zbndI, zbwI, zbzI, zb1I, zoA_at, gback_v, gback_n, zem, zisr, zro_at, zrl_at, mu_g, mu_at, mu_mu, mu_self, not_true, not_false_iff, zb0, zb1, zbnd, zbw, zbz, zne1, zone, mrgI, List.length_nil, List.length_cons, Nat.reduceAdd, Nat.reduceSub, Nat.reduceLeDiff, Nat.zero_le, and_true, true_and, false_and, and_false, true_or, or_true, false_or, or_false, G_ite, z10, z1n, z1and, z1or, z0not, z0and, itn, if_true, if_false, reduceIte, Int.reduceEq, Int.reduceLT, Int.reduceNeg, Nat.reduceEqDiff, ite_self, hK0, hK1]
  have em : mu (mu M 106 0 12 (M 106 0 12 + 1)) 106 0 (14 + o) (M 106 0 (14 + o) - 0) = mG o 0 M := rfl
  rw [em, g105_261]
  refine ⟨⟨by decide, by decide, by decide, trivial⟩, ?_⟩
  rw [w92_13]
  have g : ∀ q : Nat, q ≠ 106 → mG o 0 M q = M q := fun q hq => mG_g hq
  refine c61_K (n := M 0 0 40) (by rw [g 0 (by decide)]; omega) (by rw [g 0 (by decide)]; omega) (jobOK_G h.jobOK) (bldOK_G h.bldOK) (by omega) (by rw [g 0 (by decide)]; omega) (by rw [g 0 (by decide)]; exact hi) (by rw [g 20 (by decide)]; exact hA) (by rw [g 2 (by decide)]; omega) (by rw [g 0 (by decide)]) (by omega) h40 (by rw [kbi_G]; omega) ?_
  rw [kbi_G, g 40 (by decide), hk.2]
  have ef : mJb (M 0 0 40) 0 i 1 0 K (mu (mG o 0 M) 2 0 9 (M 0 0 40 + 1)) = fK o i K M := rfl
  rw [ef, v92_13, gback_v]
  have e12 : M 106 0 12 = M 0 0 40 := ha4.1
  rw [e12]
  simp (disch := first | omega | (simp (disch := decide) only [zmu0, mu_g, List.length_nil, List.length_cons]; omega)) only [g105_264, g105_266, g105_269, g105_270, g105_272, g105_273, g105_276, g105_278, g105_281, g105_282, g105_285, g105_287, g105_290, g105_291, g105_294, g105_295, g105_298, g105_299, g105_301, g105_302, g105_305, g105_307, g105_310, g105_311, g105_313, g105_316, g105_318, g105_320, g105_322, g105_323, g105_324, g105_327, g105_328, g105_331, g105_332, g105_334, g105_336, g105_339, g105_341, g105_344, g105_345, g105_347, g105_348, g105_351, g105_352, g105_355, g105_356, g105_358, g105_360, g105_363, g105_364, g105_367, g105_368, g105_370, g105_371, g105_372, g105_375, g105_376, g105_379, g105_380, g105_382, g105_385, g105_386, g105_389, g105_390, g105_392, g105_393, g105_396, g105_397, g105_400, g105_402, g105_403, g105_404, g105_407, g105_408, g105_410, g105_411, g105_414, g105_417, g105_418, g105_421, g105_422, g105_423, g105_425, g105_428, g105_430, g105_432, g105_434, g105_435, g105_437, g105_438, g105_439, g105_442, g105_444, g105_445, g105_446, g105_447, g105_448, g105_449, g105_450, g105_452, g105_454, g105_456, g105_459, g105_461, g105_463, g105_465, g105_467, g105_468, g105_469, g105_471, g105_472, g105_473, g105_474, g105_476, g105_478, g105_481, g105_482, g105_485, g105_488, g105_490, g105_492, g105_493, g105_494, g105_495, g105_496, g105_497, g105_499, g105_502, g105_503, g105_505, g105_506, g105_509, g105_511, g105_514, g105_516, g105_519, g105_521, g105_523, g105_524, g105_525, g105_526, g105_529, g105_530, g105_531, g105_533, g105_535, g105_537, g105_539, g105_541, ob2, oc2, fl2_0, fl2_1, fl2_2, fl2_3, fl2_4, fl2_5, fl2_6, wo2_6, fl2_7, wo2_7, fl2_8, wo2_8, fl2_9, wo2_9, fl2_10, wo2_10, rd106, wr106, e0, e1, e2, e69, Nat.sub_zero, Int.reduceSub, Int.reduceAdd, Int.add_zero, Int.zero_add, Int.cast_ofNat_Int, Bool.false_eq_true, decide_true, decide_false, zbndI, zbwI, zbzI, zb1I, zoA_at, gback_v, gback_n, zem, zisr, zro_at, zrl_at, mu_g, mu_at, mu_mu, mu_self, not_true, not_false_iff, zb0, zb1, zbnd, zbw, zbz, zne1, zone, mrgI, List.length_nil, List.length_cons, Nat.reduceAdd, Nat.reduceSub, Nat.reduceLeDiff, Nat.zero_le, and_true, true_and, false_and, and_false, true_or, or_true, false_or, or_false, G_ite, z10, z1n, z1and, z1or, z0not, z0and, itn, if_true, if_false, reduceIte, Int.reduceEq, Int.reduceLT, Int.reduceNeg, Nat.reduceEqDiff, ite_self, hK0, hK1, eq_self]
  rw [g105_543]
  refine ⟨⟨by decide, by decide, by decide, trivial⟩, ?_⟩
  refine c103 hA' fun κ hκ => ?_
  rw [gback_v]
  simp (disch := first | omega | (simp (disch := decide) only [zmu0, mu_g, List.length_nil, List.length_cons]; omega)) only [g105_546, g105_549, g105_550, g105_553, g105_554, Nat.sub_zero, Int.reduceSub, Int.reduceAdd, Int.add_zero, Int.zero_add, Int.cast_ofNat_Int, Bool.false_eq_true, decide_true, decide_false, zbndI, zbwI, zbzI, zb1I, zoA_at, gback_v, gback_n, zem, zisr, zro_at, zrl_at, mu_g, mu_at, mu_mu, mu_self, not_true, not_false_iff, zb0, zb1, zbnd, zbw, zbz, zne1, zone, mrgI, List.length_nil, List.length_cons, Nat.reduceAdd, Nat.reduceSub, Nat.reduceLeDiff, Nat.zero_le, and_true, true_and, false_and, and_false, true_or, or_true, false_or, or_false, G_ite, z10, z1n, z1and, z1or, z0not, z0and, itn, if_true, if_false, reduceIte, Int.reduceEq, Int.reduceLT, Int.reduceNeg, Nat.reduceEqDiff, ite_self]
  exact q κ hκ.1
end ZPV
