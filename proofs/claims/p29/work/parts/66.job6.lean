/-! ===== the law: isJob, a job stopped ===== -/
section ZPW
variable {ck sk : Nat} {Q : ZO → ZH → Prop} {μ ν κ β M Φ : ZU} {a b c d e f g h i j k l m n o p r s t t' v w x y z L H R W C J B K : Int} {u u1 u2 u3 u4 u5 u6 u7 u8 u9 u10 u11 : ZV}
/-- the first page set anew -/
theorem an_0 (h : RW Φ t) (hi : 0 ≤ i ∧ i < Φ 0 0 20) (hL : SLT Φ Φ i) (h0 : 0 < Φ 107 0 0) : tll (stt (Φ 0 0 50 - 1) 0 i Φ) (Φ 0 0 50 - 1) 0 4 = 0 := by
  have a3 := h.2.1.2.2.1
  have hd5 := h.2.2.2.2.1.2.2.2.2.1.1
  have hd1 := h.2.2.2.2.1.1
  have hd := h.dcOK.2 0 (by omega) (by omega)
  obtain ⟨⟨r1, r2, r3, r4⟩, -⟩ := stt_SHT (c := Φ 0 0 50 - 1) (d := 0) (b := i) (μ := Φ) (by omega) (fun k k0 k1 => hd.2.2.2.1 k k0 k1)
  obtain ⟨⟨l1, l2, l3, l4, l5⟩, l6, l7, l8⟩ := hL
  unfold tll
  rw [r1.1, ← l1, if_pos h0]
  show stt (Φ 0 0 50 - 1) 0 i Φ 56 (Φ 0 0 50 - 1) 0 = 0
  rw [r4 0 (by omega) (by omega), pNm_0]
theorem c105_S (h : RW M t) (ht : t + 1 ≤ 100) (h40 : M 0 0 40 < 40) (hi : 0 ≤ i ∧ i < M 0 0 20) (ho : 0 ≤ o ∧ o < 4) (hA : ¬ M 20 i 3 = 0) (hL : SLT M M i) (hP : lnP M) (hk : kbi M 0 i = -1) (hx : x = M 107 0 2 * (5 + M 107 0 0)) (hx2 : M 7 0 o < x) (q : ∀ ν, RW ν (t + 1) → Q (.inl (some (zI 1))) (HM ν)) : G 105 169 [zR 2 0, zR 101 0, zR 103 0, zR 104 0, zR 105 0, zR 106 0, zR 107 0, zR 108 0, zR 109 0, zR 110 0, zR 111 0, zR 112 0, zI a, zI b, zI o, zI i, u3, u4, zI (-1), zI x, u7, u8, u9, u10, u11] [] (HM M) 2090 20590 Q := by
  have hr := RW_fS h ht h40 hi ho
  have ha2 := h.2.1.2.1
  have ha3 := h.2.1.2.2.1
  have ha4 := h.2.1.2.2.2.1
  have hJ := hr.jobOK
  have hB := hr.bldOK
  have hc := cost_eq (o := o) (x := M 7 0 o) h hi hL
  have hB0 := h.bldOK
  have c40 : fS o i M 0 0 40 = M 0 0 40 + 1 := mJb_n
  have n1 : fS o i M 40 (M 0 0 40) 1 = i := by
    unfold fS
    rw [mJb_at]
    rfl
  have n2 : fS o i M 40 (M 0 0 40) 2 = 2 := by
    unfold fS
    rw [mJb_at]
    rfl
  have n3 : fS o i M 40 (M 0 0 40) 3 = M 7 0 o := by
    unfold fS
    rw [mJb_at]
    rfl
  have n4 : fS o i M 40 (M 0 0 40) 4 = -1 := by
    unfold fS
    rw [mJb_at]
    rfl
  have n0 : fS o i M 40 (M 0 0 40) 0 = 0 := by
    unfold fS
    rw [mJb_at]
    rfl
  have g : ∀ q : Nat, q ≠ 0 → q ≠ 2 → q ≠ 7 → q ≠ 40 → q ≠ 106 → (q < 50 ∨ 66 < q) → fS o i M q = M q := fun q h0 h2 h7 h40 h6 hr => by
    unfold fS
    rw [mJb_g h0 h40, mu_g h2, mu_g h7, stt_g hr, mG_g h6]
  have g0 : ∀ p j, ¬ (p = 0 ∧ j = 40) → fS o i M 0 p j = M 0 p j := fun p j hj => by
    unfold fS
    rw [mJb_0 hj, mu_g (by decide), mu_g (by decide), stt_g (by omega), mG_g (by decide)]
  have g6 : fS o i M 106 = mG o (M 7 0 o) M 106 := by
    unfold fS
    rw [mJb_g (by decide) (by decide), mu_g (by decide), mu_g (by decide), stt_g (by omega)]
  have g107 : fS o i M 107 = M 107 := g _ (by decide) (by decide) (by decide) (by decide) (by decide) (by omega)
  have hs : sfi M (fS o i M) 0 i := sfi_of (g _ (by decide) (by decide) (by decide) (by decide) (by decide) (by omega)) (g _ (by decide) (by decide) (by decide) (by decide) (by decide) (by omega)) (g _ (by decide) (by decide) (by decide) (by decide) (by decide) (by omega)) (g _ (by decide) (by decide) (by decide) (by decide) (by decide) (by omega)) (g _ (by decide) (by decide) (by decide) (by decide) (by decide) (by omega)) (g _ (by decide) (by decide) (by decide) (by decide) (by decide) (by omega)) (by rw [g 22 (by decide) (by decide) (by decide) (by decide) (by decide) (by omega)]) (by rw [g 23 (by decide) (by decide) (by decide) (by decide) (by decide) (by omega)]) (by rw [g 24 (by decide) (by decide) (by decide) (by decide) (by decide) (by omega)])
  have hLΦ : SLT (fS o i M) (fS o i M) i := SLT_o (by rw [g6, mG_j (by omega) (by omega)]) (g _ (by decide) (by decide) (by decide) (by decide) (by decide) (by omega)) g107 (g _ (by decide) (by decide) (by decide) (by decide) (by decide) (by omega)) (g _ (by decide) (by decide) (by decide) (by decide) (by decide) (by omega)) (g _ (by decide) (by decide) (by decide) (by decide) (by decide) (by omega)) hs hL
  have g20 : fS o i M 20 = M 20 := g _ (by decide) (by decide) (by decide) (by decide) (by decide) (by omega)
  have hq := h.2.2.2.2.2.1 o ho.1 ho.2
  have hq2 := (hr.2.2.2.2.2.1 o ho.1 ho.2).1
  have hn0 : 0 ≤ M 0 0 40 := by omega
  have hn1 : M 0 0 40 < fS o i M 0 0 40 := by omega
  have hn4 : fS o i M 40 (M 0 0 40) 4 < 0 := by omega
  have e0 := fun (Q : ZO → ZH → Prop) (u : ZV) => jq0 (u := u) (Q := Q) hJ hB hn0 hn1 n2
  have e1 := fun (Q : ZO → ZH → Prop) (u : ZV) => jq1 (u := u) (Q := Q) hJ hB hn0 hn1 n3
  have e2 := fun (Q : ZO → ZH → Prop) (u : ZV) => jqm (w := 2) (u := u) (Q := Q) hJ hB hn0 hn1 (by omega) (by omega) hn4
  have e6 := fun (Q : ZO → ZH → Prop) (u : ZV) => jqm (w := 6) (u := u) (Q := Q) hJ hB hn0 hn1 (by omega) (by omega) hn4
  have e69 := fun (Q : ZO → ZH → Prop) => jq69 (Φ := fS o i M) (Q := Q) ho hq2.symm
  have e64 : ∀ (Q : ZO → ZH → Prop) (u : ZV), G 64 0 [zR 2 0, zI (M 0 0 40), zI 0, zI 0, u] [] (HM (fS o i M)) 3 18 Q ↔ Q (.inl (some (zI (-1)))) (HM (fS o i M)) := fun Q u => by
    rw [c64 hJ hB, if_pos ⟨⟨hn0, hn1⟩, by omega⟩, if_pos (by omega), if_pos hn4]
  have e67 : ∀ (Q : ZO → ZH → Prop) (u : ZV), G 67 0 [zR 2 0, zI (M 0 0 40), u] [] (HM (fS o i M)) 1 6 Q ↔ Q (.inl (some (zI (-1)))) (HM (fS o i M)) := fun Q u => by
    rw [c67 hJ hB, if_pos ⟨hn0, hn1⟩, if_pos hn4]
  have e68 : ∀ (Q : ZO → ZH → Prop) (u u' : ZV), G 68 0 [zR 2 0, zI (M 0 0 40), zI 0, u, u'] [] (HM (fS o i M)) 2 12 Q ↔ Q (.inl (some (zI (-1)))) (HM (fS o i M)) := fun Q u u' => by
    rw [c68 hJ hB, if_pos ⟨⟨hn0, hn1⟩, by omega⟩, if_pos (Or.inl hn4)]
  have e66 : ∀ (_ : 0 < M 107 0 0) (Q : ZO → ZH → Prop) (u : ZV), G 66 0 [zR 2 0, zI (M 0 0 40), zI 0, u] [] (HM (fS o i M)) 2 12 Q ↔ Q (.inl (some (zI 0))) (HM (stt (fS o i M 0 0 50 - 1) 0 i (fS o i M))) := fun hz Q u => by
    rw [c66 hJ hB hr.dcOK (fun i i0 i1 => hr.flOK i0 i1), if_pos ⟨⟨hn0, hn1⟩, by omega⟩, n1, n0, if_neg (by rw [g20]; exact hA), an_0 hr (by rw [g0 _ _ (by omega)]; exact hi) hLΦ (by rw [g107]; exact hz)]
  have e14 : M 106 0 (14 + o) = M 7 0 o := hq.1
  have hx3 : ¬ x ≤ M 7 0 o := by omega
  simp (disch := first | omega | (simp (disch := decide) only [zmu0, mu_g, List.length_nil, List.length_cons]; omega)) only [g105_169, g105_171, g105_174, g105_176, g105_178, g105_180, g105_182, g105_183, g105_184, g105_187, g105_188, g105_191, g105_192, g105_194, g105_196, g105_199, g105_200, g105_203, g105_205, g105_208, g105_210, g105_212, g105_214, g105_215, g105_216, g105_219, g105_221, g105_223, g105_225, g105_227, g105_228, g105_230, g105_232, g105_234, g105_235, g105_236, g105_237, g105_238, g105_239, g105_241, g105_243, g105_245, g105_246, g105_247, g105_248, g105_250, g105_251, g105_252, g105_253, g105_255, g105_257, g105_258, g105_260, rd106, wr106, mu_j, e14, Nat.sub_zero, Int.reduceSub, Int.reduceAdd, Int.add_zero, Int.zero_add, Int.cast_ofNat_Int, Bool.false_eq_true, decide_true, decide_false, zbndI, zbwI, zbzI, zb1I, zoA_at, gback_v, gback_n, zem, zisr, zro_at, zrl_at, mu_g, mu_at, mu_mu, mu_self, not_true, not_false_iff, zb0, zb1, zbnd, zbw, zbz, zne1, zone, mrgI, List.length_nil, List.length_cons, Nat.reduceAdd, Nat.reduceSub, Nat.reduceLeDiff, Nat.zero_le, and_true, true_and, false_and, and_false, true_or, or_true, false_or, or_false, G_ite, z10, z1n, z1and, z1or, z0not, z0and, itn, if_true, if_false, reduceIte, Int.reduceEq, Int.reduceLT, Int.reduceNeg, Nat.reduceEqDiff, ite_self, hx2, hx3]
  have em : mu (mu M 106 0 12 (M 106 0 12 + 1)) 106 0 (14 + o) (M 7 0 o - M 7 0 o) = mG o (M 7 0 o) M := by
    unfold mG
    rw [e14]
  rw [em, g105_261]
  refine ⟨⟨by decide, by decide, by decide, trivial⟩, ?_⟩
  rw [w92_13]
  have gg : ∀ q : Nat, q ≠ 106 → mG o (M 7 0 o) M q = M q := fun q hq => mG_g hq
  refine c61_S (n := M 0 0 40) (t := t) (by rw [gg 0 (by decide)]; omega) (by rw [gg 0 (by decide)]; omega) (jobOK_G h.jobOK) (bldOK_G h.bldOK) (by omega) (by rw [gg 0 (by decide)]; omega) (by rw [gg 0 (by decide)]; exact hi) (by rw [gg 20 (by decide)]; exact hA) (by rw [gg 2 (by decide)]; omega) (by rw [gg 0 (by decide)]) (by omega) h40 (by rw [kbi_G]; exact hk) (dcOK_G h.dcOK) (flOK_G (h.flOK hi.1 hi.2)) (by rw [gg 0 (by decide), gg 7 (by decide), hc, ← hx]; exact hx2) ?_
  rw [gg 0 (by decide), gg 7 (by decide)]
  have ef : mJb (M 0 0 40) 0 i 2 (M 7 0 o) (-1) (mu (mu (stt (M 0 0 50 - 1) 0 i (mG o (M 7 0 o) M)) 7 0 o 0) 2 0 9 (M 0 0 40 + 1)) = fS o i M := rfl
  rw [ef, v92_13, gback_v]
  have e12 : M 106 0 12 = M 0 0 40 := ha4.1
  rw [e12]
  have hp := hP.2
  by_cases hz : M 107 0 0 = 0
  · simp (disch := first | omega | (simp (disch := decide) only [zmu0, mu_g, List.length_nil, List.length_cons]; omega)) only [g105_264, g105_266, g105_269, g105_270, g105_272, g105_273, g105_276, g105_278, g105_281, g105_282, g105_285, g105_287, g105_290, g105_291, g105_294, g105_295, g105_298, g105_299, g105_301, g105_302, g105_305, g105_307, g105_310, g105_311, g105_313, g105_316, g105_318, g105_320, g105_322, g105_323, g105_324, g105_327, g105_328, g105_331, g105_332, g105_334, g105_336, g105_339, g105_341, g105_344, g105_345, g105_347, g105_348, g105_351, g105_352, g105_355, g105_356, g105_358, g105_360, g105_363, g105_364, g105_367, g105_368, g105_370, g105_371, g105_372, g105_375, g105_376, g105_379, g105_380, g105_382, g105_385, g105_386, g105_389, g105_390, g105_392, g105_393, g105_396, g105_397, g105_400, g105_402, g105_403, g105_404, g105_407, g105_408, g105_410, g105_411, g105_414, g105_417, g105_418, g105_421, g105_422, ob2, oc2, fl2_0, fl2_1, fl2_2, fl2_3, fl2_4, fl2_5, fl2_6, wo2_6, fl2_7, wo2_7, fl2_8, wo2_8, fl2_9, wo2_9, fl2_10, wo2_10, rd106, wr106, rd107, wr107, g107, e0, e1, e2, e6, e64, e67, e68, e69, Nat.sub_zero, Int.reduceSub, Int.reduceAdd, Int.add_zero, Int.zero_add, Int.cast_ofNat_Int, Bool.false_eq_true, decide_true, decide_false, zbndI, zbwI, zbzI, zb1I, zoA_at, gback_v, gback_n, zem, zisr, zro_at, zrl_at, mu_g, mu_at, mu_mu, mu_self, not_true, not_false_iff, zb0, zb1, zbnd, zbw, zbz, zne1, zone, mrgI, List.length_nil, List.length_cons, Nat.reduceAdd, Nat.reduceSub, Nat.reduceLeDiff, Nat.zero_le, and_true, true_and, false_and, and_false, true_or, or_true, false_or, or_false, G_ite, z10, z1n, z1and, z1or, z0not, z0and, itn, if_true, if_false, reduceIte, Int.reduceEq, Int.reduceLT, Int.reduceNeg, Nat.reduceEqDiff, ite_self, hz, eq_self]
    exact q _ hr
  · have hz1 : 0 < M 107 0 0 := by omega
    have e66 := e66 hz1
    simp (disch := first | omega | (simp (disch := decide) only [zmu0, mu_g, List.length_nil, List.length_cons]; omega)) only [g105_264, g105_266, g105_269, g105_270, g105_272, g105_273, g105_276, g105_278, g105_281, g105_282, g105_285, g105_287, g105_290, g105_291, g105_294, g105_295, g105_298, g105_299, g105_301, g105_302, g105_305, g105_307, g105_310, g105_311, g105_313, g105_316, g105_318, g105_320, g105_322, g105_323, g105_324, g105_327, g105_328, g105_331, g105_332, g105_334, g105_336, g105_339, g105_341, g105_344, g105_345, g105_347, g105_348, g105_351, g105_352, g105_355, g105_356, g105_358, g105_360, g105_363, g105_364, g105_367, g105_368, g105_370, g105_371, g105_372, g105_375, g105_376, g105_379, g105_380, g105_382, g105_385, g105_386, g105_389, g105_390, g105_392, g105_393, g105_396, g105_397, g105_400, g105_402, g105_403, g105_404, g105_407, g105_408, g105_410, g105_411, g105_414, g105_417, g105_418, g105_421, g105_422, ob2, oc2, fl2_0, fl2_1, fl2_2, fl2_3, fl2_4, fl2_5, fl2_6, wo2_6, fl2_7, wo2_7, fl2_8, wo2_8, fl2_9, wo2_9, fl2_10, wo2_10, rd106, wr106, rd107, wr107, g107, e0, e1, e2, e6, e64, e66, e67, e68, e69, Nat.sub_zero, Int.reduceSub, Int.reduceAdd, Int.add_zero, Int.zero_add, Int.cast_ofNat_Int, Bool.false_eq_true, decide_true, decide_false, zbndI, zbwI, zbzI, zb1I, zoA_at, gback_v, gback_n, zem, zisr, zro_at, zrl_at, mu_g, mu_at, mu_mu, mu_self, not_true, not_false_iff, zb0, zb1, zbnd, zbw, zbz, zne1, zone, mrgI, List.length_nil, List.length_cons, Nat.reduceAdd, Nat.reduceSub, Nat.reduceLeDiff, Nat.zero_le, and_true, true_and, false_and, and_false, true_or, or_true, false_or, or_false, G_ite, z10, z1n, z1and, z1or, z0not, z0and, itn, if_true, if_false, reduceIte, Int.reduceEq, Int.reduceLT, Int.reduceNeg, Nat.reduceEqDiff, ite_self, hz, eq_self]
    exact q _ (RW_an hr)
end ZPW
