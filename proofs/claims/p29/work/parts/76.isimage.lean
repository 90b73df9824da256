/-! ===== the law: isImage ===== -/
section ZPG1
variable {ck sk : Nat} {Q : ZO → ZH → Prop} {q : Int → Int} {μ ν κ M Φ : ZU} {a b c d e f g i j k l m n o p r s t t' v w x z D R S T : Int} {y : Int64} {u u1 u2 u3 u4 u5 u6 u7 u8 u9 u10 u11 u12 : ZV}
/-- the answers, once the row and the image alike are known -/
theorem c108_E (h : IMC ν t n m q) (ht2 : t + 1 ≤ 100) (ht : ∀ j, 0 ≤ j → j < m → q j ≤ ν 0 0 10) (hz : (z = 1 ∧ ∀ j, 0 ≤ j → j < m → ν 102 0 (q j - 1) = 1) ∨ (z = 0 ∧ ¬ ∀ j, 0 ≤ j → j < m → ν 102 0 (q j - 1) = 1)) (hp : zdn (lkp ν n) (ν 0 0 20).toNat (-1) = p) (hck : 13 ≤ ck) (hsk : 406 ≤ sk) (hK : ∀ ν, RW ν (t + 1) → Q (.inl (some (zI 1))) (HM ν)) : G 108 557 [zR 2 0, zR 101 0, zR 102 0, zR 103 0, zR 106 0, zI w, zI a, zI b, zI m, zR 115 n, zI 1, zI z, zI p, u1, u2, u3, u4, u5] [] (HM ν) ck sk Q := by
  obtain ⟨m1, m2, m3, m4, m5⟩ := IMC_M h ht
  have h6 := h.1.2.1.1
  have h20 := h.1.2.1.2.1
  have ht0 := h.1.1
  have hn := h.2.1
  have e0 := h.2.2.2.1 0 (by omega) (by omega)
  have e1 := h.2.2.2.1 1 (by omega) (by omega)
  have e2 := h.2.2.2.1 2 (by omega) (by omega)
  have hb : ∀ j, 0 ≤ j → j < 3 → 0 ≤ q j ∧ q j ≤ 7 := fun j j0 j1 => by
    by_cases hj : j < m
    · have := h.2.2.2.2.1 j j0 hj; omega
    · have := h.2.2.2.2.2 j (by omega) j1; omega
  have b0 := hb 0 (by omega) (by omega)
  have b1 := hb 1 (by omega) (by omega)
  have b2 := hb 2 (by omega) (by omega)
  have hrM := RW_up m1 ht2
  have hpb := IMC_p h ht hp
  have gM : ∀ k : Nat, k ≠ 0 → k ≠ 26 → m49 (yq q) ν k = ν k := fun k a b => mRw_g a b
  rw [g108_557]
  rcases hz with ⟨hz, hs⟩ | ⟨hz, hs⟩
  · subst hz
    by_cases hp1 : p = -1
    · subst hp1
      by_cases hn12 : ν 106 0 1 < 12
      · simp (disch := first | omega | (simp (disch := decide) only [zmu0, mu_g, List.length_nil, List.length_cons]; omega)) only [g108_559, g108_562, g108_564, g108_567, g108_569, g108_572, g108_574, g108_575, g108_576, g108_578, g108_581, g108_582, g108_585, g108_586, g108_588, g108_589, g108_590, g108_592, g108_593, g108_594, g108_596, g108_597, g108_598, g108_600, g108_601, g108_602, rd106, wr106, rd115, wr115, e0, e1, e2, Nat.sub_zero, Int.reduceSub, Int.reduceAdd, Int.add_zero, Int.zero_add, Int.cast_ofNat_Int, Bool.false_eq_true, decide_true, decide_false, zbndI, zbwI, zbzI, zb1I, zoA_at, gback_v, gback_n, zem, zisr, zro_at, zrl_at, mu_g, mu_at, mu_mu, mu_self, not_true, not_false_iff, zb0, zb1, zbnd, zbw, zbz, zne1, zone, mrgI, List.length_nil, List.length_cons, Nat.reduceAdd, Nat.reduceSub, Nat.reduceLeDiff, Nat.zero_le, and_true, true_and, false_and, and_false, true_or, or_true, false_or, or_false, G_ite, z10, z1n, z1and, z1or, z0not, z0and, itn, if_true, if_false, reduceIte, Int.reduceEq, Int.reduceLT, Int.reduceNeg, Nat.reduceEqDiff, ite_self, hn12]
        rw [g108_603]
        refine ⟨⟨hck, hsk, by decide, trivial⟩, ?_⟩
        refine d5m h ht hs hp (by omega) ?_
        rw [gback_v]
        have hr := RW_ni h ht hs (by omega) ht2
        have f106 : mNi q ν 106 = ν 106 := by
          unfold mNi
          rw [mIm_g (by decide) (by decide), mu_g (by decide), gM _ (by decide) (by decide)]
        have f115 : mNi q ν 115 = ν 115 := by
          unfold mNi
          rw [mIm_g (by decide) (by decide), mu_g (by decide), gM _ (by decide) (by decide)]
        have f0 : mNi q ν 0 0 115 = ν 0 0 115 := by
          unfold mNi
          rw [mIm_0 (by omega), mu_g (by decide)]
          exact mRw_0 (by omega) (by omega)
        have hn' : n < mNi q ν 0 0 115 := by omega
        have e106 : ν 106 0 1 = ν 0 0 20 := h20.1
        have h20a := h20.2.2.1
        have h20b : ν 0 0 20 < 12 := by omega
        have g115 : ∀ {i j v : Int}, mu (mNi q ν) 103 i j v 0 0 115 = ν 0 0 115 := fun {i j v} => by rw [mu_g (by decide), f0]
        simp (disch := first | omega | (simp (disch := decide) only [zmu0, mu_g, List.length_nil, List.length_cons]; omega)) only [g108_606, g108_608, g108_610, g108_613, g108_615, g108_617, g108_620, g108_623, g108_626, g108_629, g108_632, g108_633, g108_636, g108_637, g108_638, g108_640, g108_643, g108_644, g108_645, g108_647, g108_648, g108_649, g108_650, g108_651, g108_652, g108_653, g108_655, g108_657, g108_660, g108_661, g108_664, g108_665, g108_666, g108_667, g108_668, g108_670, g108_671, g108_672, g108_673, g108_674, g108_675, g108_676, g108_678, g108_680, g108_681, g108_684, g108_685, g108_686, g108_688, g108_689, g108_690, g108_691, g108_692, g108_693, g108_695, g108_696, g108_698, g108_700, g108_701, g108_702, g108_705, g108_708, g108_710, g108_711, g108_712, g108_713, g108_714, g108_715, g108_716, g108_718, g108_720, g108_721, g108_722, g108_723, g108_724, g108_727, g108_728, g108_731, g108_732, rd103, wr103, rd106, wr106, rd115, wr115, f106, f115, e0, e1, e2, e106, Nat.sub_zero, Int.reduceSub, Int.reduceAdd, Int.add_zero, Int.zero_add, Int.cast_ofNat_Int, Bool.false_eq_true, decide_true, decide_false, zbndI, zbwI, zbzI, zb1I, zoA_at, gback_v, gback_n, zem, zisr, zro_at, zrl_at, mu_g, mu_at, mu_mu, mu_self, not_true, not_false_iff, zb0, zb1, zbnd, zbw, zbz, zne1, zone, mrgI, List.length_nil, List.length_cons, Nat.reduceAdd, Nat.reduceSub, Nat.reduceLeDiff, Nat.zero_le, and_true, true_and, false_and, and_false, true_or, or_true, false_or, or_false, G_ite, z10, z1n, z1and, z1or, z0not, z0and, itn, if_true, if_false, reduceIte, Int.reduceEq, Int.reduceLT, Int.reduceNeg, Nat.reduceEqDiff, ite_self, eq_self, Int.add_sub_cancel]
        exact hK _ hr
      · simp (disch := first | omega | (simp (disch := decide) only [zmu0, mu_g, List.length_nil, List.length_cons]; omega)) only [g108_559, g108_562, g108_564, g108_567, g108_569, g108_572, g108_574, g108_575, g108_576, g108_578, g108_581, g108_582, g108_585, g108_586, g108_588, g108_589, g108_590, g108_592, g108_593, g108_594, g108_596, g108_597, g108_598, g108_600, g108_601, g108_602, rd106, wr106, rd115, wr115, e0, e1, e2, Nat.sub_zero, Int.reduceSub, Int.reduceAdd, Int.add_zero, Int.zero_add, Int.cast_ofNat_Int, Bool.false_eq_true, decide_true, decide_false, zbndI, zbwI, zbzI, zb1I, zoA_at, gback_v, gback_n, zem, zisr, zro_at, zrl_at, mu_g, mu_at, mu_mu, mu_self, not_true, not_false_iff, zb0, zb1, zbnd, zbw, zbz, zne1, zone, mrgI, List.length_nil, List.length_cons, Nat.reduceAdd, Nat.reduceSub, Nat.reduceLeDiff, Nat.zero_le, and_true, true_and, false_and, and_false, true_or, or_true, false_or, or_false, G_ite, z10, z1n, z1and, z1or, z0not, z0and, itn, if_true, if_false, reduceIte, Int.reduceEq, Int.reduceLT, Int.reduceNeg, Nat.reduceEqDiff, ite_self, hn12]
        rw [g108_603]
        refine ⟨⟨hck, hsk, by decide, trivial⟩, ?_⟩
        refine d5n h ht hs hp (by omega) ?_
        rw [gback_v]
        simp (disch := first | omega | (simp (disch := decide) only [zmu0, mu_g, List.length_nil, List.length_cons]; omega)) only [g108_606, g108_608, g108_610, g108_613, g108_615, g108_617, g108_620, g108_623, g108_626, g108_629, g108_632, g108_633, g108_636, g108_637, Nat.sub_zero, Int.reduceSub, Int.reduceAdd, Int.add_zero, Int.zero_add, Int.cast_ofNat_Int, Bool.false_eq_true, decide_true, decide_false, zbndI, zbwI, zbzI, zb1I, zoA_at, gback_v, gback_n, zem, zisr, zro_at, zrl_at, mu_g, mu_at, mu_mu, mu_self, not_true, not_false_iff, zb0, zb1, zbnd, zbw, zbz, zne1, zone, mrgI, List.length_nil, List.length_cons, Nat.reduceAdd, Nat.reduceSub, Nat.reduceLeDiff, Nat.zero_le, and_true, true_and, false_and, and_false, true_or, or_true, false_or, or_false, G_ite, z10, z1n, z1and, z1or, z0not, z0and, itn, if_true, if_false, reduceIte, Int.reduceEq, Int.reduceLT, Int.reduceNeg, Nat.reduceEqDiff, ite_self, eq_self]
        exact hK _ hrM
    · have hp0 : 0 ≤ p ∧ p < ν 0 0 20 := by omega
      have hpn : ¬ p < 0 := by omega
      have hp00 := hp0.1
      have h48 : 4 * p < 52 := by omega
      have hx := (h.1.2.2.2.1.1 p hp0.1 hp0.2).1
      have hr := RW_ct (m := p) (y := ν 20 p 3 + 1) m1 (show t ≤ t + 1 by omega) ht2 ⟨hp0.1, by
        have e20 : m49 (yq q) ν 0 0 20 = ν 0 0 20 := mRw_0 (by omega) (by omega)
        omega⟩ (by omega)
      simp (disch := first | omega | (simp (disch := decide) only [zmu0, mu_g, List.length_nil, List.length_cons]; omega)) only [g108_559, g108_562, g108_564, g108_567, g108_569, g108_572, g108_574, g108_575, g108_576, g108_578, g108_581, g108_582, g108_585, g108_586, g108_588, g108_589, g108_590, g108_592, g108_593, g108_594, g108_596, g108_597, g108_598, g108_600, g108_601, g108_602, rd106, wr106, rd115, wr115, e0, e1, e2, Nat.sub_zero, Int.reduceSub, Int.reduceAdd, Int.add_zero, Int.zero_add, Int.cast_ofNat_Int, Bool.false_eq_true, decide_true, decide_false, zbndI, zbwI, zbzI, zb1I, zoA_at, gback_v, gback_n, zem, zisr, zro_at, zrl_at, mu_g, mu_at, mu_mu, mu_self, not_true, not_false_iff, zb0, zb1, zbnd, zbw, zbz, zne1, zone, mrgI, List.length_nil, List.length_cons, Nat.reduceAdd, Nat.reduceSub, Nat.reduceLeDiff, Nat.zero_le, and_true, true_and, false_and, and_false, true_or, or_true, false_or, or_false, G_ite, z10, z1n, z1and, z1or, z0not, z0and, itn, if_true, if_false, reduceIte, Int.reduceEq, Int.reduceLT, Int.reduceNeg, Nat.reduceEqDiff, ite_self, hp00, hpn]
      rw [g108_603]
      refine ⟨⟨hck, hsk, by decide, trivial⟩, ?_⟩
      refine d5f h ht hs hp hp1 ?_
      rw [gback_v]
      have f103 : mu (m49 (yq q) ν) 20 p 3 (ν 20 p 3 + 1) 103 0 (4 * p) = ν 20 p 3 := by
        rw [mu_g (by decide), gM _ (by decide) (by decide), hx.1]
      have ef : mu (mu (m49 (yq q) ν) 20 p 3 (ν 20 p 3 + 1)) 103 0 (4 * p) (ν 20 p 3 + 1) = mCt p (ν 20 p 3 + 1) (m49 (yq q) ν) := mu_cm (by decide)
      have hx2 := hx.2
      simp (disch := first | omega | (simp (disch := decide) only [zmu0, mu_g, List.length_nil, List.length_cons]; omega)) only [g108_606, g108_608, g108_610, g108_613, g108_615, g108_617, g108_620, g108_623, g108_626, g108_629, g108_632, g108_633, g108_636, g108_637, g108_638, g108_640, g108_643, g108_644, g108_645, g108_647, g108_648, g108_649, g108_650, g108_651, g108_652, g108_653, g108_655, g108_657, g108_660, g108_661, g108_664, g108_665, rd103, wr103, f103, ef, Nat.sub_zero, Int.reduceSub, Int.reduceAdd, Int.add_zero, Int.zero_add, Int.cast_ofNat_Int, Bool.false_eq_true, decide_true, decide_false, zbndI, zbwI, zbzI, zb1I, zoA_at, gback_v, gback_n, zem, zisr, zro_at, zrl_at, mu_g, mu_at, mu_mu, mu_self, not_true, not_false_iff, zb0, zb1, zbnd, zbw, zbz, zne1, zone, mrgI, List.length_nil, List.length_cons, Nat.reduceAdd, Nat.reduceSub, Nat.reduceLeDiff, Nat.zero_le, and_true, true_and, false_and, and_false, true_or, or_true, false_or, or_false, G_ite, z10, z1n, z1and, z1or, z0not, z0and, itn, if_true, if_false, reduceIte, Int.reduceEq, Int.reduceLT, Int.reduceNeg, Nat.reduceEqDiff, ite_self, hpn, eq_self]
      exact hK _ hr
  · subst hz
    simp (disch := first | omega | (simp (disch := decide) only [zmu0, mu_g, List.length_nil, List.length_cons]; omega)) only [g108_559, g108_562, g108_564, g108_567, g108_569, g108_572, g108_574, g108_575, g108_576, g108_578, g108_581, g108_582, g108_585, g108_586, g108_588, g108_589, g108_590, g108_592, g108_593, g108_594, g108_596, g108_597, g108_598, g108_600, g108_601, g108_602, rd106, wr106, rd115, wr115, e0, e1, e2, Nat.sub_zero, Int.reduceSub, Int.reduceAdd, Int.add_zero, Int.zero_add, Int.cast_ofNat_Int, Bool.false_eq_true, decide_true, decide_false, zbndI, zbwI, zbzI, zb1I, zoA_at, gback_v, gback_n, zem, zisr, zro_at, zrl_at, mu_g, mu_at, mu_mu, mu_self, not_true, not_false_iff, zb0, zb1, zbnd, zbw, zbz, zne1, zone, mrgI, List.length_nil, List.length_cons, Nat.reduceAdd, Nat.reduceSub, Nat.reduceLeDiff, Nat.zero_le, and_true, true_and, false_and, and_false, true_or, or_true, false_or, or_false, G_ite, z10, z1n, z1and, z1or, z0not, z0and, itn, if_true, if_false, reduceIte, Int.reduceEq, Int.reduceLT, Int.reduceNeg, Nat.reduceEqDiff, ite_self]
    rw [g108_603]
    refine ⟨⟨hck, hsk, by decide, trivial⟩, ?_⟩
    refine d5s h ht hs ?_
    rw [gback_v]
    simp (disch := first | omega | (simp (disch := decide) only [zmu0, mu_g, List.length_nil, List.length_cons]; omega)) only [g108_606, g108_608, g108_610, g108_613, g108_615, g108_617, g108_620, g108_623, g108_626, g108_629, g108_632, g108_633, g108_636, g108_637, Nat.sub_zero, Int.reduceSub, Int.reduceAdd, Int.add_zero, Int.zero_add, Int.cast_ofNat_Int, Bool.false_eq_true, decide_true, decide_false, zbndI, zbwI, zbzI, zb1I, zoA_at, gback_v, gback_n, zem, zisr, zro_at, zrl_at, mu_g, mu_at, mu_mu, mu_self, not_true, not_false_iff, zb0, zb1, zbnd, zbw, zbz, zne1, zone, mrgI, List.length_nil, List.length_cons, Nat.reduceAdd, Nat.reduceSub, Nat.reduceLeDiff, Nat.zero_le, and_true, true_and, false_and, and_false, true_or, or_true, false_or, or_false, G_ite, z10, z1n, z1and, z1or, z0not, z0and, itn, if_true, if_false, reduceIte, Int.reduceEq, Int.reduceLT, Int.reduceNeg, Nat.reduceEqDiff, ite_self, eq_self]
    exact hK _ hrM
theorem c108_0 (h : RW μ t) (ht2 : t + 1 ≤ 100) (hw : ¬ w = 1) (ha : 0 ≤ a) (hb : 0 ≤ b) (hK : ∀ ν, RW ν (t + 1) → Q (.inl (some (zI 1))) (HM ν)) : G 108 0 [zR 2 0, zR 101 0, zR 102 0, zR 103 0, zR 106 0, zI w, zI a, zI b, u1, u2, u3, u4, u5, u6, u7, u8, u9, u10] [] (HM μ) 20 500 Q := by
  have h6 := h.2.1.1
  have h20 := h.2.1.2.1
  have h15 := h.2.1.2.2.2.2.2.2.2
  have ht0 := h.1
  simp (disch := first | omega | (simp (disch := decide) only [zmu0, mu_g, List.length_nil, List.length_cons]; omega)) only [g108_0, g108_2, g108_3, g108_219, g108_220, g108_222, g108_223, g108_224, g108_225, g108_227, Nat.sub_zero, Int.reduceSub, Int.reduceAdd, Int.add_zero, Int.zero_add, Int.cast_ofNat_Int, Bool.false_eq_true, decide_true, decide_false, zbndI, zbwI, zbzI, zb1I, zoA_at, gback_v, gback_n, zem, zisr, zro_at, zrl_at, mu_g, mu_at, mu_mu, mu_self, not_true, not_false_iff, zb0, zb1, zbnd, zbw, zbz, zne1, zone, mrgI, List.length_nil, List.length_cons, Nat.reduceAdd, Nat.reduceSub, Nat.reduceLeDiff, Nat.zero_le, and_true, true_and, false_and, and_false, true_or, or_true, false_or, or_false, G_ite, z10, z1n, z1and, z1or, z0not, z0and, itn, if_true, if_false, reduceIte, Int.reduceEq, Int.reduceLT, Int.reduceNeg, Nat.reduceEqDiff, ite_self, hw]
  rw [g108_228]
  refine ⟨⟨⟨by decide, by decide⟩, by decide, by decide⟩, 115, μ 0 0 115, by decide, no115 (by omega), ?_⟩
  have ez : zset (HM μ) 115 (μ 0 0 115) (.inr (.int, (3 : Int).toNat, fun _ => zI 0)) = HM (mR3 (μ 0 0 115) μ) := HM_r3 rfl h15
  rw [ez]
  simp (disch := first | omega | (simp (disch := decide) only [zmu0, mu_g, List.length_nil, List.length_cons]; omega)) only [g108_230, g108_232, g108_233, g108_235, g108_236, g108_238, g108_239, Nat.sub_zero, Int.reduceSub, Int.reduceAdd, Int.add_zero, Int.zero_add, Int.cast_ofNat_Int, Bool.false_eq_true, decide_true, decide_false, zbndI, zbwI, zbzI, zb1I, zoA_at, gback_v, gback_n, zem, zisr, zro_at, zrl_at, mu_g, mu_at, mu_mu, mu_self, not_true, not_false_iff, zb0, zb1, zbnd, zbw, zbz, zne1, zone, mrgI, List.length_nil, List.length_cons, Nat.reduceAdd, Nat.reduceSub, Nat.reduceLeDiff, Nat.zero_le, and_true, true_and, false_and, and_false, true_or, or_true, false_or, or_false, G_ite, z10, z1n, z1and, z1or, z0not, z0and, itn, if_true, if_false, reduceIte, Int.reduceEq, Int.reduceLT, Int.reduceNeg, Nat.reduceEqDiff, ite_self]
  obtain ⟨D, hD⟩ : ∃ D, (a % 9 = 0 ∧ D = μ 106 0 0 + 1) ∨ (¬ a % 9 = 0 ∧ D = μ 106 0 0) := by
    by_cases h9 : a % 9 = 0
    · exact ⟨_, Or.inl ⟨h9, rfl⟩⟩
    · exact ⟨_, Or.inr ⟨h9, rfl⟩⟩
  have g3 : ∀ k : Nat, k ≠ 0 → k ≠ 115 → mR3 (μ 0 0 115) μ k = μ k := fun k a b => mR3_g a b
  refine (c108_L (κ := mR3 (μ 0 0 115) μ) (D := D) (by rw [g3 106 (by decide) (by decide)]; omega) (by rw [g3 106 (by decide) (by decide)]; exact hD) ha hb ⟨h15, by rw [mR3_c]; omega⟩ (by omega) (1 + a % 3).toNat 0 1 1 (mR3 (μ 0 0 115) μ) rfl rfl rfl (by omega) (by omega) (Or.inr rfl) (Or.inr rfl)).mpr ?_
  have gν : ∀ k : Nat, k ≠ 0 → k ≠ 115 → rwN D b (μ 0 0 115) (1 + a % 3).toNat 0 (mR3 (μ 0 0 115) μ) k = μ k := fun k a b => by rw [rwN_g b, g3 k a b]
  have gν0 : ∀ i j, ¬ (i = 0 ∧ j = 115) → rwN D b (μ 0 0 115) (1 + a % 3).toNat 0 (mR3 (μ 0 0 115) μ) 0 i j = μ 0 i j := fun i j hj => by rw [rwN_g (by decide), mR3_0 hj]
  have gc : rwN D b (μ 0 0 115) (1 + a % 3).toNat 0 (mR3 (μ 0 0 115) μ) 0 0 115 = μ 0 0 115 + 1 := by rw [rwN_g (by decide), mR3_c]
  have g115 : ∀ j, 0 ≤ j → j < 3 → rwN D b (μ 0 0 115) (1 + a % 3).toNat 0 (mR3 (μ 0 0 115) μ) 115 (μ 0 0 115) j = if j < 1 + a % 3 then rvl D b j else 0 := fun j j0 j1 => by
    rw [rwN_at, mR3_115]
    by_cases hj : j < 1 + a % 3
    · rw [if_pos (by omega), if_pos hj]
    · rw [if_neg (by omega), if_neg hj]
  have hDb : 1 ≤ D ∧ D ≤ 7 := by omega
  have hr : RW (rwN D b (μ 0 0 115) (1 + a % 3).toNat 0 (mR3 (μ 0 0 115) μ)) t := RW_keep h (Int.le_refl _) ht0.2.1 (fun q q1 q2 => gν q (by omega) (by omega)) (fun i j hj => gν0 i j (by omega)) (by rw [gν0 _ _ (by omega)]; exact h.2.1.2.2.2.2.2.2.1) (by rw [gc]; omega) (fun q q1 q2 => gν q (by omega) (by omega)) (gν _ (by decide) (by decide)) (gν _ (by decide) (by decide)) (fun j _ _ => by rw [gν 106 (by decide) (by decide)]) (fun b _ _ k k0 k1 => by rw [gν k (by omega) (by omega)]) (lnE_of (gν _ (by decide) (by decide)) (gν _ (by decide) (by decide)) h.2.2.2.2.2.2.2.2)
  have e106 := gν 106 (by decide) (by decide)
  have e102 := gν 102 (by decide) (by decide)
  have e010 := gν0 0 10 (by omega)
  have e020 := gν0 0 20 (by omega)
  rw [g3 106 (by decide) (by decide)]
  have eTh : zall (rTh (μ 106 0 0) D b) (1 + a % 3).toNat 0 = true ↔ ∀ j, 0 ≤ j → j < 1 + a % 3 → rvl D b j ≤ μ 0 0 10 := by
    rw [zall_iff]
    constructor
    · intro z j j0 j1
      have := of_decide_eq_true (z j j0 (by omega))
      omega
    · intro z j j0 j1
      have := z j j0 (by omega)
      exact decide_eq_true (by omega)
  have eSl : (∀ j, 0 ≤ j → j < 1 + a % 3 → rvl D b j ≤ μ 0 0 10) → (zall (rSl (mR3 (μ 0 0 115) μ) (μ 106 0 0) D b) (1 + a % 3).toNat 0 = true ↔ ∀ j, 0 ≤ j → j < 1 + a % 3 → μ 102 0 (rvl D b j - 1) = 1) := fun hth => by
    rw [zall_iff]
    constructor
    · intro z j j0 j1
      have := of_decide_eq_true (z j j0 (by omega))
      rw [g3 102 (by decide) (by decide)] at this
      have := hth j j0 j1
      omega
    · intro z j j0 j1
      have := z j j0 (by omega)
      refine decide_eq_true (Or.inr ?_)
      rw [g3 102 (by decide) (by decide)]
      exact this
  generalize rwN D b (μ 0 0 115) (1 + a % 3).toNat 0 (mR3 (μ 0 0 115) μ) = ν at *
  generalize hm : 1 + a % 3 = m at *
  have hm3 : 1 ≤ m ∧ m ≤ 3 := by omega
  have hI : IMC ν t (μ 0 0 115) m (fun j => if j < m then rvl D b j else 0) := ⟨hr, ⟨h15, by omega⟩, hm3, g115, fun j j0 j1 => by
    have := rvl_b (D := D) (b := b) (x := j) (by omega)
    show 1 ≤ (if j < m then rvl D b j else 0) ∧ (if j < m then rvl D b j else 0) ≤ 7
    rw [if_pos j1]
    omega, fun j j0 j1 => if_neg (by omega)⟩
  by_cases hth : ∀ j, 0 ≤ j → j < m → rvl D b j ≤ μ 0 0 10
  · have ht : ∀ j, 0 ≤ j → j < m → (fun j => if j < m then rvl D b j else 0) j ≤ ν 0 0 10 := fun j j0 j1 => by
      show (if j < m then rvl D b j else 0) ≤ ν 0 0 10
      rw [if_pos j1, e010]
      exact hth j j0 j1
    rw [if_pos ⟨rfl, eTh.mpr hth⟩]
    have hzz : ((if (1 : Int) = 1 ∧ zall (rSl (mR3 (μ 0 0 115) μ) (μ 106 0 0) D b) m.toNat 0 = true then (1 : Int) else 0) = 1 ∧ ∀ j, 0 ≤ j → j < m → ν 102 0 ((fun j => if j < m then rvl D b j else 0) j - 1) = 1) ∨ ((if (1 : Int) = 1 ∧ zall (rSl (mR3 (μ 0 0 115) μ) (μ 106 0 0) D b) m.toNat 0 = true then (1 : Int) else 0) = 0 ∧ ¬ ∀ j, 0 ≤ j → j < m → ν 102 0 ((fun j => if j < m then rvl D b j else 0) j - 1) = 1) := by
      have e : (∀ j, 0 ≤ j → j < m → ν 102 0 ((fun j => if j < m then rvl D b j else 0) j - 1) = 1) ↔ ∀ j, 0 ≤ j → j < m → μ 102 0 (rvl D b j - 1) = 1 := by
        constructor
        · intro z j j0 j1
          have z : ν 102 0 ((if j < m then rvl D b j else 0) - 1) = 1 := z j j0 j1
          rw [if_pos j1, e102] at z
          exact z
        · intro z j j0 j1
          show ν 102 0 ((if j < m then rvl D b j else 0) - 1) = 1
          rw [if_pos j1, e102]
          exact z j j0 j1
      by_cases q : ∀ j, 0 ≤ j → j < m → μ 102 0 (rvl D b j - 1) = 1
      · rw [if_pos ⟨rfl, (eSl hth).mpr q⟩]
        exact Or.inl ⟨rfl, e.mpr q⟩
      · rw [if_neg (fun w => q ((eSl hth).mp w.2))]
        exact Or.inr ⟨rfl, fun w => q (e.mp w)⟩
    generalize (if (1 : Int) = 1 ∧ zall (rSl (mR3 (μ 0 0 115) μ) (μ 106 0 0) D b) m.toNat 0 = true then (1 : Int) else 0) = z at *
    have eg : μ 106 0 1 - 1 = (((ν 0 0 20).toNat : Nat) : Int) - 1 := by omega
    rw [g108_370]
    simp (disch := first | omega | (simp (disch := decide) only [zmu0, mu_g, List.length_nil, List.length_cons]; omega)) only [g108_371, g108_373, g108_375, g108_376, g108_377, g108_378, g108_379, rd106, wr106, e106, eg, Nat.sub_zero, Int.reduceSub, Int.reduceAdd, Int.add_zero, Int.zero_add, Int.cast_ofNat_Int, Bool.false_eq_true, decide_true, decide_false, zbndI, zbwI, zbzI, zb1I, zoA_at, gback_v, gback_n, zem, zisr, zro_at, zrl_at, mu_g, mu_at, mu_mu, mu_self, not_true, not_false_iff, zb0, zb1, zbnd, zbw, zbz, zne1, zone, mrgI, List.length_nil, List.length_cons, Nat.reduceAdd, Nat.reduceSub, Nat.reduceLeDiff, Nat.zero_le, and_true, true_and, false_and, and_false, true_or, or_true, false_or, or_false, G_ite, z10, z1n, z1and, z1or, z0not, z0and, itn, if_true, if_false, reduceIte, Int.reduceEq, Int.reduceLT, Int.reduceNeg, Nat.reduceEqDiff, ite_self]
    refine c108_k hr.rwB ⟨h15, by omega⟩ (fun j j0 j1 => ?_) (ν 0 0 20).toNat (-1) _ _ _ _ (by omega) fun v13 v14 v15 v16 v17 => ?_
    · rw [g115 j j0 j1]
      by_cases hj : j < m
      · rw [if_pos hj]
        have := rvl_b (D := D) (b := b) (x := j) (by omega)
        have := hth j j0 hj
        omega
      · rw [if_neg hj]
        omega
    · exact c108_E hI ht2 ht hzz rfl (by decide) (by decide) hK
  · have ht : ¬ ∀ j, 0 ≤ j → j < m → (fun j => if j < m then rvl D b j else 0) j ≤ ν 0 0 10 := fun z => hth fun j j0 j1 => by
      have z : (if j < m then rvl D b j else 0) ≤ ν 0 0 10 := z j j0 j1
      rw [if_pos j1, e010] at z
      exact z
    rw [if_neg (fun w => hth (eTh.mp w.2))]
    have hr1 := RW_up hr ht2
    generalize (if (1 : Int) = 1 ∧ zall (rSl (mR3 (μ 0 0 115) μ) (μ 106 0 0) D b) m.toNat 0 = true then (1 : Int) else 0) = z at *
    obtain ⟨q, hq⟩ : ∃ q : Int → Int, q = fun j => if j < m then rvl D b j else 0 := ⟨_, rfl⟩
    have hI' : IMC ν t (μ 0 0 115) m q := by rw [hq]; exact hI
    have ht' : ¬ ∀ j, 0 ≤ j → j < m → q j ≤ ν 0 0 10 := by rw [hq]; exact ht
    have q0 : ν 115 (μ 0 0 115) 0 = q 0 := by rw [hq]; exact g115 0 (by omega) (by omega)
    have q1 : ν 115 (μ 0 0 115) 1 = q 1 := by rw [hq]; exact g115 1 (by omega) (by omega)
    have q2 : ν 115 (μ 0 0 115) 2 = q 2 := by rw [hq]; exact g115 2 (by omega) (by omega)
    have hn15 : μ 0 0 115 < ν 0 0 115 := by omega
    have e5 := fun (Q : ZO → ZH → Prop) (u : ZV) => d5x (u := u) (Q := Q) hI' ht'
    have hs5 : 500 - Int.toNat 3 = 497 := by decide
    rw [g108_370]
    simp (disch := first | omega | (simp (disch := decide) only [zmu0, mu_g, List.length_nil, List.length_cons]; omega)) only [g108_371, g108_373, g108_375, g108_376, g108_377, g108_378, g108_379, g108_381, g108_383, g108_386, g108_388, g108_557, g108_559, g108_562, g108_564, g108_567, g108_569, g108_572, g108_574, g108_575, g108_576, g108_578, g108_581, g108_582, g108_585, g108_586, g108_588, g108_589, g108_590, g108_592, g108_593, g108_594, g108_596, g108_597, g108_598, g108_600, g108_601, g108_602, g108_603, g108_606, g108_608, g108_610, g108_613, g108_615, g108_617, g108_620, g108_623, g108_626, g108_629, g108_632, g108_633, g108_636, g108_637, rd106, wr106, rd115, wr115, hs5, e106, q0, q1, q2, e5, Nat.sub_zero, Int.reduceSub, Int.reduceAdd, Int.add_zero, Int.zero_add, Int.cast_ofNat_Int, Bool.false_eq_true, decide_true, decide_false, zbndI, zbwI, zbzI, zb1I, zoA_at, gback_v, gback_n, zem, zisr, zro_at, zrl_at, mu_g, mu_at, mu_mu, mu_self, not_true, not_false_iff, zb0, zb1, zbnd, zbw, zbz, zne1, zone, mrgI, List.length_nil, List.length_cons, Nat.reduceAdd, Nat.reduceSub, Nat.reduceLeDiff, Nat.zero_le, and_true, true_and, false_and, and_false, true_or, or_true, false_or, or_false, G_ite, z10, z1n, z1and, z1or, z0not, z0and, itn, if_true, if_false, reduceIte, Int.reduceEq, Int.reduceLT, Int.reduceNeg, Nat.reduceEqDiff, ite_self, eq_self]
    exact hK _ hr1
/-- isImage -/
theorem c108 (h : RW μ t) (ht : t + 1 ≤ 100) (ha : 0 ≤ a) (hb : 0 ≤ b) (hK : ∀ ν, RW ν (t + 1) → Q (.inl (some (zI 1))) (HM ν)) : G 108 0 [zR 2 0, zR 101 0, zR 102 0, zR 103 0, zR 106 0, zI w, zI a, zI b, u1, u2, u3, u4, u5, u6, u7, u8, u9, u10] [] (HM μ) 20 500 Q := by
  by_cases hw : w = 1
  · rw [hw]
    exact c108_1 h ht ha hK
  · exact c108_0 h ht hw ha hb hK
end ZPG1
