/-! ===== the law: paragraph, reference, word ===== -/
/-- letters put together -/
def lwf (a b : Int) : Nat → Int → Int → Int
  | 0, _, W => W
  | n + 1, k, W => lwf a b n (k + 1) (W + (1 + (b / (k + 1) + a % 7 * k) % 26) * 2 ^ (8 * k).toNat)
def wvd (W k : Int) : Prop := 0 ≤ W ∧ W < 2 ^ (8 * k).toNat ∧ ∀ j, 0 ≤ j → j < k → 1 ≤ lcd W j ∧ lcd W j ≤ 26
section ZPJ
variable {ck sk : Nat} {Q : ZO → ZH → Prop} {μ ν κ β : ZU} {a b c d e f g h i j k l m p r s t t' v w x y z L H M R W : Int} {u u1 u2 u3 u4 u5 u6 : ZV}
theorem mPa_3 : mPa s μ 106 0 3 = μ 106 0 3 + 1 := by
  unfold mPa
  simp (disch := decide) only [mu_g, mu_j, mu_at]
theorem mWd_2 : mWd w y x μ 106 0 2 = μ 106 0 2 + 1 := by
  unfold mWd mad
  simp (disch := decide) only [mu_g, mu_j, mu_at]
theorem c110_2 (h : RW μ t) (ht : t + 1 ≤ 100) (ha : 0 ≤ a) (hw0 : ¬ w = 0) (hw1 : ¬ w = 1) (hw4 : w < 4) (hg : μ 106 0 3 < 10) (hK : ∀ ν, RW ν (t + 1) → Q (.inl (some (zI 1))) (HM ν)) : G 110 0 [zR 2 0, zR 104 0, zR 105 0, zR 106 0, zI w, zI a, zI b, u1, u2, u3, u4, u5] [] (HM μ) 20 500 Q := by
  obtain ⟨d1, d2, d3, d4, d5, -⟩ := id h.2.2.2.2.1
  have g2 := d5.1
  have g3 := d5.2.1
  have a3 := h.2.1.2.2.1
  have h0 := h.1
  by_cases hs : a % 5 < 4
  · have hr := RW_pa (s := a % 5) h ht ⟨by omega, hs⟩ hg
    have e30 : mu (mu (mu μ 105 0 (μ 106 0 3) (a % 5 + 4 * μ 106 0 2)) 106 0 3 (μ 106 0 3 + 1)) 106 0 4 (μ 106 0 4 + 1) 30 = μ 30 := by simp (disch := decide) only [mu_g]
    have e56 : ∀ (Q : ZO → ZH → Prop) (u : ZV), G 56 0 [zR 2 0, zI 0, zI (a % 5), u] [] (HM (mu (mu (mu μ 105 0 (μ 106 0 3) (a % 5 + 4 * μ 106 0 2)) 106 0 3 (μ 106 0 3 + 1)) 106 0 4 (μ 106 0 4 + 1))) 2 12 Q ↔ Q (.inl (some (zI (μ 106 0 3)))) (HM (mPa (a % 5) μ)) := fun Q u => by
      rw [c56 (by simp (disch := decide) only [mu_g]; omega) (fun _ _ => by rw [e30]; omega), if_pos (by simp (disch := decide) only [mu_g]; omega), if_pos ⟨by omega, by omega⟩, e30, if_neg (by omega), d1.2.2.2.2.1]
      unfold mPa
      rw [d1.2.2.2.2.1]
    simp (disch := first | omega | (simp (disch := decide) only [zmu0, mu_g, List.length_nil, List.length_cons]; omega)) only [g110_0, g110_2, g110_124, g110_126, g110_127, g110_275, g110_277, g110_278, g110_281, g110_282, g110_283, g110_284, g110_286, g110_289, g110_291, g110_292, g110_293, g110_295, g110_297, g110_298, g110_301, g110_302, g110_305, g110_306, g110_308, g110_309, g110_310, g110_311, g110_312, g110_314, g110_315, g110_316, g110_317, g110_318, g110_319, g110_320, g110_321, g110_322, g110_323, g110_324, g110_325, g110_327, g110_330, g110_331, g110_334, g110_335, g110_336, g110_337, g110_338, g110_339, g110_340, g110_341, g110_343, g110_346, g110_347, g110_350, g110_351, g110_352, g110_353, g110_354, g110_356, g110_357, g110_359, g110_360, g110_361, g110_364, g110_366, g110_369, g110_370, g110_371, g110_372, g110_373, g110_374, g110_377, g110_380, g110_383, g110_384, g110_387, g110_388, rd105, wr105, rd106, wr106, w92_10, x92_10_0, x92_10_1, x92_10_2, g92_204, g92_327, e56, Nat.sub_zero, Int.reduceSub, Int.reduceAdd, Int.add_zero, Int.zero_add, Int.cast_ofNat_Int, Bool.false_eq_true, decide_true, decide_false, zbndI, zbwI, zbzI, zb1I, zoA_at, gback_v, gback_n, zem, zisr, zro_at, zrl_at, mu_g, mu_at, mu_mu, mu_self, not_true, not_false_iff, zb0, zb1, zbnd, zbw, zbz, zne1, zone, mrgI, List.length_nil, List.length_cons, Nat.reduceAdd, Nat.reduceSub, Nat.reduceLeDiff, Nat.zero_le, and_true, true_and, false_and, and_false, true_or, or_true, false_or, or_false, G_ite, z10, z1n, z1and, z1or, z0not, z0and, itn, if_true, if_false, reduceIte, Int.reduceEq, Int.reduceLT, Int.reduceNeg, Nat.reduceEqDiff, ite_self, hs, hw0, hw1, hw4, hg, mu_j, eq_self, mPa_3, Int.add_sub_cancel]
    exact hK _ hr
  · have hr := RW_105 (v := a % 5 + 4 * μ 106 0 2) h ht (by omega)
    have e56 : ∀ (Q : ZO → ZH → Prop) (u : ZV), G 56 0 [zR 2 0, zI 0, zI (a % 5), u] [] (HM (mu μ 105 0 (μ 106 0 3) (a % 5 + 4 * μ 106 0 2))) 2 12 Q ↔ Q (.inr 0) (HM (mu μ 105 0 (μ 106 0 3) (a % 5 + 4 * μ 106 0 2))) := fun Q u => by
      have e30 : mu μ 105 0 (μ 106 0 3) (a % 5 + 4 * μ 106 0 2) 30 = μ 30 := mu_g (by decide)
      rw [c56 (by simp (disch := decide) only [mu_g]; omega) (fun _ _ => by rw [e30]; omega), if_pos (by simp (disch := decide) only [mu_g]; omega), if_neg (by omega)]
    have e3 : mu (mu μ 105 0 (μ 106 0 3) (a % 5 + 4 * μ 106 0 2)) 106 0 3 (μ 106 0 3) = mu μ 105 0 (μ 106 0 3) (a % 5 + 4 * μ 106 0 2) := by
      have e : mu μ 105 0 (μ 106 0 3) (a % 5 + 4 * μ 106 0 2) 106 0 3 = μ 106 0 3 := by rw [mu_g (by decide)]
      exact (congrArg (mu (mu μ 105 0 (μ 106 0 3) (a % 5 + 4 * μ 106 0 2)) 106 0 3) e.symm).trans mu_self
    have e4 : mu (mu μ 105 0 (μ 106 0 3) (a % 5 + 4 * μ 106 0 2)) 106 0 4 (μ 106 0 4) = mu μ 105 0 (μ 106 0 3) (a % 5 + 4 * μ 106 0 2) := by
      have e : mu μ 105 0 (μ 106 0 3) (a % 5 + 4 * μ 106 0 2) 106 0 4 = μ 106 0 4 := by rw [mu_g (by decide)]
      rw [← e, mu_self]
    simp (disch := first | omega | (simp (disch := decide) only [zmu0, mu_g, List.length_nil, List.length_cons]; omega)) only [g110_0, g110_2, g110_124, g110_126, g110_127, g110_275, g110_277, g110_278, g110_281, g110_282, g110_283, g110_284, g110_286, g110_289, g110_291, g110_292, g110_293, g110_295, g110_297, g110_298, g110_301, g110_302, g110_305, g110_306, g110_308, g110_309, g110_310, g110_311, g110_312, g110_314, g110_315, g110_316, g110_317, g110_318, g110_319, g110_320, g110_321, g110_322, g110_323, g110_324, g110_325, g110_327, g110_330, g110_331, g110_334, g110_335, g110_336, g110_337, g110_338, g110_339, g110_340, g110_341, g110_343, g110_346, g110_347, g110_350, g110_351, g110_352, g110_353, g110_354, g110_356, g110_357, g110_359, g110_360, g110_361, g110_364, g110_366, g110_369, g110_370, g110_371, g110_372, g110_373, g110_374, g110_377, g110_380, g110_383, g110_384, g110_387, g110_388, rd105, wr105, rd106, wr106, w92_10, x92_10_0, x92_10_1, x92_10_2, g92_204, g92_327, e56, Nat.sub_zero, Int.reduceSub, Int.reduceAdd, Int.add_zero, Int.zero_add, Int.cast_ofNat_Int, Bool.false_eq_true, decide_true, decide_false, zbndI, zbwI, zbzI, zb1I, zoA_at, gback_v, gback_n, zem, zisr, zro_at, zrl_at, mu_g, mu_at, mu_mu, mu_self, not_true, not_false_iff, zb0, zb1, zbnd, zbw, zbz, zne1, zone, mrgI, List.length_nil, List.length_cons, Nat.reduceAdd, Nat.reduceSub, Nat.reduceLeDiff, Nat.zero_le, and_true, true_and, false_and, and_false, true_or, or_true, false_or, or_false, G_ite, z10, z1n, z1and, z1or, z0not, z0and, itn, if_true, if_false, reduceIte, Int.reduceEq, Int.reduceLT, Int.reduceNeg, Nat.reduceEqDiff, ite_self, hs, hw0, hw1, hw4, hg, mu_j, eq_self, e3, e4]
    exact hK _ hr
theorem c110_4 (h : RW μ t) (ht : t + 1 ≤ 100) (ha : 0 ≤ a) (ha2 : a < 60000) (hw0 : ¬ w = 0) (hw1 : ¬ w = 1) (hw4 : ¬ w < 4 ∨ ¬ μ 106 0 3 < 10) (hw6 : w < 6) (hK : ∀ ν, RW ν (t + 1) → Q (.inl (some (zI 1))) (HM ν)) : G 110 0 [zR 2 0, zR 104 0, zR 105 0, zR 106 0, zI w, zI a, zI b, u1, u2, u3, u4, u5] [] (HM μ) 20 500 Q := by
  obtain ⟨d1, d2, d3, d4, d5, -⟩ := id h.2.2.2.2.1
  have g2 := d5.1
  have g3 := d5.2.1
  have a3 := h.2.1.2.2.1
  have h0 := h.1
  have hto : 0 ≤ a % (μ 106 0 3 + 1) ∧ a % (μ 106 0 3 + 1) < μ 106 0 3 + 1 := ⟨Int.emod_nonneg _ (by omega), Int.emod_lt_of_pos _ (by omega)⟩
  have head : G 110 0 [zR 2 0, zR 104 0, zR 105 0, zR 106 0, zI w, zI a, zI b, u1, u2, u3, u4, u5] [] (HM μ) 20 500 Q ↔ G 110 406 [zR 2 0, zR 104 0, zR 105 0, zR 106 0, zI w, zI a, zI b, zI (a % (μ 106 0 3 + 1)), u2, u3, u4, u5] [] (HM μ) 20 500 Q := by
    by_cases hw : w < 4
    · have hg : ¬ μ 106 0 3 < 10 := by omega
      simp (disch := first | omega | (simp (disch := decide) only [zmu0, mu_g, List.length_nil, List.length_cons]; omega)) only [g110_0, g110_2, g110_124, g110_126, g110_127, g110_275, g110_277, g110_278, g110_281, g110_282, g110_283, g110_284, g110_286, g110_389, g110_391, g110_393, g110_396, g110_398, g110_399, g110_400, g110_401, g110_402, g110_403, g110_404, rd106, wr106, Nat.sub_zero, Int.reduceSub, Int.reduceAdd, Int.add_zero, Int.zero_add, Int.cast_ofNat_Int, Bool.false_eq_true, decide_true, decide_false, zbndI, zbwI, zbzI, zb1I, zoA_at, gback_v, gback_n, zem, zisr, zro_at, zrl_at, mu_g, mu_at, mu_mu, mu_self, not_true, not_false_iff, zb0, zb1, zbnd, zbw, zbz, zne1, zone, mrgI, List.length_nil, List.length_cons, Nat.reduceAdd, Nat.reduceSub, Nat.reduceLeDiff, Nat.zero_le, and_true, true_and, false_and, and_false, true_or, or_true, false_or, or_false, G_ite, z10, z1n, z1and, z1or, z0not, z0and, itn, if_true, if_false, reduceIte, Int.reduceEq, Int.reduceLT, Int.reduceNeg, Nat.reduceEqDiff, ite_self, hw0, hw1, hw, hg, hw6]
    · simp (disch := first | omega | (simp (disch := decide) only [zmu0, mu_g, List.length_nil, List.length_cons]; omega)) only [g110_0, g110_2, g110_124, g110_126, g110_127, g110_275, g110_277, g110_278, g110_281, g110_282, g110_283, g110_284, g110_286, g110_389, g110_391, g110_393, g110_396, g110_398, g110_399, g110_400, g110_401, g110_402, g110_403, g110_404, rd106, wr106, Nat.sub_zero, Int.reduceSub, Int.reduceAdd, Int.add_zero, Int.zero_add, Int.cast_ofNat_Int, Bool.false_eq_true, decide_true, decide_false, zbndI, zbwI, zbzI, zb1I, zoA_at, gback_v, gback_n, zem, zisr, zro_at, zrl_at, mu_g, mu_at, mu_mu, mu_self, not_true, not_false_iff, zb0, zb1, zbnd, zbw, zbz, zne1, zone, mrgI, List.length_nil, List.length_cons, Nat.reduceAdd, Nat.reduceSub, Nat.reduceLeDiff, Nat.zero_le, and_true, true_and, false_and, and_false, true_or, or_true, false_or, or_false, G_ite, z10, z1n, z1and, z1or, z0not, z0and, itn, if_true, if_false, reduceIte, Int.reduceEq, Int.reduceLT, Int.reduceNeg, Nat.reduceEqDiff, ite_self, hw0, hw1, hw, hw6]
  rw [head]
  generalize a % (μ 106 0 3 + 1) = to at hto ⊢
  rw [g110_406]
  by_cases hi : to < μ 106 0 3
  · by_cases h40 : μ 106 0 2 = 40
    · have hr := RW_up h ht
      simp (disch := first | omega | (simp (disch := decide) only [zmu0, mu_g, List.length_nil, List.length_cons]; omega)) only [g110_408, g110_409, g110_410, g110_411, g110_414, g110_415, g110_418, g110_419, g110_421, g110_423, g110_426, g110_427, g110_428, g110_429, g110_431, g110_434, g110_435, g110_436, rd106, wr106, Nat.sub_zero, Int.reduceSub, Int.reduceAdd, Int.add_zero, Int.zero_add, Int.cast_ofNat_Int, Bool.false_eq_true, decide_true, decide_false, zbndI, zbwI, zbzI, zb1I, zoA_at, gback_v, gback_n, zem, zisr, zro_at, zrl_at, mu_g, mu_at, mu_mu, mu_self, not_true, not_false_iff, zb0, zb1, zbnd, zbw, zbz, zne1, zone, mrgI, List.length_nil, List.length_cons, Nat.reduceAdd, Nat.reduceSub, Nat.reduceLeDiff, Nat.zero_le, and_true, true_and, false_and, and_false, true_or, or_true, false_or, or_false, G_ite, z10, z1n, z1and, z1or, z0not, z0and, itn, if_true, if_false, reduceIte, Int.reduceEq, Int.reduceLT, Int.reduceNeg, Nat.reduceEqDiff, ite_self, hi, h40]
      exact hK _ hr
    · have hr := RW_wd (w := -1 - to) (x := to) (y := 0) h ht (by omega) (by omega) (Or.inl ⟨by omega, by omega, rfl, hi⟩) ⟨by omega, by omega, fun z => by omega⟩
      have e30 : mu (mu (mu μ 104 0 (μ 106 0 2) (-1 - to)) 106 0 2 (μ 106 0 2 + 1)) 106 0 4 (μ 106 0 4 + 1) 30 = μ 30 := by simp (disch := decide) only [mu_g]
      have e58 : ∀ (Q : ZO → ZH → Prop) (u : ZV), G 58 0 [zR 2 0, zI 0, zI to, u] [] (HM (mu (mu (mu μ 104 0 (μ 106 0 2) (-1 - to)) 106 0 2 (μ 106 0 2 + 1)) 106 0 4 (μ 106 0 4 + 1))) 2 12 Q ↔ Q (.inl (some (zI (μ 106 0 2)))) (HM (mWd (-1 - to) 0 to μ)) := fun Q u => by
        rw [c58 (by simp (disch := decide) only [mu_g]; omega) (fun _ _ => by rw [e30]; omega), if_pos (by rw [e30]; simp (disch := decide) only [mu_g]; omega), e30, if_neg (by omega), d1.2.2.1]
        rfl
      simp (disch := first | omega | (simp (disch := decide) only [zmu0, mu_g, List.length_nil, List.length_cons]; omega)) only [g110_408, g110_409, g110_410, g110_411, g110_414, g110_415, g110_418, g110_419, g110_421, g110_423, g110_426, g110_427, g110_428, g110_429, g110_431, g110_434, g110_435, g110_436, g110_438, g110_441, g110_442, g110_443, g110_444, g110_445, g110_448, g110_450, g110_451, g110_452, g110_453, g110_454, g110_455, g110_456, g110_457, g110_458, g110_459, g110_460, g110_461, g110_462, g110_463, g110_464, g110_465, g110_466, g110_467, g110_468, g110_470, g110_471, g110_473, g110_474, g110_475, g110_478, g110_480, g110_483, g110_484, g110_485, g110_486, g110_487, g110_488, g110_491, g110_494, g110_497, g110_498, g110_501, g110_502, rd104, wr104, rd106, wr106, w92_11, x92_11_0, x92_11_1, x92_11_2, g92_219, g92_327, e58, Nat.sub_zero, Int.reduceSub, Int.reduceAdd, Int.add_zero, Int.zero_add, Int.cast_ofNat_Int, Bool.false_eq_true, decide_true, decide_false, zbndI, zbwI, zbzI, zb1I, zoA_at, gback_v, gback_n, zem, zisr, zro_at, zrl_at, mu_g, mu_at, mu_mu, mu_self, not_true, not_false_iff, zb0, zb1, zbnd, zbw, zbz, zne1, zone, mrgI, List.length_nil, List.length_cons, Nat.reduceAdd, Nat.reduceSub, Nat.reduceLeDiff, Nat.zero_le, and_true, true_and, false_and, and_false, true_or, or_true, false_or, or_false, G_ite, z10, z1n, z1and, z1or, z0not, z0and, itn, if_true, if_false, reduceIte, Int.reduceEq, Int.reduceLT, Int.reduceNeg, Nat.reduceEqDiff, ite_self, hi, h40, mu_j, eq_self, mWd_2, Int.add_sub_cancel]
      exact hK _ hr
  · have hr := RW_up h ht
    have e58 : ∀ (Q : ZO → ZH → Prop) (u : ZV), G 58 0 [zR 2 0, zI 0, zI to, u] [] (HM μ) 2 12 Q ↔ Q (.inr 1) (HM μ) := fun Q u => by
      rw [c58 (by omega) (fun _ _ => by omega), if_neg (by omega)]
    simp (disch := first | omega | (simp (disch := decide) only [zmu0, mu_g, List.length_nil, List.length_cons]; omega)) only [g110_408, g110_409, g110_410, g110_411, g110_414, g110_415, g110_418, g110_419, g110_421, g110_423, g110_426, g110_427, g110_428, g110_429, g110_431, g110_434, g110_435, g110_436, g110_438, g110_441, g110_442, g110_443, g110_444, g110_445, g110_448, g110_450, g110_451, g110_452, g110_453, g110_454, g110_455, g110_456, g110_457, g110_458, g110_459, g110_460, g110_461, g110_462, g110_463, g110_464, g110_465, g110_466, g110_467, g110_468, g110_470, g110_471, g110_473, g110_474, g110_475, g110_478, g110_480, g110_483, g110_484, g110_485, g110_486, g110_487, g110_488, g110_491, g110_494, g110_497, g110_498, g110_501, g110_502, rd106, wr106, w92_11, x92_11_0, x92_11_1, x92_11_2, g92_219, g92_327, e58, Nat.sub_zero, Int.reduceSub, Int.reduceAdd, Int.add_zero, Int.zero_add, Int.cast_ofNat_Int, Bool.false_eq_true, decide_true, decide_false, zbndI, zbwI, zbzI, zb1I, zoA_at, gback_v, gback_n, zem, zisr, zro_at, zrl_at, mu_g, mu_at, mu_mu, mu_self, not_true, not_false_iff, zb0, zb1, zbnd, zbw, zbz, zne1, zone, mrgI, List.length_nil, List.length_cons, Nat.reduceAdd, Nat.reduceSub, Nat.reduceLeDiff, Nat.zero_le, and_true, true_and, false_and, and_false, true_or, or_true, false_or, or_false, G_ite, z10, z1n, z1and, z1or, z0not, z0and, itn, if_true, if_false, reduceIte, Int.reduceEq, Int.reduceLT, Int.reduceNeg, Nat.reduceEqDiff, ite_self, hi, eq_self]
    exact hK _ hr
/-! letters -/
theorem pw8 (j : Nat) : (2 : Int) ^ (8 * (j : Int)).toNat = ((2 ^ (8 * j) : Nat) : Int) := by
  have e : (8 * (j : Int)).toNat = 8 * j := by omega
  rw [e, Int.natCast_pow]
  rfl
theorem wvd_s (h : wvd W k) (hk : 0 ≤ k) (hk2 : k < 8) (hc : 1 ≤ c ∧ c ≤ 26) : wvd (W + c * 2 ^ (8 * k).toNat) (k + 1) := by
  obtain ⟨h1, h2, h3⟩ := h
  obtain ⟨n, rfl⟩ : ∃ n : Nat, k = n := ⟨k.toNat, by omega⟩
  have en : ((n : Int) + 1) = ((n + 1 : Nat) : Int) := by omega
  have hp := Nat.two_pow_pos (8 * n)
  have hs : 2 ^ (8 * (n + 1)) = 2 ^ (8 * n) * 256 := by
    rw [show 8 * (n + 1) = 8 * n + 8 by omega, Nat.pow_add]
  have hcp : c * ((2 ^ (8 * n) : Nat) : Int) ≤ 26 * ((2 ^ (8 * n) : Nat) : Int) := Int.mul_le_mul_of_nonneg_right hc.2 (by omega)
  have hcp0 : 1 * ((2 ^ (8 * n) : Nat) : Int) ≤ c * ((2 ^ (8 * n) : Nat) : Int) := Int.mul_le_mul_of_nonneg_right hc.1 (by omega)
  rw [pw8] at h2 ⊢
  refine ⟨by omega, ?_, fun j j0 j1 => ?_⟩
  · rw [en, pw8, hs]
    have : ((2 ^ (8 * n) * 256 : Nat) : Int) = ((2 ^ (8 * n) : Nat) : Int) * 256 := by rw [Int.natCast_mul]; rfl
    omega
  · obtain ⟨q, rfl⟩ : ∃ q : Nat, j = q := ⟨j.toNat, by omega⟩
    have hq := Nat.two_pow_pos (8 * q)
    by_cases hj : q = n
    · subst hj
      unfold lcd
      rw [pw8, Int.add_mul_ediv_right _ _ (by omega), Int.ediv_eq_zero_of_lt h1 h2]
      omega
    · have hlt : q < n := by omega
      have h4 := h3 q j0 (by omega)
      have e2 : ((2 ^ (8 * n) : Nat) : Int) = (256 * ((2 ^ (8 * (n - 1 - q)) : Nat) : Int)) * ((2 ^ (8 * q) : Nat) : Int) := by
        have e3 : 2 ^ (8 * n) = 256 * 2 ^ (8 * (n - 1 - q)) * 2 ^ (8 * q) := by
          rw [show 8 * n = 8 + 8 * (n - 1 - q) + 8 * q by omega, Nat.pow_add, Nat.pow_add]
        rw [e3, Int.natCast_mul, Int.natCast_mul]
        rfl
      unfold lcd at h4 ⊢
      rw [pw8] at h4 ⊢
      rw [e2, ← Int.mul_assoc, Int.add_mul_ediv_right _ _ (by omega)]
      have e5 : c * (256 * ((2 ^ (8 * (n - 1 - q)) : Nat) : Int)) = 256 * (c * ((2 ^ (8 * (n - 1 - q)) : Nat) : Int)) := by
        rw [← Int.mul_assoc, Int.mul_comm c 256, Int.mul_assoc]
      rw [e5, Int.add_mul_emod_self_left]
      exact h4
theorem lwf_v : ∀ (n : Nat) (k W : Int), wvd W k → 0 ≤ k → k + n ≤ 8 → wvd (lwf a b n k W) (k + n)
  | 0, k, W, h, h0, h1 => by
    have e : k + ((0 : Nat) : Int) = k := by omega
    rw [e]
    exact h
  | n + 1, k, W, h, h0, h1 => by
    have e : k + ((n + 1 : Nat) : Int) = k + 1 + n := by omega
    rw [e]
    exact lwf_v n (k + 1) _ (wvd_s h h0 (by omega) (by omega)) (by omega) (by omega)
theorem wvd_0 : wvd 0 0 := ⟨Int.le_refl _, by decide, fun j a b => by omega⟩
theorem wvd_w (h : wvd W m) (h1 : 1 ≤ m) (h8 : m ≤ 8) : 0 < W ∧ W < 9223372036854775808 ∧ (∀ j, 0 ≤ j → j < m → 1 ≤ lcd W j ∧ lcd W j ≤ 26) ∧ ∀ j, m ≤ j → j < 8 → lcd W j = 0 := by
  obtain ⟨q1, q2, q3⟩ := h
  obtain ⟨n, rfl⟩ : ∃ n : Nat, m = n := ⟨m.toNat, by omega⟩
  rw [pw8] at q2
  have hmono : ∀ q : Nat, n ≤ q → W < ((2 ^ (8 * q) : Nat) : Int) := fun q hq => by
    have := Nat.pow_le_pow_right (n := 2) (by decide) (show 8 * n ≤ 8 * q by omega)
    omega
  have hz : ∀ j, (n : Int) ≤ j → j < 8 → lcd W j = 0 := fun j j0 j1 => by
    obtain ⟨q, rfl⟩ : ∃ q : Nat, j = q := ⟨j.toNat, by omega⟩
    unfold lcd
    rw [pw8, Int.ediv_eq_zero_of_lt q1 (hmono q (by omega))]
    rfl
  have h64 := hmono 8 (by omega)
  have e64 : ((2 ^ (8 * 8) : Nat) : Int) = 18446744073709551616 := by decide
  have e7 : lcd W 7 ≤ 26 := by
    by_cases q : (7 : Int) < n
    · exact (q3 7 (by omega) q).2
    · rw [hz 7 (by omega) (by omega)]
      decide
  have e7' : lcd W 7 = W / 72057594037927936 % 256 := rfl
  have e0' : lcd W 0 = W / 1 % 256 := rfl
  have e0 := q3 0 (by omega) (by omega)
  exact ⟨by omega, by omega, q3, hz⟩
theorem zwh_v {p : Int → Bool} : ∀ (n : Nat) (i : Int), i ≤ m → m ≤ i + n → (∀ j, i ≤ j → j < m → p j = true) → (m < i + n → p m = false) → zwh p n i = m
  | 0, i, h1, h2, h3, h4 => by
    unfold zwh
    omega
  | n + 1, i, h1, h2, h3, h4 => by
    unfold zwh
    by_cases q : i = m
    · subst q
      rw [if_neg (by rw [h4 (by omega)]; decide)]
    · rw [if_pos (h3 i (by omega) (by omega))]
      exact zwh_v n (i + 1) (by omega) (by omega) (fun j a b => h3 j (by omega) b) (fun z => h4 (by omega))
theorem wvd_k (h : wvd W m) (h1 : 1 ≤ m) (h8 : m ≤ 8) : kall (Int64.ofInt W) 26 8 := by
  obtain ⟨w1, w2, w3, w4⟩ := wvd_w h h1 h8
  have hk : ∀ j, 0 ≤ j → j < 8 → kcd (Int64.ofInt W) j = lcd W j := fun j a b => kcd_lcd a b (by omega) w2
  have hl : klen (Int64.ofInt W) = m := by
    rw [klen_z]
    refine zwh_v 8 0 (by omega) (by omega) (fun j a b => ?_) (fun z => ?_)
    · have := w3 j a b
      refine decide_eq_true ?_
      rw [hk j a (by omega)]
      omega
    · refine decide_eq_false ?_
      rw [hk m (by omega) (by omega), w4 m (by omega) (by omega)]
      exact fun z => z rfl
  unfold kall
  rw [hl]
  refine ⟨⟨h1, h8⟩, zall_iff.mpr fun j a b => decide_eq_true ?_⟩
  rw [hk j a (by omega)]
  by_cases q : j < m
  · rw [if_pos q]
    have := w3 j a q
    omega
  · rw [if_neg q, w4 j (by omega) (by omega)]
    omega
theorem nkall : ¬ kall (Int64.ofInt 6913) 26 8 := by
  unfold kall
  decide +kernel
theorem c110_w (ha : 0 ≤ a) (hb : 0 ≤ b) (hb2 : b < 60000) (hm : m ≤ 8) : ∀ (n : Nat) (k W : Int), 0 ≤ k → k + n = m →
    (G 110 528 [zR 2 0, zR 104 0, zR 105 0, zR 106 0, zI w, zI a, zI b, zL (Int64.ofInt W), zJ, zI m, zI k, u] [] (HM μ) ck sk Q ↔ G 110 574 [zR 2 0, zR 104 0, zR 105 0, zR 106 0, zI w, zI a, zI b, zL (Int64.ofInt (lwf a b n k W)), zJ, zI m, zI m, u] [] (HM μ) ck sk Q)
  | 0, k, W, h0, h1 => by
    have q : ¬ k < m := by omega
    have q' : k = m := by omega
    rw [g110_528]
    simp (disch := first | omega | (simp (disch := decide) only [zmu0, mu_g, List.length_nil, List.length_cons]; omega)) only [g110_530, g110_532, Nat.sub_zero, Int.reduceSub, Int.reduceAdd, Int.add_zero, Int.zero_add, Int.cast_ofNat_Int, Bool.false_eq_true, decide_true, decide_false, zbndI, zbwI, zbzI, zb1I, zoA_at, gback_v, gback_n, zem, zisr, zro_at, zrl_at, mu_g, mu_at, mu_mu, mu_self, not_true, not_false_iff, zb0, zb1, zbnd, zbw, zbz, zne1, zone, mrgI, List.length_nil, List.length_cons, Nat.reduceAdd, Nat.reduceSub, Nat.reduceLeDiff, Nat.zero_le, and_true, true_and, false_and, and_false, true_or, or_true, false_or, or_false, G_ite, z10, z1n, z1and, z1or, z0not, z0and, itn, if_true, if_false, reduceIte, Int.reduceEq, Int.reduceLT, Int.reduceNeg, Nat.reduceEqDiff, ite_self, q, lwf]
    rw [q']
  | n + 1, k, W, h0, h1 => by
    have q : k < m := by omega
    have e1 : 0 ≤ a % 7 * k := Int.mul_nonneg (by omega) h0
    have e2 : a % 7 * k ≤ 6 * 8 := Int.mul_le_mul (by omega) (by omega) h0 (by omega)
    have e3 : 0 ≤ b / (k + 1) := Int.ediv_nonneg hb (by omega)
    have e4 : b / (k + 1) ≤ b := Int.ediv_le_self _ hb
    have ih := c110_w ha hb hb2 hm n (k + 1) (W + (1 + (b / (k + 1) + a % 7 * k) % 26) * 2 ^ (8 * k).toNat) (by omega) (by omega)
    rw [g110_528]
    unfold lwf
    rw [← ih]
    simp (disch := first | omega | (simp (disch := decide) only [zmu0, mu_g, List.length_nil, List.length_cons]; omega)) only [g110_530, g110_532, g110_535, g110_537, g110_538, g110_540, g110_542, g110_543, g110_544, g110_545, g110_547, g110_549, g110_550, g110_552, g110_553, g110_554, g110_556, g110_557, g110_558, g110_559, g110_561, g110_563, g110_564, g110_565, g110_566, g110_568, g110_571, Nat.sub_zero, Int.reduceSub, Int.reduceAdd, Int.add_zero, Int.zero_add, Int.cast_ofNat_Int, Bool.false_eq_true, decide_true, decide_false, zbndI, zbwI, zbzI, zb1I, zoA_at, gback_v, gback_n, zem, zisr, zro_at, zrl_at, mu_g, mu_at, mu_mu, mu_self, not_true, not_false_iff, zb0, zb1, zbnd, zbw, zbz, zne1, zone, mrgI, List.length_nil, List.length_cons, Nat.reduceAdd, Nat.reduceSub, Nat.reduceLeDiff, Nat.zero_le, and_true, true_and, false_and, and_false, true_or, or_true, false_or, or_false, G_ite, z10, z1n, z1and, z1or, z0not, z0and, itn, if_true, if_false, reduceIte, Int.reduceEq, Int.reduceLT, Int.reduceNeg, Nat.reduceEqDiff, ite_self, q]
theorem c110_6 (h : RW μ t) (ht : t + 1 ≤ 100) (ha : 0 ≤ a) (ha2 : a < 60000) (hb : 0 ≤ b) (hb2 : b < 60000) (hw6 : ¬ w < 6) (hK : ∀ ν, RW ν (t + 1) → Q (.inl (some (zI 1))) (HM ν)) : G 110 0 [zR 2 0, zR 104 0, zR 105 0, zR 106 0, zI w, zI a, zI b, u1, u2, u3, u4, u5] [] (HM μ) 20 500 Q := by
  obtain ⟨d1, d2, d3, d4, d5, d6, d7, -⟩ := id h.2.2.2.2.1
  have g2 := d5.1
  have g3 := d5.2.1
  have a3 := h.2.1.2.2.1
  have h0 := h.1
  have hw0 : ¬ w = 0 := by omega
  have hw1 : ¬ w = 1 := by omega
  have hw4 : ¬ w < 4 := by omega
  have hr := RW_up h ht
  by_cases h40 : μ 106 0 2 = 40
  · simp (disch := first | omega | (simp (disch := decide) only [zmu0, mu_g, List.length_nil, List.length_cons]; omega)) only [g110_0, g110_2, g110_124, g110_126, g110_127, g110_275, g110_277, g110_278, g110_389, g110_391, g110_393, g110_503, g110_504, g110_505, g110_506, g110_508, g110_511, g110_512, rd106, wr106, Nat.sub_zero, Int.reduceSub, Int.reduceAdd, Int.add_zero, Int.zero_add, Int.cast_ofNat_Int, Bool.false_eq_true, decide_true, decide_false, zbndI, zbwI, zbzI, zb1I, zoA_at, gback_v, gback_n, zem, zisr, zro_at, zrl_at, mu_g, mu_at, mu_mu, mu_self, not_true, not_false_iff, zb0, zb1, zbnd, zbw, zbz, zne1, zone, mrgI, List.length_nil, List.length_cons, Nat.reduceAdd, Nat.reduceSub, Nat.reduceLeDiff, Nat.zero_le, and_true, true_and, false_and, and_false, true_or, or_true, false_or, or_false, G_ite, z10, z1n, z1and, z1or, z0not, z0and, itn, if_true, if_false, reduceIte, Int.reduceEq, Int.reduceLT, Int.reduceNeg, Nat.reduceEqDiff, ite_self, hw0, hw1, hw4, hw6, h40]
    exact hK _ hr
  · have el := fun (Q : ZO → ZH → Prop) (u : ZV) => c110_w (μ := μ) (ck := 20) (sk := 500) (Q := Q) (u := u) (w := w) ha hb hb2 (m := 1 + a % 8) (by omega) (1 + a % 8).toNat 0 0 (by omega) (by omega)
    have hv := lwf_v (a := a) (b := b) (1 + a % 8).toNat 0 0 wvd_0 (by omega) (by omega)
    have em : (0 : Int) + ((1 + a % 8).toNat : Int) = 1 + a % 8 := by omega
    rw [em] at hv
    have hk := wvd_k hv (by omega) (by omega)
    have hww := wvd_w hv (by omega) (by omega)
    generalize lwf a b (1 + a % 8).toNat 0 0 = W at el hv hk hww
    by_cases hr11 : 0 < a % 11
    · by_cases hg : 0 < μ 106 0 3
      · have hrw := RW_wd (w := W) (x := -1) (y := W) h ht (by omega) hg (Or.inr ⟨hww.1, rfl, rfl⟩) ⟨by omega, hww.2.1, fun _ j j0 j1 => by
          by_cases q : j < 1 + a % 8
          · exact (hww.2.2.1 j j0 q).2
          · rw [hww.2.2.2 j (by omega) j1]
            decide⟩
        have e30 : mu (mu (mu μ 104 0 (μ 106 0 2) W) 106 0 2 (μ 106 0 2 + 1)) 106 0 4 (μ 106 0 4 + 1) 30 = μ 30 := by simp (disch := decide) only [mu_g]
        have e57 : ∀ (Q : ZO → ZH → Prop) (u : ZV), G 57 0 [zR 2 0, zI 0, zL (Int64.ofInt W), zJ, u] [] (HM (mu (mu (mu μ 104 0 (μ 106 0 2) W) 106 0 2 (μ 106 0 2 + 1)) 106 0 4 (μ 106 0 4 + 1))) 2 12 Q ↔ Q (.inl (some (zI (μ 106 0 2)))) (HM (mWd W W (-1) μ)) := fun Q u => by
          rw [c57 (by simp (disch := decide) only [mu_g]; omega) (fun _ _ => by rw [e30]; omega), if_pos (by simp (disch := decide) only [mu_g]; omega), if_pos hk, e30, if_neg (by omega), d1.2.2.1, z64 (by omega) hww.2.1]
          rfl
        simp (disch := first | omega | (simp (disch := decide) only [zmu0, mu_g, List.length_nil, List.length_cons]; omega)) only [g110_0, g110_2, g110_124, g110_126, g110_127, g110_275, g110_277, g110_278, g110_389, g110_391, g110_393, g110_503, g110_504, g110_505, g110_506, g110_508, g110_511, g110_512, g110_513, g110_514, g110_516, g110_517, g110_519, g110_521, g110_522, g110_523, g110_525, g110_526, g110_574, g110_576, g110_578, g110_579, g110_582, g110_583, g110_586, g110_587, g110_589, g110_591, g110_594, g110_596, g110_599, g110_602, g110_604, g110_606, g110_609, g110_610, g110_611, g110_612, g110_615, g110_616, g110_619, g110_620, g110_622, g110_624, g110_627, g110_628, g110_629, g110_630, g110_631, g110_633, g110_634, g110_635, g110_636, g110_637, g110_638, g110_639, g110_640, g110_641, g110_642, g110_643, g110_644, g110_645, g110_646, g110_647, g110_648, g110_649, g110_651, g110_654, g110_656, g110_659, g110_662, g110_665, g110_667, g110_670, g110_671, g110_672, g110_673, g110_674, g110_675, g110_678, g110_681, g110_684, g110_685, g110_688, g110_689, rd104, wr104, rd106, wr106, el, w109, x109_0, x109_2, g109_6, e57, Nat.sub_zero, Int.reduceSub, Int.reduceAdd, Int.add_zero, Int.zero_add, Int.cast_ofNat_Int, Bool.false_eq_true, decide_true, decide_false, zbndI, zbwI, zbzI, zb1I, zoA_at, gback_v, gback_n, zem, zisr, zro_at, zrl_at, mu_g, mu_at, mu_mu, mu_self, not_true, not_false_iff, zb0, zb1, zbnd, zbw, zbz, zne1, zone, mrgI, List.length_nil, List.length_cons, Nat.reduceAdd, Nat.reduceSub, Nat.reduceLeDiff, Nat.zero_le, and_true, true_and, false_and, and_false, true_or, or_true, false_or, or_false, G_ite, z10, z1n, z1and, z1or, z0not, z0and, itn, if_true, if_false, reduceIte, Int.reduceEq, Int.reduceLT, Int.reduceNeg, Nat.reduceEqDiff, ite_self, hw0, hw1, hw4, hw6, h40, hr11, hg, mu_j, eq_self, mWd_2, Int.add_sub_cancel]
        exact hK _ hrw
      · have e57 : ∀ (Q : ZO → ZH → Prop) (u : ZV), G 57 0 [zR 2 0, zI 0, zL (Int64.ofInt W), zJ, u] [] (HM μ) 2 12 Q ↔ Q (.inr 2) (HM μ) := fun Q u => by
          rw [c57 (by omega) (fun _ _ => by omega), if_pos (by omega), if_pos hk, if_pos (Or.inl (by omega))]
        simp (disch := first | omega | (simp (disch := decide) only [zmu0, mu_g, List.length_nil, List.length_cons]; omega)) only [g110_0, g110_2, g110_124, g110_126, g110_127, g110_275, g110_277, g110_278, g110_389, g110_391, g110_393, g110_503, g110_504, g110_505, g110_506, g110_508, g110_511, g110_512, g110_513, g110_514, g110_516, g110_517, g110_519, g110_521, g110_522, g110_523, g110_525, g110_526, g110_574, g110_576, g110_578, g110_579, g110_582, g110_583, g110_586, g110_587, g110_589, g110_591, g110_594, g110_596, g110_599, g110_602, g110_604, g110_606, g110_609, g110_610, g110_611, g110_612, g110_615, g110_616, g110_619, g110_620, g110_622, g110_624, g110_627, g110_628, g110_629, g110_630, g110_631, g110_633, g110_634, g110_635, g110_636, g110_637, g110_638, g110_639, g110_640, g110_641, g110_642, g110_643, g110_644, g110_645, g110_646, g110_647, g110_648, g110_649, g110_651, g110_654, g110_656, g110_659, g110_662, g110_665, g110_667, g110_670, g110_671, g110_672, g110_673, g110_674, g110_675, g110_678, g110_681, g110_684, g110_685, g110_688, g110_689, rd104, wr104, rd106, wr106, el, w109, x109_0, x109_2, g109_6, e57, Nat.sub_zero, Int.reduceSub, Int.reduceAdd, Int.add_zero, Int.zero_add, Int.cast_ofNat_Int, Bool.false_eq_true, decide_true, decide_false, zbndI, zbwI, zbzI, zb1I, zoA_at, gback_v, gback_n, zem, zisr, zro_at, zrl_at, mu_g, mu_at, mu_mu, mu_self, not_true, not_false_iff, zb0, zb1, zbnd, zbw, zbz, zne1, zone, mrgI, List.length_nil, List.length_cons, Nat.reduceAdd, Nat.reduceSub, Nat.reduceLeDiff, Nat.zero_le, and_true, true_and, false_and, and_false, true_or, or_true, false_or, or_false, G_ite, z10, z1n, z1and, z1or, z0not, z0and, itn, if_true, if_false, reduceIte, Int.reduceEq, Int.reduceLT, Int.reduceNeg, Nat.reduceEqDiff, ite_self, hw0, hw1, hw4, hw6, h40, hr11, hg, mu_j, eq_self]
        exact hK _ hr
    · have e57 : ∀ (Q : ZO → ZH → Prop) (u : ZV), G 57 0 [zR 2 0, zI 0, zL (Int64.ofInt 6913), zJ, u] [] (HM μ) 2 12 Q ↔ Q (.inr 0) (HM μ) := fun Q u => by
        rw [c57 (by omega) (fun _ _ => by omega), if_pos (by omega), if_neg nkall]
      simp (disch := first | omega | (simp (disch := decide) only [zmu0, mu_g, List.length_nil, List.length_cons]; omega)) only [g110_0, g110_2, g110_124, g110_126, g110_127, g110_275, g110_277, g110_278, g110_389, g110_391, g110_393, g110_503, g110_504, g110_505, g110_506, g110_508, g110_511, g110_512, g110_513, g110_514, g110_516, g110_517, g110_519, g110_521, g110_522, g110_523, g110_525, g110_526, g110_574, g110_576, g110_578, g110_579, g110_582, g110_583, g110_586, g110_587, g110_589, g110_591, g110_594, g110_596, g110_599, g110_602, g110_604, g110_606, g110_609, g110_610, g110_611, g110_612, g110_615, g110_616, g110_619, g110_620, g110_622, g110_624, g110_627, g110_628, g110_629, g110_630, g110_631, g110_633, g110_634, g110_635, g110_636, g110_637, g110_638, g110_639, g110_640, g110_641, g110_642, g110_643, g110_644, g110_645, g110_646, g110_647, g110_648, g110_649, g110_651, g110_654, g110_656, g110_659, g110_662, g110_665, g110_667, g110_670, g110_671, g110_672, g110_673, g110_674, g110_675, g110_678, g110_681, g110_684, g110_685, g110_688, g110_689, rd104, wr104, rd106, wr106, el, w109, x109_0, x109_2, g109_6, e57, Nat.sub_zero, Int.reduceSub, Int.reduceAdd, Int.add_zero, Int.zero_add, Int.cast_ofNat_Int, Bool.false_eq_true, decide_true, decide_false, zbndI, zbwI, zbzI, zb1I, zoA_at, gback_v, gback_n, zem, zisr, zro_at, zrl_at, mu_g, mu_at, mu_mu, mu_self, not_true, not_false_iff, zb0, zb1, zbnd, zbw, zbz, zne1, zone, mrgI, List.length_nil, List.length_cons, Nat.reduceAdd, Nat.reduceSub, Nat.reduceLeDiff, Nat.zero_le, and_true, true_and, false_and, and_false, true_or, or_true, false_or, or_false, G_ite, z10, z1n, z1and, z1or, z0not, z0and, itn, if_true, if_false, reduceIte, Int.reduceEq, Int.reduceLT, Int.reduceNeg, Nat.reduceEqDiff, ite_self, hw0, hw1, hw4, hw6, h40, hr11, mu_j, eq_self]
      exact hK _ hr
/-- isText -/
theorem c110 (h : RW μ t) (ht : t + 1 ≤ 100) (ha : 0 ≤ a) (ha2 : a < 60000) (hb : 0 ≤ b) (hb2 : b < 60000) (hw : 0 ≤ w) (hK : ∀ ν, RW ν (t + 1) → Q (.inl (some (zI 1))) (HM ν)) : G 110 0 [zR 2 0, zR 104 0, zR 105 0, zR 106 0, zI w, zI a, zI b, u1, u2, u3, u4, u5] [] (HM μ) 20 500 Q := by
  by_cases h0 : w = 0
  · rw [h0]
    exact c110_0 h ht ha hb hK
  · by_cases h1 : w = 1
    · rw [h1]
      exact c110_1 h ht ha hb hK
    · by_cases h6 : w < 6
      · by_cases h4 : w < 4 ∧ μ 106 0 3 < 10
        · exact c110_2 h ht ha h0 h1 h4.1 h4.2 hK
        · exact c110_4 h ht ha ha2 h0 h1 (by omega) h6 hK
      · exact c110_6 h ht ha ha2 hb hb2 h6 hK
end ZPJ
