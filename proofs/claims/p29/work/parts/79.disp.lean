/-! ===== the law: the commands; the loop ===== -/
section ZPJ1
variable {ck sk : Nat} {Q : ZO → ZH → Prop} {μ ν κ M Φ : ZU} {a b c d e f g i j k l m n o p r s t t' v w x y z D R S T B : Int} {u u14 u15 u16 u17 u18 u19 u20 u21 u22 u23 u24 : ZV}
theorem c111_w (h : RW μ t) (ht : t + 1 ≤ 100) (ha : 0 ≤ a) (hb : 0 ≤ b) (hg : 0 < μ 106 0 12) (hck : 2100 ≤ ck) (hsk : 21000 ≤ sk) (hq : ∀ ν v19 v20 v21 v22 v23 v24 (ck' sk' : Nat), RW ν (t + 1) → ck - 2100 ≤ ck' → sk - 21000 ≤ sk' → G 111 798 [zR 1 0, zR 2 0, zR 101 0, zR 102 0, zR 103 0, zR 104 0, zR 105 0, zR 106 0, zR 107 0, zR 108 0, zR 109 0, zR 110 0, zR 111 0, zR 112 0, zI 1, zI k, zI 24, zI a, zI b, v19, v20, v21, v22, v23, v24] [] (HM ν) ck' sk' Q) : G 111 357 [zR 1 0, zR 2 0, zR 101 0, zR 102 0, zR 103 0, zR 104 0, zR 105 0, zR 106 0, zR 107 0, zR 108 0, zR 109 0, zR 110 0, zR 111 0, zR 112 0, zI 1, zI k, zI 24, zI a, zI b, u19, u20, u21, u22, u23, u24] [] (HM μ) ck sk Q := by
  have ht0 := h.1
  have h6 := h.2.1.1
  have h40 := h.2.1.2.2.2.1
  have h41 := h.2.1.2.2.2.2.1
  have hr := RW_up h ht
  have hj := Int.emod_nonneg a (b := μ 106 0 12) (by omega)
  have hj2 := Int.emod_lt_of_pos a (b := μ 106 0 12) hg
  have hl := Int.emod_nonneg b (b := μ 106 0 0 + 1) (by omega)
  have hl2 := Int.emod_lt_of_pos b (b := μ 106 0 0 + 1) (by omega)
  have hJ := h.jobOK
  have hB := h.bldOK
  generalize hgj : a % μ 106 0 12 = j at *
  generalize hgl : b % (μ 106 0 0 + 1) = l at *
  have hj3 : j < μ 0 0 40 := by omega
  have hjb := (h.2.2.2.2.2.2.1.1 j hj hj3).2.2
  have hc2 : 5 ≤ 5 + a % 5 ∧ 5 + a % 5 ≤ 9 := by omega
  -- what it answers where it can't
  have eN : ¬ (l < μ 106 0 0 ∧ μ 102 0 l = 0 ∧ ¬ μ 40 j 4 < 0) → ∀ (Q : ZO → ZH → Prop) (u : ZV), G 92 0 [zR 2 0, zI 14, zI j, zI l, zI (5 + a % 5), zI 0, u] [] (HM μ) 13 406 Q ↔ Q (.inl (some (zI (if l = μ 106 0 0 then -3000 else -1000)))) (HM μ) := fun hn Q u => by
    rw [w92_14, c62 hJ hB (by omega) (fun b b0 b1 => by
      have := (h.2.2.2.2.2.2.2.1 b b0 b1).1
      omega)]
    by_cases hl3 : l < μ 106 0 0
    · have hbl := ((h.2.2.1 l hl (by omega)).1 (by omega)).1
      have hx : μ 40 j 4 < 0 ∨ ¬ μ 10 l 1 = 0 := Classical.byContradiction fun z => hn ⟨hl3, by omega, fun y => z (Or.inl y)⟩
      rw [if_pos (show (0 ≤ j ∧ j < μ 0 0 40) ∧ 0 ≤ l ∧ l < μ 0 0 10 by omega), if_pos hc2, if_pos hx, x92_14_2, if_neg (by omega)]
    · rw [if_neg (show ¬ ((0 ≤ j ∧ j < μ 0 0 40) ∧ 0 ≤ l ∧ l < μ 0 0 10) by omega), x92_14_1, if_pos (by omega)]
  by_cases h4 : μ 40 j 4 < 0
  · have e2 := fun (Q : ZO → ZH → Prop) (u : ZV) => jqm (w := 2) (u := u) (Q := Q) hJ hB hj hj3 (by omega) (by omega) h4
    have e3 := fun (Q : ZO → ZH → Prop) (u : ZV) => jqm (w := 3) (u := u) (Q := Q) hJ hB hj hj3 (by omega) (by omega) h4
    refine (c111_w1 ⟨hg, by omega⟩ (by omega) ha hb hgj hgl hj hl (by omega) (by omega) e2 e3).mpr ?_
    refine c111_w2 (by omega) ha (by omega) (fun z => z.2.2 (by decide)) (by omega) (by omega) (eN fun z => z.2.2 h4) fun v23 v24 => ?_
    exact hq _ _ _ _ _ _ _ _ _ hr (by omega) (by omega)
  · have hB0 : 0 ≤ μ 40 j 4 ∧ μ 40 j 4 < μ 0 0 41 := by omega
    have hbk := h.2.2.2.2.2.2.2.1 _ hB0.1 hB0.2
    have hb0 := hbk.1
    have hb2 := hbk.2.2.2.2.2.2.2.1.2.2
    have e2 : ∀ (Q : ZO → ZH → Prop) (u : ZV), G 63 0 [zR 2 0, zI j, zI 2, u] [] (HM μ) 2 12 Q ↔ Q (.inl (some (zI (μ 40 j 4)))) (HM μ) := fun Q u => by
      rw [c63 hJ hB, if_pos ⟨hj, hj3⟩, if_pos (by omega), if_neg (by omega), if_neg (by omega), if_neg h4]
      show Q (.inl (some (zI (μ 41 (μ 40 j 4) 0)))) (HM μ) ↔ _
      rw [hb0]
    have e3 : ∀ (Q : ZO → ZH → Prop) (u : ZV), G 63 0 [zR 2 0, zI j, zI 3, u] [] (HM μ) 2 12 Q ↔ Q (.inl (some (zI (μ 50 (μ 40 j 4) 2)))) (HM μ) := fun Q u => by
      rw [c63 hJ hB, if_pos ⟨hj, hj3⟩, if_pos (by omega), if_neg (by omega), if_neg (by omega), if_neg h4]
      rfl
    refine (c111_w1 ⟨hg, by omega⟩ (by omega) ha hb hgj hgl hj hl (by omega) (by omega) e2 e3).mpr ?_
    by_cases hn : l < μ 106 0 0 ∧ μ 102 0 l = 0 ∧ ¬ μ 40 j 4 < 0
    · have hbl := ((h.2.2.1 l hl (by omega)).1 (by omega)).1
      have ho : μ 10 l 1 = 0 := by omega
      have hr2 := RW_lc (x := 1) (f := 5 + a % 5) (y := min (μ 50 (μ 40 j 4) 2) 3) (z := μ 40 j 4 % 10) (v := 1 + min (μ 50 (μ 40 j 4) 2) 3 + 32 * (μ 40 j 4 % 10)) h ht hl (by omega) ho ⟨by omega, by omega⟩ (Or.inr (Or.inl ⟨rfl, by omega, by omega, by omega, by omega, by omega⟩))
      refine c111_w3 (by omega) ha ⟨hl, hn.1⟩ hn.2.1 (by omega) (by omega) (by omega) (by omega) (Φ := mLc l (5 + a % 5) 1 (min (μ 50 (μ 40 j 4) 2) 3) (μ 40 j 4 % 10) (1 + min (μ 50 (μ 40 j 4) 2) 3 + 32 * (μ 40 j 4 % 10)) μ) ?_ (fun Q u => ?_) fun v23 v24 => hq _ _ _ _ _ _ _ _ _ hr2 (by omega) (by omega)
      · unfold mLc
        rw [mu_g (by decide), mu_g (by decide), mu_g (by decide), mu_g (by decide)]
      · generalize 1 + min (μ 50 (μ 40 j 4) 2) 3 + 32 * (μ 40 j 4 % 10) = V
        have m : ∀ q : Nat, q ≠ 101 → mu μ 101 0 (10 * l + (5 + a % 5)) V q = μ q := fun q hq => mu_g hq
        rw [w92_14, c62 (by unfold jobOK; rw [m 0 (by decide), m 40 (by decide)]; exact hJ) (by unfold bldOK; rw [m 0 (by decide), m 41 (by decide), m 50 (by decide)]; exact hB) (by rw [m 0 (by decide)]; omega) (fun b b0 b1 => by
          rw [m 0 (by decide)] at b1
          rw [m 41 (by decide)]
          have := (h.2.2.2.2.2.2.2.1 b b0 b1).1
          omega), m 0 (by decide), m 40 (by decide), m 10 (by decide), m 50 (by decide), m 41 (by decide), if_pos (show (0 ≤ j ∧ j < μ 0 0 40) ∧ 0 ≤ l ∧ l < μ 0 0 10 by omega), if_pos hc2, if_neg (show ¬ (μ 40 j 4 < 0 ∨ ¬ μ 10 l 1 = 0) by omega), hb0]
        have ef : mu (mu (mu (mu μ 101 0 (10 * l + (5 + a % 5)) V) 12 l (5 + a % 5) 1) 13 l (5 + a % 5) (min (μ 50 (μ 40 j 4) 2) 3)) 14 l (5 + a % 5) (μ 40 j 4 % 10) = mLc l (5 + a % 5) 1 (min (μ 50 (μ 40 j 4) 2) 3) (μ 40 j 4 % 10) V μ := rfl
        rw [ef]
        simp (disch := first | omega | (simp (disch := decide) only [zmu0, mu_g, List.length_nil, List.length_cons]; omega)) only [w92_14, x92_14_0, x92_14_1, x92_14_2, g93_57, g93_58, g92_271, g92_327, Nat.sub_zero, Int.reduceSub, Int.reduceAdd, Int.add_zero, Int.zero_add, Int.cast_ofNat_Int, Bool.false_eq_true, decide_true, decide_false, zbndI, zbwI, zbzI, zb1I, zoA_at, gback_v, gback_n, zem, zisr, zro_at, zrl_at, mu_g, mu_at, mu_mu, mu_self, not_true, not_false_iff, zb0, zb1, zbnd, zbw, zbz, zne1, zone, mrgI, List.length_nil, List.length_cons, Nat.reduceAdd, Nat.reduceSub, Nat.reduceLeDiff, Nat.zero_le, and_true, true_and, false_and, and_false, true_or, or_true, false_or, or_false, G_ite, z10, z1n, z1and, z1or, z0not, z0and, itn, if_true, if_false, reduceIte, Int.reduceEq, Int.reduceLT, Int.reduceNeg, Nat.reduceEqDiff, ite_self]
    · refine c111_w2 (by omega) ha (by omega) hn (by omega) (by omega) (eN hn) fun v23 v24 => ?_
      exact hq _ _ _ _ _ _ _ _ _ hr (by omega) (by omega)
/-- a command -/
theorem c111_C (h : RW μ t) (ht : t + 1 ≤ 100) (ha : 0 ≤ a ∧ a < 60000) (hb : 0 ≤ b ∧ b < 60000) (hw : 0 ≤ w ∧ w < 32) (hck : 2100 ≤ ck) (hsk : 21000 ≤ sk) (hq : ∀ ν v19 v20 v21 v22 v23 v24 (ck' sk' : Nat), RW ν (t + 1) → ck - 2100 ≤ ck' → sk - 21000 ≤ sk' → G 111 798 [zR 1 0, zR 2 0, zR 101 0, zR 102 0, zR 103 0, zR 104 0, zR 105 0, zR 106 0, zR 107 0, zR 108 0, zR 109 0, zR 110 0, zR 111 0, zR 112 0, zI 1, zI k, zI w, zI a, zI b, v19, v20, v21, v22, v23, v24] [] (HM ν) ck' sk' Q) : G 111 357 [zR 1 0, zR 2 0, zR 101 0, zR 102 0, zR 103 0, zR 104 0, zR 105 0, zR 106 0, zR 107 0, zR 108 0, zR 109 0, zR 110 0, zR 111 0, zR 112 0, zI 1, zI k, zI w, zI a, zI b, u19, u20, u21, u22, u23, u24] [] (HM μ) ck sk Q := by
  have hr := RW_up h ht
  by_cases w7 : w < 7
  · have key : ∀ w', 0 ≤ w' → G 111 386 [zR 1 0, zR 2 0, zR 101 0, zR 102 0, zR 103 0, zR 104 0, zR 105 0, zR 106 0, zR 107 0, zR 108 0, zR 109 0, zR 110 0, zR 111 0, zR 112 0, zI 1, zI k, zI w, zI a, zI b, u19, u20, u21, u22, u23, u24] [zI b, zI a, zI w', zR 106 0, zR 102 0, zR 101 0, zR 2 0] (HM μ) ck sk Q := fun w' hw' => by
      rw [g111_386]
      refine ⟨⟨by omega, by omega, by decide, trivial⟩, ?_⟩
      refine c106 h ht ha.1 ha.2 hb.1 hw' fun ν hν => ?_
      rw [gback_v]
      simp (disch := first | omega | (simp (disch := decide) only [zmu0, mu_g, List.length_nil, List.length_cons]; omega)) only [g111_389, g111_391, Nat.sub_zero, Int.reduceSub, Int.reduceAdd, Int.add_zero, Int.zero_add, Int.cast_ofNat_Int, Bool.false_eq_true, decide_true, decide_false, zbndI, zbwI, zbzI, zb1I, zoA_at, gback_v, gback_n, zem, zisr, zro_at, zrl_at, mu_g, mu_at, mu_mu, mu_self, not_true, not_false_iff, zb0, zb1, zbnd, zbw, zbz, zne1, zone, mrgI, List.length_nil, List.length_cons, Nat.reduceAdd, Nat.reduceSub, Nat.reduceLeDiff, Nat.zero_le, and_true, true_and, false_and, and_false, true_or, or_true, false_or, or_false, G_ite, z10, z1n, z1and, z1or, z0not, z0and, itn, if_true, if_false, reduceIte, Int.reduceEq, Int.reduceLT, Int.reduceNeg, Nat.reduceEqDiff, ite_self]
      exact hq _ _ _ _ _ _ _ _ _ hν (by omega) (by omega)
    rw [g111_357]
    by_cases w6 : w < 6
    · simp (disch := first | omega | (simp (disch := decide) only [zmu0, mu_g, List.length_nil, List.length_cons]; omega)) only [g111_359, g111_361, g111_364, g111_365, g111_366, g111_367, g111_369, g111_371, g111_373, g111_376, g111_378, g111_381, g111_382, g111_384, Nat.sub_zero, Int.reduceSub, Int.reduceAdd, Int.add_zero, Int.zero_add, Int.cast_ofNat_Int, Bool.false_eq_true, decide_true, decide_false, zbndI, zbwI, zbzI, zb1I, zoA_at, gback_v, gback_n, zem, zisr, zro_at, zrl_at, mu_g, mu_at, mu_mu, mu_self, not_true, not_false_iff, zb0, zb1, zbnd, zbw, zbz, zne1, zone, mrgI, List.length_nil, List.length_cons, Nat.reduceAdd, Nat.reduceSub, Nat.reduceLeDiff, Nat.zero_le, and_true, true_and, false_and, and_false, true_or, or_true, false_or, or_false, G_ite, z10, z1n, z1and, z1or, z0not, z0and, itn, if_true, if_false, reduceIte, Int.reduceEq, Int.reduceLT, Int.reduceNeg, Nat.reduceEqDiff, ite_self, w7, w6]
      exact key w hw.1
    · simp (disch := first | omega | (simp (disch := decide) only [zmu0, mu_g, List.length_nil, List.length_cons]; omega)) only [g111_359, g111_361, g111_364, g111_365, g111_366, g111_367, g111_369, g111_371, g111_373, g111_376, g111_378, g111_381, g111_382, g111_384, Nat.sub_zero, Int.reduceSub, Int.reduceAdd, Int.add_zero, Int.zero_add, Int.cast_ofNat_Int, Bool.false_eq_true, decide_true, decide_false, zbndI, zbwI, zbzI, zb1I, zoA_at, gback_v, gback_n, zem, zisr, zro_at, zrl_at, mu_g, mu_at, mu_mu, mu_self, not_true, not_false_iff, zb0, zb1, zbnd, zbw, zbz, zne1, zone, mrgI, List.length_nil, List.length_cons, Nat.reduceAdd, Nat.reduceSub, Nat.reduceLeDiff, Nat.zero_le, and_true, true_and, false_and, and_false, true_or, or_true, false_or, or_false, G_ite, z10, z1n, z1and, z1or, z0not, z0and, itn, if_true, if_false, reduceIte, Int.reduceEq, Int.reduceLT, Int.reduceNeg, Nat.reduceEqDiff, ite_self, w7, w6]
      exact key 5 (by omega)
  · by_cases w11 : w < 11
    · have key : ∀ w', G 111 424 [zR 1 0, zR 2 0, zR 101 0, zR 102 0, zR 103 0, zR 104 0, zR 105 0, zR 106 0, zR 107 0, zR 108 0, zR 109 0, zR 110 0, zR 111 0, zR 112 0, zI 1, zI k, zI w, zI a, zI b, u19, u20, u21, u22, u23, u24] [zI b, zI a, zI w', zR 106 0, zR 103 0, zR 102 0, zR 101 0, zR 2 0] (HM μ) ck sk Q := fun w' => by
        rw [g111_424]
        refine ⟨⟨by omega, by omega, by decide, trivial⟩, ?_⟩
        refine c108 h ht ha.1 hb.1 fun ν hν => ?_
        rw [gback_v]
        simp (disch := first | omega | (simp (disch := decide) only [zmu0, mu_g, List.length_nil, List.length_cons]; omega)) only [g111_427, g111_429, Nat.sub_zero, Int.reduceSub, Int.reduceAdd, Int.add_zero, Int.zero_add, Int.cast_ofNat_Int, Bool.false_eq_true, decide_true, decide_false, zbndI, zbwI, zbzI, zb1I, zoA_at, gback_v, gback_n, zem, zisr, zro_at, zrl_at, mu_g, mu_at, mu_mu, mu_self, not_true, not_false_iff, zb0, zb1, zbnd, zbw, zbz, zne1, zone, mrgI, List.length_nil, List.length_cons, Nat.reduceAdd, Nat.reduceSub, Nat.reduceLeDiff, Nat.zero_le, and_true, true_and, false_and, and_false, true_or, or_true, false_or, or_false, G_ite, z10, z1n, z1and, z1or, z0not, z0and, itn, if_true, if_false, reduceIte, Int.reduceEq, Int.reduceLT, Int.reduceNeg, Nat.reduceEqDiff, ite_self]
        exact hq _ _ _ _ _ _ _ _ _ hν (by omega) (by omega)
      rw [g111_357]
      by_cases w10 : w = 10
      · subst w10
        simp (disch := first | omega | (simp (disch := decide) only [zmu0, mu_g, List.length_nil, List.length_cons]; omega)) only [g111_359, g111_361, g111_394, g111_396, g111_398, g111_401, g111_402, g111_403, g111_404, g111_406, g111_408, g111_410, g111_412, g111_415, g111_416, g111_419, g111_420, g111_422, Nat.sub_zero, Int.reduceSub, Int.reduceAdd, Int.add_zero, Int.zero_add, Int.cast_ofNat_Int, Bool.false_eq_true, decide_true, decide_false, zbndI, zbwI, zbzI, zb1I, zoA_at, gback_v, gback_n, zem, zisr, zro_at, zrl_at, mu_g, mu_at, mu_mu, mu_self, not_true, not_false_iff, zb0, zb1, zbnd, zbw, zbz, zne1, zone, mrgI, List.length_nil, List.length_cons, Nat.reduceAdd, Nat.reduceSub, Nat.reduceLeDiff, Nat.zero_le, and_true, true_and, false_and, and_false, true_or, or_true, false_or, or_false, G_ite, z10, z1n, z1and, z1or, z0not, z0and, itn, if_true, if_false, reduceIte, Int.reduceEq, Int.reduceLT, Int.reduceNeg, Nat.reduceEqDiff, ite_self]
        exact key 1
      · simp (disch := first | omega | (simp (disch := decide) only [zmu0, mu_g, List.length_nil, List.length_cons]; omega)) only [g111_359, g111_361, g111_394, g111_396, g111_398, g111_401, g111_402, g111_403, g111_404, g111_406, g111_408, g111_410, g111_412, g111_415, g111_416, g111_419, g111_420, g111_422, Nat.sub_zero, Int.reduceSub, Int.reduceAdd, Int.add_zero, Int.zero_add, Int.cast_ofNat_Int, Bool.false_eq_true, decide_true, decide_false, zbndI, zbwI, zbzI, zb1I, zoA_at, gback_v, gback_n, zem, zisr, zro_at, zrl_at, mu_g, mu_at, mu_mu, mu_self, not_true, not_false_iff, zb0, zb1, zbnd, zbw, zbz, zne1, zone, mrgI, List.length_nil, List.length_cons, Nat.reduceAdd, Nat.reduceSub, Nat.reduceLeDiff, Nat.zero_le, and_true, true_and, false_and, and_false, true_or, or_true, false_or, or_false, G_ite, z10, z1n, z1and, z1or, z0not, z0and, itn, if_true, if_false, reduceIte, Int.reduceEq, Int.reduceLT, Int.reduceNeg, Nat.reduceEqDiff, ite_self, w7, w11, w10]
        exact key 0
    · by_cases w22 : w < 22
      · rw [g111_357]
        simp (disch := first | omega | (simp (disch := decide) only [zmu0, mu_g, List.length_nil, List.length_cons]; omega)) only [g111_359, g111_361, g111_394, g111_396, g111_398, g111_432, g111_434, g111_436, g111_439, g111_440, g111_442, g111_444, g111_446, g111_448, g111_450, g111_451, g111_453, Nat.sub_zero, Int.reduceSub, Int.reduceAdd, Int.add_zero, Int.zero_add, Int.cast_ofNat_Int, Bool.false_eq_true, decide_true, decide_false, zbndI, zbwI, zbzI, zb1I, zoA_at, gback_v, gback_n, zem, zisr, zro_at, zrl_at, mu_g, mu_at, mu_mu, mu_self, not_true, not_false_iff, zb0, zb1, zbnd, zbw, zbz, zne1, zone, mrgI, List.length_nil, List.length_cons, Nat.reduceAdd, Nat.reduceSub, Nat.reduceLeDiff, Nat.zero_le, and_true, true_and, false_and, and_false, true_or, or_true, false_or, or_false, G_ite, z10, z1n, z1and, z1or, z0not, z0and, itn, if_true, if_false, reduceIte, Int.reduceEq, Int.reduceLT, Int.reduceNeg, Nat.reduceEqDiff, ite_self, w7, w11, w22]
        rw [g111_455]
        refine ⟨⟨by omega, by omega, by decide, trivial⟩, ?_⟩
        refine c110 h ht ha.1 ha.2 hb.1 hb.2 (by omega) fun ν hν => ?_
        rw [gback_v]
        simp (disch := first | omega | (simp (disch := decide) only [zmu0, mu_g, List.length_nil, List.length_cons]; omega)) only [g111_458, g111_460, Nat.sub_zero, Int.reduceSub, Int.reduceAdd, Int.add_zero, Int.zero_add, Int.cast_ofNat_Int, Bool.false_eq_true, decide_true, decide_false, zbndI, zbwI, zbzI, zb1I, zoA_at, gback_v, gback_n, zem, zisr, zro_at, zrl_at, mu_g, mu_at, mu_mu, mu_self, not_true, not_false_iff, zb0, zb1, zbnd, zbw, zbz, zne1, zone, mrgI, List.length_nil, List.length_cons, Nat.reduceAdd, Nat.reduceSub, Nat.reduceLeDiff, Nat.zero_le, and_true, true_and, false_and, and_false, true_or, or_true, false_or, or_false, G_ite, z10, z1n, z1and, z1or, z0not, z0and, itn, if_true, if_false, reduceIte, Int.reduceEq, Int.reduceLT, Int.reduceNeg, Nat.reduceEqDiff, ite_self]
        exact hq _ _ _ _ _ _ _ _ _ hν (by omega) (by omega)
      · by_cases w24 : w < 24
        · exact c111_q h ht ha.1 hb.1 w22 w24 hck hsk hq
        · have key : G 111 747 [zR 1 0, zR 2 0, zR 101 0, zR 102 0, zR 103 0, zR 104 0, zR 105 0, zR 106 0, zR 107 0, zR 108 0, zR 109 0, zR 110 0, zR 111 0, zR 112 0, zI 1, zI k, zI w, zI a, zI b, u19, u20, u21, u22, u23, u24] [] (HM μ) ck sk Q := by
            rw [g111_747]
            by_cases h41 : μ 106 0 13 < 6
            · by_cases h40 : μ 106 0 12 < 40
              · have a4 := h.2.1.2.2.2.1
                have a5 := h.2.1.2.2.2.2.1
                simp (disch := first | omega | (simp (disch := decide) only [zmu0, mu_g, List.length_nil, List.length_cons]; omega)) only [g111_749, g111_751, g111_752, g111_754, g111_757, g111_759, g111_761, g111_762, g111_764, g111_767, g111_768, g111_769, g111_771, g111_773, g111_775, g111_777, g111_779, g111_781, g111_783, g111_785, g111_787, g111_789, g111_791, rd106, wr106, Nat.sub_zero, Int.reduceSub, Int.reduceAdd, Int.add_zero, Int.zero_add, Int.cast_ofNat_Int, Bool.false_eq_true, decide_true, decide_false, zbndI, zbwI, zbzI, zb1I, zoA_at, gback_v, gback_n, zem, zisr, zro_at, zrl_at, mu_g, mu_at, mu_mu, mu_self, not_true, not_false_iff, zb0, zb1, zbnd, zbw, zbz, zne1, zone, mrgI, List.length_nil, List.length_cons, Nat.reduceAdd, Nat.reduceSub, Nat.reduceLeDiff, Nat.zero_le, and_true, true_and, false_and, and_false, true_or, or_true, false_or, or_false, G_ite, z10, z1n, z1and, z1or, z0not, z0and, itn, if_true, if_false, reduceIte, Int.reduceEq, Int.reduceLT, Int.reduceNeg, Nat.reduceEqDiff, ite_self, h41, h40]
                rw [g111_793]
                refine ⟨⟨by omega, by omega, by decide, trivial⟩, ?_⟩
                refine c105 h ht (by omega) (by omega) ha.1 hb.1 fun ν hν => ?_
                rw [gback_v]
                simp (disch := first | omega | (simp (disch := decide) only [zmu0, mu_g, List.length_nil, List.length_cons]; omega)) only [g111_796, Nat.sub_zero, Int.reduceSub, Int.reduceAdd, Int.add_zero, Int.zero_add, Int.cast_ofNat_Int, Bool.false_eq_true, decide_true, decide_false, zbndI, zbwI, zbzI, zb1I, zoA_at, gback_v, gback_n, zem, zisr, zro_at, zrl_at, mu_g, mu_at, mu_mu, mu_self, not_true, not_false_iff, zb0, zb1, zbnd, zbw, zbz, zne1, zone, mrgI, List.length_nil, List.length_cons, Nat.reduceAdd, Nat.reduceSub, Nat.reduceLeDiff, Nat.zero_le, and_true, true_and, false_and, and_false, true_or, or_true, false_or, or_false, G_ite, z10, z1n, z1and, z1or, z0not, z0and, itn, if_true, if_false, reduceIte, Int.reduceEq, Int.reduceLT, Int.reduceNeg, Nat.reduceEqDiff, ite_self]
                exact hq _ _ _ _ _ _ _ _ _ hν (by omega) (by omega)
              · simp (disch := first | omega | (simp (disch := decide) only [zmu0, mu_g, List.length_nil, List.length_cons]; omega)) only [g111_749, g111_751, g111_752, g111_754, g111_757, g111_759, g111_761, g111_762, g111_764, rd106, wr106, Nat.sub_zero, Int.reduceSub, Int.reduceAdd, Int.add_zero, Int.zero_add, Int.cast_ofNat_Int, Bool.false_eq_true, decide_true, decide_false, zbndI, zbwI, zbzI, zb1I, zoA_at, gback_v, gback_n, zem, zisr, zro_at, zrl_at, mu_g, mu_at, mu_mu, mu_self, not_true, not_false_iff, zb0, zb1, zbnd, zbw, zbz, zne1, zone, mrgI, List.length_nil, List.length_cons, Nat.reduceAdd, Nat.reduceSub, Nat.reduceLeDiff, Nat.zero_le, and_true, true_and, false_and, and_false, true_or, or_true, false_or, or_false, G_ite, z10, z1n, z1and, z1or, z0not, z0and, itn, if_true, if_false, reduceIte, Int.reduceEq, Int.reduceLT, Int.reduceNeg, Nat.reduceEqDiff, ite_self, h41, h40]
                exact hq _ _ _ _ _ _ _ _ _ hr (by omega) (by omega)
            · simp (disch := first | omega | (simp (disch := decide) only [zmu0, mu_g, List.length_nil, List.length_cons]; omega)) only [g111_749, g111_751, g111_752, g111_754, g111_757, g111_759, g111_761, g111_762, g111_764, rd106, wr106, Nat.sub_zero, Int.reduceSub, Int.reduceAdd, Int.add_zero, Int.zero_add, Int.cast_ofNat_Int, Bool.false_eq_true, decide_true, decide_false, zbndI, zbwI, zbzI, zb1I, zoA_at, gback_v, gback_n, zem, zisr, zro_at, zrl_at, mu_g, mu_at, mu_mu, mu_self, not_true, not_false_iff, zb0, zb1, zbnd, zbw, zbz, zne1, zone, mrgI, List.length_nil, List.length_cons, Nat.reduceAdd, Nat.reduceSub, Nat.reduceLeDiff, Nat.zero_le, and_true, true_and, false_and, and_false, true_or, or_true, false_or, or_false, G_ite, z10, z1n, z1and, z1or, z0not, z0and, itn, if_true, if_false, reduceIte, Int.reduceEq, Int.reduceLT, Int.reduceNeg, Nat.reduceEqDiff, ite_self, h41]
              exact hq _ _ _ _ _ _ _ _ _ hr (by omega) (by omega)
          by_cases w24' : w = 24
          · subst w24'
            by_cases hg : 0 < μ 106 0 12
            · exact c111_w h ht ha.1 hb.1 hg hck hsk hq
            · rw [g111_357]
              simp (disch := first | omega | (simp (disch := decide) only [zmu0, mu_g, List.length_nil, List.length_cons]; omega)) only [g111_359, g111_361, g111_394, g111_396, g111_398, g111_432, g111_434, g111_436, g111_463, g111_465, g111_467, g111_532, g111_534, g111_536, g111_539, g111_541, g111_543, g111_544, rd106, wr106, Nat.sub_zero, Int.reduceSub, Int.reduceAdd, Int.add_zero, Int.zero_add, Int.cast_ofNat_Int, Bool.false_eq_true, decide_true, decide_false, zbndI, zbwI, zbzI, zb1I, zoA_at, gback_v, gback_n, zem, zisr, zro_at, zrl_at, mu_g, mu_at, mu_mu, mu_self, not_true, not_false_iff, zb0, zb1, zbnd, zbw, zbz, zne1, zone, mrgI, List.length_nil, List.length_cons, Nat.reduceAdd, Nat.reduceSub, Nat.reduceLeDiff, Nat.zero_le, and_true, true_and, false_and, and_false, true_or, or_true, false_or, or_false, G_ite, z10, z1n, z1and, z1or, z0not, z0and, itn, if_true, if_false, reduceIte, Int.reduceEq, Int.reduceLT, Int.reduceNeg, Nat.reduceEqDiff, ite_self, hg]
              exact key
          · rw [g111_357]
            simp (disch := first | omega | (simp (disch := decide) only [zmu0, mu_g, List.length_nil, List.length_cons]; omega)) only [g111_359, g111_361, g111_394, g111_396, g111_398, g111_432, g111_434, g111_436, g111_463, g111_465, g111_467, g111_532, g111_534, g111_536, g111_539, g111_541, g111_543, g111_544, rd106, wr106, Nat.sub_zero, Int.reduceSub, Int.reduceAdd, Int.add_zero, Int.zero_add, Int.cast_ofNat_Int, Bool.false_eq_true, decide_true, decide_false, zbndI, zbwI, zbzI, zb1I, zoA_at, gback_v, gback_n, zem, zisr, zro_at, zrl_at, mu_g, mu_at, mu_mu, mu_self, not_true, not_false_iff, zb0, zb1, zbnd, zbw, zbz, zne1, zone, mrgI, List.length_nil, List.length_cons, Nat.reduceAdd, Nat.reduceSub, Nat.reduceLeDiff, Nat.zero_le, and_true, true_and, false_and, and_false, true_or, or_true, false_or, or_false, G_ite, z10, z1n, z1and, z1or, z0not, z0and, itn, if_true, if_false, reduceIte, Int.reduceEq, Int.reduceLT, Int.reduceNeg, Nat.reduceEqDiff, ite_self, w7, w11, w22, w24, w24']
            exact key
/-- the loop -/
theorem lp (hQ : ∀ h, Q (.inl (some (zI 1))) h) : ∀ (n : Nat) (k : Int) (μ : ZU) (ck sk : Nat) (u16 u17 u18 u19 u20 u21 u22 u23 u24 : ZV), RW μ k → 1 ≤ k → k + n = 64 → 2500 * n ≤ ck → 30000 * n ≤ sk → G 111 260 [zR 1 0, zR 2 0, zR 101 0, zR 102 0, zR 103 0, zR 104 0, zR 105 0, zR 106 0, zR 107 0, zR 108 0, zR 109 0, zR 110 0, zR 111 0, zR 112 0, zI 1, zI k, u16, u17, u18, u19, u20, u21, u22, u23, u24] [] (HM μ) ck sk Q
  | 0, k, μ, ck, sk, u16, u17, u18, u19, u20, u21, u22, u23, u24, h, k1, kn, hck, hsk => by
    have hk : ¬ k < 64 := by omega
    rw [g111_260]
    simp (disch := first | omega | (simp (disch := decide) only [zmu0, mu_g, List.length_nil, List.length_cons]; omega)) only [g111_262, g111_264, g111_1046, g111_1048, Nat.sub_zero, Int.reduceSub, Int.reduceAdd, Int.add_zero, Int.zero_add, Int.cast_ofNat_Int, Bool.false_eq_true, decide_true, decide_false, zbndI, zbwI, zbzI, zb1I, zoA_at, gback_v, gback_n, zem, zisr, zro_at, zrl_at, mu_g, mu_at, mu_mu, mu_self, not_true, not_false_iff, zb0, zb1, zbnd, zbw, zbz, zne1, zone, mrgI, List.length_nil, List.length_cons, Nat.reduceAdd, Nat.reduceSub, Nat.reduceLeDiff, Nat.zero_le, and_true, true_and, false_and, and_false, true_or, or_true, false_or, or_false, G_ite, z10, z1n, z1and, z1or, z0not, z0and, itn, if_true, if_false, reduceIte, Int.reduceEq, Int.reduceLT, Int.reduceNeg, Nat.reduceEqDiff, ite_self, hk]
    exact hQ _
  | n + 1, k, μ, ck, sk, u16, u17, u18, u19, u20, u21, u22, u23, u24, h, k1, kn, hck, hsk => by
    have b1 := prt_b (μ := μ) (k := 3 * k + 1) (m := 60000) (by omega)
    have b2 := prt_b (μ := μ) (k := 3 * k + 2) (m := 60000) (by omega)
    have b0 := wht_b (μ := μ) (k := k)
    have b3 : wht μ k < 32 := by
      have := prt_b (μ := μ) (k := 3 * k) (m := 32) (by omega)
      unfold wht
      split
      · omega
      · split
        · omega
        · split
          · omega
          · split <;> omega
    rw [c111_H (by omega) (by omega)]
    refine c111_C h (by omega) b1 b2 ⟨b0, b3⟩ (by omega) (by omega) fun ν v19 v20 v21 v22 v23 v24 ck' sk' hν h1 h2 => ?_
    refine c111_T hν b1.1 (by omega) (by omega) (by omega) fun v16 v17 v18 v19 v20 v21 v22 v23 v24 ck'' sk'' h3 h4 => ?_
    exact lp hQ n (k + 1) ν ck'' sk'' _ _ _ _ _ _ _ _ _ hν (by omega) (by omega) (by omega) (by omega)
end ZPJ1
