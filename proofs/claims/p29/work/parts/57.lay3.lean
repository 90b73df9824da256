/-! ===== the law: seal, a new layer; isLayer ===== -/
def mNl (n : Int) (μ : ZU) : ZU := mLy n (mu (mu μ 106 0 0 (n + 1)) 2 0 6 (n + 1))
def mSl (l : Int) (μ : ZU) : ZU := mu (mu μ 102 0 l 1) 10 l 1 1
section ZPM
variable {ck sk : Nat} {Q : ZO → ZH → Prop} {μ ν κ β : ZU} {a b c d e f g h i j k l m n p r s t t' v w x y z L H M R W C x' y' z' v' : Int} {u u1 u2 u3 u4 u5 u6 u7 u8 u9 u10 : ZV}
theorem enc3_eq (h : enc3 x y z v j) (h' : enc3 x' y' z' v' j) : (x = x' ∧ y = y' ∧ z = z') ↔ v = v' := by
  unfold enc3 at h h'
  omega
theorem RW.alike (h : RW μ t) (i0 : 0 ≤ i) (i1 : i < μ 0 0 10) (l0 : 0 ≤ l) (l1 : l < μ 0 0 10) : lal μ i l = zall (fun j => decide (μ 101 0 (10 * i + j) = μ 101 0 (10 * l + j))) 10 0 := by
  have ha1 := h.2.1.1
  have hi := ((h.2.2.1 i i0 (by omega)).1 i1).2.2
  have hl := ((h.2.2.1 l l0 (by omega)).1 l1).2.2
  unfold lal
  refine zall_eq fun j j0 j1 => ?_
  have j1 : j < 10 := j1
  have e := enc3_eq (hi j j0 j1) (hl j j0 j1)
  unfold ksm
  rw [decide_eq_decide]
  exact ⟨fun q => q.elim (fun q => e.mp q) fun q => absurd q (z1023 j0 j1), fun q => Or.inl (e.mpr q)⟩
theorem RW_sl (h : RW μ t) (ht : t + 1 ≤ 100) (l0 : 0 ≤ l) (l1 : l < μ 0 0 10) : RW (mSl l μ) (t + 1) := by
  have ha1 := h.2.1.1
  refine RW_ls h ht (fun q h1 h2 => ?_) (fun l' j hj => ?_) (fun l' a b => ?_) (fun l' a b => ?_)
  · unfold mSl
    rw [mu_g h1, mu_g h2]
  · unfold mSl
    rw [mu_j hj, mu_g (by decide)]
  · have hb := (h.2.2.1 l' a (by omega)).1 b
    unfold mSl
    rw [mu_g (k' := 102) (by decide)]
    by_cases q : l' = l
    · rw [q, mu_at, mu_at]
      omega
    · rw [mu_j q, mu_i q, mu_g (by decide)]
      exact ⟨hb.1, hb.2.1, fun z => z⟩
  · unfold mSl
    rw [mu_g (k' := 102) (by decide), mu_j (by omega)]
theorem RW_t6 (h : RW μ t) (ht : t + 1 ≤ 100) : RW (mu μ 102 0 6 1) (t + 1) := by
  have ha1 := h.2.1.1
  refine RW_ls h ht (fun q h1 h2 => mu_g h2) (fun l' j hj => by rw [mu_g (by decide)]) (fun l' a b => ?_) (fun l' a b => mu_j (by omega))
  have hb := (h.2.2.1 l' a (by omega)).1 b
  rw [mu_j (by omega), mu_g (by decide)]
  exact ⟨hb.1, hb.2.1, fun z => z⟩
theorem slk_slp (h : RW μ t) (l0 : 0 ≤ l) (l1 : l < μ 0 0 10) : zff (slp (mSl l μ) l) 24 0 = zdn (slk μ l) (μ 0 0 10).toNat (-1) := by
  have ha1 := h.2.1.1
  have e : (24 : Nat) = (μ 0 0 10).toNat + (24 - (μ 0 0 10).toNat) := by omega
  have c0 : mSl l μ 0 0 10 = μ 0 0 10 := by
    unfold mSl
    simp (disch := decide) only [mu_g]
  have hfal : ∀ j, ((μ 0 0 10).toNat : Int) ≤ j → j < ((μ 0 0 10).toNat : Int) + ((24 - (μ 0 0 10).toNat : Nat) : Int) → slp (mSl l μ) l j = false := fun j a b => by
    unfold slp
    refine decide_eq_false fun z => ?_
    rw [c0] at z
    omega
  rw [zdn_zff, e, zff_cut _ _ hfal]
  have e2 : zff (slp (mSl l μ) l) (μ 0 0 10).toNat 0 = zff (slk μ l) (μ 0 0 10).toNat 0 := by
    refine zff_eq _ _ fun j a b => ?_
    have hj1 : j < μ 0 0 10 := by omega
    have hb := (h.2.2.1 j a (by omega)).1 hj1
    have hl : lal (mSl l μ) j l = lal μ j l := by
      unfold lal mSl ksm
      simp (disch := decide) only [mu_g]
    unfold slp slk
    rw [decide_eq_decide, c0, hl, h.alike a hj1 l0 l1, hb.1]
    constructor
    · rintro ⟨-, q2, q3, q4⟩
      have e3 : mSl l μ 10 j 1 = μ 10 j 1 := by
        unfold mSl
        rw [mu_i q2, mu_g (by decide)]
      rw [e3] at q3
      exact ⟨q2, q3, q4⟩
    · rintro ⟨q2, q3, q4⟩
      have e3 : mSl l μ 10 j 1 = μ 10 j 1 := by
        unfold mSl
        rw [mu_i q2, mu_g (by decide)]
      rw [e3]
      exact ⟨hj1, q2, q3, q4⟩
  rw [e2]
  by_cases q : zff (slk μ l) (μ 0 0 10).toNat 0 = -1
  · rw [if_pos q, q]
  · rw [if_neg q]
theorem c106_i (hB : rwB μ) (k0 : 0 ≤ k) (k1 : k < 6) (l0 : 0 ≤ l) (l1 : l < 6) : ∀ (n : Nat) (j b : Int), 0 ≤ j → j + n = 10 → (b = 0 ∨ b = 1) →
    (G 106 460 [zR 2 0, zR 101 0, zR 102 0, zR 106 0, u1, u2, u3, zI l, u4, u5, u6, u7, u8, u9, zI k, zI b, zI j] [] (HM μ) ck sk Q ↔ G 106 509 [zR 2 0, zR 101 0, zR 102 0, zR 106 0, u1, u2, u3, zI l, u4, u5, u6, u7, u8, u9, zI k, zI (if b = 1 ∧ zall (fun j => decide (μ 101 0 (10 * k + j) = μ 101 0 (10 * l + j))) n j = true then 1 else 0), zI 10] [] (HM μ) ck sk Q)
  | 0, j, b, j0, j1, hb => by
    have q : ¬ j < 10 := by omega
    have q' : j = 10 := by omega
    have e : (if b = 1 ∧ zall (fun j => decide (μ 101 0 (10 * k + j) = μ 101 0 (10 * l + j))) 0 j = true then (1 : Int) else 0) = b := by
      rcases hb with rfl | rfl
      · rw [if_neg (fun z => by omega)]
      · rw [if_pos ⟨rfl, rfl⟩]
    rw [e, g106_460]
    simp (disch := first | omega | (simp (disch := decide) only [zmu0, mu_g, List.length_nil, List.length_cons]; omega)) only [g106_462, g106_464, Nat.sub_zero, Int.reduceSub, Int.reduceAdd, Int.add_zero, Int.zero_add, Int.cast_ofNat_Int, Bool.false_eq_true, decide_true, decide_false, zbndI, zbwI, zbzI, zb1I, zoA_at, gback_v, gback_n, zem, zisr, zro_at, zrl_at, mu_g, mu_at, mu_mu, mu_self, not_true, not_false_iff, zb0, zb1, zbnd, zbw, zbz, zne1, zone, mrgI, List.length_nil, List.length_cons, Nat.reduceAdd, Nat.reduceSub, Nat.reduceLeDiff, Nat.zero_le, and_true, true_and, false_and, and_false, true_or, or_true, false_or, or_false, G_ite, z10, z1n, z1and, z1or, z0not, z0and, itn, if_true, if_false, reduceIte, Int.reduceEq, Int.reduceLT, Int.reduceNeg, Nat.reduceEqDiff, ite_self, q]
    rw [q']
  | n + 1, j, b, j0, j1, hb => by
    have q : j < 10 := by omega
    have c1 := hB.2 (10 * k + j) (by omega) (by omega)
    have c2 := hB.2 (10 * l + j) (by omega) (by omega)
    rw [g106_460]
    rcases hb with rfl | rfl
    · have ih := c106_i hB k0 k1 l0 l1 n (j + 1) 0 (by omega) (by omega) (Or.inl rfl)
      rw [if_neg (fun z => by omega)] at ih
      rw [if_neg (fun z => by omega), ← ih]
      simp (disch := first | omega | (simp (disch := decide) only [zmu0, mu_g, List.length_nil, List.length_cons]; omega)) only [g106_462, g106_464, g106_467, g106_469, g106_472, g106_473, g106_475, g106_477, g106_478, g106_480, g106_481, g106_482, g106_483, g106_485, g106_487, g106_488, g106_490, g106_491, g106_492, g106_493, g106_496, g106_497, g106_500, g106_501, g106_503, g106_506, Nat.sub_zero, Int.reduceSub, Int.reduceAdd, Int.add_zero, Int.zero_add, Int.cast_ofNat_Int, Bool.false_eq_true, decide_true, decide_false, zbndI, zbwI, zbzI, zb1I, zoA_at, gback_v, gback_n, zem, zisr, zro_at, zrl_at, mu_g, mu_at, mu_mu, mu_self, not_true, not_false_iff, zb0, zb1, zbnd, zbw, zbz, zne1, zone, mrgI, List.length_nil, List.length_cons, Nat.reduceAdd, Nat.reduceSub, Nat.reduceLeDiff, Nat.zero_le, and_true, true_and, false_and, and_false, true_or, or_true, false_or, or_false, G_ite, z10, z1n, z1and, z1or, z0not, z0and, itn, if_true, if_false, reduceIte, Int.reduceEq, Int.reduceLT, Int.reduceNeg, Nat.reduceEqDiff, ite_self, q]
    · by_cases hc : μ 101 0 (10 * k + j) = μ 101 0 (10 * l + j)
      · have ih := c106_i hB k0 k1 l0 l1 n (j + 1) 1 (by omega) (by omega) (Or.inr rfl)
        have e : zall (fun j => decide (μ 101 0 (10 * k + j) = μ 101 0 (10 * l + j))) (n + 1) j = zall (fun j => decide (μ 101 0 (10 * k + j) = μ 101 0 (10 * l + j))) n (j + 1) := if_pos (decide_eq_true hc)
        rw [e, ← ih]
        simp (disch := first | omega | (simp (disch := decide) only [zmu0, mu_g, List.length_nil, List.length_cons]; omega)) only [g106_462, g106_464, g106_467, g106_469, g106_472, g106_473, g106_475, g106_477, g106_478, g106_480, g106_481, g106_482, g106_483, g106_485, g106_487, g106_488, g106_490, g106_491, g106_492, g106_493, g106_496, g106_497, g106_500, g106_501, g106_503, g106_506, rd101, wr101, Nat.sub_zero, Int.reduceSub, Int.reduceAdd, Int.add_zero, Int.zero_add, Int.cast_ofNat_Int, Bool.false_eq_true, decide_true, decide_false, zbndI, zbwI, zbzI, zb1I, zoA_at, gback_v, gback_n, zem, zisr, zro_at, zrl_at, mu_g, mu_at, mu_mu, mu_self, not_true, not_false_iff, zb0, zb1, zbnd, zbw, zbz, zne1, zone, mrgI, List.length_nil, List.length_cons, Nat.reduceAdd, Nat.reduceSub, Nat.reduceLeDiff, Nat.zero_le, and_true, true_and, false_and, and_false, true_or, or_true, false_or, or_false, G_ite, z10, z1n, z1and, z1or, z0not, z0and, itn, if_true, if_false, reduceIte, Int.reduceEq, Int.reduceLT, Int.reduceNeg, Nat.reduceEqDiff, ite_self, q, hc, zcI_eq, eq_self]
      · have ih := c106_i hB k0 k1 l0 l1 n (j + 1) 0 (by omega) (by omega) (Or.inl rfl)
        have e : zall (fun j => decide (μ 101 0 (10 * k + j) = μ 101 0 (10 * l + j))) (n + 1) j = false := if_neg (by simp [hc])
        rw [if_neg (fun z => by omega)] at ih
        rw [e, if_neg (fun z => by cases z.2), ← ih]
        simp (disch := first | omega | (simp (disch := decide) only [zmu0, mu_g, List.length_nil, List.length_cons]; omega)) only [g106_462, g106_464, g106_467, g106_469, g106_472, g106_473, g106_475, g106_477, g106_478, g106_480, g106_481, g106_482, g106_483, g106_485, g106_487, g106_488, g106_490, g106_491, g106_492, g106_493, g106_496, g106_497, g106_500, g106_501, g106_503, g106_506, rd101, wr101, Nat.sub_zero, Int.reduceSub, Int.reduceAdd, Int.add_zero, Int.zero_add, Int.cast_ofNat_Int, Bool.false_eq_true, decide_true, decide_false, zbndI, zbwI, zbzI, zb1I, zoA_at, gback_v, gback_n, zem, zisr, zro_at, zrl_at, mu_g, mu_at, mu_mu, mu_self, not_true, not_false_iff, zb0, zb1, zbnd, zbw, zbz, zne1, zone, mrgI, List.length_nil, List.length_cons, Nat.reduceAdd, Nat.reduceSub, Nat.reduceLeDiff, Nat.zero_le, and_true, true_and, false_and, and_false, true_or, or_true, false_or, or_false, G_ite, z10, z1n, z1and, z1or, z0not, z0and, itn, if_true, if_false, reduceIte, Int.reduceEq, Int.reduceLT, Int.reduceNeg, Nat.reduceEqDiff, ite_self, q, hc, zcI_eq]
theorem c106_o (hB : rwB μ) (l0 : 0 ≤ l) (l1 : l < 6) : ∀ (n : Nat) (s : Int) (u9 u10 : ZV), n ≤ 6 →
    ∃ v9 v10, (G 106 425 [zR 2 0, zR 101 0, zR 102 0, zR 106 0, u1, u2, u3, zI l, u4, zI 1, u6, u7, u8, zI s, zI ((n : Int) + (-1)), u9, u10] [] (HM μ) ck sk Q ↔ G 106 529 [zR 2 0, zR 101 0, zR 102 0, zR 106 0, u1, u2, u3, zI l, u4, zI 1, u6, u7, u8, zI (zdn (slk μ l) n s), zI (-1), v9, v10] [] (HM μ) ck sk Q)
  | 0, s, u9, u10, hn => by
    refine ⟨u9, u10, ?_⟩
    rw [g106_425]
    simp (disch := first | omega | (simp (disch := decide) only [zmu0, mu_g, List.length_nil, List.length_cons]; omega)) only [g106_427, Nat.sub_zero, Int.reduceSub, Int.reduceAdd, Int.add_zero, Int.zero_add, Int.cast_ofNat_Int, Bool.false_eq_true, decide_true, decide_false, zbndI, zbwI, zbzI, zb1I, zoA_at, gback_v, gback_n, zem, zisr, zro_at, zrl_at, mu_g, mu_at, mu_mu, mu_self, not_true, not_false_iff, zb0, zb1, zbnd, zbw, zbz, zne1, zone, mrgI, List.length_nil, List.length_cons, Nat.reduceAdd, Nat.reduceSub, Nat.reduceLeDiff, Nat.zero_le, and_true, true_and, false_and, and_false, true_or, or_true, false_or, or_false, G_ite, z10, z1n, z1and, z1or, z0not, z0and, itn, if_true, if_false, reduceIte, Int.reduceEq, Int.reduceLT, Int.reduceNeg, Nat.reduceEqDiff, ite_self, zdn]
  | n + 1, s, u9, u10, hn => by
    have e1 : ((n + 1 : Nat) : Int) + (-1) = n := by omega
    have hi := fun (b : Int) (hb : b = 0 ∨ b = 1) => c106_i (μ := μ) (ck := ck) (sk := sk) (Q := Q) (u1 := u1) (u2 := u2) (u3 := u3) (u4 := u4) (u5 := zI 1) (u6 := u6) (u7 := u7) (u8 := u8) (u9 := zI s) (k := (n : Int)) hB (by omega) (by omega) l0 l1 10 0 b (by omega) (by omega) hb
    rw [e1]
    have q : ¬ (n : Int) < 0 := by omega
    by_cases hc : slk μ l n = true
    · obtain ⟨c1, c2, c3⟩ := of_decide_eq_true hc
      obtain ⟨v9, v10, ih⟩ := c106_o hB l0 l1 n (n : Int) (zI 1) (zI 10) (by omega)
      refine ⟨v9, v10, ?_⟩
      have e2 : zdn (slk μ l) (n + 1) s = zdn (slk μ l) n (n : Int) := by
        show zdn (slk μ l) n (if slk μ l n = true then (n : Int) else s) = _
        rw [if_pos hc]
      have hi := hi 1 (Or.inr rfl)
      rw [if_pos ⟨rfl, c3⟩] at hi
      rw [e2, ← ih, g106_425]
      simp (disch := first | omega | (simp (disch := decide) only [zmu0, mu_g, List.length_nil, List.length_cons]; omega)) only [g106_427, g106_430, g106_432, g106_435, g106_437, g106_439, g106_442, g106_443, g106_445, g106_446, g106_447, g106_450, g106_451, g106_454, g106_455, g106_457, g106_458, g106_509, g106_511, g106_514, g106_516, g106_519, g106_521, g106_523, g106_526, rd102, wr102, Nat.sub_zero, Int.reduceSub, Int.reduceAdd, Int.add_zero, Int.zero_add, Int.cast_ofNat_Int, Bool.false_eq_true, decide_true, decide_false, zbndI, zbwI, zbzI, zb1I, zoA_at, gback_v, gback_n, zem, zisr, zro_at, zrl_at, mu_g, mu_at, mu_mu, mu_self, not_true, not_false_iff, zb0, zb1, zbnd, zbw, zbz, zne1, zone, mrgI, List.length_nil, List.length_cons, Nat.reduceAdd, Nat.reduceSub, Nat.reduceLeDiff, Nat.zero_le, and_true, true_and, false_and, and_false, true_or, or_true, false_or, or_false, G_ite, z10, z1n, z1and, z1or, z0not, z0and, itn, if_true, if_false, reduceIte, Int.reduceEq, Int.reduceLT, Int.reduceNeg, Nat.reduceEqDiff, ite_self, q, c1, c2, hi]
    · obtain ⟨v9, v10, ih⟩ := c106_o hB l0 l1 n s (zI 0) (zI 10) (by omega)
      refine ⟨v9, v10, ?_⟩
      have e2 : zdn (slk μ l) (n + 1) s = zdn (slk μ l) n s := by
        show zdn (slk μ l) n (if slk μ l n = true then (n : Int) else s) = _
        rw [if_neg hc]
      rw [e2, ← ih, g106_425]
      have hi0 := hi 0 (Or.inl rfl)
      have hi1 := hi 1 (Or.inr rfl)
      rw [if_neg (fun z => by omega)] at hi0
      by_cases c1 : (n : Int) = l
      · simp (disch := first | omega | (simp (disch := decide) only [zmu0, mu_g, List.length_nil, List.length_cons]; omega)) only [g106_427, g106_430, g106_432, g106_435, g106_437, g106_439, g106_442, g106_443, g106_445, g106_446, g106_447, g106_450, g106_451, g106_454, g106_455, g106_457, g106_458, g106_509, g106_511, g106_514, g106_516, g106_519, g106_521, g106_523, g106_526, rd102, wr102, Nat.sub_zero, Int.reduceSub, Int.reduceAdd, Int.add_zero, Int.zero_add, Int.cast_ofNat_Int, Bool.false_eq_true, decide_true, decide_false, zbndI, zbwI, zbzI, zb1I, zoA_at, gback_v, gback_n, zem, zisr, zro_at, zrl_at, mu_g, mu_at, mu_mu, mu_self, not_true, not_false_iff, zb0, zb1, zbnd, zbw, zbz, zne1, zone, mrgI, List.length_nil, List.length_cons, Nat.reduceAdd, Nat.reduceSub, Nat.reduceLeDiff, Nat.zero_le, and_true, true_and, false_and, and_false, true_or, or_true, false_or, or_false, G_ite, z10, z1n, z1and, z1or, z0not, z0and, itn, if_true, if_false, reduceIte, Int.reduceEq, Int.reduceLT, Int.reduceNeg, Nat.reduceEqDiff, ite_self, q, c1] at hi0 ⊢
        simp (disch := first | omega | (simp (disch := decide) only [zmu0, mu_g, List.length_nil, List.length_cons]; omega)) only [g106_509, g106_511, g106_514, g106_516, g106_519, g106_521, g106_523, g106_526, Nat.sub_zero, Int.reduceSub, Int.reduceAdd, Int.add_zero, Int.zero_add, Int.cast_ofNat_Int, Bool.false_eq_true, decide_true, decide_false, zbndI, zbwI, zbzI, zb1I, zoA_at, gback_v, gback_n, zem, zisr, zro_at, zrl_at, mu_g, mu_at, mu_mu, mu_self, not_true, not_false_iff, zb0, zb1, zbnd, zbw, zbz, zne1, zone, mrgI, List.length_nil, List.length_cons, Nat.reduceAdd, Nat.reduceSub, Nat.reduceLeDiff, Nat.zero_le, and_true, true_and, false_and, and_false, true_or, or_true, false_or, or_false, G_ite, z10, z1n, z1and, z1or, z0not, z0and, itn, if_true, if_false, reduceIte, Int.reduceEq, Int.reduceLT, Int.reduceNeg, Nat.reduceEqDiff, ite_self, hi0]
        rw [if_neg (by omega)]
      · by_cases c2 : μ 102 0 n = 1
        · have c3 : ¬ zall (fun j => decide (μ 101 0 (10 * (n : Int) + j) = μ 101 0 (10 * l + j))) 10 0 = true := fun z => hc (decide_eq_true ⟨c1, c2, z⟩)
          rw [if_neg (fun z => c3 z.2)] at hi1
          simp (disch := first | omega | (simp (disch := decide) only [zmu0, mu_g, List.length_nil, List.length_cons]; omega)) only [g106_427, g106_430, g106_432, g106_435, g106_437, g106_439, g106_442, g106_443, g106_445, g106_446, g106_447, g106_450, g106_451, g106_454, g106_455, g106_457, g106_458, g106_509, g106_511, g106_514, g106_516, g106_519, g106_521, g106_523, g106_526, rd102, wr102, Nat.sub_zero, Int.reduceSub, Int.reduceAdd, Int.add_zero, Int.zero_add, Int.cast_ofNat_Int, Bool.false_eq_true, decide_true, decide_false, zbndI, zbwI, zbzI, zb1I, zoA_at, gback_v, gback_n, zem, zisr, zro_at, zrl_at, mu_g, mu_at, mu_mu, mu_self, not_true, not_false_iff, zb0, zb1, zbnd, zbw, zbz, zne1, zone, mrgI, List.length_nil, List.length_cons, Nat.reduceAdd, Nat.reduceSub, Nat.reduceLeDiff, Nat.zero_le, and_true, true_and, false_and, and_false, true_or, or_true, false_or, or_false, G_ite, z10, z1n, z1and, z1or, z0not, z0and, itn, if_true, if_false, reduceIte, Int.reduceEq, Int.reduceLT, Int.reduceNeg, Nat.reduceEqDiff, ite_self, q, c1, c2, hi1]
        · simp (disch := first | omega | (simp (disch := decide) only [zmu0, mu_g, List.length_nil, List.length_cons]; omega)) only [g106_427, g106_430, g106_432, g106_435, g106_437, g106_439, g106_442, g106_443, g106_445, g106_446, g106_447, g106_450, g106_451, g106_454, g106_455, g106_457, g106_458, g106_509, g106_511, g106_514, g106_516, g106_519, g106_521, g106_523, g106_526, rd102, wr102, Nat.sub_zero, Int.reduceSub, Int.reduceAdd, Int.add_zero, Int.zero_add, Int.cast_ofNat_Int, Bool.false_eq_true, decide_true, decide_false, zbndI, zbwI, zbzI, zb1I, zoA_at, gback_v, gback_n, zem, zisr, zro_at, zrl_at, mu_g, mu_at, mu_mu, mu_self, not_true, not_false_iff, zb0, zb1, zbnd, zbw, zbz, zne1, zone, mrgI, List.length_nil, List.length_cons, Nat.reduceAdd, Nat.reduceSub, Nat.reduceLeDiff, Nat.zero_le, and_true, true_and, false_and, and_false, true_or, or_true, false_or, or_false, G_ite, z10, z1n, z1and, z1or, z0not, z0and, itn, if_true, if_false, reduceIte, Int.reduceEq, Int.reduceLT, Int.reduceNeg, Nat.reduceEqDiff, ite_self, q, c1, c2, hi0]
/-- seal -/
theorem c106_5 (h : RW μ t) (ht : t + 1 ≤ 100) (ha : 0 ≤ a) (hb : 0 ≤ b) (hw0 : ¬ w = 0) (hw4 : ¬ w < 4) (hw5 : ¬ w = 4) (hK : ∀ ν, RW ν (t + 1) → Q (.inl (some (zI 1))) (HM ν)) : G 106 0 [zR 2 0, zR 101 0, zR 102 0, zR 106 0, zI w, zI a, zI b, u1, u2, u3, u4, u5, u6, u7, u8, u9, u10] [] (HM μ) 30 900 Q := by
  have ha1 := h.2.1.1
  have hr := RW_t6 h ht
  have hB := h.rwB
  refine c106_3 (RWz_of h) ha hb ?_ (fun l l0 l1 o => ?_) (fun l l0 l1 o => ?_)
  · have e48 : ∀ (Q : ZO → ZH → Prop) (u u' u'' : ZV), G 48 0 [zR 2 0, zI (μ 106 0 0), u, u', u''] [] (HM (mu μ 102 0 6 1)) 2 12 Q ↔ Q (.inr 1) (HM (mu μ 102 0 6 1)) := fun Q u u' u'' => by
      rw [c48 (by rw [mu_g (by decide)]; omega), if_neg (by rw [mu_g (by decide)]; omega)]
    by_cases hn : μ 106 0 0 - 1 < 0
    · simp (disch := first | omega | (simp (disch := decide) only [zmu0, mu_g, List.length_nil, List.length_cons]; omega)) only [g106_95, g106_97, g106_159, g106_161, g106_162, g106_290, g106_292, g106_293, g106_368, g106_370, g106_371, g106_415, g106_416, g106_418, g106_419, g106_420, g106_421, g106_422, g106_423, g106_425, g106_427, g106_430, g106_432, g106_529, g106_530, g106_532, g106_535, g106_537, g106_540, g106_542, g106_543, g106_544, g106_545, g106_546, g106_548, g106_549, g106_550, g106_551, g106_554, g106_556, g106_559, g106_561, g106_564, g106_566, g106_569, g106_570, g106_573, g106_574, rd102, wr102, rd106, wr106, w92_4, x92_4_0, x92_4_1, x92_4_2, g92_78, g92_327, e48, Nat.sub_zero, Int.reduceSub, Int.reduceAdd, Int.add_zero, Int.zero_add, Int.cast_ofNat_Int, Bool.false_eq_true, decide_true, decide_false, zbndI, zbwI, zbzI, zb1I, zoA_at, gback_v, gback_n, zem, zisr, zro_at, zrl_at, mu_g, mu_at, mu_mu, mu_self, not_true, not_false_iff, zb0, zb1, zbnd, zbw, zbz, zne1, zone, mrgI, List.length_nil, List.length_cons, Nat.reduceAdd, Nat.reduceSub, Nat.reduceLeDiff, Nat.zero_le, and_true, true_and, false_and, and_false, true_or, or_true, false_or, or_false, G_ite, z10, z1n, z1and, z1or, z0not, z0and, itn, if_true, if_false, reduceIte, Int.reduceEq, Int.reduceLT, Int.reduceNeg, Nat.reduceEqDiff, ite_self, eq_self, hw0, hw4, hw5, hn]
      exact hK _ hr
    · simp (disch := first | omega | (simp (disch := decide) only [zmu0, mu_g, List.length_nil, List.length_cons]; omega)) only [g106_95, g106_97, g106_159, g106_161, g106_162, g106_290, g106_292, g106_293, g106_368, g106_370, g106_371, g106_415, g106_416, g106_418, g106_419, g106_420, g106_421, g106_422, g106_423, g106_425, g106_427, g106_430, g106_432, g106_529, g106_530, g106_532, g106_535, g106_537, g106_540, g106_542, g106_543, g106_544, g106_545, g106_546, g106_548, g106_549, g106_550, g106_551, g106_554, g106_556, g106_559, g106_561, g106_564, g106_566, g106_569, g106_570, g106_573, g106_574, rd102, wr102, rd106, wr106, w92_4, x92_4_0, x92_4_1, x92_4_2, g92_78, g92_327, e48, Nat.sub_zero, Int.reduceSub, Int.reduceAdd, Int.add_zero, Int.zero_add, Int.cast_ofNat_Int, Bool.false_eq_true, decide_true, decide_false, zbndI, zbwI, zbzI, zb1I, zoA_at, gback_v, gback_n, zem, zisr, zro_at, zrl_at, mu_g, mu_at, mu_mu, mu_self, not_true, not_false_iff, zb0, zb1, zbnd, zbw, zbz, zne1, zone, mrgI, List.length_nil, List.length_cons, Nat.reduceAdd, Nat.reduceSub, Nat.reduceLeDiff, Nat.zero_le, and_true, true_and, false_and, and_false, true_or, or_true, false_or, or_false, G_ite, z10, z1n, z1and, z1or, z0not, z0and, itn, if_true, if_false, reduceIte, Int.reduceEq, Int.reduceLT, Int.reduceNeg, Nat.reduceEqDiff, ite_self, eq_self, hw0, hw4, hw5, hn]
      exact hK _ hr
  · have hn : ¬ μ 106 0 0 - 1 < 0 := by omega
    have e48 : ∀ (Q : ZO → ZH → Prop) (u u' u'' : ZV), G 48 0 [zR 2 0, zI l, u, u', u''] [] (HM (mu μ 102 0 6 1)) 2 12 Q ↔ Q (.inr 2) (HM (mu μ 102 0 6 1)) := fun Q u u' u'' => by
      rw [c48 (by rw [mu_g (by decide)]; omega), if_pos (by rw [mu_g (by decide)]; exact ⟨l0, l1⟩), if_neg (by rw [mu_g (by decide)]; exact o)]
    simp (disch := first | omega | (simp (disch := decide) only [zmu0, mu_g, List.length_nil, List.length_cons]; omega)) only [g106_95, g106_97, g106_159, g106_161, g106_162, g106_290, g106_292, g106_293, g106_368, g106_370, g106_371, g106_415, g106_416, g106_418, g106_419, g106_420, g106_421, g106_422, g106_423, g106_425, g106_427, g106_430, g106_432, g106_529, g106_530, g106_532, g106_535, g106_537, g106_540, g106_542, g106_543, g106_544, g106_545, g106_546, g106_548, g106_549, g106_550, g106_551, g106_554, g106_556, g106_559, g106_561, g106_564, g106_566, g106_569, g106_570, g106_573, g106_574, rd102, wr102, rd106, wr106, w92_4, x92_4_0, x92_4_1, x92_4_2, g92_78, g92_327, e48, Nat.sub_zero, Int.reduceSub, Int.reduceAdd, Int.add_zero, Int.zero_add, Int.cast_ofNat_Int, Bool.false_eq_true, decide_true, decide_false, zbndI, zbwI, zbzI, zb1I, zoA_at, gback_v, gback_n, zem, zisr, zro_at, zrl_at, mu_g, mu_at, mu_mu, mu_self, not_true, not_false_iff, zb0, zb1, zbnd, zbw, zbz, zne1, zone, mrgI, List.length_nil, List.length_cons, Nat.reduceAdd, Nat.reduceSub, Nat.reduceLeDiff, Nat.zero_le, and_true, true_and, false_and, and_false, true_or, or_true, false_or, or_false, G_ite, z10, z1n, z1and, z1or, z0not, z0and, itn, if_true, if_false, reduceIte, Int.reduceEq, Int.reduceLT, Int.reduceNeg, Nat.reduceEqDiff, ite_self, eq_self, hw0, hw4, hw5, hn]
    exact hK _ hr
  · have hs := RW_sl h ht l0 l1
    have e48 : ∀ (Q : ZO → ZH → Prop) (u u' u'' : ZV), G 48 0 [zR 2 0, zI l, u, u', u''] [] (HM (mu μ 102 0 l 1)) 2 12 Q ↔ Q (.inl (some (zI (zdn (slk μ l) (μ 0 0 10).toNat (-1))))) (HM (mSl l μ)) := fun Q u u' u'' => by
      rw [c48 (by rw [mu_g (by decide)]; omega), if_pos (by rw [mu_g (by decide)]; exact ⟨l0, l1⟩), if_pos (by rw [mu_g (by decide)]; exact o), ← slk_slp h l0 l1]
      rfl
    obtain ⟨v9, v10, eo⟩ := c106_o (μ := μ) (ck := 30) (sk := 900) (Q := Q) (u1 := zI w) (u2 := zI a) (u3 := zI b) (u4 := zI 1) (u6 := zI (b % 10)) (u7 := zI (10 * l + b % 10)) (u8 := zI 0) (l := l) hB l0 (by omega) (μ 0 0 10).toNat (-1) u9 u10 (by omega)
    have en : (((μ 0 0 10).toNat : Nat) : Int) + (-1) = μ 106 0 0 - 1 := by omega
    rw [en] at eo
    simp (disch := first | omega | (simp (disch := decide) only [zmu0, mu_g, List.length_nil, List.length_cons]; omega)) only [g106_95, g106_97, g106_159, g106_161, g106_162, g106_290, g106_292, g106_293, g106_368, g106_370, g106_371, g106_415, g106_416, g106_418, g106_419, g106_420, g106_421, g106_422, g106_423, rd106, wr106, Nat.sub_zero, Int.reduceSub, Int.reduceAdd, Int.add_zero, Int.zero_add, Int.cast_ofNat_Int, Bool.false_eq_true, decide_true, decide_false, zbndI, zbwI, zbzI, zb1I, zoA_at, gback_v, gback_n, zem, zisr, zro_at, zrl_at, mu_g, mu_at, mu_mu, mu_self, not_true, not_false_iff, zb0, zb1, zbnd, zbw, zbz, zne1, zone, mrgI, List.length_nil, List.length_cons, Nat.reduceAdd, Nat.reduceSub, Nat.reduceLeDiff, Nat.zero_le, and_true, true_and, false_and, and_false, true_or, or_true, false_or, or_false, G_ite, z10, z1n, z1and, z1or, z0not, z0and, itn, if_true, if_false, reduceIte, Int.reduceEq, Int.reduceLT, Int.reduceNeg, Nat.reduceEqDiff, ite_self, hw0, hw4, hw5, eo]
    simp (disch := first | omega | (simp (disch := decide) only [zmu0, mu_g, List.length_nil, List.length_cons]; omega)) only [g106_529, g106_530, g106_532, g106_535, g106_537, g106_540, g106_542, g106_543, g106_544, g106_545, g106_546, g106_548, g106_549, g106_550, g106_551, g106_554, g106_556, g106_559, g106_561, g106_564, g106_566, g106_569, g106_570, g106_573, g106_574, rd102, wr102, w92_4, x92_4_0, x92_4_1, x92_4_2, g92_78, g92_327, e48, Nat.sub_zero, Int.reduceSub, Int.reduceAdd, Int.add_zero, Int.zero_add, Int.cast_ofNat_Int, Bool.false_eq_true, decide_true, decide_false, zbndI, zbwI, zbzI, zb1I, zoA_at, gback_v, gback_n, zem, zisr, zro_at, zrl_at, mu_g, mu_at, mu_mu, mu_self, not_true, not_false_iff, zb0, zb1, zbnd, zbw, zbz, zne1, zone, mrgI, List.length_nil, List.length_cons, Nat.reduceAdd, Nat.reduceSub, Nat.reduceLeDiff, Nat.zero_le, and_true, true_and, false_and, and_false, true_or, or_true, false_or, or_false, G_ite, z10, z1n, z1and, z1or, z0not, z0and, itn, if_true, if_false, reduceIte, Int.reduceEq, Int.reduceLT, Int.reduceNeg, Nat.reduceEqDiff, ite_self, eq_self]
    exact hK _ hs
theorem RWd_p (h0 : ν 30 = μ 30) (h1 : ν 31 = μ 31) (h2 : ν 32 = μ 32) (h3 : ν 33 = μ 33) (h4 : ν 34 = μ 34) (h5 : ν 35 = μ 35) (h6 : ν 104 = μ 104) (h7 : ν 105 = μ 105) (h8 : ∀ j, 2 ≤ j → j < 12 → ν 106 0 j = μ 106 0 j) (ht : t ≤ t') (h : RWd μ t) : RWd ν t' := by
  obtain ⟨d1, d2, d3, d4, d5, d6, d7, d8⟩ := h
  have g2 := h8 2 (by omega) (by omega)
  have g3 := h8 3 (by omega) (by omega)
  have g4 := h8 4 (by omega) (by omega)
  have g5 := h8 5 (by omega) (by omega)
  have g10 := h8 10 (by omega) (by omega)
  have g11 := h8 11 (by omega) (by omega)
  have hh : ∀ k, lhome ν k = lhome μ k := fun k => sfl_lhome h7 g3
  unfold RWd ldB RWw
  simp only [h0, h1, h2, h3, h4, h5, h6, h7, g2, g3, g4, g5, g10, g11, hh]
  obtain ⟨l1, l2, l3, l4, l5, l6⟩ := d5
  refine ⟨d1, by omega, d3, fun s s0 s1 => ?_, ⟨l1, l2, l3, l4, fun s s0 s1 => ?_, l6⟩, d6, d7, d8⟩
  · rw [h8 _ (by omega) (by omega)]
    exact d4 s s0 s1
  · rw [h8 _ (by omega) (by omega)]
    exact l5 s s0 s1
theorem RW_nl (h : RWz μ t) (ht : t + 1 ≤ 100) (h6 : μ 0 0 10 < 6) : RW (mNl (μ 0 0 10) μ) (t + 1) := by
  obtain ⟨r0, ra, rb, rc, rd, re, rf, rg, rh⟩ := h
  have ha1 := ra.1
  have n0 : mNl (μ 0 0 10) μ 0 0 10 = μ 0 0 10 + 1 := by
    unfold mNl mLy
    rw [mu_at]
  have n0j : ∀ i j, ¬ (i = 0 ∧ j = 10) → mNl (μ 0 0 10) μ 0 i j = μ 0 i j := fun i j hj => by
    unfold mNl mLy
    have e : mu (mzs [10, 11, 12, 13, 14] (μ 0 0 10) (mu (mu μ 106 0 0 (μ 0 0 10 + 1)) 2 0 6 (μ 0 0 10 + 1))) 0 0 10 (μ 0 0 10 + 1) 0 i j = mzs [10, 11, 12, 13, 14] (μ 0 0 10) (mu (mu μ 106 0 0 (μ 0 0 10 + 1)) 2 0 6 (μ 0 0 10 + 1)) 0 i j := if_neg (fun z => hj ⟨z.2.1, z.2.2⟩)
    rw [e, mzs_g (by decide), mu_g (by decide), mu_g (by decide)]
  have ng : ∀ q, q ≠ 0 → q ≠ 2 → q ≠ 106 → q ∉ [10, 11, 12, 13, 14] → mNl (μ 0 0 10) μ q = μ q := fun q h1 h2 h3 h4 => by
    unfold mNl mLy
    rw [mu_g h1, mzs_g h4, mu_g h2, mu_g h3]
  have n2 : ∀ j, j ≠ 6 → mNl (μ 0 0 10) μ 2 0 j = μ 2 0 j := fun j hj => by
    unfold mNl mLy
    rw [mu_g (by decide), mzs_g (by decide), mu_j hj, mu_g (by decide)]
  have n26 : mNl (μ 0 0 10) μ 2 0 6 = μ 0 0 10 + 1 := by
    unfold mNl mLy
    rw [mu_g (by decide), mzs_g (by decide), mu_at]
  have n6 : ∀ j, j ≠ 0 → mNl (μ 0 0 10) μ 106 0 j = μ 106 0 j := fun j hj => by
    unfold mNl mLy
    rw [mu_g (by decide), mzs_g (by decide), mu_g (by decide), mu_j hj]
  have n60 : mNl (μ 0 0 10) μ 106 0 0 = μ 0 0 10 + 1 := by
    unfold mNl mLy
    rw [mu_g (by decide), mzs_g (by decide), mu_g (by decide), mu_at]
  have nz : ∀ q, q ∈ [10, 12, 13, 14] → ∀ j, mNl (μ 0 0 10) μ q (μ 0 0 10) j = 0 := fun q hq j => by
    unfold mNl mLy
    have h0 : q ≠ 0 := by
      intro z
      subst z
      exact absurd hq (by decide)
    rw [mu_g h0]
    refine mzs_z ?_
    simp only [List.mem_cons, List.not_mem_nil, or_false] at hq ⊢
    omega
  have no : ∀ q, q ∈ [10, 12, 13, 14] → ∀ l j, l ≠ μ 0 0 10 → mNl (μ 0 0 10) μ q l j = μ q l j := fun q hq l j hl => by
    unfold mNl mLy
    simp only [List.mem_cons, List.not_mem_nil, or_false] at hq
    rw [mu_g (by omega), mzs_i hl, mu_g (by omega), mu_g (by omega)]
  have c20 := n0j 0 20 (by decide)
  have c26 := n0j 0 26 (by decide)
  have c30 := n0j 0 30 (by decide)
  have c40 := n0j 0 40 (by decide)
  have c41 := n0j 0 41 (by decide)
  have c50 := n0j 0 50 (by decide)
  have hf : ∀ i, lfv (mNl (μ 0 0 10) μ) i = lfv μ i := fun i => lfv_congr (by rw [ng 101 (by decide) (by decide) (by decide) (by decide)]) (by rw [ng 103 (by decide) (by decide) (by decide) (by decide)])
  refine ⟨by omega, ?_, ?_, ⟨fun i i0 i1 => ?_, fun k k0 k1 => ?_⟩, ?_, ?_, ?_, ?_, ?_⟩
  · unfold RWa
    rw [n0, c20, c26, c30, c40, c41, c50, n0j 0 113 (by decide), n0j 0 115 (by decide), n26, n2 7 (by decide), n2 8 (by decide), n2 9 (by decide), n2 10 (by decide), n60, n6 1 (by decide), n6 12 (by decide), n6 13 (by decide)]
    exact ⟨⟨rfl, rfl, by omega, by omega⟩, ra.2⟩
  · intro l l0 l1
    obtain ⟨b1, b2⟩ := rb l l0 l1
    rw [n0, ng 101 (by decide) (by decide) (by decide) (by decide), ng 102 (by decide) (by decide) (by decide) (by decide)]
    refine ⟨fun q => ?_, fun q => b2 (by omega)⟩
    by_cases hl : l = μ 0 0 10
    · subst hl
      obtain ⟨b3, b4⟩ := b2 (by omega)
      rw [nz 10 (by decide), b3]
      refine ⟨rfl, by omega, fun j j0 j1 => ?_⟩
      rw [nz 12 (by decide), nz 13 (by decide), nz 14 (by decide), b4 j j0 j1]
      exact Or.inl ⟨rfl, rfl, rfl, rfl⟩
    · obtain ⟨b3, b4, b5⟩ := b1 (by omega)
      rw [no 10 (by decide) _ _ hl]
      refine ⟨b3, b4, fun j j0 j1 => ?_⟩
      rw [no 12 (by decide) _ _ hl, no 13 (by decide) _ _ hl, no 14 (by decide) _ _ hl]
      exact b5 j j0 j1
  · rw [c20] at i1
    have hi := rc.1 i i0 i1
    refine RWi_p (by omega) (by omega) (fun r _ => n0j 1 r (by omega)) (fun l a b q => by rw [no 10 (by decide) _ _ (by omega)]; exact q) (fun j _ => by rw [ng 20 (by decide) (by decide) (by decide) (by decide)]) ?_ (fun r _ => by rw [ng 26 (by decide) (by decide) (by decide) (by decide)]) (by rw [ng 22 (by decide) (by decide) (by decide) (by decide)]) (by rw [ng 23 (by decide) (by decide) (by decide) (by decide)]) (by rw [ng 24 (by decide) (by decide) (by decide) (by decide)]) (fun j _ _ => by rw [hf]) (fun k _ _ => by rw [ng 103 (by decide) (by decide) (by decide) (by decide)]) hi
    rw [ng 103 (by decide) (by decide) (by decide) (by decide), ng 20 (by decide) (by decide) (by decide) (by decide)]
    have := hi.1
    omega
  · rw [c20] at k0
    rw [ng 103 (by decide) (by decide) (by decide) (by decide)]
    exact rc.2 k k0 k1
  · exact RWd_p (ng _ (by decide) (by decide) (by decide) (by decide)) (ng _ (by decide) (by decide) (by decide) (by decide)) (ng _ (by decide) (by decide) (by decide) (by decide)) (ng _ (by decide) (by decide) (by decide) (by decide)) (ng _ (by decide) (by decide) (by decide) (by decide)) (ng _ (by decide) (by decide) (by decide) (by decide)) (ng _ (by decide) (by decide) (by decide) (by decide)) (ng _ (by decide) (by decide) (by decide) (by decide)) (fun j a b => n6 j (by omega)) (by omega) rd
  · refine RWe_of (ng _ (by decide) (by decide) (by decide) (by decide)) (fun j a b => n6 j (by omega)) (by omega) re
  · exact RWf_of c40 c41 (by omega) (ng _ (by decide) (by decide) (by decide) (by decide)) rf
  · exact RWg_p c41 (by omega) (ng _ (by decide) (by decide) (by decide) (by decide)) (fun b _ _ k k0 k1 => by rw [ng k (by omega) (by omega) (by omega) (by simp only [List.mem_cons, List.not_mem_nil, or_false]; omega)]) (ng _ (by decide) (by decide) (by decide) (by decide)) (ng _ (by decide) (by decide) (by decide) (by decide)) (fun i _ _ j _ _ => by rw [hf]) (ng _ (by decide) (by decide) (by decide) (by decide)) (fun i _ _ => sfi_of (ng _ (by decide) (by decide) (by decide) (by decide)) (ng _ (by decide) (by decide) (by decide) (by decide)) (ng _ (by decide) (by decide) (by decide) (by decide)) (ng _ (by decide) (by decide) (by decide) (by decide)) (ng _ (by decide) (by decide) (by decide) (by decide)) (ng _ (by decide) (by decide) (by decide) (by decide)) (by rw [ng 22 (by decide) (by decide) (by decide) (by decide)]) (by rw [ng 23 (by decide) (by decide) (by decide) (by decide)]) (by rw [ng 24 (by decide) (by decide) (by decide) (by decide)])) rg
  · exact lnE_of (ng _ (by decide) (by decide) (by decide) (by decide)) (ng _ (by decide) (by decide) (by decide) (by decide)) rh
/-- a new layer -/
theorem c106_0 (h : RWz μ t) (ht : t + 1 ≤ 100) (ha : 0 ≤ a) (hb : 0 ≤ b) (hK : ∀ ν, RW ν (t + 1) → Q (.inl (some (zI 1))) (HM ν)) : G 106 0 [zR 2 0, zR 101 0, zR 102 0, zR 106 0, zI 0, zI a, zI b, u1, u2, u3, u4, u5, u6, u7, u8, u9, u10] [] (HM μ) 30 900 Q := by
  have ha1 := h.2.1.1
  have key : ∀ u1 u2 u3 u4 u5 u6 : ZV, G 106 95 [zR 2 0, zR 101 0, zR 102 0, zR 106 0, zI 0, zI a, zI b, u1, u2, u3, u4, u5, u6, u7, u8, u9, u10] [] (HM μ) 30 900 Q := fun u1 u2 u3 u4 u5 u6 => by
    by_cases h6 : μ 0 0 10 < 6
    · have hr := RW_nl h ht h6
      have n60 : mNl (μ 0 0 10) μ 106 0 0 = μ 0 0 10 + 1 := by
        unfold mNl mLy
        rw [mu_g (by decide), mzs_g (by decide), mu_g (by decide), mu_at]
      have h6' : μ 106 0 0 < 6 := by omega
      simp (disch := first | omega | (simp (disch := decide) only [zmu0, mu_g, List.length_nil, List.length_cons]; omega)) only [g106_95, g106_97, g106_100, g106_101, g106_102, g106_103, g106_105, g106_108, g106_109, g106_112, g106_113, g106_115, g106_116, g106_117, g106_118, g106_119, g106_121, g106_124, g106_125, g106_128, g106_129, g106_130, g106_131, g106_133, g106_136, g106_137, g106_138, g106_139, g106_140, g106_141, g106_142, g106_145, g106_146, g106_147, g106_148, g106_149, g106_150, g106_153, g106_154, g106_157, g106_158, rd106, wr106, w92_0, Nat.sub_zero, Int.reduceSub, Int.reduceAdd, Int.add_zero, Int.zero_add, Int.cast_ofNat_Int, Bool.false_eq_true, decide_true, decide_false, zbndI, zbwI, zbzI, zb1I, zoA_at, gback_v, gback_n, zem, zisr, zro_at, zrl_at, mu_g, mu_at, mu_mu, mu_self, not_true, not_false_iff, zb0, zb1, zbnd, zbw, zbz, zne1, zone, mrgI, List.length_nil, List.length_cons, Nat.reduceAdd, Nat.reduceSub, Nat.reduceLeDiff, Nat.zero_le, and_true, true_and, false_and, and_false, true_or, or_true, false_or, or_false, G_ite, z10, z1n, z1and, z1or, z0not, z0and, itn, if_true, if_false, reduceIte, Int.reduceEq, Int.reduceLT, Int.reduceNeg, Nat.reduceEqDiff, ite_self, h6, ha1.1]
      refine c44 (μ := mu μ 106 0 0 (μ 0 0 10 + 1)) (n := μ 0 0 10) (by rw [mu_g (by decide)]; exact ha1.2.1) (by rw [mu_g (by decide)]) ha1.2.2.1 (by omega) ?_
      have e : mLy (μ 0 0 10) (mu (mu μ 106 0 0 (μ 0 0 10 + 1)) 2 0 6 (μ 0 0 10 + 1)) = mNl (μ 0 0 10) μ := rfl
      rw [e]
      simp (disch := first | omega | (simp (disch := decide) only [zmu0, mu_g, List.length_nil, List.length_cons]; omega)) only [g106_95, g106_97, g106_100, g106_101, g106_102, g106_103, g106_105, g106_108, g106_109, g106_112, g106_113, g106_115, g106_116, g106_117, g106_118, g106_119, g106_121, g106_124, g106_125, g106_128, g106_129, g106_130, g106_131, g106_133, g106_136, g106_137, g106_138, g106_139, g106_140, g106_141, g106_142, g106_145, g106_146, g106_147, g106_148, g106_149, g106_150, g106_153, g106_154, g106_157, g106_158, g92_8, g92_327, rd106, wr106, Nat.sub_zero, Int.reduceSub, Int.reduceAdd, Int.add_zero, Int.zero_add, Int.cast_ofNat_Int, Bool.false_eq_true, decide_true, decide_false, zbndI, zbwI, zbzI, zb1I, zoA_at, gback_v, gback_n, zem, zisr, zro_at, zrl_at, mu_g, mu_at, mu_mu, mu_self, not_true, not_false_iff, zb0, zb1, zbnd, zbw, zbz, zne1, zone, mrgI, List.length_nil, List.length_cons, Nat.reduceAdd, Nat.reduceSub, Nat.reduceLeDiff, Nat.zero_le, and_true, true_and, false_and, and_false, true_or, or_true, false_or, or_false, G_ite, z10, z1n, z1and, z1or, z0not, z0and, itn, if_true, if_false, reduceIte, Int.reduceEq, Int.reduceLT, Int.reduceNeg, Nat.reduceEqDiff, ite_self, n60, Int.add_sub_cancel, eq_self]
      exact hK _ hr
    · have hr := RW_up (⟨⟨h.1.1, h.1.2, by omega⟩, h.2⟩ : RW μ t) ht
      have h6' : ¬ μ 106 0 0 < 6 := by omega
      simp (disch := first | omega | (simp (disch := decide) only [zmu0, mu_g, List.length_nil, List.length_cons]; omega)) only [g106_95, g106_97, g106_100, g106_101, g106_102, g106_103, g106_105, g106_108, g106_109, g106_112, g106_113, g106_115, g106_116, g106_117, g106_118, g106_119, g106_121, g106_124, g106_125, g106_128, g106_129, g106_130, g106_131, g106_133, g106_136, g106_137, g106_138, g106_139, g106_140, g106_141, g106_142, g106_145, g106_146, g106_147, g106_148, g106_149, g106_150, g106_153, g106_154, g106_157, g106_158, rd106, wr106, Nat.sub_zero, Int.reduceSub, Int.reduceAdd, Int.add_zero, Int.zero_add, Int.cast_ofNat_Int, Bool.false_eq_true, decide_true, decide_false, zbndI, zbwI, zbzI, zb1I, zoA_at, gback_v, gback_n, zem, zisr, zro_at, zrl_at, mu_g, mu_at, mu_mu, mu_self, not_true, not_false_iff, zb0, zb1, zbnd, zbw, zbz, zne1, zone, mrgI, List.length_nil, List.length_cons, Nat.reduceAdd, Nat.reduceSub, Nat.reduceLeDiff, Nat.zero_le, and_true, true_and, false_and, and_false, true_or, or_true, false_or, or_false, G_ite, z10, z1n, z1and, z1or, z0not, z0and, itn, if_true, if_false, reduceIte, Int.reduceEq, Int.reduceLT, Int.reduceNeg, Nat.reduceEqDiff, ite_self, h6']
      exact hK _ hr
  exact c106_3 h ha hb (key _ _ _ _ _ _) (fun l _ _ _ => key _ _ _ _ _ _) (fun l _ _ _ => key _ _ _ _ _ _)
/-- isLayer -/
theorem c106 (h : RW μ t) (ht : t + 1 ≤ 100) (ha : 0 ≤ a) (ha2 : a < 60000) (hb : 0 ≤ b) (hw : 0 ≤ w) (hK : ∀ ν, RW ν (t + 1) → Q (.inl (some (zI 1))) (HM ν)) : G 106 0 [zR 2 0, zR 101 0, zR 102 0, zR 106 0, zI w, zI a, zI b, u1, u2, u3, u4, u5, u6, u7, u8, u9, u10] [] (HM μ) 30 900 Q := by
  by_cases h0 : w = 0
  · rw [h0]
    exact c106_0 (RWz_of h) ht ha hb hK
  · by_cases h4 : w < 4
    · by_cases h5 : b % 10 < 5
      · exact c106_1 h ht ha ha2 hb h0 h4 h5 hK
      · exact c106_2 h ht ha hb h0 h4 h5 hK
    · by_cases h5 : w = 4
      · rw [h5]
        exact c106_4 h ht ha hb hK
      · exact c106_5 h ht ha hb h0 h4 h5 hK
end ZPM
