/-! ===== the law: an image alike ===== -/
def lkm (ν : ZU) (o R x : Int) : Bool := decide (ν 101 0 (10 * (o - 1) + x) = ν 101 0 (10 * (R - 1) + x))
def lkq (ν : ZU) (n k j : Int) : Bool := decide ((ν 103 0 (4 * k + 1 + j) = 0 ↔ ν 115 n j = 0) ∧ (0 < ν 103 0 (4 * k + 1 + j) → zall (lkm ν (ν 103 0 (4 * k + 1 + j)) (ν 115 n j)) 10 0 = true))
def lkp (ν : ZU) (n k : Int) : Bool := decide (0 < ν 103 0 (4 * k) ∧ zall (lkq ν n k) 3 0 = true)
section ZPD1
variable {ck sk : Nat} {Q : ZO → ZH → Prop} {μ ν κ M Φ : ZU} {a b c d e f g i j k l m n o p r s t t' v w x y z D R S T : Int} {u u1 u2 u3 u4 u5 u6 u7 u8 u9 u10 u11 u12 : ZV}
theorem c108_m (hB : rwB ν) (hn : 0 ≤ n ∧ n < ν 0 0 115) (hj : 0 ≤ j ∧ j < 3) (hR : ν 115 n j = R) (hR6 : R ≤ 6) (ho : 0 ≤ o ∧ o ≤ 6) : ∀ (c : Nat) (x s : Int), 0 ≤ x → x + c = 10 → (s = 0 ∨ s = 1) → (s = 1 → 0 < o → 1 ≤ R) → (∀ v, G 108 531 [zR 2 0, zR 101 0, zR 102 0, zR 103 0, zR 106 0, zI w, zI a, zI b, zI m, zR 115 n, u1, u2, u3, u4, zI (if s = 1 ∧ (0 < o → zall (lkm ν o R) c x = true) then 1 else 0), zI j, zI o, v] [] (HM ν) ck sk Q) → G 108 470 [zR 2 0, zR 101 0, zR 102 0, zR 103 0, zR 106 0, zI w, zI a, zI b, zI m, zR 115 n, u1, u2, u3, u4, zI s, zI j, zI o, zI x] [] (HM ν) ck sk Q
  | 0, x, s, x0, xc, hs, h1, q => by
    have hx : ¬ x < 10 := by omega
    have q := q (zI x)
    have e : (if s = 1 ∧ (0 < o → zall (lkm ν o R) 0 x = true) then (1 : Int) else 0) = s := by
      rcases hs with rfl | rfl
      · rw [if_neg (fun z => by omega)]
      · rw [if_pos ⟨rfl, fun _ => rfl⟩]
    rw [e] at q
    rw [g108_470]
    simp (disch := first | omega | (simp (disch := decide) only [zmu0, mu_g, List.length_nil, List.length_cons]; omega)) only [g108_472, g108_474, Nat.sub_zero, Int.reduceSub, Int.reduceAdd, Int.add_zero, Int.zero_add, Int.cast_ofNat_Int, Bool.false_eq_true, decide_true, decide_false, zbndI, zbwI, zbzI, zb1I, zoA_at, gback_v, gback_n, zem, zisr, zro_at, zrl_at, mu_g, mu_at, mu_mu, mu_self, not_true, not_false_iff, zb0, zb1, zbnd, zbw, zbz, zne1, zone, mrgI, List.length_nil, List.length_cons, Nat.reduceAdd, Nat.reduceSub, Nat.reduceLeDiff, Nat.zero_le, and_true, true_and, false_and, and_false, true_or, or_true, false_or, or_false, G_ite, z10, z1n, z1and, z1or, z0not, z0and, itn, if_true, if_false, reduceIte, Int.reduceEq, Int.reduceLT, Int.reduceNeg, Nat.reduceEqDiff, ite_self, hx]
    exact q
  | c + 1, x, s, x0, xc, hs, h1, q => by
    have hx : x < 10 := by omega
    have ez : zall (lkm ν o R) (c + 1) x = if lkm ν o R x = true then zall (lkm ν o R) c (x + 1) else false := rfl
    rw [g108_470]
    rcases hs with rfl | rfl
    · have q := q (zI x)
      rw [if_neg (fun z => by omega)] at q
      simp (disch := first | omega | (simp (disch := decide) only [zmu0, mu_g, List.length_nil, List.length_cons]; omega)) only [g108_472, g108_474, g108_477, g108_479, Nat.sub_zero, Int.reduceSub, Int.reduceAdd, Int.add_zero, Int.zero_add, Int.cast_ofNat_Int, Bool.false_eq_true, decide_true, decide_false, zbndI, zbwI, zbzI, zb1I, zoA_at, gback_v, gback_n, zem, zisr, zro_at, zrl_at, mu_g, mu_at, mu_mu, mu_self, not_true, not_false_iff, zb0, zb1, zbnd, zbw, zbz, zne1, zone, mrgI, List.length_nil, List.length_cons, Nat.reduceAdd, Nat.reduceSub, Nat.reduceLeDiff, Nat.zero_le, and_true, true_and, false_and, and_false, true_or, or_true, false_or, or_false, G_ite, z10, z1n, z1and, z1or, z0not, z0and, itn, if_true, if_false, reduceIte, Int.reduceEq, Int.reduceLT, Int.reduceNeg, Nat.reduceEqDiff, ite_self, hx]
      exact q
    · by_cases ho1 : 0 < o
      · have hR1 := h1 rfl ho1
        have b1 := hB.2 (10 * (o - 1) + x) (by omega) (by omega)
        have b2 := hB.2 (10 * (R - 1) + x) (by omega) (by omega)
        by_cases hc : ν 101 0 (10 * (o - 1) + x) = ν 101 0 (10 * (R - 1) + x)
        · have ih := c108_m hB hn hj hR hR6 ho c (x + 1) 1 (by omega) (by omega) (Or.inr rfl) h1 (fun v => by
            have q := q v
            rw [ez, if_pos (show lkm ν o R x = true from decide_eq_true hc)] at q
            exact q)
          simp (disch := first | omega | (simp (disch := decide) only [zmu0, mu_g, List.length_nil, List.length_cons]; omega)) only [g108_472, g108_474, g108_477, g108_479, g108_482, g108_484, g108_487, g108_488, g108_490, g108_492, g108_493, g108_494, g108_495, g108_497, g108_498, g108_499, g108_500, g108_502, g108_504, g108_506, g108_507, g108_508, g108_509, g108_510, g108_512, g108_513, g108_514, g108_515, g108_518, g108_519, g108_522, g108_523, g108_525, g108_528, rd101, wr101, rd115, wr115, Nat.sub_zero, Int.reduceSub, Int.reduceAdd, Int.add_zero, Int.zero_add, Int.cast_ofNat_Int, Bool.false_eq_true, decide_true, decide_false, zbndI, zbwI, zbzI, zb1I, zoA_at, gback_v, gback_n, zem, zisr, zro_at, zrl_at, mu_g, mu_at, mu_mu, mu_self, not_true, not_false_iff, zb0, zb1, zbnd, zbw, zbz, zne1, zone, mrgI, List.length_nil, List.length_cons, Nat.reduceAdd, Nat.reduceSub, Nat.reduceLeDiff, Nat.zero_le, and_true, true_and, false_and, and_false, true_or, or_true, false_or, or_false, G_ite, z10, z1n, z1and, z1or, z0not, z0and, itn, if_true, if_false, reduceIte, Int.reduceEq, Int.reduceLT, Int.reduceNeg, Nat.reduceEqDiff, ite_self, hx, ho1, hR, hc, zcI_eq, eq_self]
          exact ih
        · have ih := c108_m hB hn hj hR hR6 ho c (x + 1) 0 (by omega) (by omega) (Or.inl rfl) (fun z => by omega) (fun v => by
            have q := q v
            rw [ez, if_neg (show ¬ lkm ν o R x = true from fun z => hc (of_decide_eq_true z)), if_neg (fun z => by cases z.2 ho1)] at q
            rw [if_neg (fun z => by omega)]
            exact q)
          simp (disch := first | omega | (simp (disch := decide) only [zmu0, mu_g, List.length_nil, List.length_cons]; omega)) only [g108_472, g108_474, g108_477, g108_479, g108_482, g108_484, g108_487, g108_488, g108_490, g108_492, g108_493, g108_494, g108_495, g108_497, g108_498, g108_499, g108_500, g108_502, g108_504, g108_506, g108_507, g108_508, g108_509, g108_510, g108_512, g108_513, g108_514, g108_515, g108_518, g108_519, g108_522, g108_523, g108_525, g108_528, rd101, wr101, rd115, wr115, Nat.sub_zero, Int.reduceSub, Int.reduceAdd, Int.add_zero, Int.zero_add, Int.cast_ofNat_Int, Bool.false_eq_true, decide_true, decide_false, zbndI, zbwI, zbzI, zb1I, zoA_at, gback_v, gback_n, zem, zisr, zro_at, zrl_at, mu_g, mu_at, mu_mu, mu_self, not_true, not_false_iff, zb0, zb1, zbnd, zbw, zbz, zne1, zone, mrgI, List.length_nil, List.length_cons, Nat.reduceAdd, Nat.reduceSub, Nat.reduceLeDiff, Nat.zero_le, and_true, true_and, false_and, and_false, true_or, or_true, false_or, or_false, G_ite, z10, z1n, z1and, z1or, z0not, z0and, itn, if_true, if_false, reduceIte, Int.reduceEq, Int.reduceLT, Int.reduceNeg, Nat.reduceEqDiff, ite_self, hx, ho1, hR, hc, zcI_eq]
          exact ih
      · have q := q (zI x)
        rw [if_pos ⟨rfl, fun z => absurd z ho1⟩] at q
        simp (disch := first | omega | (simp (disch := decide) only [zmu0, mu_g, List.length_nil, List.length_cons]; omega)) only [g108_472, g108_474, g108_477, g108_479, g108_482, g108_484, Nat.sub_zero, Int.reduceSub, Int.reduceAdd, Int.add_zero, Int.zero_add, Int.cast_ofNat_Int, Bool.false_eq_true, decide_true, decide_false, zbndI, zbwI, zbzI, zb1I, zoA_at, gback_v, gback_n, zem, zisr, zro_at, zrl_at, mu_g, mu_at, mu_mu, mu_self, not_true, not_false_iff, zb0, zb1, zbnd, zbw, zbz, zne1, zone, mrgI, List.length_nil, List.length_cons, Nat.reduceAdd, Nat.reduceSub, Nat.reduceLeDiff, Nat.zero_le, and_true, true_and, false_and, and_false, true_or, or_true, false_or, or_false, G_ite, z10, z1n, z1and, z1or, z0not, z0and, itn, if_true, if_false, reduceIte, Int.reduceEq, Int.reduceLT, Int.reduceNeg, Nat.reduceEqDiff, ite_self, hx, ho1]
        exact q
theorem c108_j (hB : rwB ν) (hn : 0 ≤ n ∧ n < ν 0 0 115) (hr : ∀ j, 0 ≤ j → j < 3 → 0 ≤ ν 115 n j ∧ ν 115 n j ≤ 6) (hk : 0 ≤ k ∧ k < 12) : ∀ (c : Nat) (j s : Int) (u16 u17 : ZV), 0 ≤ j → j + c = 3 → (s = 0 ∨ s = 1) → (∀ v15 v16 v17, G 108 537 [zR 2 0, zR 101 0, zR 102 0, zR 103 0, zR 106 0, zI w, zI a, zI b, zI m, zR 115 n, u1, u2, u3, zI k, zI (if s = 1 ∧ zall (lkq ν n k) c j = true then 1 else 0), v15, v16, v17] [] (HM ν) ck sk Q) → G 108 410 [zR 2 0, zR 101 0, zR 102 0, zR 103 0, zR 106 0, zI w, zI a, zI b, zI m, zR 115 n, u1, u2, u3, zI k, zI s, zI j, u16, u17] [] (HM ν) ck sk Q
  | 0, j, s, u16, u17, j0, jc, hs, q => by
    have hj : ¬ j < 3 := by omega
    have q := q (zI j) u16 u17
    have e : (if s = 1 ∧ zall (lkq ν n k) 0 j = true then (1 : Int) else 0) = s := by
      rcases hs with rfl | rfl
      · rw [if_neg (fun z => by omega)]
      · rw [if_pos ⟨rfl, rfl⟩]
    rw [e] at q
    rw [g108_410]
    simp (disch := first | omega | (simp (disch := decide) only [zmu0, mu_g, List.length_nil, List.length_cons]; omega)) only [g108_412, g108_413, Nat.sub_zero, Int.reduceSub, Int.reduceAdd, Int.add_zero, Int.zero_add, Int.cast_ofNat_Int, Bool.false_eq_true, decide_true, decide_false, zbndI, zbwI, zbzI, zb1I, zoA_at, gback_v, gback_n, zem, zisr, zro_at, zrl_at, mu_g, mu_at, mu_mu, mu_self, not_true, not_false_iff, zb0, zb1, zbnd, zbw, zbz, zne1, zone, mrgI, List.length_nil, List.length_cons, Nat.reduceAdd, Nat.reduceSub, Nat.reduceLeDiff, Nat.zero_le, and_true, true_and, false_and, and_false, true_or, or_true, false_or, or_false, G_ite, z10, z1n, z1and, z1or, z0not, z0and, itn, if_true, if_false, reduceIte, Int.reduceEq, Int.reduceLT, Int.reduceNeg, Nat.reduceEqDiff, ite_self, hj]
    exact q
  | c + 1, j, s, u16, u17, j0, jc, hs, q => by
    have hj : j < 3 := by omega
    have ez : zall (lkq ν n k) (c + 1) j = if lkq ν n k j = true then zall (lkq ν n k) c (j + 1) else false := rfl
    rw [g108_410]
    rcases hs with rfl | rfl
    · have q := q (zI j) u16 u17
      rw [if_neg (fun z => by omega)] at q
      simp (disch := first | omega | (simp (disch := decide) only [zmu0, mu_g, List.length_nil, List.length_cons]; omega)) only [g108_412, g108_413, g108_416, g108_418, Nat.sub_zero, Int.reduceSub, Int.reduceAdd, Int.add_zero, Int.zero_add, Int.cast_ofNat_Int, Bool.false_eq_true, decide_true, decide_false, zbndI, zbwI, zbzI, zb1I, zoA_at, gback_v, gback_n, zem, zisr, zro_at, zrl_at, mu_g, mu_at, mu_mu, mu_self, not_true, not_false_iff, zb0, zb1, zbnd, zbw, zbz, zne1, zone, mrgI, List.length_nil, List.length_cons, Nat.reduceAdd, Nat.reduceSub, Nat.reduceLeDiff, Nat.zero_le, and_true, true_and, false_and, and_false, true_or, or_true, false_or, or_false, G_ite, z10, z1n, z1and, z1or, z0not, z0and, itn, if_true, if_false, reduceIte, Int.reduceEq, Int.reduceLT, Int.reduceNeg, Nat.reduceEqDiff, ite_self, hj]
      exact q
    · have b3 := hB.1 (4 * k + 1 + j) (by omega) (by omega)
      have hrj := hr j j0 hj
      have ho : 0 ≤ ν 103 0 (4 * k + 1 + j) ∧ ν 103 0 (4 * k + 1 + j) ≤ 6 := by omega
      -- the word after the two zeros were compared
      have hst : ∀ s', s' = (if (ν 103 0 (4 * k + 1 + j) = 0 ↔ ν 115 n j = 0) then (1 : Int) else 0) → G 108 470 [zR 2 0, zR 101 0, zR 102 0, zR 103 0, zR 106 0, zI w, zI a, zI b, zI m, zR 115 n, u1, u2, u3, zI k, zI s', zI j, zI (ν 103 0 (4 * k + 1 + j)), zI 0] [] (HM ν) ck sk Q := fun s' hs' => by
        by_cases hz : (ν 103 0 (4 * k + 1 + j) = 0 ↔ ν 115 n j = 0)
        · rw [if_pos hz] at hs'
          subst hs'
          refine c108_m hB hn ⟨j0, hj⟩ rfl hrj.2 ho 10 0 1 (by omega) (by omega) (Or.inr rfl) (fun _ z => by omega) fun v => ?_
          by_cases hq : 0 < ν 103 0 (4 * k + 1 + j) → zall (lkm ν (ν 103 0 (4 * k + 1 + j)) (ν 115 n j)) 10 0 = true
          · rw [if_pos ⟨rfl, hq⟩]
            have hl : lkq ν n k j = true := decide_eq_true ⟨hz, hq⟩
            have ih := c108_j hB hn hr hk c (j + 1) 1 (zI (ν 103 0 (4 * k + 1 + j))) v (by omega) (by omega) (Or.inr rfl) (fun v15 v16 v17 => by
              have q := q v15 v16 v17
              rw [ez, if_pos hl] at q
              exact q)
            simp (disch := first | omega | (simp (disch := decide) only [zmu0, mu_g, List.length_nil, List.length_cons]; omega)) only [g108_531, g108_534, Nat.sub_zero, Int.reduceSub, Int.reduceAdd, Int.add_zero, Int.zero_add, Int.cast_ofNat_Int, Bool.false_eq_true, decide_true, decide_false, zbndI, zbwI, zbzI, zb1I, zoA_at, gback_v, gback_n, zem, zisr, zro_at, zrl_at, mu_g, mu_at, mu_mu, mu_self, not_true, not_false_iff, zb0, zb1, zbnd, zbw, zbz, zne1, zone, mrgI, List.length_nil, List.length_cons, Nat.reduceAdd, Nat.reduceSub, Nat.reduceLeDiff, Nat.zero_le, and_true, true_and, false_and, and_false, true_or, or_true, false_or, or_false, G_ite, z10, z1n, z1and, z1or, z0not, z0and, itn, if_true, if_false, reduceIte, Int.reduceEq, Int.reduceLT, Int.reduceNeg, Nat.reduceEqDiff, ite_self]
            exact ih
          · rw [if_neg (fun z => hq z.2)]
            have hl : ¬ lkq ν n k j = true := fun z => hq (of_decide_eq_true z).2
            have ih := c108_j hB hn hr hk c (j + 1) 0 (zI (ν 103 0 (4 * k + 1 + j))) v (by omega) (by omega) (Or.inl rfl) (fun v15 v16 v17 => by
              have q := q v15 v16 v17
              rw [ez, if_neg hl, if_neg (fun z => by cases z.2)] at q
              rw [if_neg (fun z => by omega)]
              exact q)
            simp (disch := first | omega | (simp (disch := decide) only [zmu0, mu_g, List.length_nil, List.length_cons]; omega)) only [g108_531, g108_534, Nat.sub_zero, Int.reduceSub, Int.reduceAdd, Int.add_zero, Int.zero_add, Int.cast_ofNat_Int, Bool.false_eq_true, decide_true, decide_false, zbndI, zbwI, zbzI, zb1I, zoA_at, gback_v, gback_n, zem, zisr, zro_at, zrl_at, mu_g, mu_at, mu_mu, mu_self, not_true, not_false_iff, zb0, zb1, zbnd, zbw, zbz, zne1, zone, mrgI, List.length_nil, List.length_cons, Nat.reduceAdd, Nat.reduceSub, Nat.reduceLeDiff, Nat.zero_le, and_true, true_and, false_and, and_false, true_or, or_true, false_or, or_false, G_ite, z10, z1n, z1and, z1or, z0not, z0and, itn, if_true, if_false, reduceIte, Int.reduceEq, Int.reduceLT, Int.reduceNeg, Nat.reduceEqDiff, ite_self]
            exact ih
        · rw [if_neg hz] at hs'
          subst hs'
          refine c108_m hB hn ⟨j0, hj⟩ rfl hrj.2 ho 10 0 0 (by omega) (by omega) (Or.inl rfl) (fun z => by omega) fun v => ?_
          rw [if_neg (fun z => by omega)]
          have hl : ¬ lkq ν n k j = true := fun z => hz (of_decide_eq_true z).1
          have ih := c108_j hB hn hr hk c (j + 1) 0 (zI (ν 103 0 (4 * k + 1 + j))) v (by omega) (by omega) (Or.inl rfl) (fun v15 v16 v17 => by
            have q := q v15 v16 v17
            rw [ez, if_neg hl, if_neg (fun z => by cases z.2)] at q
            rw [if_neg (fun z => by omega)]
            exact q)
          simp (disch := first | omega | (simp (disch := decide) only [zmu0, mu_g, List.length_nil, List.length_cons]; omega)) only [g108_531, g108_534, Nat.sub_zero, Int.reduceSub, Int.reduceAdd, Int.add_zero, Int.zero_add, Int.cast_ofNat_Int, Bool.false_eq_true, decide_true, decide_false, zbndI, zbwI, zbzI, zb1I, zoA_at, gback_v, gback_n, zem, zisr, zro_at, zrl_at, mu_g, mu_at, mu_mu, mu_self, not_true, not_false_iff, zb0, zb1, zbnd, zbw, zbz, zne1, zone, mrgI, List.length_nil, List.length_cons, Nat.reduceAdd, Nat.reduceSub, Nat.reduceLeDiff, Nat.zero_le, and_true, true_and, false_and, and_false, true_or, or_true, false_or, or_false, G_ite, z10, z1n, z1and, z1or, z0not, z0and, itn, if_true, if_false, reduceIte, Int.reduceEq, Int.reduceLT, Int.reduceNeg, Nat.reduceEqDiff, ite_self]
          exact ih
      by_cases h1 : ν 103 0 (4 * k + 1 + j) = 0
      · by_cases h2 : ν 115 n j = 0
        · have hst := hst 1 (by rw [if_pos (by simp [h1, h2])])
          rw [h1] at hst
          simp (disch := first | omega | (simp (disch := decide) only [zmu0, mu_g, List.length_nil, List.length_cons]; omega)) only [g108_412, g108_413, g108_416, g108_418, g108_421, g108_422, g108_423, g108_425, g108_426, g108_427, g108_428, g108_430, g108_431, g108_432, g108_434, g108_436, g108_439, g108_440, g108_443, g108_444, g108_446, g108_448, g108_449, g108_452, g108_453, g108_456, g108_457, g108_460, g108_461, g108_464, g108_465, g108_467, g108_468, rd103, wr103, rd115, wr115, Nat.sub_zero, Int.reduceSub, Int.reduceAdd, Int.add_zero, Int.zero_add, Int.cast_ofNat_Int, Bool.false_eq_true, decide_true, decide_false, zbndI, zbwI, zbzI, zb1I, zoA_at, gback_v, gback_n, zem, zisr, zro_at, zrl_at, mu_g, mu_at, mu_mu, mu_self, not_true, not_false_iff, zb0, zb1, zbnd, zbw, zbz, zne1, zone, mrgI, List.length_nil, List.length_cons, Nat.reduceAdd, Nat.reduceSub, Nat.reduceLeDiff, Nat.zero_le, and_true, true_and, false_and, and_false, true_or, or_true, false_or, or_false, G_ite, z10, z1n, z1and, z1or, z0not, z0and, itn, if_true, if_false, reduceIte, Int.reduceEq, Int.reduceLT, Int.reduceNeg, Nat.reduceEqDiff, ite_self, hj, h1, h2, eq_self]
          exact hst
        · have hst := hst 0 (by rw [if_neg (by simp [h1, h2])])
          rw [h1] at hst
          simp (disch := first | omega | (simp (disch := decide) only [zmu0, mu_g, List.length_nil, List.length_cons]; omega)) only [g108_412, g108_413, g108_416, g108_418, g108_421, g108_422, g108_423, g108_425, g108_426, g108_427, g108_428, g108_430, g108_431, g108_432, g108_434, g108_436, g108_439, g108_440, g108_443, g108_444, g108_446, g108_448, g108_449, g108_452, g108_453, g108_456, g108_457, g108_460, g108_461, g108_464, g108_465, g108_467, g108_468, rd103, wr103, rd115, wr115, Nat.sub_zero, Int.reduceSub, Int.reduceAdd, Int.add_zero, Int.zero_add, Int.cast_ofNat_Int, Bool.false_eq_true, decide_true, decide_false, zbndI, zbwI, zbzI, zb1I, zoA_at, gback_v, gback_n, zem, zisr, zro_at, zrl_at, mu_g, mu_at, mu_mu, mu_self, not_true, not_false_iff, zb0, zb1, zbnd, zbw, zbz, zne1, zone, mrgI, List.length_nil, List.length_cons, Nat.reduceAdd, Nat.reduceSub, Nat.reduceLeDiff, Nat.zero_le, and_true, true_and, false_and, and_false, true_or, or_true, false_or, or_false, G_ite, z10, z1n, z1and, z1or, z0not, z0and, itn, if_true, if_false, reduceIte, Int.reduceEq, Int.reduceLT, Int.reduceNeg, Nat.reduceEqDiff, ite_self, hj, h1, h2, eq_self]
          exact hst
      · by_cases h2 : ν 115 n j = 0
        · have hst := hst 0 (by rw [if_neg (by simp [h1, h2])])
          simp (disch := first | omega | (simp (disch := decide) only [zmu0, mu_g, List.length_nil, List.length_cons]; omega)) only [g108_412, g108_413, g108_416, g108_418, g108_421, g108_422, g108_423, g108_425, g108_426, g108_427, g108_428, g108_430, g108_431, g108_432, g108_434, g108_436, g108_439, g108_440, g108_443, g108_444, g108_446, g108_448, g108_449, g108_452, g108_453, g108_456, g108_457, g108_460, g108_461, g108_464, g108_465, g108_467, g108_468, rd103, wr103, rd115, wr115, Nat.sub_zero, Int.reduceSub, Int.reduceAdd, Int.add_zero, Int.zero_add, Int.cast_ofNat_Int, Bool.false_eq_true, decide_true, decide_false, zbndI, zbwI, zbzI, zb1I, zoA_at, gback_v, gback_n, zem, zisr, zro_at, zrl_at, mu_g, mu_at, mu_mu, mu_self, not_true, not_false_iff, zb0, zb1, zbnd, zbw, zbz, zne1, zone, mrgI, List.length_nil, List.length_cons, Nat.reduceAdd, Nat.reduceSub, Nat.reduceLeDiff, Nat.zero_le, and_true, true_and, false_and, and_false, true_or, or_true, false_or, or_false, G_ite, z10, z1n, z1and, z1or, z0not, z0and, itn, if_true, if_false, reduceIte, Int.reduceEq, Int.reduceLT, Int.reduceNeg, Nat.reduceEqDiff, ite_self, hj, h1, h2, eq_self]
          exact hst
        · have hst := hst 1 (by rw [if_pos (by simp [h1, h2])])
          simp (disch := first | omega | (simp (disch := decide) only [zmu0, mu_g, List.length_nil, List.length_cons]; omega)) only [g108_412, g108_413, g108_416, g108_418, g108_421, g108_422, g108_423, g108_425, g108_426, g108_427, g108_428, g108_430, g108_431, g108_432, g108_434, g108_436, g108_439, g108_440, g108_443, g108_444, g108_446, g108_448, g108_449, g108_452, g108_453, g108_456, g108_457, g108_460, g108_461, g108_464, g108_465, g108_467, g108_468, rd103, wr103, rd115, wr115, Nat.sub_zero, Int.reduceSub, Int.reduceAdd, Int.add_zero, Int.zero_add, Int.cast_ofNat_Int, Bool.false_eq_true, decide_true, decide_false, zbndI, zbwI, zbzI, zb1I, zoA_at, gback_v, gback_n, zem, zisr, zro_at, zrl_at, mu_g, mu_at, mu_mu, mu_self, not_true, not_false_iff, zb0, zb1, zbnd, zbw, zbz, zne1, zone, mrgI, List.length_nil, List.length_cons, Nat.reduceAdd, Nat.reduceSub, Nat.reduceLeDiff, Nat.zero_le, and_true, true_and, false_and, and_false, true_or, or_true, false_or, or_false, G_ite, z10, z1n, z1and, z1or, z0not, z0and, itn, if_true, if_false, reduceIte, Int.reduceEq, Int.reduceLT, Int.reduceNeg, Nat.reduceEqDiff, ite_self, hj, h1, h2, eq_self]
          exact hst
theorem c108_k (hB : rwB ν) (hn : 0 ≤ n ∧ n < ν 0 0 115) (hr : ∀ j, 0 ≤ j → j < 3 → 0 ≤ ν 115 n j ∧ ν 115 n j ≤ 6) : ∀ (c : Nat) (s : Int) (u14 u15 u16 u17 : ZV), c ≤ 12 → (∀ v13 v14 v15 v16 v17, G 108 557 [zR 2 0, zR 101 0, zR 102 0, zR 103 0, zR 106 0, zI w, zI a, zI b, zI m, zR 115 n, zI 1, zI z, zI (zdn (lkp ν n) c s), v13, v14, v15, v16, v17] [] (HM ν) ck sk Q) → G 108 381 [zR 2 0, zR 101 0, zR 102 0, zR 103 0, zR 106 0, zI w, zI a, zI b, zI m, zR 115 n, zI 1, zI z, zI s, zI ((c : Int) - 1), u14, u15, u16, u17] [] (HM ν) ck sk Q
  | 0, s, u14, u15, u16, u17, c12, q => by
    have q := q (zI (((0 : Nat) : Int) - 1)) u14 u15 u16 u17
    have hc : ((0 : Nat) : Int) - 1 < 0 := by omega
    rw [g108_381]
    simp only [g108_383, if_pos hc]
    exact q
  | c + 1, s, u14, u15, u16, u17, c12, q => by
    have e1 : ((c + 1 : Nat) : Int) - 1 = (c : Int) := by omega
    have hc : ¬ (c : Int) < 0 := by omega
    have hc4 : 4 * (c : Int) < 52 := by omega
    have ez : zdn (lkp ν n) (c + 1) s = zdn (lkp ν n) c (if lkp ν n c = true then (c : Int) else s) := rfl
    rw [ez] at q
    rw [e1]
    have hX : ∀ v15 v16 v17 (s' : Int), s' = (if lkp ν n c = true then (1 : Int) else 0) → G 108 537 [zR 2 0, zR 101 0, zR 102 0, zR 103 0, zR 106 0, zI w, zI a, zI b, zI m, zR 115 n, zI 1, zI z, zI s, zI (c : Int), zI s', v15, v16, v17] [] (HM ν) ck sk Q := fun v15 v16 v17 s' hs' => by
      by_cases hl : lkp ν n c = true
      · rw [if_pos hl] at hs' q
        subst hs'
        have ih := c108_k hB hn hr c (c : Int) (zI 1) v15 v16 v17 (by omega) q
        have e2 : (c : Int) + -1 = (c : Int) - 1 := by omega
        rw [g108_537]
        simp (disch := first | omega | (simp (disch := decide) only [zmu0, mu_g, List.length_nil, List.length_cons]; omega)) only [g108_539, g108_542, g108_544, g108_547, g108_549, g108_551, g108_554, Nat.sub_zero, Int.reduceSub, Int.reduceAdd, Int.add_zero, Int.zero_add, Int.cast_ofNat_Int, Bool.false_eq_true, decide_true, decide_false, zbndI, zbwI, zbzI, zb1I, zoA_at, gback_v, gback_n, zem, zisr, zro_at, zrl_at, mu_g, mu_at, mu_mu, mu_self, not_true, not_false_iff, zb0, zb1, zbnd, zbw, zbz, zne1, zone, mrgI, List.length_nil, List.length_cons, Nat.reduceAdd, Nat.reduceSub, Nat.reduceLeDiff, Nat.zero_le, and_true, true_and, false_and, and_false, true_or, or_true, false_or, or_false, G_ite, z10, z1n, z1and, z1or, z0not, z0and, itn, if_true, if_false, reduceIte, Int.reduceEq, Int.reduceLT, Int.reduceNeg, Nat.reduceEqDiff, ite_self, e2]
        exact ih
      · rw [if_neg hl] at hs' q
        subst hs'
        have ih := c108_k hB hn hr c s (zI 0) v15 v16 v17 (by omega) q
        have e2 : (c : Int) + -1 = (c : Int) - 1 := by omega
        rw [g108_537]
        simp (disch := first | omega | (simp (disch := decide) only [zmu0, mu_g, List.length_nil, List.length_cons]; omega)) only [g108_539, g108_542, g108_544, g108_547, g108_549, g108_551, g108_554, Nat.sub_zero, Int.reduceSub, Int.reduceAdd, Int.add_zero, Int.zero_add, Int.cast_ofNat_Int, Bool.false_eq_true, decide_true, decide_false, zbndI, zbwI, zbzI, zb1I, zoA_at, gback_v, gback_n, zem, zisr, zro_at, zrl_at, mu_g, mu_at, mu_mu, mu_self, not_true, not_false_iff, zb0, zb1, zbnd, zbw, zbz, zne1, zone, mrgI, List.length_nil, List.length_cons, Nat.reduceAdd, Nat.reduceSub, Nat.reduceLeDiff, Nat.zero_le, and_true, true_and, false_and, and_false, true_or, or_true, false_or, or_false, G_ite, z10, z1n, z1and, z1or, z0not, z0and, itn, if_true, if_false, reduceIte, Int.reduceEq, Int.reduceLT, Int.reduceNeg, Nat.reduceEqDiff, ite_self, e2]
        exact ih
    have h410 := fun (s' : Int) (hs : s' = 0 ∨ s' = 1) (he : (if s' = 1 ∧ zall (lkq ν n c) 3 0 = true then (1 : Int) else 0) = if lkp ν n c = true then (1 : Int) else 0) (u16 u17 : ZV) => c108_j (ck := ck) (sk := sk) (Q := Q) (w := w) (a := a) (b := b) (m := m) (u1 := zI 1) (u2 := zI z) (u3 := zI s) (k := (c : Int)) hB hn hr ⟨by omega, by omega⟩ 3 0 s' u16 u17 (by omega) (by omega) hs fun v15 v16 v17 => hX v15 v16 v17 _ he
    rw [g108_381]
    by_cases h0 : 0 < ν 103 0 (4 * (c : Int))
    · have h410 := h410 1 (Or.inr rfl) (by
        by_cases hz : zall (lkq ν n c) 3 0 = true
        · rw [if_pos ⟨rfl, hz⟩, if_pos (show lkp ν n c = true from decide_eq_true ⟨h0, hz⟩)]
        · rw [if_neg (fun w => hz w.2), if_neg (show ¬ lkp ν n c = true from fun w => hz (of_decide_eq_true w).2)]) u16 u17
      simp (disch := first | omega | (simp (disch := decide) only [zmu0, mu_g, List.length_nil, List.length_cons]; omega)) only [g108_383, g108_386, g108_388, g108_391, g108_392, g108_393, g108_395, g108_396, g108_397, g108_400, g108_401, g108_404, g108_405, g108_407, g108_408, rd103, wr103, Nat.sub_zero, Int.reduceSub, Int.reduceAdd, Int.add_zero, Int.zero_add, Int.cast_ofNat_Int, Bool.false_eq_true, decide_true, decide_false, zbndI, zbwI, zbzI, zb1I, zoA_at, gback_v, gback_n, zem, zisr, zro_at, zrl_at, mu_g, mu_at, mu_mu, mu_self, not_true, not_false_iff, zb0, zb1, zbnd, zbw, zbz, zne1, zone, mrgI, List.length_nil, List.length_cons, Nat.reduceAdd, Nat.reduceSub, Nat.reduceLeDiff, Nat.zero_le, and_true, true_and, false_and, and_false, true_or, or_true, false_or, or_false, G_ite, z10, z1n, z1and, z1or, z0not, z0and, itn, if_true, if_false, reduceIte, Int.reduceEq, Int.reduceLT, Int.reduceNeg, Nat.reduceEqDiff, ite_self, hc, h0]
      exact h410
    · have h410 := h410 0 (Or.inl rfl) (by
        rw [if_neg (fun w => by omega), if_neg (show ¬ lkp ν n c = true from fun w => h0 (of_decide_eq_true w).1)]) u16 u17
      simp (disch := first | omega | (simp (disch := decide) only [zmu0, mu_g, List.length_nil, List.length_cons]; omega)) only [g108_383, g108_386, g108_388, g108_391, g108_392, g108_393, g108_395, g108_396, g108_397, g108_400, g108_401, g108_404, g108_405, g108_407, g108_408, rd103, wr103, Nat.sub_zero, Int.reduceSub, Int.reduceAdd, Int.add_zero, Int.zero_add, Int.cast_ofNat_Int, Bool.false_eq_true, decide_true, decide_false, zbndI, zbwI, zbzI, zb1I, zoA_at, gback_v, gback_n, zem, zisr, zro_at, zrl_at, mu_g, mu_at, mu_mu, mu_self, not_true, not_false_iff, zb0, zb1, zbnd, zbw, zbz, zne1, zone, mrgI, List.length_nil, List.length_cons, Nat.reduceAdd, Nat.reduceSub, Nat.reduceLeDiff, Nat.zero_le, and_true, true_and, false_and, and_false, true_or, or_true, false_or, or_false, G_ite, z10, z1n, z1and, z1or, z0not, z0and, itn, if_true, if_false, reduceIte, Int.reduceEq, Int.reduceLT, Int.reduceNeg, Nat.reduceEqDiff, ite_self, hc, h0]
      exact h410
end ZPD1
