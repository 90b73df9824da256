/-! ===== the law: builds kept ===== -/
def bdk (μ : ZU) (a k : Int) : Bool := decide (μ 111 0 k % 1024 = μ 106 0 4 ∧ zall (fun j => decide (zand (zshr (μ 111 0 k / 1024) j) 1 = 0 ∨ μ 112 0 (10 * k + j) = lfv μ a j)) 10 0 = true)
section ZPN
variable {ck sk : Nat} {Q : ZO → ZH → Prop} {μ ν κ β : ZU} {a b c d e f g h i j k l m n p r s t t' v w x y z L H M R W C J B : Int} {u u1 u2 u3 u4 u5 u6 u7 u8 u9 u10 : ZV}
def bdB (μ : ZU) : Prop := ∀ k, 0 ≤ k → k < μ 106 0 13 → (0 ≤ μ 111 0 k ∧ μ 111 0 k < 2000000) ∧ ∀ j, 0 ≤ j → j < 10 → 0 ≤ μ 112 0 (10 * k + j) ∧ μ 112 0 (10 * k + j) < 2147483648
theorem c104_i (hB : rwB μ) (ha : 0 ≤ a) (ha2 : a < 13) (hb : bdB μ) (k0 : 0 ≤ k) (k1 : k < μ 106 0 13) (h6 : μ 106 0 13 ≤ 6) : ∀ (n : Nat) (j s : Int), 0 ≤ j → j + n = 10 → (s = 0 ∨ s = 1) →
    (G 104 36 [zR 101 0, zR 103 0, zR 106 0, zR 111 0, zR 112 0, zI a, zI k, zI s, zI j] [] (HM μ) ck sk Q ↔ G 104 101 [zR 101 0, zR 103 0, zR 106 0, zR 111 0, zR 112 0, zI a, zI k, zI (if s = 1 ∧ zall (fun j => decide (zand (zshr (μ 111 0 k / 1024) j) 1 = 0 ∨ μ 112 0 (10 * k + j) = lfv μ a j)) n j = true then 1 else 0), zI 10] [] (HM μ) ck sk Q)
  | 0, j, s, j0, j1, hs => by
    have q : ¬ j < 10 := by omega
    have q' : j = 10 := by omega
    have e : (if s = 1 ∧ zall (fun j => decide (zand (zshr (μ 111 0 k / 1024) j) 1 = 0 ∨ μ 112 0 (10 * k + j) = lfv μ a j)) 0 j = true then (1 : Int) else 0) = s := by
      rcases hs with rfl | rfl
      · rw [if_neg (fun z => by omega)]
      · rw [if_pos ⟨rfl, rfl⟩]
    rw [e, g104_36]
    simp (disch := first | omega | (simp (disch := decide) only [zmu0, mu_g, List.length_nil, List.length_cons]; omega)) only [g104_38, g104_40, Nat.sub_zero, Int.reduceSub, Int.reduceAdd, Int.add_zero, Int.zero_add, Int.cast_ofNat_Int, Bool.false_eq_true, decide_true, decide_false, zbndI, zbwI, zbzI, zb1I, zoA_at, gback_v, gback_n, zem, zisr, zro_at, zrl_at, mu_g, mu_at, mu_mu, mu_self, not_true, not_false_iff, zb0, zb1, zbnd, zbw, zbz, zne1, zone, mrgI, List.length_nil, List.length_cons, Nat.reduceAdd, Nat.reduceSub, Nat.reduceLeDiff, Nat.zero_le, and_true, true_and, false_and, and_false, true_or, or_true, false_or, or_false, G_ite, z10, z1n, z1and, z1or, z0not, z0and, itn, if_true, if_false, reduceIte, Int.reduceEq, Int.reduceLT, Int.reduceNeg, Nat.reduceEqDiff, ite_self, q]
    rw [q']
  | n + 1, j, s, j0, j1, hs => by
    have q : j < 10 := by omega
    obtain ⟨b1, b2⟩ := hb k k0 k1
    have b3 := b2 j j0 q
    have hv := lfv_b hB ha ha2 j0 q
    have e94 := fun (Q : ZO → ZH → Prop) (u1 u2 u3 u4 : ZV) => c94 (ck := 0) (sk := 0) (Q := Q) (u1 := u1) (u2 := u2) (u3 := u3) (u4 := u4) hB ha ha2 (j := j) j0 q
    rw [g104_36]
    rcases hs with rfl | rfl
    · have ih := c104_i hB ha ha2 hb k0 k1 h6 n (j + 1) 0 (by omega) (by omega) (Or.inl rfl)
      rw [if_neg (fun z => by omega)] at ih
      rw [if_neg (fun z => by omega), ← ih]
      simp (disch := first | omega | (simp (disch := decide) only [zmu0, mu_g, List.length_nil, List.length_cons]; omega)) only [g104_38, g104_40, g104_43, g104_45, g104_48, g104_49, g104_51, g104_52, g104_55, g104_56, g104_58, g104_59, g104_60, g104_61, g104_64, g104_66, g104_68, g104_70, g104_71, g104_73, g104_74, g104_75, g104_76, g104_77, g104_79, g104_81, g104_84, g104_85, g104_88, g104_89, g104_92, g104_93, g104_95, g104_98, Nat.sub_zero, Int.reduceSub, Int.reduceAdd, Int.add_zero, Int.zero_add, Int.cast_ofNat_Int, Bool.false_eq_true, decide_true, decide_false, zbndI, zbwI, zbzI, zb1I, zoA_at, gback_v, gback_n, zem, zisr, zro_at, zrl_at, mu_g, mu_at, mu_mu, mu_self, not_true, not_false_iff, zb0, zb1, zbnd, zbw, zbz, zne1, zone, mrgI, List.length_nil, List.length_cons, Nat.reduceAdd, Nat.reduceSub, Nat.reduceLeDiff, Nat.zero_le, and_true, true_and, false_and, and_false, true_or, or_true, false_or, or_false, G_ite, z10, z1n, z1and, z1or, z0not, z0and, itn, if_true, if_false, reduceIte, Int.reduceEq, Int.reduceLT, Int.reduceNeg, Nat.reduceEqDiff, ite_self, q]
    · by_cases hz : zand (zshr (μ 111 0 k / 1024) j) 1 = 0
      · have ih := c104_i hB ha ha2 hb k0 k1 h6 n (j + 1) 1 (by omega) (by omega) (Or.inr rfl)
        have e : zall (fun j => decide (zand (zshr (μ 111 0 k / 1024) j) 1 = 0 ∨ μ 112 0 (10 * k + j) = lfv μ a j)) (n + 1) j = zall (fun j => decide (zand (zshr (μ 111 0 k / 1024) j) 1 = 0 ∨ μ 112 0 (10 * k + j) = lfv μ a j)) n (j + 1) := if_pos (decide_eq_true (Or.inl hz))
        rw [e, ← ih]
        simp (disch := first | omega | (simp (disch := decide) only [zmu0, mu_g, List.length_nil, List.length_cons]; omega)) only [g104_38, g104_40, g104_43, g104_45, g104_48, g104_49, g104_51, g104_52, g104_55, g104_56, g104_58, g104_59, g104_60, g104_61, g104_64, g104_66, g104_68, g104_70, g104_71, g104_73, g104_74, g104_75, g104_76, g104_77, g104_79, g104_81, g104_84, g104_85, g104_88, g104_89, g104_92, g104_93, g104_95, g104_98, rd111, wr111, Nat.sub_zero, Int.reduceSub, Int.reduceAdd, Int.add_zero, Int.zero_add, Int.cast_ofNat_Int, Bool.false_eq_true, decide_true, decide_false, zbndI, zbwI, zbzI, zb1I, zoA_at, gback_v, gback_n, zem, zisr, zro_at, zrl_at, mu_g, mu_at, mu_mu, mu_self, not_true, not_false_iff, zb0, zb1, zbnd, zbw, zbz, zne1, zone, mrgI, List.length_nil, List.length_cons, Nat.reduceAdd, Nat.reduceSub, Nat.reduceLeDiff, Nat.zero_le, and_true, true_and, false_and, and_false, true_or, or_true, false_or, or_false, G_ite, z10, z1n, z1and, z1or, z0not, z0and, itn, if_true, if_false, reduceIte, Int.reduceEq, Int.reduceLT, Int.reduceNeg, Nat.reduceEqDiff, ite_self, q, hz]
      · by_cases hc : μ 112 0 (10 * k + j) = lfv μ a j
        · have ih := c104_i hB ha ha2 hb k0 k1 h6 n (j + 1) 1 (by omega) (by omega) (Or.inr rfl)
          have e : zall (fun j => decide (zand (zshr (μ 111 0 k / 1024) j) 1 = 0 ∨ μ 112 0 (10 * k + j) = lfv μ a j)) (n + 1) j = zall (fun j => decide (zand (zshr (μ 111 0 k / 1024) j) 1 = 0 ∨ μ 112 0 (10 * k + j) = lfv μ a j)) n (j + 1) := if_pos (decide_eq_true (Or.inr hc))
          rw [e, ← ih]
          simp (disch := first | omega | (simp (disch := decide) only [zmu0, mu_g, List.length_nil, List.length_cons]; omega)) only [g104_38, g104_40, g104_43, g104_45, g104_48, g104_49, g104_51, g104_52, g104_55, g104_56, g104_58, g104_59, g104_60, g104_61, g104_64, g104_66, g104_68, g104_70, g104_71, g104_73, g104_74, g104_75, g104_76, g104_77, g104_79, g104_81, g104_84, g104_85, g104_88, g104_89, g104_92, g104_93, g104_95, g104_98, rd111, wr111, rd112, wr112, e94, zcI_eq, Nat.sub_zero, Int.reduceSub, Int.reduceAdd, Int.add_zero, Int.zero_add, Int.cast_ofNat_Int, Bool.false_eq_true, decide_true, decide_false, zbndI, zbwI, zbzI, zb1I, zoA_at, gback_v, gback_n, zem, zisr, zro_at, zrl_at, mu_g, mu_at, mu_mu, mu_self, not_true, not_false_iff, zb0, zb1, zbnd, zbw, zbz, zne1, zone, mrgI, List.length_nil, List.length_cons, Nat.reduceAdd, Nat.reduceSub, Nat.reduceLeDiff, Nat.zero_le, and_true, true_and, false_and, and_false, true_or, or_true, false_or, or_false, G_ite, z10, z1n, z1and, z1or, z0not, z0and, itn, if_true, if_false, reduceIte, Int.reduceEq, Int.reduceLT, Int.reduceNeg, Nat.reduceEqDiff, ite_self, q, hz, hc, eq_self]
        · have ih := c104_i hB ha ha2 hb k0 k1 h6 n (j + 1) 0 (by omega) (by omega) (Or.inl rfl)
          have e : zall (fun j => decide (zand (zshr (μ 111 0 k / 1024) j) 1 = 0 ∨ μ 112 0 (10 * k + j) = lfv μ a j)) (n + 1) j = false := if_neg (by simp [hc, hz])
          rw [if_neg (fun z => by omega)] at ih
          rw [e, if_neg (fun z => by cases z.2), ← ih]
          simp (disch := first | omega | (simp (disch := decide) only [zmu0, mu_g, List.length_nil, List.length_cons]; omega)) only [g104_38, g104_40, g104_43, g104_45, g104_48, g104_49, g104_51, g104_52, g104_55, g104_56, g104_58, g104_59, g104_60, g104_61, g104_64, g104_66, g104_68, g104_70, g104_71, g104_73, g104_74, g104_75, g104_76, g104_77, g104_79, g104_81, g104_84, g104_85, g104_88, g104_89, g104_92, g104_93, g104_95, g104_98, rd111, wr111, rd112, wr112, e94, zcI_eq, Nat.sub_zero, Int.reduceSub, Int.reduceAdd, Int.add_zero, Int.zero_add, Int.cast_ofNat_Int, Bool.false_eq_true, decide_true, decide_false, zbndI, zbwI, zbzI, zb1I, zoA_at, gback_v, gback_n, zem, zisr, zro_at, zrl_at, mu_g, mu_at, mu_mu, mu_self, not_true, not_false_iff, zb0, zb1, zbnd, zbw, zbz, zne1, zone, mrgI, List.length_nil, List.length_cons, Nat.reduceAdd, Nat.reduceSub, Nat.reduceLeDiff, Nat.zero_le, and_true, true_and, false_and, and_false, true_or, or_true, false_or, or_false, G_ite, z10, z1n, z1and, z1or, z0not, z0and, itn, if_true, if_false, reduceIte, Int.reduceEq, Int.reduceLT, Int.reduceNeg, Nat.reduceEqDiff, ite_self, q, hz, hc]
theorem c104_k (hB : rwB μ) (ha : 0 ≤ a) (ha2 : a < 13) (hb : bdB μ) (h6 : μ 106 0 13 ≤ 6) : ∀ (n : Nat) (k : Int) (u1 u2 : ZV), 0 ≤ k → k + n = μ 106 0 13 →
    (G 104 3 [zR 101 0, zR 103 0, zR 106 0, zR 111 0, zR 112 0, zI a, zI k, u1, u2] [] (HM μ) ck sk Q ↔ Q (.inl (some (zI (zff (bdk μ a) n k)))) (HM μ))
  | 0, k, u1, u2, k0, k1 => by
    have q : ¬ k < μ 106 0 13 := by omega
    rw [g104_3]
    simp (disch := first | omega | (simp (disch := decide) only [zmu0, mu_g, List.length_nil, List.length_cons]; omega)) only [g104_5, g104_6, g104_8, g104_9, g104_115, g104_116, rd106, wr106, Nat.sub_zero, Int.reduceSub, Int.reduceAdd, Int.add_zero, Int.zero_add, Int.cast_ofNat_Int, Bool.false_eq_true, decide_true, decide_false, zbndI, zbwI, zbzI, zb1I, zoA_at, gback_v, gback_n, zem, zisr, zro_at, zrl_at, mu_g, mu_at, mu_mu, mu_self, not_true, not_false_iff, zb0, zb1, zbnd, zbw, zbz, zne1, zone, mrgI, List.length_nil, List.length_cons, Nat.reduceAdd, Nat.reduceSub, Nat.reduceLeDiff, Nat.zero_le, and_true, true_and, false_and, and_false, true_or, or_true, false_or, or_false, G_ite, z10, z1n, z1and, z1or, z0not, z0and, itn, if_true, if_false, reduceIte, Int.reduceEq, Int.reduceLT, Int.reduceNeg, Nat.reduceEqDiff, ite_self, q, zff]
  | n + 1, k, u1, u2, k0, k1 => by
    have q : k < μ 106 0 13 := by omega
    obtain ⟨b1, b2⟩ := hb k k0 q
    have hi := fun (s : Int) (hs : s = 0 ∨ s = 1) => c104_i (ck := ck) (sk := sk) (Q := Q) hB ha ha2 hb k0 q h6 10 0 s (by omega) (by omega) hs
    have ih := fun u1 u2 => c104_k hB ha ha2 hb h6 n (k + 1) u1 u2 (by omega) (by omega)
    rw [g104_3, zff_s]
    by_cases hv : μ 111 0 k % 1024 = μ 106 0 4
    · have hi := hi 1 (Or.inr rfl)
      by_cases hz : zall (fun j => decide (zand (zshr (μ 111 0 k / 1024) j) 1 = 0 ∨ μ 112 0 (10 * k + j) = lfv μ a j)) 10 0 = true
      · have e : bdk μ a k = true := decide_eq_true ⟨hv, hz⟩
        rw [if_pos ⟨rfl, hz⟩] at hi
        rw [if_pos e]
        simp (disch := first | omega | (simp (disch := decide) only [zmu0, mu_g, List.length_nil, List.length_cons]; omega)) only [g104_5, g104_6, g104_8, g104_9, g104_12, g104_13, g104_15, g104_16, g104_19, g104_20, g104_21, g104_22, g104_23, g104_26, g104_27, g104_30, g104_31, g104_33, g104_34, g104_101, g104_103, g104_106, g104_108, rd106, wr106, rd111, wr111, Nat.sub_zero, Int.reduceSub, Int.reduceAdd, Int.add_zero, Int.zero_add, Int.cast_ofNat_Int, Bool.false_eq_true, decide_true, decide_false, zbndI, zbwI, zbzI, zb1I, zoA_at, gback_v, gback_n, zem, zisr, zro_at, zrl_at, mu_g, mu_at, mu_mu, mu_self, not_true, not_false_iff, zb0, zb1, zbnd, zbw, zbz, zne1, zone, mrgI, List.length_nil, List.length_cons, Nat.reduceAdd, Nat.reduceSub, Nat.reduceLeDiff, Nat.zero_le, and_true, true_and, false_and, and_false, true_or, or_true, false_or, or_false, G_ite, z10, z1n, z1and, z1or, z0not, z0and, itn, if_true, if_false, reduceIte, Int.reduceEq, Int.reduceLT, Int.reduceNeg, Nat.reduceEqDiff, ite_self, q, hv, hi]
      · have e : ¬ bdk μ a k = true := fun z => hz (of_decide_eq_true z).2
        rw [if_neg (fun z => hz z.2)] at hi
        rw [if_neg e]
        simp (disch := first | omega | (simp (disch := decide) only [zmu0, mu_g, List.length_nil, List.length_cons]; omega)) only [g104_5, g104_6, g104_8, g104_9, g104_12, g104_13, g104_15, g104_16, g104_19, g104_20, g104_21, g104_22, g104_23, g104_26, g104_27, g104_30, g104_31, g104_33, g104_34, g104_101, g104_103, g104_106, g104_108, g104_109, g104_112, rd106, wr106, rd111, wr111, Nat.sub_zero, Int.reduceSub, Int.reduceAdd, Int.add_zero, Int.zero_add, Int.cast_ofNat_Int, Bool.false_eq_true, decide_true, decide_false, zbndI, zbwI, zbzI, zb1I, zoA_at, gback_v, gback_n, zem, zisr, zro_at, zrl_at, mu_g, mu_at, mu_mu, mu_self, not_true, not_false_iff, zb0, zb1, zbnd, zbw, zbz, zne1, zone, mrgI, List.length_nil, List.length_cons, Nat.reduceAdd, Nat.reduceSub, Nat.reduceLeDiff, Nat.zero_le, and_true, true_and, false_and, and_false, true_or, or_true, false_or, or_false, G_ite, z10, z1n, z1and, z1or, z0not, z0and, itn, if_true, if_false, reduceIte, Int.reduceEq, Int.reduceLT, Int.reduceNeg, Nat.reduceEqDiff, ite_self, q, hv, hi, ih]
    · have hi := hi 0 (Or.inl rfl)
      have e : ¬ bdk μ a k = true := fun z => hv (of_decide_eq_true z).1
      rw [if_neg (fun z => by omega)] at hi
      rw [if_neg e]
      simp (disch := first | omega | (simp (disch := decide) only [zmu0, mu_g, List.length_nil, List.length_cons]; omega)) only [g104_5, g104_6, g104_8, g104_9, g104_12, g104_13, g104_15, g104_16, g104_19, g104_20, g104_21, g104_22, g104_23, g104_26, g104_27, g104_30, g104_31, g104_33, g104_34, g104_101, g104_103, g104_106, g104_108, g104_109, g104_112, rd106, wr106, rd111, wr111, Nat.sub_zero, Int.reduceSub, Int.reduceAdd, Int.add_zero, Int.zero_add, Int.cast_ofNat_Int, Bool.false_eq_true, decide_true, decide_false, zbndI, zbwI, zbzI, zb1I, zoA_at, gback_v, gback_n, zem, zisr, zro_at, zrl_at, mu_g, mu_at, mu_mu, mu_self, not_true, not_false_iff, zb0, zb1, zbnd, zbw, zbz, zne1, zone, mrgI, List.length_nil, List.length_cons, Nat.reduceAdd, Nat.reduceSub, Nat.reduceLeDiff, Nat.zero_le, and_true, true_and, false_and, and_false, true_or, or_true, false_or, or_false, G_ite, z10, z1n, z1and, z1or, z0not, z0and, itn, if_true, if_false, reduceIte, Int.reduceEq, Int.reduceLT, Int.reduceNeg, Nat.reduceEqDiff, ite_self, q, hv, hi, ih]
theorem c104 (hB : rwB μ) (ha : 0 ≤ a) (ha2 : a < 13) (hb : bdB μ) (h6 : 0 ≤ μ 106 0 13 ∧ μ 106 0 13 ≤ 6) : G 104 0 [zR 101 0, zR 103 0, zR 106 0, zR 111 0, zR 112 0, zI a, u, u1, u2] [] (HM μ) ck sk Q ↔ Q (.inl (some (zI (zff (bdk μ a) (μ 106 0 13).toNat 0)))) (HM μ) := by
  simp only [g104_0, g104_1, c104_k hB ha ha2 hb h6.2 (μ 106 0 13).toNat 0 u1 u2 (by omega) (by omega)]
theorem RW.bdB (h : RW μ t) : bdB μ := fun k k0 k1 => by
  have ha := h.2.1.2.2.2.2.1
  have hB := h.rwB
  have h20 := h.2.1.2.1
  have h0 := h.1
  have hd := h.2.2.2.2.1.1
  have hd2 := h.2.2.2.2.1.2.1
  obtain ⟨q1, q2, q3, q4, q5, q6, q7, q8, q9⟩ := h.2.2.2.2.2.2.2.1 k k0 (by omega)
  refine ⟨by omega, fun j j0 j1 => ?_⟩
  rw [q7 j j0 j1]
  exact lfv_b hB q3.1 (by omega) j0 j1
theorem enc2_eq (h : enc2 x y z v j) (h' : enc2 a b c d j) : (x = a ∧ y = b ∧ z = c) ↔ v = d := by
  unfold enc2 at h h'
  omega
theorem bdk_svd (h : RW μ t) (b0 : 0 ≤ b) (b1 : b < μ 0 0 41) (i0 : 0 ≤ i) (i1 : i < μ 0 0 20) : bdk μ i b = svd μ b 0 i := by
  have h0 := h.1
  have hd := h.2.2.2.2.1.1
  have hd2 := h.2.2.2.2.1.2.1
  obtain ⟨q1, q2, q3, q4, q5, q6, q7, q8, q9⟩ := h.2.2.2.2.2.2.2.1 b b0 b1
  have hi := (h.2.2.2.1.1 i i0 i1).2.2.2.2.2.2
  have hf := (h.2.2.2.1.1 _ q3.1 q3.2).2.2.2.2.2.2
  unfold bdk svd
  rw [decide_eq_decide, q5, q2]
  have e1 : (μ 41 b 1 + 1024 * μ 50 b 5) % 1024 = μ 41 b 1 := by omega
  have e2 : (μ 41 b 1 + 1024 * μ 50 b 5) / 1024 = μ 50 b 5 := by omega
  have e3 : zall (fun j => decide (zand (zshr (μ 50 b 5) j) 1 = 0 ∨ μ 112 0 (10 * b + j) = lfv μ i j)) 10 0 = zall (ksm μ 22 (μ 41 b 3) i (μ 50 b 5)) 10 0 := by
    refine zall_eq fun j j0 j1 => ?_
    have j1 : j < 10 := j1
    have e := enc2_eq (hf j j0 j1) (hi j j0 j1)
    unfold ksm
    rw [decide_eq_decide, q7 j j0 j1]
    exact ⟨fun z => z.elim Or.inr fun z => Or.inl (e.mpr z), fun z => z.elim (fun z => Or.inr (e.mp z)) Or.inl⟩
  rw [e1, e2, e3, hd.2.2.2.2.2]
  exact ⟨fun z => ⟨rfl, z.1, z.2⟩, fun z => ⟨z.2.1, z.2.2⟩⟩
theorem zff_at {p : Int → Bool} : ∀ (n : Nat) (i : Int), i ≤ k → k < i + n → p k = true → (∀ j, i ≤ j → j < k → p j = false) → zff p n i = k
  | 0, i, h1, h2, h3, h4 => by omega
  | n + 1, i, h1, h2, h3, h4 => by
    rw [zff_s]
    by_cases q : i = k
    · rw [q, if_pos h3]
    · rw [if_neg (by rw [h4 i (by omega) (by omega)]; decide)]
      exact zff_at n (i + 1) (by omega) (by omega) h3 fun j a b => h4 j (by omega) b
theorem zff_no {p : Int → Bool} : ∀ (n : Nat) (i : Int), (∀ j, i ≤ j → j < i + n → p j = false) → zff p n i = -1
  | 0, _, _ => rfl
  | n + 1, i, h => by
    rw [zff_s, if_neg (by rw [h i (by omega) (by omega)]; decide)]
    exact zff_no n (i + 1) fun j a b => h j (by omega) (by omega)
theorem zff_of {p : Int → Bool} : ∀ (n : Nat) (i : Int), 0 ≤ i → (zff p n i = -1 ∧ ∀ j, i ≤ j → j < i + n → p j = false) ∨ ((i ≤ zff p n i ∧ zff p n i < i + n) ∧ p (zff p n i) = true ∧ ∀ j, i ≤ j → j < zff p n i → p j = false)
  | 0, i, hi => Or.inl ⟨rfl, fun j a b => by omega⟩
  | n + 1, i, hi => by
    rw [zff_s]
    by_cases q : p i = true
    · rw [if_pos q]
      exact Or.inr ⟨by omega, q, fun j a b => by omega⟩
    · rw [if_neg q]
      rcases zff_of n (i + 1) (by omega) with ⟨h1, h2⟩ | ⟨h1, h2, h3⟩
      · refine Or.inl ⟨h1, fun j a b => ?_⟩
        by_cases hj : j = i
        · rw [hj]; simpa using q
        · exact h2 j (by omega) (by omega)
      · refine Or.inr ⟨by omega, h2, fun j a b => ?_⟩
        by_cases hj : j = i
        · rw [hj]; simpa using q
        · exact h3 j (by omega) b
/-- the law's kept build is the class's -/
theorem kept_eq (h : RW μ t) (i0 : 0 ≤ i) (i1 : i < μ 0 0 20) : (zff (bdk μ i) (μ 106 0 13).toNat 0 = -1 ∧ kbi μ 0 i = -1) ∨ ((0 ≤ zff (bdk μ i) (μ 106 0 13).toNat 0 ∧ zff (bdk μ i) (μ 106 0 13).toNat 0 < μ 0 0 41) ∧ svd μ (zff (bdk μ i) (μ 106 0 13).toNat 0) 0 i = true ∧ (0 ≤ kbi μ 0 i ∧ kbi μ 0 i < μ 0 0 40) ∧ μ 40 (kbi μ 0 i) 4 = zff (bdk μ i) (μ 106 0 13).toNat 0) := by
  have ha4 := h.2.1.2.2.2.1
  have ha5 := h.2.1.2.2.2.2.1
  obtain ⟨f1, f2⟩ := h.2.2.2.2.2.2.1
  have hsv : ∀ b, 0 ≤ b → b < μ 0 0 41 → bdk μ i b = svd μ b 0 i := fun b b0 b1 => bdk_svd h b0 b1 i0 i1
  rcases zff_of (p := bdk μ i) (μ 106 0 13).toNat 0 (by omega) with ⟨h1, h2⟩ | ⟨h1, h2, h3⟩
  · refine Or.inl ⟨h1, zff_no _ _ fun j j0 j1 => ?_⟩
    refine decide_eq_false fun z => ?_
    obtain ⟨z1, z2, z3⟩ := z
    have := (f1 j j0 z1).2.2
    have e := h2 (μ 40 j 4) (by omega) (by omega)
    rw [hsv _ (by omega) (by omega), z3] at e
    cases e
  · generalize zff (bdk μ i) (μ 106 0 13).toNat 0 = K at *
    have hK : svd μ K 0 i = true := by rw [← hsv K (by omega) (by omega)]; exact h2
    obtain ⟨j, j0, j1, j2, j3⟩ := f2 K (by omega) (by omega)
    have e : kbi μ 0 i = j := by
      refine zff_at 40 0 j0 (by omega) (decide_eq_true ⟨j1, by omega, by rw [j2]; exact hK⟩) fun j' a b => ?_
      refine decide_eq_false fun z => ?_
      obtain ⟨z1, z2, z3⟩ := z
      have := (f1 j' a z1).2.2
      have := j3 j' a b
      have e := h3 (μ 40 j' 4) (by omega) (by omega)
      rw [hsv _ (by omega) (by omega), z3] at e
      cases e
    rw [e]
    exact Or.inr ⟨by omega, hK, ⟨j0, j1⟩, j2⟩
end ZPN
