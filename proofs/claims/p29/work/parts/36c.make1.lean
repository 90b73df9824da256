/-! ===== making: files, layers, sheets ===== -/
abbrev a10 : ZE := .inr (.int, 10, fun _ => zI 0)
abbrev a60 : ZE := .inr (.int, 60, fun _ => zI 0)
section ZDC
variable {ck sk : Nat} {Q : ZO → ZH → Prop} {a b c d i j n v w x y z : Int} {u u' u'' u1 u2 u3 : ZV} {μ ν : ZU} {h : ZH} {f : Nat → ZV}
theorem i5_11 (ho : h 11 i = some (.inl (2, f))) (h1 : h 12 i = none) (h2 : h 13 i = none) (h3 : h 14 i = none) (q : Q (.inl none) (zset (zset (zset (zset h 11 i (.inl (2, zupN (zupN (zupN f 0 (zR 12 i)) 1 (zR 13 i)) 2 (zR 14 i)))) 12 i a10) 13 i a10) 14 i a10)) : G 5 0 [zR 11 i] [] h 3 30 Q := by
  simp (disch := first | omega | (simp (disch := decide) only [zmu0, mu_g, List.length_nil, List.length_cons]; omega)) only [g5_0, g5_1, g5_4, g5_5, g5_9, g5_12, g5_13, g5_17, g5_20, g5_21, g5_25, g5_28, Int.reduceSub, Int.reduceAdd, Int.add_zero, Int.zero_add, Int.cast_ofNat_Int, Bool.false_eq_true, decide_true, decide_false, zbndI, zbwI, zbzI, zb1I, zoA_at, gback_v, gback_n, zem, zisr, zro_at, zrl_at, mu_g, mu_at, mu_mu, mu_self, not_true, not_false_iff, zb0, zb1, zbnd, zbw, zbz, zne1, zone, mrgI, List.length_nil, List.length_cons, Nat.reduceAdd, Nat.reduceSub, Nat.reduceLeDiff, Nat.zero_le, and_true, true_and, false_and, and_false, true_or, or_true, false_or, or_false, G_ite, z10, z1n, z1and, z1or, z0not, z0and, itn, if_true, if_false, reduceIte, Int.reduceEq, Int.reduceLT, Int.reduceNeg, Nat.reduceEqDiff, ite_self]
  rw [g5_7]
  refine ⟨⟨⟨by decide, by decide⟩, by decide, by decide⟩, 12, i, by decide, h1, ?_⟩
  simp (disch := first | omega | (simp (disch := decide) only [zmu0, mu_g, List.length_nil, List.length_cons]; omega)) only [g5_0, g5_1, g5_4, g5_5, g5_9, g5_12, g5_13, g5_17, g5_20, g5_21, g5_25, g5_28, Int.reduceSub, Int.reduceAdd, Int.add_zero, Int.zero_add, Int.cast_ofNat_Int, Bool.false_eq_true, decide_true, decide_false, zbndI, zbwI, zbzI, zb1I, zoA_at, gback_v, gback_n, zem, zisr, zro_at, zrl_at, mu_g, mu_at, mu_mu, mu_self, not_true, not_false_iff, zb0, zb1, zbnd, zbw, zbz, zne1, zone, mrgI, List.length_nil, List.length_cons, Nat.reduceAdd, Nat.reduceSub, Nat.reduceLeDiff, Nat.zero_le, and_true, true_and, false_and, and_false, true_or, or_true, false_or, or_false, G_ite, z10, z1n, z1and, z1or, z0not, z0and, itn, if_true, if_false, reduceIte, Int.reduceEq, Int.reduceLT, Int.reduceNeg, Nat.reduceEqDiff, ite_self, zGF_o ho, zGF_n, zGF_s, zset_comm, zset_zset, Int.reduceToNat]
  rw [g5_15]
  refine ⟨⟨⟨by decide, by decide⟩, by decide, by decide⟩, 13, i, by decide, by rw [zset_k (by decide), zset_k (by decide)]; exact h2, ?_⟩
  simp (disch := first | omega | (simp (disch := decide) only [zmu0, mu_g, List.length_nil, List.length_cons]; omega)) only [g5_0, g5_1, g5_4, g5_5, g5_9, g5_12, g5_13, g5_17, g5_20, g5_21, g5_25, g5_28, Int.reduceSub, Int.reduceAdd, Int.add_zero, Int.zero_add, Int.cast_ofNat_Int, Bool.false_eq_true, decide_true, decide_false, zbndI, zbwI, zbzI, zb1I, zoA_at, gback_v, gback_n, zem, zisr, zro_at, zrl_at, mu_g, mu_at, mu_mu, mu_self, not_true, not_false_iff, zb0, zb1, zbnd, zbw, zbz, zne1, zone, mrgI, List.length_nil, List.length_cons, Nat.reduceAdd, Nat.reduceSub, Nat.reduceLeDiff, Nat.zero_le, and_true, true_and, false_and, and_false, true_or, or_true, false_or, or_false, G_ite, z10, z1n, z1and, z1or, z0not, z0and, itn, if_true, if_false, reduceIte, Int.reduceEq, Int.reduceLT, Int.reduceNeg, Nat.reduceEqDiff, ite_self, zGF_n, zGF_s, zset_comm, zset_zset, Int.reduceToNat]
  rw [g5_23]
  refine ⟨⟨⟨by decide, by decide⟩, by decide, by decide⟩, 14, i, by decide, by rw [zset_k (by decide), zset_k (by decide), zset_k (by decide)]; exact h3, ?_⟩
  simp (disch := first | omega | (simp (disch := decide) only [zmu0, mu_g, List.length_nil, List.length_cons]; omega)) only [g5_0, g5_1, g5_4, g5_5, g5_9, g5_12, g5_13, g5_17, g5_20, g5_21, g5_25, g5_28, Int.reduceSub, Int.reduceAdd, Int.add_zero, Int.zero_add, Int.cast_ofNat_Int, Bool.false_eq_true, decide_true, decide_false, zbndI, zbwI, zbzI, zb1I, zoA_at, gback_v, gback_n, zem, zisr, zro_at, zrl_at, mu_g, mu_at, mu_mu, mu_self, not_true, not_false_iff, zb0, zb1, zbnd, zbw, zbz, zne1, zone, mrgI, List.length_nil, List.length_cons, Nat.reduceAdd, Nat.reduceSub, Nat.reduceLeDiff, Nat.zero_le, and_true, true_and, false_and, and_false, true_or, or_true, false_or, or_false, G_ite, z10, z1n, z1and, z1or, z0not, z0and, itn, if_true, if_false, reduceIte, Int.reduceEq, Int.reduceLT, Int.reduceNeg, Nat.reduceEqDiff, ite_self, zGF_n, zGF_s, zset_comm, zset_zset, Int.reduceToNat]
  exact q
theorem i5_21 (ho : h 21 i = some (.inl (2, f))) (h1 : h 22 i = none) (h2 : h 23 i = none) (h3 : h 24 i = none) (q : Q (.inl none) (zset (zset (zset (zset h 21 i (.inl (2, zupN (zupN (zupN f 0 (zR 22 i)) 1 (zR 23 i)) 2 (zR 24 i)))) 22 i a10) 23 i a10) 24 i a10)) : G 5 0 [zR 21 i] [] h 3 30 Q := by
  simp (disch := first | omega | (simp (disch := decide) only [zmu0, mu_g, List.length_nil, List.length_cons]; omega)) only [g5_0, g5_1, g5_4, g5_5, g5_9, g5_12, g5_13, g5_17, g5_20, g5_21, g5_25, g5_28, Int.reduceSub, Int.reduceAdd, Int.add_zero, Int.zero_add, Int.cast_ofNat_Int, Bool.false_eq_true, decide_true, decide_false, zbndI, zbwI, zbzI, zb1I, zoA_at, gback_v, gback_n, zem, zisr, zro_at, zrl_at, mu_g, mu_at, mu_mu, mu_self, not_true, not_false_iff, zb0, zb1, zbnd, zbw, zbz, zne1, zone, mrgI, List.length_nil, List.length_cons, Nat.reduceAdd, Nat.reduceSub, Nat.reduceLeDiff, Nat.zero_le, and_true, true_and, false_and, and_false, true_or, or_true, false_or, or_false, G_ite, z10, z1n, z1and, z1or, z0not, z0and, itn, if_true, if_false, reduceIte, Int.reduceEq, Int.reduceLT, Int.reduceNeg, Nat.reduceEqDiff, ite_self]
  rw [g5_7]
  refine ⟨⟨⟨by decide, by decide⟩, by decide, by decide⟩, 22, i, by decide, h1, ?_⟩
  simp (disch := first | omega | (simp (disch := decide) only [zmu0, mu_g, List.length_nil, List.length_cons]; omega)) only [g5_0, g5_1, g5_4, g5_5, g5_9, g5_12, g5_13, g5_17, g5_20, g5_21, g5_25, g5_28, Int.reduceSub, Int.reduceAdd, Int.add_zero, Int.zero_add, Int.cast_ofNat_Int, Bool.false_eq_true, decide_true, decide_false, zbndI, zbwI, zbzI, zb1I, zoA_at, gback_v, gback_n, zem, zisr, zro_at, zrl_at, mu_g, mu_at, mu_mu, mu_self, not_true, not_false_iff, zb0, zb1, zbnd, zbw, zbz, zne1, zone, mrgI, List.length_nil, List.length_cons, Nat.reduceAdd, Nat.reduceSub, Nat.reduceLeDiff, Nat.zero_le, and_true, true_and, false_and, and_false, true_or, or_true, false_or, or_false, G_ite, z10, z1n, z1and, z1or, z0not, z0and, itn, if_true, if_false, reduceIte, Int.reduceEq, Int.reduceLT, Int.reduceNeg, Nat.reduceEqDiff, ite_self, zGF_o ho, zGF_n, zGF_s, zset_comm, zset_zset, Int.reduceToNat]
  rw [g5_15]
  refine ⟨⟨⟨by decide, by decide⟩, by decide, by decide⟩, 23, i, by decide, by rw [zset_k (by decide), zset_k (by decide)]; exact h2, ?_⟩
  simp (disch := first | omega | (simp (disch := decide) only [zmu0, mu_g, List.length_nil, List.length_cons]; omega)) only [g5_0, g5_1, g5_4, g5_5, g5_9, g5_12, g5_13, g5_17, g5_20, g5_21, g5_25, g5_28, Int.reduceSub, Int.reduceAdd, Int.add_zero, Int.zero_add, Int.cast_ofNat_Int, Bool.false_eq_true, decide_true, decide_false, zbndI, zbwI, zbzI, zb1I, zoA_at, gback_v, gback_n, zem, zisr, zro_at, zrl_at, mu_g, mu_at, mu_mu, mu_self, not_true, not_false_iff, zb0, zb1, zbnd, zbw, zbz, zne1, zone, mrgI, List.length_nil, List.length_cons, Nat.reduceAdd, Nat.reduceSub, Nat.reduceLeDiff, Nat.zero_le, and_true, true_and, false_and, and_false, true_or, or_true, false_or, or_false, G_ite, z10, z1n, z1and, z1or, z0not, z0and, itn, if_true, if_false, reduceIte, Int.reduceEq, Int.reduceLT, Int.reduceNeg, Nat.reduceEqDiff, ite_self, zGF_n, zGF_s, zset_comm, zset_zset, Int.reduceToNat]
  rw [g5_23]
  refine ⟨⟨⟨by decide, by decide⟩, by decide, by decide⟩, 24, i, by decide, by rw [zset_k (by decide), zset_k (by decide), zset_k (by decide)]; exact h3, ?_⟩
  simp (disch := first | omega | (simp (disch := decide) only [zmu0, mu_g, List.length_nil, List.length_cons]; omega)) only [g5_0, g5_1, g5_4, g5_5, g5_9, g5_12, g5_13, g5_17, g5_20, g5_21, g5_25, g5_28, Int.reduceSub, Int.reduceAdd, Int.add_zero, Int.zero_add, Int.cast_ofNat_Int, Bool.false_eq_true, decide_true, decide_false, zbndI, zbwI, zbzI, zb1I, zoA_at, gback_v, gback_n, zem, zisr, zro_at, zrl_at, mu_g, mu_at, mu_mu, mu_self, not_true, not_false_iff, zb0, zb1, zbnd, zbw, zbz, zne1, zone, mrgI, List.length_nil, List.length_cons, Nat.reduceAdd, Nat.reduceSub, Nat.reduceLeDiff, Nat.zero_le, and_true, true_and, false_and, and_false, true_or, or_true, false_or, or_false, G_ite, z10, z1n, z1and, z1or, z0not, z0and, itn, if_true, if_false, reduceIte, Int.reduceEq, Int.reduceLT, Int.reduceNeg, Nat.reduceEqDiff, ite_self, zGF_n, zGF_s, zset_comm, zset_zset, Int.reduceToNat]
  exact q
theorem i16 (ho : h 10 i = some (.inl (5, f))) (h0 : h 11 i = none) (h1 : h 12 i = none) (h2 : h 13 i = none) (h3 : h 14 i = none) (q : Q (.inl none) (zset (zset (zset (zset (zset h 10 i (.inl (5, zupN (zupN f 0 (zR 11 i)) 1 (zI 0)))) 11 i (.inl (2, zupN (zupN (zupN (zfd 2) 0 (zR 12 i)) 1 (zR 13 i)) 2 (zR 14 i)))) 12 i a10) 13 i a10) 14 i a10)) : G 16 0 [zR 10 i] [] h 4 33 Q := by
  simp (disch := first | omega | (simp (disch := decide) only [zmu0, mu_g, List.length_nil, List.length_cons]; omega)) only [g16_0, g16_1, g16_4, g16_8, g16_8r, g16_9, g16_12, g16_15, g16_16, g16_17, g16_20, Int.reduceSub, Int.reduceAdd, Int.add_zero, Int.zero_add, Int.cast_ofNat_Int, Bool.false_eq_true, decide_true, decide_false, zbndI, zbwI, zbzI, zb1I, zoA_at, gback_v, gback_n, zem, zisr, zro_at, zrl_at, mu_g, mu_at, mu_mu, mu_self, not_true, not_false_iff, zb0, zb1, zbnd, zbw, zbz, zne1, zone, mrgI, List.length_nil, List.length_cons, Nat.reduceAdd, Nat.reduceSub, Nat.reduceLeDiff, Nat.zero_le, and_true, true_and, false_and, and_false, true_or, or_true, false_or, or_false, G_ite, z10, z1n, z1and, z1or, z0not, z0and, itn, if_true, if_false, reduceIte, Int.reduceEq, Int.reduceLT, Int.reduceNeg, Nat.reduceEqDiff, ite_self]
  rw [g16_5]
  refine ⟨⟨trivial, by decide, by decide⟩, 11, i, by decide, h0, ?_⟩
  simp (disch := first | omega | (simp (disch := decide) only [zmu0, mu_g, List.length_nil, List.length_cons]; omega)) only [g16_0, g16_1, g16_4, g16_8, g16_8r, g16_9, g16_12, g16_15, g16_16, g16_17, g16_20, Int.reduceSub, Int.reduceAdd, Int.add_zero, Int.zero_add, Int.cast_ofNat_Int, Bool.false_eq_true, decide_true, decide_false, zbndI, zbwI, zbzI, zb1I, zoA_at, gback_v, gback_n, zem, zisr, zro_at, zrl_at, mu_g, mu_at, mu_mu, mu_self, not_true, not_false_iff, zb0, zb1, zbnd, zbw, zbz, zne1, zone, mrgI, List.length_nil, List.length_cons, Nat.reduceAdd, Nat.reduceSub, Nat.reduceLeDiff, Nat.zero_le, and_true, true_and, false_and, and_false, true_or, or_true, false_or, or_false, G_ite, z10, z1n, z1and, z1or, z0not, z0and, itn, if_true, if_false, reduceIte, Int.reduceEq, Int.reduceLT, Int.reduceNeg, Nat.reduceEqDiff, ite_self, zGO_s]
  refine i5_11 zset_at (by rw [zset_k (by decide)]; exact h1) (by rw [zset_k (by decide)]; exact h2) (by rw [zset_k (by decide)]; exact h3) ?_
  rw [gback_n]
  simp (disch := first | omega | (simp (disch := decide) only [zmu0, mu_g, List.length_nil, List.length_cons]; omega)) only [g16_0, g16_1, g16_4, g16_8, g16_8r, g16_9, g16_12, g16_15, g16_16, g16_17, g16_20, Int.reduceSub, Int.reduceAdd, Int.add_zero, Int.zero_add, Int.cast_ofNat_Int, Bool.false_eq_true, decide_true, decide_false, zbndI, zbwI, zbzI, zb1I, zoA_at, gback_v, gback_n, zem, zisr, zro_at, zrl_at, mu_g, mu_at, mu_mu, mu_self, not_true, not_false_iff, zb0, zb1, zbnd, zbw, zbz, zne1, zone, mrgI, List.length_nil, List.length_cons, Nat.reduceAdd, Nat.reduceSub, Nat.reduceLeDiff, Nat.zero_le, and_true, true_and, false_and, and_false, true_or, or_true, false_or, or_false, G_ite, z10, z1n, z1and, z1or, z0not, z0and, itn, if_true, if_false, reduceIte, Int.reduceEq, Int.reduceLT, Int.reduceNeg, Nat.reduceEqDiff, ite_self, zGF_o ho, zGF_n, zGF_s, zset_comm, zset_zset]
  exact q
theorem i35 (ho : h 50 i = some (.inl (7, f))) (h1 : h 51 i = none) (h2 : h 52 i = none) (h3 : h 53 i = none) (h4 : h 54 i = none) (h5 : h 55 i = none) (h6 : h 56 i = none) (q : Q (.inl none) (zset (zset (zset (zset (zset (zset (zset h 50 i (.inl (7, zupN (zupN (zupN (zupN (zupN (zupN f 6 (zR 51 i)) 7 (zR 52 i)) 8 (zR 53 i)) 9 (zR 54 i)) 10 (zR 55 i)) 11 (zR 56 i)))) 51 i a60) 52 i a60) 53 i a60) 54 i a60) 55 i a60) 56 i a60)) : G 35 0 [zR 50 i] [] h 6 360 Q := by
  simp (disch := first | omega | (simp (disch := decide) only [zmu0, mu_g, List.length_nil, List.length_cons]; omega)) only [g35_0, g35_1, g35_4, g35_5, g35_9, g35_12, g35_13, g35_17, g35_20, g35_21, g35_25, g35_28, g35_29, g35_33, g35_36, g35_37, g35_41, g35_44, g35_45, g35_49, g35_52, Int.reduceSub, Int.reduceAdd, Int.add_zero, Int.zero_add, Int.cast_ofNat_Int, Bool.false_eq_true, decide_true, decide_false, zbndI, zbwI, zbzI, zb1I, zoA_at, gback_v, gback_n, zem, zisr, zro_at, zrl_at, mu_g, mu_at, mu_mu, mu_self, not_true, not_false_iff, zb0, zb1, zbnd, zbw, zbz, zne1, zone, mrgI, List.length_nil, List.length_cons, Nat.reduceAdd, Nat.reduceSub, Nat.reduceLeDiff, Nat.zero_le, and_true, true_and, false_and, and_false, true_or, or_true, false_or, or_false, G_ite, z10, z1n, z1and, z1or, z0not, z0and, itn, if_true, if_false, reduceIte, Int.reduceEq, Int.reduceLT, Int.reduceNeg, Nat.reduceEqDiff, ite_self]
  rw [g35_7]
  refine ⟨⟨⟨by decide, by decide⟩, by decide, by decide⟩, 51, i, by decide, h1, ?_⟩
  simp (disch := first | omega | (simp (disch := decide) only [zmu0, mu_g, List.length_nil, List.length_cons]; omega)) only [g35_0, g35_1, g35_4, g35_5, g35_9, g35_12, g35_13, g35_17, g35_20, g35_21, g35_25, g35_28, g35_29, g35_33, g35_36, g35_37, g35_41, g35_44, g35_45, g35_49, g35_52, Int.reduceSub, Int.reduceAdd, Int.add_zero, Int.zero_add, Int.cast_ofNat_Int, Bool.false_eq_true, decide_true, decide_false, zbndI, zbwI, zbzI, zb1I, zoA_at, gback_v, gback_n, zem, zisr, zro_at, zrl_at, mu_g, mu_at, mu_mu, mu_self, not_true, not_false_iff, zb0, zb1, zbnd, zbw, zbz, zne1, zone, mrgI, List.length_nil, List.length_cons, Nat.reduceAdd, Nat.reduceSub, Nat.reduceLeDiff, Nat.zero_le, and_true, true_and, false_and, and_false, true_or, or_true, false_or, or_false, G_ite, z10, z1n, z1and, z1or, z0not, z0and, itn, if_true, if_false, reduceIte, Int.reduceEq, Int.reduceLT, Int.reduceNeg, Nat.reduceEqDiff, ite_self, zGF_o ho, zGF_n, zGF_s, zset_comm, zset_zset, Int.reduceToNat]
  rw [g35_15]
  refine ⟨⟨⟨by decide, by decide⟩, by decide, by decide⟩, 52, i, by decide, by simp (disch := decide) only [zset_k]; exact h2, ?_⟩
  simp (disch := first | omega | (simp (disch := decide) only [zmu0, mu_g, List.length_nil, List.length_cons]; omega)) only [g35_0, g35_1, g35_4, g35_5, g35_9, g35_12, g35_13, g35_17, g35_20, g35_21, g35_25, g35_28, g35_29, g35_33, g35_36, g35_37, g35_41, g35_44, g35_45, g35_49, g35_52, Int.reduceSub, Int.reduceAdd, Int.add_zero, Int.zero_add, Int.cast_ofNat_Int, Bool.false_eq_true, decide_true, decide_false, zbndI, zbwI, zbzI, zb1I, zoA_at, gback_v, gback_n, zem, zisr, zro_at, zrl_at, mu_g, mu_at, mu_mu, mu_self, not_true, not_false_iff, zb0, zb1, zbnd, zbw, zbz, zne1, zone, mrgI, List.length_nil, List.length_cons, Nat.reduceAdd, Nat.reduceSub, Nat.reduceLeDiff, Nat.zero_le, and_true, true_and, false_and, and_false, true_or, or_true, false_or, or_false, G_ite, z10, z1n, z1and, z1or, z0not, z0and, itn, if_true, if_false, reduceIte, Int.reduceEq, Int.reduceLT, Int.reduceNeg, Nat.reduceEqDiff, ite_self, zGF_n, zGF_s, zset_comm, zset_zset, Int.reduceToNat]
  rw [g35_23]
  refine ⟨⟨⟨by decide, by decide⟩, by decide, by decide⟩, 53, i, by decide, by simp (disch := decide) only [zset_k]; exact h3, ?_⟩
  simp (disch := first | omega | (simp (disch := decide) only [zmu0, mu_g, List.length_nil, List.length_cons]; omega)) only [g35_0, g35_1, g35_4, g35_5, g35_9, g35_12, g35_13, g35_17, g35_20, g35_21, g35_25, g35_28, g35_29, g35_33, g35_36, g35_37, g35_41, g35_44, g35_45, g35_49, g35_52, Int.reduceSub, Int.reduceAdd, Int.add_zero, Int.zero_add, Int.cast_ofNat_Int, Bool.false_eq_true, decide_true, decide_false, zbndI, zbwI, zbzI, zb1I, zoA_at, gback_v, gback_n, zem, zisr, zro_at, zrl_at, mu_g, mu_at, mu_mu, mu_self, not_true, not_false_iff, zb0, zb1, zbnd, zbw, zbz, zne1, zone, mrgI, List.length_nil, List.length_cons, Nat.reduceAdd, Nat.reduceSub, Nat.reduceLeDiff, Nat.zero_le, and_true, true_and, false_and, and_false, true_or, or_true, false_or, or_false, G_ite, z10, z1n, z1and, z1or, z0not, z0and, itn, if_true, if_false, reduceIte, Int.reduceEq, Int.reduceLT, Int.reduceNeg, Nat.reduceEqDiff, ite_self, zGF_n, zGF_s, zset_comm, zset_zset, Int.reduceToNat]
  rw [g35_31]
  refine ⟨⟨⟨by decide, by decide⟩, by decide, by decide⟩, 54, i, by decide, by simp (disch := decide) only [zset_k]; exact h4, ?_⟩
  simp (disch := first | omega | (simp (disch := decide) only [zmu0, mu_g, List.length_nil, List.length_cons]; omega)) only [g35_0, g35_1, g35_4, g35_5, g35_9, g35_12, g35_13, g35_17, g35_20, g35_21, g35_25, g35_28, g35_29, g35_33, g35_36, g35_37, g35_41, g35_44, g35_45, g35_49, g35_52, Int.reduceSub, Int.reduceAdd, Int.add_zero, Int.zero_add, Int.cast_ofNat_Int, Bool.false_eq_true, decide_true, decide_false, zbndI, zbwI, zbzI, zb1I, zoA_at, gback_v, gback_n, zem, zisr, zro_at, zrl_at, mu_g, mu_at, mu_mu, mu_self, not_true, not_false_iff, zb0, zb1, zbnd, zbw, zbz, zne1, zone, mrgI, List.length_nil, List.length_cons, Nat.reduceAdd, Nat.reduceSub, Nat.reduceLeDiff, Nat.zero_le, and_true, true_and, false_and, and_false, true_or, or_true, false_or, or_false, G_ite, z10, z1n, z1and, z1or, z0not, z0and, itn, if_true, if_false, reduceIte, Int.reduceEq, Int.reduceLT, Int.reduceNeg, Nat.reduceEqDiff, ite_self, zGF_n, zGF_s, zset_comm, zset_zset, Int.reduceToNat]
  rw [g35_39]
  refine ⟨⟨⟨by decide, by decide⟩, by decide, by decide⟩, 55, i, by decide, by simp (disch := decide) only [zset_k]; exact h5, ?_⟩
  simp (disch := first | omega | (simp (disch := decide) only [zmu0, mu_g, List.length_nil, List.length_cons]; omega)) only [g35_0, g35_1, g35_4, g35_5, g35_9, g35_12, g35_13, g35_17, g35_20, g35_21, g35_25, g35_28, g35_29, g35_33, g35_36, g35_37, g35_41, g35_44, g35_45, g35_49, g35_52, Int.reduceSub, Int.reduceAdd, Int.add_zero, Int.zero_add, Int.cast_ofNat_Int, Bool.false_eq_true, decide_true, decide_false, zbndI, zbwI, zbzI, zb1I, zoA_at, gback_v, gback_n, zem, zisr, zro_at, zrl_at, mu_g, mu_at, mu_mu, mu_self, not_true, not_false_iff, zb0, zb1, zbnd, zbw, zbz, zne1, zone, mrgI, List.length_nil, List.length_cons, Nat.reduceAdd, Nat.reduceSub, Nat.reduceLeDiff, Nat.zero_le, and_true, true_and, false_and, and_false, true_or, or_true, false_or, or_false, G_ite, z10, z1n, z1and, z1or, z0not, z0and, itn, if_true, if_false, reduceIte, Int.reduceEq, Int.reduceLT, Int.reduceNeg, Nat.reduceEqDiff, ite_self, zGF_n, zGF_s, zset_comm, zset_zset, Int.reduceToNat]
  rw [g35_47]
  refine ⟨⟨⟨by decide, by decide⟩, by decide, by decide⟩, 56, i, by decide, by simp (disch := decide) only [zset_k]; exact h6, ?_⟩
  simp (disch := first | omega | (simp (disch := decide) only [zmu0, mu_g, List.length_nil, List.length_cons]; omega)) only [g35_0, g35_1, g35_4, g35_5, g35_9, g35_12, g35_13, g35_17, g35_20, g35_21, g35_25, g35_28, g35_29, g35_33, g35_36, g35_37, g35_41, g35_44, g35_45, g35_49, g35_52, Int.reduceSub, Int.reduceAdd, Int.add_zero, Int.zero_add, Int.cast_ofNat_Int, Bool.false_eq_true, decide_true, decide_false, zbndI, zbwI, zbzI, zb1I, zoA_at, gback_v, gback_n, zem, zisr, zro_at, zrl_at, mu_g, mu_at, mu_mu, mu_self, not_true, not_false_iff, zb0, zb1, zbnd, zbw, zbz, zne1, zone, mrgI, List.length_nil, List.length_cons, Nat.reduceAdd, Nat.reduceSub, Nat.reduceLeDiff, Nat.zero_le, and_true, true_and, false_and, and_false, true_or, or_true, false_or, or_false, G_ite, z10, z1n, z1and, z1or, z0not, z0and, itn, if_true, if_false, reduceIte, Int.reduceEq, Int.reduceLT, Int.reduceNeg, Nat.reduceEqDiff, ite_self, zGF_n, zGF_s, zset_comm, zset_zset, Int.reduceToNat]
  exact q
def mLy (n : Int) (μ : ZU) : ZU := mu (mzs [10, 11, 12, 13, 14] n μ) 0 0 10 (n + 1)
theorem HM_ly (hn : μ 0 0 10 = n) (h0 : 0 ≤ n) : zset (zset (zset (zset (zset (zset (HM μ) 3 0 (.inr (.object (zcn 5), 24, zup (zoA 10 n) n (zR 10 n)))) 10 n (.inl (5, zupN (zupN (zfd 5) 0 (zR 11 n)) 1 (zI 0)))) 11 n (.inl (2, zupN (zupN (zupN (zfd 2) 0 (zR 12 n)) 1 (zR 13 n)) 2 (zR 14 n)))) 12 n a10) 13 n a10) 14 n a10 = HM (mLy n μ) := by
  have e0 : mLy n μ 0 0 10 = n + 1 := by unfold mLy; rw [mu_at]
  have hz : ∀ k, k ≠ 0 → k ∈ [10, 11, 12, 13, 14] → ∀ j, mLy n μ k n j = 0 := fun k h1 h2 j => by unfold mLy; rw [mu_g h1, mzs_z h2]
  have hbd : ∀ c, c ≠ 10 → zbd (mLy n μ) c = zbd μ c := fun c hc => by
    unfold mLy
    rw [show (10 : Int) = ((10 : Nat) : Int) from rfl, zbd_mu (by decide), if_neg hc]
    exact zbd_congr (fun a b => by rw [mzs_g (by decide)]) c
  have hbd10 : zbd (mLy n μ) 10 = zbd μ 10 + 1 := by
    show mLy n μ 0 0 10 = μ 0 0 10 + 1
    rw [e0, hn]
  have hb10 : zbd μ 10 = n := hn
  have arr : ∀ k, k ∈ [12, 13, 14] → HM (mLy n μ) k n = some a10 := fun k hk => by
    have e : zkl zKA k = some (.int, 10, 10) := by
      have : k = 12 ∨ k = 13 ∨ k = 14 := by simpa using hk
      rcases this with rfl | rfl | rfl <;> rfl
    unfold HM
    rw [e]
    show (if 0 ≤ n ∧ n < zbd (mLy n μ) 10 then _ else none) = _
    rw [if_pos ⟨h0, by omega⟩]
    have e2 : (fun j => zel FieldType.int (mLy n μ k n j)) = fun _ => zI 0 := by
      funext j
      rw [hz k (by have : k = 12 ∨ k = 13 ∨ k = 14 := by simpa using hk
                   omega) (by have : k = 12 ∨ k = 13 ∨ k = 14 := by simpa using hk
                              rcases this with rfl | rfl | rfl <;> decide)]
      rfl
    rw [e2]
  funext k i
  refine zset_pt (arr 14 (by decide)) fun n14 => zset_pt (arr 13 (by decide)) fun n13 => zset_pt (arr 12 (by decide)) fun n12 => zset_pt ?_ fun n11 => zset_pt ?_ fun n10 => zset_pt ?_ fun n3 => ?_
  · have e : HM (mLy n μ) 11 n = some (.inl (2, zfl (mLy n μ) 11 n)) := if_pos ⟨h0, by show n < mLy n μ 0 0 10; omega⟩
    rw [e]
    have e2 : zfl (mLy n μ) 11 n = zupN (zupN (zupN (zfd 2) 0 (zR 12 n)) 1 (zR 13 n)) 2 (zR 14 n) := by
      funext s
      match s with
      | 0 => rfl
      | 1 => rfl
      | 2 => rfl
      | s + 3 =>
        show zI (mLy n μ 11 n _) = _
        rw [hz 11 (by decide) (by decide), zupN_n (by omega), zupN_n (by omega), zupN_n (by omega)]
        rfl
    rw [e2]
  · have e : HM (mLy n μ) 10 n = some (.inl (5, zfl (mLy n μ) 10 n)) := if_pos ⟨h0, by show n < mLy n μ 0 0 10; omega⟩
    rw [e]
    have e2 : zfl (mLy n μ) 10 n = zupN (zupN (zfd 5) 0 (zR 11 n)) 1 (zI 0) := by
      funext s
      match s with
      | 0 => rfl
      | 1 =>
        show zI (mLy n μ 10 n _) = _
        rw [hz 10 (by decide) (by decide)]
        rfl
      | s + 2 =>
        show zI (mLy n μ 10 n _) = _
        rw [hz 10 (by decide) (by decide), zupN_n (by omega), zupN_n (by omega)]
        rfl
    rw [e2]
  · have e : HM (mLy n μ) 3 0 = some (.inr (.object (zcn 5), 24, zoA 10 (mLy n μ 0 0 10))) := rfl
    rw [e, e0]
    rw [zoA_s h0]
  · refine HM_same (fun t m c hc => ?_) (fun c m hc => ?_) (fun c m e hc hi => ?_) (fun hk _ => ?_) (fun hk => ?_) (fun hk => ?_) (fun hk j => ?_)
    · by_cases h1 : c = 10
      · subst h1
        have := kA_10 hc
        rw [hbd10]
        omega
      · rw [hbd c h1]
    · by_cases h1 : m = 10
      · subst h1
        have := kO_10 hc
        rw [hbd10]
        omega
      · rw [hbd m h1]
    · by_cases h1 : e = 10
      · subst h1
        exact absurd ⟨kB_10 hc, hi⟩ n3
      · unfold mLy
        rw [mu_j (by omega), mzs_g (by decide)]
    · unfold mLy
      rw [mu_j (by decide), mzs_g (by decide)]
    · unfold mLy
      rw [mu_i (by decide), mzs_g (by decide)]
    · unfold mLy
      rw [mu_i (by decide), mzs_g (by decide), mu_j (by decide), mzs_g (by decide)]
      exact ⟨rfl, Iff.rfl⟩
    · unfold mLy
      rw [mu_g hk]
      by_cases hk2 : k ∈ [10, 11, 12, 13, 14]
      · rw [mzs_i]
        have : k = 10 ∨ k = 11 ∨ k = 12 ∨ k = 13 ∨ k = 14 := by simpa using hk2
        omega
      · rw [mzs_g hk2]
end ZDC
