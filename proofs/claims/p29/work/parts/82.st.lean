/-! ===== the law: from its first call to its end ===== -/
section ZPL1
variable {Q : ZO → ZH → Prop} {i j n : Int} {u u' : ZV} {μ ν : ZU}
theorem nk0 : ¬ kall (Int64.ofInt (0 + 256 * 0 + 65536 * 0)) 0 6 := fun z => by
  have e : klen (Int64.ofInt (0 + 256 * 0 + 65536 * 0)) = 0 := by decide +kernel
  have := z.1.1
  omega
theorem st_i {ck sk : Nat} {k : Int} {u16 u17 u18 u19 u20 u21 u22 u23 u24 : ZV} (h0 : 0 ≤ k) (h1 : k < 4) : G 111 235 [zR 1 0, zR 2 0, zR 101 0, zR 102 0, zR 103 0, zR 104 0, zR 105 0, zR 106 0, zR 107 0, zR 108 0, zR 109 0, zR 110 0, zR 111 0, zR 112 0, zI 1, zI k, u16, u17, u18, u19, u20, u21, u22, u23, u24] [] (HM μ) ck sk Q ↔ G 111 235 [zR 1 0, zR 2 0, zR 101 0, zR 102 0, zR 103 0, zR 104 0, zR 105 0, zR 106 0, zR 107 0, zR 108 0, zR 109 0, zR 110 0, zR 111 0, zR 112 0, zI 1, zI (k + 1), u16, u17, u18, u19, u20, u21, u22, u23, u24] [] (HM (mu μ 106 0 (6 + k) k)) ck sk Q := by
  rw [g111_235]
  simp (disch := first | omega | (simp (disch := decide) only [zmu0, mu_g, List.length_nil, List.length_cons]; omega)) only [g111_237, g111_238, g111_241, g111_243, g111_245, g111_247, g111_248, g111_250, g111_251, g111_254, rd106, wr106, Nat.sub_zero, Int.reduceSub, Int.reduceAdd, Int.add_zero, Int.zero_add, Int.cast_ofNat_Int, Bool.false_eq_true, decide_true, decide_false, zbndI, zbwI, zbzI, zb1I, zoA_at, gback_v, gback_n, zem, zisr, zro_at, zrl_at, mu_g, mu_at, mu_mu, mu_self, not_true, not_false_iff, zb0, zb1, zbnd, zbw, zbz, zne1, zone, mrgI, List.length_nil, List.length_cons, Nat.reduceAdd, Nat.reduceSub, Nat.reduceLeDiff, Nat.zero_le, and_true, true_and, false_and, and_false, true_or, or_true, false_or, or_false, G_ite, z10, z1n, z1and, z1or, z0not, z0and, itn, if_true, if_false, reduceIte, Int.reduceEq, Int.reduceLT, Int.reduceNeg, Nat.reduceEqDiff, ite_self, h1]
theorem st_e {ck sk : Nat} {u16 u17 u18 u19 u20 u21 u22 u23 u24 : ZV} : G 111 235 [zR 1 0, zR 2 0, zR 101 0, zR 102 0, zR 103 0, zR 104 0, zR 105 0, zR 106 0, zR 107 0, zR 108 0, zR 109 0, zR 110 0, zR 111 0, zR 112 0, zI 1, zI (0 + 1 + 1 + 1 + 1), u16, u17, u18, u19, u20, u21, u22, u23, u24] [] (HM μ) ck sk Q ↔ G 111 260 [zR 1 0, zR 2 0, zR 101 0, zR 102 0, zR 103 0, zR 104 0, zR 105 0, zR 106 0, zR 107 0, zR 108 0, zR 109 0, zR 110 0, zR 111 0, zR 112 0, zI 1, zI 0, u16, u17, u18, u19, u20, u21, u22, u23, u24] [] (HM μ) ck sk Q := by
  rw [g111_235]
  simp (disch := first | omega | (simp (disch := decide) only [zmu0, mu_g, List.length_nil, List.length_cons]; omega)) only [g111_237, g111_238, g111_257, g111_258, Nat.sub_zero, Int.reduceSub, Int.reduceAdd, Int.add_zero, Int.zero_add, Int.cast_ofNat_Int, Bool.false_eq_true, decide_true, decide_false, zbndI, zbwI, zbzI, zb1I, zoA_at, gback_v, gback_n, zem, zisr, zro_at, zrl_at, mu_g, mu_at, mu_mu, mu_self, not_true, not_false_iff, zb0, zb1, zbnd, zbw, zbz, zne1, zone, mrgI, List.length_nil, List.length_cons, Nat.reduceAdd, Nat.reduceSub, Nat.reduceLeDiff, Nat.zero_le, and_true, true_and, false_and, and_false, true_or, or_true, false_or, or_false, G_ite, z10, z1n, z1and, z1or, z0not, z0and, itn, if_true, if_false, reduceIte, Int.reduceEq, Int.reduceLT, Int.reduceNeg, Nat.reduceEqDiff, ite_self]
theorem st_run {L : Nat} {xs : Nat → Int32} (hQ : ∀ h, Q (.inl (some (zI 1))) h) : G 111 0 [zR 1 0, zJ, zJ, zJ, zJ, zJ, zJ, zJ, zJ, zJ, zJ, zJ, zJ, zJ, zJ, zJ, zJ, zJ, zJ, zJ, zJ, zJ, zJ, zJ, zJ] [] (zSC L xs) 600104 7301314 Q := by
  refine st_77 fun ck sk hck hsk => ?_
  have z0 : ∀ j, j ≠ 50 → mI L xs 0 0 j = 0 := fun j hj => by
    show (if (0 : Nat) = 0 then (if (0 : Int) = 0 ∧ j = 50 then 1 else if (0 : Int) = 2 ∧ j = 0 then (L : Int) else 0) else _) = 0
    rw [if_pos rfl, if_neg (fun z => hj z.2), if_neg (fun z => absurd z.1 (by decide))]
  have zk : ∀ (k : Nat) (p j : Int), k ≠ 0 → k ≠ 1 → mI L xs k p j = 0 := fun k p j h0 h1 => by
    show (if k = 0 then _ else if k = 1 then _ else 0) = 0
    rw [if_neg h0, if_neg h1]
  obtain ⟨W, hW⟩ : ∃ W, W = 20 + prt (mI L xs) 0 120 := ⟨_, rfl⟩
  obtain ⟨H, hH⟩ : ∃ H, H = 3 + prt (mu (mI L xs) 106 0 10 W) 1 10 := ⟨_, rfl⟩
  have bW := prt_b (μ := mI L xs) (k := 0) (m := 120) (by omega)
  have bH := prt_b (μ := mu (mI L xs) 106 0 10 W) (k := 1) (m := 10) (by omega)
  have e0 := fun (ck sk : Nat) (Q : ZO → ZH → Prop) (u : ZV) => c91 (μ := mI L xs) (k := 0) (m := 120) (ck := ck) (sk := sk) (Q := Q) (u := u) (by omega) (by omega) (by omega)
  have e1 := fun (ck sk : Nat) (Q : ZO → ZH → Prop) (u : ZV) => c91 (μ := mu (mI L xs) 106 0 10 W) (k := 1) (m := 10) (ck := ck) (sk := sk) (Q := Q) (u := u) (by omega) (by omega) (by omega)
  have hz := RWz_0 (L := L) (xs := xs) (W := W) (H := H) (by omega) (by omega)
  simp (disch := first | omega | (simp (disch := decide) only [zmu0, mu_g, List.length_nil, List.length_cons]; omega)) only [g111_77, g111_79, g111_81, g111_83, g111_84, g111_85, g111_87, g111_90, g111_91, rd106, wr106, e0, ← hW, Nat.sub_zero, Int.reduceSub, Int.reduceAdd, Int.add_zero, Int.zero_add, Int.cast_ofNat_Int, Bool.false_eq_true, decide_true, decide_false, zbndI, zbwI, zbzI, zb1I, zoA_at, gback_v, gback_n, zem, zisr, zro_at, zrl_at, mu_g, mu_at, mu_mu, mu_self, not_true, not_false_iff, zb0, zb1, zbnd, zbw, zbz, zne1, zone, mrgI, List.length_nil, List.length_cons, Nat.reduceAdd, Nat.reduceSub, Nat.reduceLeDiff, Nat.zero_le, and_true, true_and, false_and, and_false, true_or, or_true, false_or, or_false, G_ite, z10, z1n, z1and, z1or, z0not, z0and, itn, if_true, if_false, reduceIte, Int.reduceEq, Int.reduceLT, Int.reduceNeg, Nat.reduceEqDiff, ite_self]
  simp (disch := first | omega | (simp (disch := decide) only [zmu0, mu_g, List.length_nil, List.length_cons]; omega)) only [g111_92, g111_94, g111_96, g111_97, g111_98, g111_99, g111_101, g111_104, g111_105, rd106, wr106, e1, ← hH, Nat.sub_zero, Int.reduceSub, Int.reduceAdd, Int.add_zero, Int.zero_add, Int.cast_ofNat_Int, Bool.false_eq_true, decide_true, decide_false, zbndI, zbwI, zbzI, zb1I, zoA_at, gback_v, gback_n, zem, zisr, zro_at, zrl_at, mu_g, mu_at, mu_mu, mu_self, not_true, not_false_iff, zb0, zb1, zbnd, zbw, zbz, zne1, zone, mrgI, List.length_nil, List.length_cons, Nat.reduceAdd, Nat.reduceSub, Nat.reduceLeDiff, Nat.zero_le, and_true, true_and, false_and, and_false, true_or, or_true, false_or, or_false, G_ite, z10, z1n, z1and, z1or, z0not, z0and, itn, if_true, if_false, reduceIte, Int.reduceEq, Int.reduceLT, Int.reduceNeg, Nat.reduceEqDiff, ite_self]
  have eM : mu (mu (mI L xs) 106 0 10 W) 106 0 11 H = mS1 W H (mI L xs) := rfl
  rw [eM]
  have m : ∀ q : Nat, q ≠ 106 → mS1 W H (mI L xs) q = mI L xs q := fun q hq => by
    unfold mS1
    rw [mu_g hq, mu_g hq]
  have m10 : mS1 W H (mI L xs) 106 0 10 = W := by
    unfold mS1
    rw [mu_j (by decide), mu_at]
  have m11 : mS1 W H (mI L xs) 106 0 11 = H := by
    unfold mS1
    rw [mu_at]
  have d1 : ∀ (Q : ZO → ZH → Prop) (u : ZV), G 92 0 [zR 2 0, zI 18, zI 19, zI 3, zI 0, zI 0, u] [] (HM (mS1 W H (mI L xs))) 13 406 Q ↔ Q (.inl (some (zI (-2000)))) (HM (mS1 W H (mI L xs))) := fun Q u => by
    rw [w92_18, c53_x (by omega), x92_18_0]
  have d2 : ∀ (Q : ZO → ZH → Prop) (u : ZV), G 92 0 [zR 2 0, zI 18, zI 20, zI 13, zI 0, zI 0, u] [] (HM (mS1 W H (mI L xs))) 13 406 Q ↔ Q (.inl (some (zI (-2000)))) (HM (mS1 W H (mI L xs))) := fun Q u => by
    rw [w92_18, c53_x (by omega), x92_18_0]
  have d3 : ∀ (Q : ZO → ZH → Prop) (u : ZV), G 92 0 [zR 2 0, zI 13, zI 0, zI 0, zI 0, zI 0, u] [] (HM (mS1 W H (mI L xs))) 13 406 Q ↔ Q (.inl (some (zI (-3000)))) (HM (mS1 W H (mI L xs))) := fun Q u => by
    rw [w92_13, c61_2 (by rw [m 0 (by decide), z0 30 (by decide)]; omega) (by rw [m 0 (by decide), z0 20 (by decide)]; omega) (by omega) (by rw [m 0 (by decide), z0 30 (by decide)]; omega), x92_13_1]
  have d4 : ∀ (Q : ZO → ZH → Prop) (u : ZV), G 92 0 [zR 2 0, zI 5, zI 0, zI 0, zI 0, zI 0, u] [] (HM (mS1 W H (mI L xs))) 13 406 Q ↔ Q (.inl (some (zI (-2000)))) (HM (mS1 W H (mI L xs))) := fun Q u => by
    rw [w92_5, c49_1 (by rw [m 2 (by decide), zk 2 0 6 (by decide) (by decide)]; exact nk0), x92_5_0]
  have k1 : 13 ≤ ck := by omega
  have s1 : 406 ≤ sk := by omega
  have k2 : 13 ≤ ck - 13 := Nat.le_sub_of_add_le (by omega)
  have s2 : 406 ≤ sk - 406 := Nat.le_sub_of_add_le (by omega)
  have k3 : 13 ≤ ck - 13 - 13 := Nat.le_sub_of_add_le (Nat.le_sub_of_add_le (by omega))
  have s3 : 406 ≤ sk - 406 - 406 := Nat.le_sub_of_add_le (Nat.le_sub_of_add_le (by omega))
  have k4 : 13 ≤ ck - 13 - 13 - 13 := Nat.le_sub_of_add_le (Nat.le_sub_of_add_le (Nat.le_sub_of_add_le (by omega)))
  have s4 : 406 ≤ sk - 406 - 406 - 406 := Nat.le_sub_of_add_le (Nat.le_sub_of_add_le (Nat.le_sub_of_add_le (by omega)))
  have k5 : 13 ≤ ck - 13 - 13 - 13 - 13 := Nat.le_sub_of_add_le (Nat.le_sub_of_add_le (Nat.le_sub_of_add_le (Nat.le_sub_of_add_le (by omega))))
  have s5 : 406 ≤ sk - 406 - 406 - 406 - 406 := Nat.le_sub_of_add_le (Nat.le_sub_of_add_le (Nat.le_sub_of_add_le (Nat.le_sub_of_add_le (by omega))))
  have k6 : 13 ≤ ck - 13 - 13 - 13 - 13 - 13 := Nat.le_sub_of_add_le (Nat.le_sub_of_add_le (Nat.le_sub_of_add_le (Nat.le_sub_of_add_le (Nat.le_sub_of_add_le (by omega)))))
  have s6 : 406 ≤ sk - 406 - 406 - 406 - 406 - 406 := Nat.le_sub_of_add_le (Nat.le_sub_of_add_le (Nat.le_sub_of_add_le (Nat.le_sub_of_add_le (Nat.le_sub_of_add_le (by omega)))))
  have k7 : 13 ≤ ck - 13 - 13 - 13 - 13 - 13 - 13 := Nat.le_sub_of_add_le (Nat.le_sub_of_add_le (Nat.le_sub_of_add_le (Nat.le_sub_of_add_le (Nat.le_sub_of_add_le (Nat.le_sub_of_add_le (by omega))))))
  have s7 : 406 ≤ sk - 406 - 406 - 406 - 406 - 406 - 406 := Nat.le_sub_of_add_le (Nat.le_sub_of_add_le (Nat.le_sub_of_add_le (Nat.le_sub_of_add_le (Nat.le_sub_of_add_le (Nat.le_sub_of_add_le (by omega))))))
  simp (disch := first | omega | (simp (disch := decide) only [zmu0, mu_g, List.length_nil, List.length_cons]; omega)) only [g111_106, g111_107, g111_109, g111_111, g111_112, g111_113, g111_114, g111_117, g111_120, g111_123, g111_124, g111_126, g111_128, g111_130, g111_131, g111_132, g111_135, g111_138, g111_141, g111_142, g111_144, g111_145, g111_146, g111_147, g111_148, g111_151, g111_154, g111_157, g111_158, g111_159, g111_160, g111_161, g111_162, g111_163, g111_166, g111_169, g111_172, g111_173, g111_175, g111_177, g111_179, g111_180, g111_182, g111_184, g111_185, g111_186, rd106, wr106, d1, d2, d3, d4, m10, m11, Nat.sub_zero, Int.reduceSub, Int.reduceAdd, Int.add_zero, Int.zero_add, Int.cast_ofNat_Int, Bool.false_eq_true, decide_true, decide_false, zbndI, zbwI, zbzI, zb1I, zoA_at, gback_v, gback_n, zem, zisr, zro_at, zrl_at, mu_g, mu_at, mu_mu, mu_self, not_true, not_false_iff, zb0, zb1, zbnd, zbw, zbz, zne1, zone, mrgI, List.length_nil, List.length_cons, Nat.reduceAdd, Nat.reduceSub, Nat.reduceLeDiff, Nat.zero_le, and_true, true_and, false_and, and_false, true_or, or_true, false_or, or_false, G_ite, z10, z1n, z1and, z1or, z0not, z0and, itn, if_true, if_false, reduceIte, Int.reduceEq, Int.reduceLT, Int.reduceNeg, Nat.reduceEqDiff, ite_self, k1, k2, k3, k4, s1, s2, s3, s4, eq_self]
  rw [g111_187]
  refine ⟨⟨k5, s5, by decide, trivial⟩, ?_⟩
  rw [w92_18]
  refine c53 (n := 0) (by omega) (by omega) (by rw [m 2 (by decide)]; exact zk 2 0 8 (by decide) (by decide)) (by rw [m 0 (by decide)]; exact z0 30 (by decide)) (by omega) (by omega) ?_
  have eD : mDc 0 W H (mu (mS1 W H (mI L xs)) 2 0 8 (0 + 1)) = mS2 W H (mI L xs) := rfl
  rw [eD, v92_18, gback_v]
  have n0 : ∀ j, j ≠ 30 → mS2 W H (mI L xs) 0 0 j = mI L xs 0 0 j := fun j hj => by
    unfold mS2
    show (if (0 : Nat) = 0 then (if (0 : Int) = 0 ∧ j = 30 then 0 + 1 else mu (mS1 W H (mI L xs)) 2 0 8 1 0 0 j) else _) = _
    rw [if_pos rfl, if_neg (fun z => hj z.2), mu_g (by decide), m 0 (by decide)]
  have n30 : mS2 W H (mI L xs) 0 0 30 = 1 := rfl
  have n308 : mS2 W H (mI L xs) 30 0 8 = 0 ∧ mS2 W H (mI L xs) 30 0 9 = 0 ∧ mS2 W H (mI L xs) 30 0 10 = 0 := ⟨rfl, rfl, rfl⟩
  have d5 : ∀ (Q : ZO → ZH → Prop) (u : ZV), G 92 0 [zR 2 0, zI 11, zI 0, zI 0, zI 0, zI 0, u] [] (HM (mS2 W H (mI L xs))) 13 406 Q ↔ Q (.inl (some (zI (-3000)))) (HM (mS2 W H (mI L xs))) := fun Q u => by
    rw [w92_11, c58 (by rw [n30]; omega) (fun _ _ => by rw [n308.1, n308.2.1, n308.2.2]; omega), n308.1, if_neg (by omega), x92_11_1]
  have d6 : ∀ (Q : ZO → ZH → Prop) (u : ZV), G 92 0 [zR 2 0, zI 15, zI 0, zI 0, zI 0, zI 0, u] [] (HM (mS2 W H (mI L xs))) 13 406 Q ↔ Q (.inl (some (zI (-3000)))) (HM (mS2 W H (mI L xs))) := fun Q u => by
    rw [w92_15, c63 (by unfold jobOK; rw [n0 40 (by decide), z0 40 (by decide)]; exact ⟨by omega, fun j _ _ => by omega⟩) (by unfold bldOK; rw [n0 41 (by decide), z0 41 (by decide), n0 50 (by decide)]; exact ⟨⟨by omega, by omega, rfl⟩, fun j _ _ => by omega⟩), n0 40 (by decide), z0 40 (by decide), if_neg (by omega), x92_15_1]
  have K0 : 400000 ≤ ck - 13 - 13 - 13 - 13 - 13 := Nat.le_sub_of_add_le (Nat.le_sub_of_add_le (Nat.le_sub_of_add_le (Nat.le_sub_of_add_le (Nat.le_sub_of_add_le (by omega)))))
  have S0 : 7000000 ≤ sk - 406 - 406 - 406 - 406 - 406 := Nat.le_sub_of_add_le (Nat.le_sub_of_add_le (Nat.le_sub_of_add_le (Nat.le_sub_of_add_le (Nat.le_sub_of_add_le (by omega)))))
  clear k1 k2 k3 k4 k5 k6 k7 s1 s2 s3 s4 s5 s6 s7 hck hsk
  generalize ck - 13 - 13 - 13 - 13 - 13 = c at K0 ⊢
  generalize sk - 406 - 406 - 406 - 406 - 406 = s at S0 ⊢
  have k6 : 13 ≤ c := by omega
  have k7 : 13 ≤ c - 13 := by omega
  have s6 : 406 ≤ s := by omega
  have s7 : 406 ≤ s - 406 := by omega
  have eS : mu (mu (mu (mu (mS2 W H (mI L xs)) 106 0 (6 + 0) 0) 106 0 (6 + (0 + 1)) (0 + 1)) 106 0 (6 + (0 + 1 + 1)) (0 + 1 + 1)) 106 0 (6 + (0 + 1 + 1 + 1)) (0 + 1 + 1 + 1) = mS3 W H (mI L xs) := rfl
  clear e0 e1 d1 d2 d3 d4 m m10 m11 eM eD n0 n30 n308 z0 zk
  generalize mS2 W H (mI L xs) = N at d5 d6 eS ⊢
  simp (disch := first | omega | (simp (disch := decide) only [zmu0, mu_g, List.length_nil, List.length_cons]; omega)) only [g111_190, g111_193, g111_194, g111_196, g111_197, g111_198, g111_199, g111_200, g111_203, g111_206, g111_209, g111_210, g111_212, g111_213, g111_214, g111_215, g111_216, g111_219, g111_222, g111_225, g111_226, g111_229, g111_230, g111_232, Nat.sub_zero, Int.reduceSub, Int.reduceAdd, Int.add_zero, Int.zero_add, Int.cast_ofNat_Int, Bool.false_eq_true, decide_true, decide_false, zbndI, zbwI, zbzI, zb1I, zoA_at, gback_v, gback_n, zem, zisr, zro_at, zrl_at, mu_g, mu_at, mu_mu, mu_self, not_true, not_false_iff, zb0, zb1, zbnd, zbw, zbz, zne1, zone, mrgI, List.length_nil, List.length_cons, Nat.reduceAdd, Nat.reduceSub, Nat.reduceLeDiff, Nat.zero_le, and_true, true_and, false_and, and_false, true_or, or_true, false_or, or_false, G_ite, z10, z1n, z1and, z1or, z0not, z0and, itn, if_true, if_false, reduceIte, Int.reduceEq, Int.reduceLT, Int.reduceNeg, Nat.reduceEqDiff, ite_self, d5, d6, k6, k7, s6, s7, eq_self]
  rw [g111_233, st_i (by decide) (by decide), st_i (by decide) (by decide), st_i (by decide) (by decide), st_i (by decide) (by decide), st_e]
  rw [eS, c111_H (by omega) (by omega)]
  have ew : wht (mS3 W H (mI L xs)) 0 = 0 := rfl
  have b1 := prt_b (μ := mS3 W H (mI L xs)) (k := 3 * 0 + 1) (m := 60000) (by omega)
  have b2 := prt_b (μ := mS3 W H (mI L xs)) (k := 3 * 0 + 2) (m := 60000) (by omega)
  rw [ew]
  generalize prt (mS3 W H (mI L xs)) (3 * 0 + 1) 60000 = a at *
  generalize prt (mS3 W H (mI L xs)) (3 * 0 + 2) 60000 = b at *
  rw [g111_357]
  simp (disch := first | omega | (simp (disch := decide) only [zmu0, mu_g, List.length_nil, List.length_cons]; omega)) only [g111_359, g111_361, g111_364, g111_365, g111_366, g111_367, g111_369, g111_371, g111_373, g111_376, g111_378, g111_381, g111_382, g111_384, Nat.sub_zero, Int.reduceSub, Int.reduceAdd, Int.add_zero, Int.zero_add, Int.cast_ofNat_Int, Bool.false_eq_true, decide_true, decide_false, zbndI, zbwI, zbzI, zb1I, zoA_at, gback_v, gback_n, zem, zisr, zro_at, zrl_at, mu_g, mu_at, mu_mu, mu_self, not_true, not_false_iff, zb0, zb1, zbnd, zbw, zbz, zne1, zone, mrgI, List.length_nil, List.length_cons, Nat.reduceAdd, Nat.reduceSub, Nat.reduceLeDiff, Nat.zero_le, and_true, true_and, false_and, and_false, true_or, or_true, false_or, or_false, G_ite, z10, z1n, z1and, z1or, z0not, z0and, itn, if_true, if_false, reduceIte, Int.reduceEq, Int.reduceLT, Int.reduceNeg, Nat.reduceEqDiff, ite_self]
  rw [g111_386]
  refine ⟨⟨by omega, by omega, by decide, trivial⟩, ?_⟩
  refine c106_0 hz (by omega) b1.1 b2.1 fun ν hν => ?_
  rw [gback_v]
  simp (disch := first | omega | (simp (disch := decide) only [zmu0, mu_g, List.length_nil, List.length_cons]; omega)) only [g111_389, g111_391, Nat.sub_zero, Int.reduceSub, Int.reduceAdd, Int.add_zero, Int.zero_add, Int.cast_ofNat_Int, Bool.false_eq_true, decide_true, decide_false, zbndI, zbwI, zbzI, zb1I, zoA_at, gback_v, gback_n, zem, zisr, zro_at, zrl_at, mu_g, mu_at, mu_mu, mu_self, not_true, not_false_iff, zb0, zb1, zbnd, zbw, zbz, zne1, zone, mrgI, List.length_nil, List.length_cons, Nat.reduceAdd, Nat.reduceSub, Nat.reduceLeDiff, Nat.zero_le, and_true, true_and, false_and, and_false, true_or, or_true, false_or, or_false, G_ite, z10, z1n, z1and, z1or, z0not, z0and, itn, if_true, if_false, reduceIte, Int.reduceEq, Int.reduceLT, Int.reduceNeg, Nat.reduceEqDiff, ite_self]
  refine c111_T hν b1.1 (by omega) (by omega) (by omega) fun v16 v17 v18 v19 v20 v21 v22 v23 v24 ck'' sk'' h3 h4 => ?_
  exact lp hQ 63 (0 + 1) ν ck'' sk'' _ _ _ _ _ _ _ _ _ hν (by omega) (by omega) (by omega) (by omega)
end ZPL1
