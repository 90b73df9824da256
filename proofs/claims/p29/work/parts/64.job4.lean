/-! ===== the law: isJob, its beginning ===== -/
section ZPU
variable {ck sk : Nat} {Q : ZO → ZH → Prop} {μ ν κ β M : ZU} {a b c d e f g h i j k l m n o p r s t t' v w x y z L H R W C J B K : Int} {u u1 u2 u3 u4 u5 u6 u7 u8 u9 u10 u11 : ZV}
theorem pnN_l {pe : Int → Int} : ∀ (n : Nat) (k en : Int) (S : Int × (Int → Int)), j < k → (pnN pe n k en S).2 j = S.2 j
  | 0, k, en, S, h => rfl
  | n + 1, k, en, S, h => by
    unfold pnN
    split
    · rw [pnN_l n (k + 1) _ _ (by omega)]
      exact zui_n (by omega)
    · rw [pnN_l n (k + 1) _ _ (by omega)]
      exact zui_n (by omega)
theorem pNm_0 {I : ZIn} {sh : Int → Int} : (pNm I sh).2 0 = 0 := by
  unfold pNm
  generalize (pLn I sh).1.toNat = n
  match n with
  | 0 => rfl
  | n + 1 =>
    unfold pnN
    rw [if_pos rfl, pnN_l n _ _ _ (by omega)]
    show zui z0f 0 0 0 = 0
    exact zui_at
/-- what the law finds before it sets -/
theorem c105_0 (h : RW μ t) (hb : 0 ≤ b) (ho : 0 ≤ a ∧ a % 5 < 4) (hi : b % (μ 106 0 1 + 1) < μ 0 0 20) (hA : 0 < μ 20 (b % (μ 106 0 1 + 1)) 3) : G 105 0 [zR 2 0, zR 101 0, zR 103 0, zR 104 0, zR 105 0, zR 106 0, zR 107 0, zR 108 0, zR 109 0, zR 110 0, zR 111 0, zR 112 0, zI a, zI b, u1, u2, u3, u4, u5, u6, u7, u8, u9, u10, u11] [] (HM μ) ck sk Q ↔ G 105 121 [zR 2 0, zR 101 0, zR 103 0, zR 104 0, zR 105 0, zR 106 0, zR 107 0, zR 108 0, zR 109 0, zR 110 0, zR 111 0, zR 112 0, zI a, zI b, zI (a % 5), zI (b % (μ 106 0 1 + 1)), zI 1, zI 1, u5, u6, u7, u8, u9, u10, u11] [] (HM μ) ck sk Q := by
  have ha := h.2.1.2.1
  have hm := Int.emod_nonneg b (b := μ 106 0 1 + 1) (by omega)
  have hi' : b % (μ 106 0 1 + 1) < μ 106 0 1 := by omega
  have hc := (h.2.2.2.1.1 _ hm hi).1.1
  have hc2 : 0 < μ 103 0 (4 * (b % (μ 106 0 1 + 1))) := by omega
  have ho2 := ho.2
  simp (disch := first | omega | (simp (disch := decide) only [zmu0, mu_g, List.length_nil, List.length_cons]; omega)) only [g105_0, g105_2, g105_3, g105_4, g105_6, g105_8, g105_10, g105_11, g105_12, g105_13, g105_14, g105_15, g105_17, g105_19, g105_21, g105_22, g105_23, g105_26, g105_27, g105_30, g105_31, g105_33, g105_35, g105_36, g105_39, g105_41, g105_44, g105_45, g105_46, g105_48, g105_51, g105_53, g105_56, g105_57, g105_58, g105_59, g105_62, g105_63, g105_66, g105_67, g105_69, g105_71, rd103, wr103, rd106, wr106, Nat.sub_zero, Int.reduceSub, Int.reduceAdd, Int.add_zero, Int.zero_add, Int.cast_ofNat_Int, Bool.false_eq_true, decide_true, decide_false, zbndI, zbwI, zbzI, zb1I, zoA_at, gback_v, gback_n, zem, zisr, zro_at, zrl_at, mu_g, mu_at, mu_mu, mu_self, not_true, not_false_iff, zb0, zb1, zbnd, zbw, zbz, zne1, zone, mrgI, List.length_nil, List.length_cons, Nat.reduceAdd, Nat.reduceSub, Nat.reduceLeDiff, Nat.zero_le, and_true, true_and, false_and, and_false, true_or, or_true, false_or, or_false, G_ite, z10, z1n, z1and, z1or, z0not, z0and, itn, if_true, if_false, reduceIte, Int.reduceEq, Int.reduceLT, Int.reduceNeg, Nat.reduceEqDiff, ite_self, hi', hc2, ho2]
theorem c105_x (h : RW μ t) (ht : t + 1 ≤ 100) (ha : 0 ≤ a) (hb : 0 ≤ b) (hn : ¬ (a % 5 < 4 ∧ b % (μ 106 0 1 + 1) < μ 0 0 20 ∧ 0 < μ 20 (b % (μ 106 0 1 + 1)) 3)) (hK : ∀ ν, RW ν (t + 1) → Q (.inl (some (zI 1))) (HM ν)) : G 105 0 [zR 2 0, zR 101 0, zR 103 0, zR 104 0, zR 105 0, zR 106 0, zR 107 0, zR 108 0, zR 109 0, zR 110 0, zR 111 0, zR 112 0, zI a, zI b, u1, u2, u3, u4, u5, u6, u7, u8, u9, u10, u11] [] (HM μ) 2100 21000 Q := by
  have ha2 := h.2.1.2.1
  have ha3 := h.2.1.2.2.1
  have hr := RW_up h ht
  have hm := Int.emod_nonneg b (b := μ 106 0 1 + 1) (by omega)
  have hm2 := Int.emod_lt_of_pos b (b := μ 106 0 1 + 1) (by omega)
  have h40 := h.2.1.2.2.2.1
  by_cases ho : a % 5 < 4
  · have ho4 : ¬ a % 5 = 4 := by omega
    by_cases hi : b % (μ 106 0 1 + 1) < μ 0 0 20
    · have hi' : b % (μ 106 0 1 + 1) < μ 106 0 1 := by omega
      have hc := (h.2.2.2.1.1 _ hm hi).1
      have hz : μ 20 (b % (μ 106 0 1 + 1)) 3 = 0 := by
        have : ¬ 0 < μ 20 (b % (μ 106 0 1 + 1)) 3 := fun z => hn ⟨ho, hi, z⟩
        omega
      have hz2 : ¬ 0 < μ 103 0 (4 * (b % (μ 106 0 1 + 1))) := by omega
      have e61 := fun (Q : ZO → ZH → Prop) (u1 u2 u3 : ZV) => c61_3 (μ := μ) (a := a % 5) (d := 0) (i := b % (μ 106 0 1 + 1)) (Q := Q) (u1 := u1) (u2 := u2) (u3 := u3) (by omega) (by omega) (by omega) (by omega) ⟨hm, hi⟩ (Or.inl hz)
      simp (disch := first | omega | (simp (disch := decide) only [zmu0, mu_g, List.length_nil, List.length_cons]; omega)) only [g105_0, g105_2, g105_3, g105_4, g105_6, g105_8, g105_10, g105_11, g105_12, g105_13, g105_14, g105_15, g105_17, g105_19, g105_21, g105_22, g105_23, g105_26, g105_27, g105_30, g105_31, g105_33, g105_35, g105_36, g105_39, g105_41, g105_44, g105_45, g105_46, g105_48, g105_51, g105_53, g105_56, g105_57, g105_58, g105_59, g105_62, g105_63, g105_66, g105_67, g105_69, g105_71, g105_74, g105_75, g105_77, g105_79, g105_80, g105_82, g105_83, g105_86, g105_88, g105_89, g105_92, g105_95, g105_98, g105_100, g105_103, g105_106, g105_109, g105_112, g105_115, g105_116, g105_119, g105_120, rd103, wr103, rd106, wr106, w92_13, x92_13_0, x92_13_1, x92_13_2, g92_251, g92_327, e61, Nat.sub_zero, Int.reduceSub, Int.reduceAdd, Int.add_zero, Int.zero_add, Int.cast_ofNat_Int, Bool.false_eq_true, decide_true, decide_false, zbndI, zbwI, zbzI, zb1I, zoA_at, gback_v, gback_n, zem, zisr, zro_at, zrl_at, mu_g, mu_at, mu_mu, mu_self, not_true, not_false_iff, zb0, zb1, zbnd, zbw, zbz, zne1, zone, mrgI, List.length_nil, List.length_cons, Nat.reduceAdd, Nat.reduceSub, Nat.reduceLeDiff, Nat.zero_le, and_true, true_and, false_and, and_false, true_or, or_true, false_or, or_false, G_ite, z10, z1n, z1and, z1or, z0not, z0and, itn, if_true, if_false, reduceIte, Int.reduceEq, Int.reduceLT, Int.reduceNeg, Nat.reduceEqDiff, ite_self, hi', hz2, ho, ho4, eq_self]
      exact hK _ hr
    · have hi' : ¬ b % (μ 106 0 1 + 1) < μ 106 0 1 := by omega
      have e61 := fun (Q : ZO → ZH → Prop) (u1 u2 u3 : ZV) => c61_2 (μ := μ) (a := a % 5) (d := 0) (i := b % (μ 106 0 1 + 1)) (Q := Q) (u1 := u1) (u2 := u2) (u3 := u3) (by omega) (by omega) (by omega) (fun z => hi z.2.2)
      simp (disch := first | omega | (simp (disch := decide) only [zmu0, mu_g, List.length_nil, List.length_cons]; omega)) only [g105_0, g105_2, g105_3, g105_4, g105_6, g105_8, g105_10, g105_11, g105_12, g105_13, g105_14, g105_15, g105_17, g105_19, g105_21, g105_22, g105_23, g105_26, g105_27, g105_30, g105_31, g105_33, g105_35, g105_36, g105_39, g105_41, g105_44, g105_45, g105_46, g105_48, g105_51, g105_53, g105_56, g105_57, g105_58, g105_59, g105_62, g105_63, g105_66, g105_67, g105_69, g105_71, g105_74, g105_75, g105_77, g105_79, g105_80, g105_82, g105_83, g105_86, g105_88, g105_89, g105_92, g105_95, g105_98, g105_100, g105_103, g105_106, g105_109, g105_112, g105_115, g105_116, g105_119, g105_120, rd103, wr103, rd106, wr106, w92_13, x92_13_0, x92_13_1, x92_13_2, g92_251, g92_327, e61, Nat.sub_zero, Int.reduceSub, Int.reduceAdd, Int.add_zero, Int.zero_add, Int.cast_ofNat_Int, Bool.false_eq_true, decide_true, decide_false, zbndI, zbwI, zbzI, zb1I, zoA_at, gback_v, gback_n, zem, zisr, zro_at, zrl_at, mu_g, mu_at, mu_mu, mu_self, not_true, not_false_iff, zb0, zb1, zbnd, zbw, zbz, zne1, zone, mrgI, List.length_nil, List.length_cons, Nat.reduceAdd, Nat.reduceSub, Nat.reduceLeDiff, Nat.zero_le, and_true, true_and, false_and, and_false, true_or, or_true, false_or, or_false, G_ite, z10, z1n, z1and, z1or, z0not, z0and, itn, if_true, if_false, reduceIte, Int.reduceEq, Int.reduceLT, Int.reduceNeg, Nat.reduceEqDiff, ite_self, hi', ho, ho4, eq_self]
      exact hK _ hr
  · have ho4 : a % 5 = 4 := by omega
    have e61 := fun (Q : ZO → ZH → Prop) (u1 u2 u3 : ZV) => c61_1 (μ := μ) (a := 4) (d := 0) (i := b % (μ 106 0 1 + 1)) (Q := Q) (u1 := u1) (u2 := u2) (u3 := u3) (by omega)
    by_cases hi : b % (μ 106 0 1 + 1) < μ 0 0 20
    · have hi' : b % (μ 106 0 1 + 1) < μ 106 0 1 := by omega
      simp (disch := first | omega | (simp (disch := decide) only [zmu0, mu_g, List.length_nil, List.length_cons]; omega)) only [g105_0, g105_2, g105_3, g105_4, g105_6, g105_8, g105_10, g105_11, g105_12, g105_13, g105_14, g105_15, g105_17, g105_19, g105_21, g105_22, g105_23, g105_26, g105_27, g105_30, g105_31, g105_33, g105_35, g105_36, g105_39, g105_41, g105_44, g105_45, g105_46, g105_48, g105_51, g105_53, g105_56, g105_57, g105_58, g105_59, g105_62, g105_63, g105_66, g105_67, g105_69, g105_71, g105_74, g105_75, g105_77, g105_79, g105_80, g105_82, g105_83, g105_86, g105_88, g105_89, g105_92, g105_95, g105_98, g105_100, g105_103, g105_106, g105_109, g105_112, g105_115, g105_116, g105_119, g105_120, rd103, wr103, rd106, wr106, w92_13, x92_13_0, x92_13_1, x92_13_2, g92_251, g92_327, e61, Nat.sub_zero, Int.reduceSub, Int.reduceAdd, Int.add_zero, Int.zero_add, Int.cast_ofNat_Int, Bool.false_eq_true, decide_true, decide_false, zbndI, zbwI, zbzI, zb1I, zoA_at, gback_v, gback_n, zem, zisr, zro_at, zrl_at, mu_g, mu_at, mu_mu, mu_self, not_true, not_false_iff, zb0, zb1, zbnd, zbw, zbz, zne1, zone, mrgI, List.length_nil, List.length_cons, Nat.reduceAdd, Nat.reduceSub, Nat.reduceLeDiff, Nat.zero_le, and_true, true_and, false_and, and_false, true_or, or_true, false_or, or_false, G_ite, z10, z1n, z1and, z1or, z0not, z0and, itn, if_true, if_false, reduceIte, Int.reduceEq, Int.reduceLT, Int.reduceNeg, Nat.reduceEqDiff, ite_self, hi', ho4, Int.lt_irrefl, eq_self]
      exact hK _ hr
    · have hi' : ¬ b % (μ 106 0 1 + 1) < μ 106 0 1 := by omega
      simp (disch := first | omega | (simp (disch := decide) only [zmu0, mu_g, List.length_nil, List.length_cons]; omega)) only [g105_0, g105_2, g105_3, g105_4, g105_6, g105_8, g105_10, g105_11, g105_12, g105_13, g105_14, g105_15, g105_17, g105_19, g105_21, g105_22, g105_23, g105_26, g105_27, g105_30, g105_31, g105_33, g105_35, g105_36, g105_39, g105_41, g105_44, g105_45, g105_46, g105_48, g105_51, g105_53, g105_56, g105_57, g105_58, g105_59, g105_62, g105_63, g105_66, g105_67, g105_69, g105_71, g105_74, g105_75, g105_77, g105_79, g105_80, g105_82, g105_83, g105_86, g105_88, g105_89, g105_92, g105_95, g105_98, g105_100, g105_103, g105_106, g105_109, g105_112, g105_115, g105_116, g105_119, g105_120, rd103, wr103, rd106, wr106, w92_13, x92_13_0, x92_13_1, x92_13_2, g92_251, g92_327, e61, Nat.sub_zero, Int.reduceSub, Int.reduceAdd, Int.add_zero, Int.zero_add, Int.cast_ofNat_Int, Bool.false_eq_true, decide_true, decide_false, zbndI, zbwI, zbzI, zb1I, zoA_at, gback_v, gback_n, zem, zisr, zro_at, zrl_at, mu_g, mu_at, mu_mu, mu_self, not_true, not_false_iff, zb0, zb1, zbnd, zbw, zbz, zne1, zone, mrgI, List.length_nil, List.length_cons, Nat.reduceAdd, Nat.reduceSub, Nat.reduceLeDiff, Nat.zero_le, and_true, true_and, false_and, and_false, true_or, or_true, false_or, or_false, G_ite, z10, z1n, z1and, z1or, z0not, z0and, itn, if_true, if_false, reduceIte, Int.reduceEq, Int.reduceLT, Int.reduceNeg, Nat.reduceEqDiff, ite_self, hi', ho4, Int.lt_irrefl, eq_self]
      exact hK _ hr
theorem f2_b (h : RW μ t) (hi : 0 ≤ i ∧ i < μ 0 0 20) : (1 ≤ ssS i μ 107 0 2 ∧ ssS i μ 107 0 2 ≤ 5) ∧ (0 ≤ ssS i μ 107 0 0 ∧ ssS i μ 107 0 0 ≤ 40) ∧ 0 ≤ ssS i μ 107 0 2 * (5 + ssS i μ 107 0 0) ∧ ssS i μ 107 0 2 * (5 + ssS i μ 107 0 0) ≤ 225 := by
  have hD := h.2.2.2.2.1.2.2.2.2.1
  have hp := (ssS_r (a := i) hD h.2.2.2.2.2.2.2.2 h.2.1.2.2.2.2.2.2.1).2.2.2.1
  have hL := ssS_SLT hD (h.TI hi.1 hi.2)
  have hS := (stt_G (o := 0) (x := 0) h hi).1.2.1
  have h3 := stt_3 (c := μ 0 0 50 - 1) (d := 0) (b := i) (μ := mG 0 0 μ)
  rw [hS, ← hL.2.1] at h3
  refine ⟨h3, hp.2, ?_⟩
  have hp2 := hp.2
  generalize ssS i μ 107 0 0 = y at *
  generalize ssS i μ 107 0 2 = x at *
  have e : x = 1 ∨ x = 2 ∨ x = 3 ∨ x = 4 ∨ x = 5 := by omega
  rcases e with rfl | rfl | rfl | rfl | rfl <;> omega
/-- it looks for a build and sets -/
theorem c105_1 (h : RW μ t) (hi : 0 ≤ i ∧ i < μ 0 0 20) (q : G 105 169 [zR 2 0, zR 101 0, zR 103 0, zR 104 0, zR 105 0, zR 106 0, zR 107 0, zR 108 0, zR 109 0, zR 110 0, zR 111 0, zR 112 0, zI a, zI b, u1, zI i, u3, u4, zI (zff (bdk μ i) (μ 106 0 13).toNat 0), zI (ssS i μ 107 0 2 * (5 + ssS i μ 107 0 0)), u7, u8, u9, u10, u11] [] (HM (ssS i μ)) 2090 20590 Q) : G 105 121 [zR 2 0, zR 101 0, zR 103 0, zR 104 0, zR 105 0, zR 106 0, zR 107 0, zR 108 0, zR 109 0, zR 110 0, zR 111 0, zR 112 0, zI a, zI b, u1, zI i, u3, u4, u5, u6, u7, u8, u9, u10, u11] [] (HM μ) 2100 21000 Q := by
  have ha2 := h.2.1.2.1
  have ha5 := h.2.1.2.2.2.2.1
  have hD := h.2.2.2.2.1
  have hE := h.2.2.2.2.2.2.2.2
  have e104 := fun (ck sk : Nat) (Q : ZO → ZH → Prop) (u u1 u2 : ZV) => c104 (μ := μ) (a := i) (ck := ck) (sk := sk) (Q := Q) (u := u) (u1 := u1) (u2 := u2) h.rwB hi.1 (by omega) h.bdB (by omega)
  simp (disch := first | omega | (simp (disch := decide) only [zmu0, mu_g, List.length_nil, List.length_cons]; omega)) only [g105_121, g105_122, g105_123, g105_125, g105_127, g105_129, g105_131, g105_134, g105_136, g105_137, g105_138, g105_139, g105_141, g105_143, g105_145, g105_147, g105_149, g105_151, Nat.sub_zero, Int.reduceSub, Int.reduceAdd, Int.add_zero, Int.zero_add, Int.cast_ofNat_Int, Bool.false_eq_true, decide_true, decide_false, zbndI, zbwI, zbzI, zb1I, zoA_at, gback_v, gback_n, zem, zisr, zro_at, zrl_at, mu_g, mu_at, mu_mu, mu_self, not_true, not_false_iff, zb0, zb1, zbnd, zbw, zbz, zne1, zone, mrgI, List.length_nil, List.length_cons, Nat.reduceAdd, Nat.reduceSub, Nat.reduceLeDiff, Nat.zero_le, and_true, true_and, false_and, and_false, true_or, or_true, false_or, or_false, G_ite, z10, z1n, z1and, z1or, z0not, z0and, itn, if_true, if_false, reduceIte, Int.reduceEq, Int.reduceLT, Int.reduceNeg, Nat.reduceEqDiff, ite_self, e104]
  rw [g105_153]
  refine ⟨⟨by decide, by decide, by decide, trivial⟩, ?_⟩
  refine c102 h.rwB hD.2.2.2.2.1 hE hi.1 (by omega) h.2.1.2.2.2.2.2.2.1 hD.2.2.1 (h.sz hi.1 hi.2) ?_
  rw [gback_n]
  obtain ⟨p1, p2, p3⟩ := f2_b h hi
  simp (disch := first | omega | (simp (disch := decide) only [zmu0, mu_g, List.length_nil, List.length_cons]; omega)) only [g105_156, g105_158, g105_159, g105_160, g105_161, g105_163, g105_164, g105_165, g105_166, g105_167, rd107, wr107, Nat.sub_zero, Int.reduceSub, Int.reduceAdd, Int.add_zero, Int.zero_add, Int.cast_ofNat_Int, Bool.false_eq_true, decide_true, decide_false, zbndI, zbwI, zbzI, zb1I, zoA_at, gback_v, gback_n, zem, zisr, zro_at, zrl_at, mu_g, mu_at, mu_mu, mu_self, not_true, not_false_iff, zb0, zb1, zbnd, zbw, zbz, zne1, zone, mrgI, List.length_nil, List.length_cons, Nat.reduceAdd, Nat.reduceSub, Nat.reduceLeDiff, Nat.zero_le, and_true, true_and, false_and, and_false, true_or, or_true, false_or, or_false, G_ite, z10, z1n, z1and, z1or, z0not, z0and, itn, if_true, if_false, reduceIte, Int.reduceEq, Int.reduceLT, Int.reduceNeg, Nat.reduceEqDiff, ite_self]
  exact q
end ZPU
