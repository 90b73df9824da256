/-! ===== the class: lines ===== -/
def wdt (μ : ZU) (c w : Int) : Int := if μ 51 c w = -1 then μ 61 0 w else (if μ 51 c w < 10 then 1 else 2) * 6
def beg (μ : ZU) (c h w x : Int) : ZU := mu (mu (mu (mu (mu μ 52 c (μ 50 c 1) h) 53 c (μ 50 c 1) w) 54 c (μ 50 c 1) w) 55 c (μ 50 c 1) x) 50 c 1 (μ 50 c 1 + 1)
def bl1 (μ : ZU) (c d w : Int) : ZU := if 1 ≤ μ 50 c 1 ∧ μ 52 c (μ 50 c 1 - 1) = μ 33 d w ∧ μ 55 c (μ 50 c 1 - 1) + 4 + wdt μ c w ≤ μ 30 d 0 then (mu (mu μ 55 c (μ 50 c 1 - 1) (μ 55 c (μ 50 c 1 - 1) + (4 + wdt μ c w))) 54 c (μ 50 c 1 - 1) w) else (beg μ c (μ 33 d w) w (wdt μ c w))
def blN (c d : Int) : Nat → Int → ZU → ZU
  | 0, _, μ => μ
  | n + 1, w, μ => blN c d n (w + 1) (bl1 μ c d w)
section ZL5
variable {h : ZH} {μ : ZU} {ck sk : Nat} {Q : ZO → ZH → Prop} {a b c d e f l s v w x : Int} {u u' u'' u''' : ZV}
theorem c25 (hc : c = μ 0 0 50 - 1) (hc0 : 0 ≤ c) (hL : 0 ≤ μ 50 c 1) (hL2 : μ 50 c 1 < 60) : G 25 0 [zR 8 0, zI v, zI w, zI x, u] [] (HM μ) ck sk Q ↔ Q (.inl none) (HM (beg μ c v w x)) := by
  subst hc
  simp (disch := first | omega | (simp (disch := decide) only [zmu0, mu_g, List.length_nil, List.length_cons]; omega)) only [g25_0, g25_1, g25_4, g25_7, g25_9, g25_10, g25_13, g25_16, g25_18, g25_19, g25_20, g25_21, g25_24, g25_27, g25_29, g25_30, g25_31, g25_32, g25_35, g25_38, g25_40, g25_41, g25_42, g25_43, g25_46, g25_49, g25_51, g25_52, g25_53, g25_54, g25_57, g25_57r, g25_58, g25_61, g25_62, g25_63, g25_66, ob8, oc8, fl8_0, fl8_1, fl8_2, fl8_3, fl8_4, fl8_5, fl8_6, ob50, oc50, fl50_0, wo50_0, fl50_1, wo50_1, fl50_2, wo50_2, fl50_3, wo50_3, fl50_4, wo50_4, fl50_5, wo50_5, fl50_6, fl50_7, fl50_8, fl50_9, fl50_10, fl50_11, rd52, wr52, rd53, wr53, rd54, wr54, rd55, wr55, zoA_at, gback_v, gback_n, zem, zisr, zro_at, zrl_at, mu_g, mu_at, mu_mu, mu_self, not_true, not_false_iff, zb0, zb1, zbnd, zbw, zbz, zne1, zone, mrgI, List.length_nil, List.length_cons, Nat.reduceAdd, Nat.reduceSub, Nat.reduceLeDiff, Nat.zero_le, and_true, true_and, false_and, and_false, true_or, or_true, false_or, or_false, G_ite, z10, z1n, z1and, z1or, z0not, z0and, itn, if_true, if_false, reduceIte, Int.reduceEq, Int.reduceLT, Int.reduceNeg, Nat.reduceEqDiff, ite_self, beg]
theorem bl1_g {k : Nat} (h0 : k ≠ 50) (h1 : k ≠ 52) (h2 : k ≠ 53) (h3 : k ≠ 54) (h4 : k ≠ 55) : bl1 μ c d w k = μ k := by
  unfold bl1 beg
  split
  · rw [mu_g h3, mu_g h4]
  · rw [mu_g h0, mu_g h4, mu_g h3, mu_g h2, mu_g h1]
theorem wdt_b (hw : 0 ≤ μ 61 0 w ∧ μ 61 0 w ≤ 160) : 0 ≤ wdt μ c w ∧ wdt μ c w ≤ 160 := by
  unfold wdt
  split
  · exact hw
  · split <;> omega
/-- lines, before the word w -/
def blI (μ : ZU) (c w : Int) : Prop := 0 ≤ μ 50 c 1 ∧ μ 50 c 1 ≤ w ∧ ∀ j, 0 ≤ j → j < μ 50 c 1 → 0 ≤ μ 55 c j ∧ μ 55 c j ≤ 200
theorem bl1_I (h : blI μ c w) (hm : μ 30 d 0 ≤ 200) (hw : 0 ≤ μ 61 0 w ∧ μ 61 0 w ≤ 160) : blI (bl1 μ c d w) c (w + 1) := by
  obtain ⟨h1, h2, h3⟩ := h
  have hb := wdt_b (c := c) hw
  unfold bl1
  split
  · rename_i q
    obtain ⟨q1, -, q3⟩ := q
    have e1 : mu (mu μ 55 c (μ 50 c 1 - 1) (μ 55 c (μ 50 c 1 - 1) + (4 + wdt μ c w))) 54 c (μ 50 c 1 - 1) w 50 = μ 50 := by rw [mu_g (by decide), mu_g (by decide)]
    refine ⟨by rw [e1]; exact h1, by rw [e1]; omega, fun j a1 a2 => ?_⟩
    rw [e1] at a2
    rw [mu_g (by decide)]
    by_cases hj : j = μ 50 c 1 - 1
    · rw [hj, mu_at]
      have := h3 (μ 50 c 1 - 1) (by omega) (by omega)
      omega
    · rw [mu_j hj]
      exact h3 j a1 a2
  · unfold beg
    refine ⟨by rw [mu_at]; omega, by rw [mu_at]; omega, fun j a1 a2 => ?_⟩
    rw [mu_at] at a2
    rw [mu_g (by decide)]
    by_cases hj : j = μ 50 c 1
    · rw [hj, mu_at]
      omega
    · rw [mu_j hj, mu_g (by decide), mu_g (by decide), mu_g (by decide)]
      exact h3 j a1 (by omega)
theorem c24_l (hd : 0 ≤ d) (hc : 0 ≤ c) : ∀ (n : Nat) (w : Int) (u u' u'' : ZV) (μ : ZU), c = μ 0 0 50 - 1 → d < μ 0 0 30 → μ 30 d 9 ≤ 60 → 0 ≤ μ 30 d 0 → μ 30 d 0 ≤ 200 → (∀ w, 0 ≤ w → w < μ 30 d 9 → 0 ≤ μ 61 0 w ∧ μ 61 0 w ≤ 160) → blI μ c w → 0 ≤ w → w + n = μ 30 d 9 →
    (G 24 10 [zR 8 0, zR 30 d, zI w, u, u', u''] [] (HM μ) ck sk Q ↔ Q (.inl none) (HM (blN c d n w μ)))
  | 0, w, u, u', u'', μ, hc2, hd2, h60, hm0, hm, hw, hI, h0, hi => by
    have h1 : ¬ w < μ 30 d 9 := by omega
    rw [g24_10]
    simp (disch := first | omega | (simp (disch := decide) only [zmu0, mu_g, List.length_nil, List.length_cons]; omega)) only [g24_0, g24_1, g24_4, g24_5, g24_8, g24_9, g24_11, g24_12, g24_15, g24_18, g24_19, g24_22, g24_23, g24_24, g24_25, g24_26, g24_29, g24_32, g24_33, g24_34, g24_35, g24_38, g24_39, g24_42, g24_43, g24_44, g24_47, g24_48, g24_49, g24_52, g24_55, g24_56, g24_57, g24_60, g24_62, g24_63, g24_65, g24_66, g24_69, g24_72, g24_73, g24_74, g24_76, g24_78, g24_81, g24_82, g24_85, g24_88, g24_90, g24_91, g24_92, g24_95, g24_96, g24_99, g24_102, g24_104, g24_105, g24_106, g24_107, g24_109, g24_110, g24_111, g24_114, g24_117, g24_118, g24_121, g24_124, g24_126, g24_127, g24_128, g24_129, g24_131, g24_132, g24_133, g24_134, g24_135, g24_138, g24_141, g24_143, g24_144, g24_145, g24_148, g24_149, g24_150, g24_151, g24_153, g24_156, g24_159, g24_162, ob30, oc30, fl30_0, wo30_0, fl30_1, wo30_1, fl30_2, fl30_3, fl30_4, fl30_5, fl30_6, fl30_7, wo30_7, fl30_8, wo30_8, fl30_9, wo30_9, fl30_10, wo30_10, zoA_at, gback_v, gback_n, zem, zisr, zro_at, zrl_at, mu_g, mu_at, mu_mu, mu_self, not_true, not_false_iff, zb0, zb1, zbnd, zbw, zbz, zne1, zone, mrgI, List.length_nil, List.length_cons, Nat.reduceAdd, Nat.reduceSub, Nat.reduceLeDiff, Nat.zero_le, and_true, true_and, false_and, and_false, true_or, or_true, false_or, or_false, G_ite, z10, z1n, z1and, z1or, z0not, z0and, itn, if_true, if_false, reduceIte, Int.reduceEq, Int.reduceLT, Int.reduceNeg, Nat.reduceEqDiff, ite_self, h1, blN]
  | n + 1, w, u, u', u'', μ, hc2, hd2, h60, hm0, hm, hw, hI, h0, hi => by
    have h1 : w < μ 30 d 9 := by omega
    have hww := hw w h0 h1
    have hb := wdt_b (c := c) hww
    have hI' := bl1_I (d := d) hI hm hww
    obtain ⟨i1, i2, i3⟩ := hI
    have ih := fun u u' u'' => c24_l hd hc n (w + 1) u u' u'' (bl1 μ c d w) (by rw [bl1_g (by decide) (by decide) (by decide) (by decide) (by decide)]; exact hc2) (by rw [bl1_g (by decide) (by decide) (by decide) (by decide) (by decide)]; exact hd2)
      (by simp (disch := decide) only [bl1_g]; exact h60) (by simp (disch := decide) only [bl1_g]; exact hm0) (by simp (disch := decide) only [bl1_g]; exact hm) (by simp (disch := decide) only [bl1_g]; exact hw) hI' (by omega) (by simp (disch := decide) only [bl1_g]; omega)
    rw [g24_10]
    unfold blN
    subst hc2
    simp (disch := first | omega | (simp (disch := decide) only [zmu0, mu_g, List.length_nil, List.length_cons]; omega)) only [g24_0, g24_1, g24_4, g24_5, g24_8, g24_9, g24_11, g24_12, g24_15, g24_18, g24_19, g24_22, g24_23, g24_24, g24_25, g24_26, g24_29, g24_32, g24_33, g24_34, g24_35, g24_38, g24_39, g24_42, g24_43, g24_44, g24_47, g24_48, g24_49, g24_52, g24_55, g24_56, g24_57, g24_60, g24_62, g24_65, g24_66, g24_69, g24_72, g24_73, g24_74, g24_76, g24_78, g24_81, g24_82, g24_85, g24_88, g24_90, g24_91, g24_92, g24_95, g24_96, g24_99, g24_102, g24_104, g24_105, g24_106, g24_107, g24_109, g24_110, g24_111, g24_114, g24_117, g24_118, g24_121, g24_124, g24_126, g24_127, g24_128, g24_129, g24_131, g24_132, g24_133, g24_134, g24_135, g24_138, g24_141, g24_143, g24_144, g24_145, g24_148, g24_149, g24_150, g24_151, g24_153, g24_156, g24_159, g24_162, ob8, oc8, fl8_0, fl8_1, fl8_2, fl8_3, fl8_4, fl8_5, fl8_6, ob30, oc30, fl30_0, wo30_0, fl30_1, wo30_1, fl30_2, fl30_3, fl30_4, fl30_5, fl30_6, fl30_7, wo30_7, fl30_8, wo30_8, fl30_9, wo30_9, fl30_10, wo30_10, rd33, wr33, ob50, oc50, fl50_0, wo50_0, fl50_1, wo50_1, fl50_2, wo50_2, fl50_3, wo50_3, fl50_4, wo50_4, fl50_5, wo50_5, fl50_6, fl50_7, fl50_8, fl50_9, fl50_10, fl50_11, rd51, wr51, rd61, wr61, zoA_at, gback_v, gback_n, zem, zisr, zro_at, zrl_at, mu_g, mu_at, mu_mu, mu_self, not_true, not_false_iff, zb0, zb1, zbnd, zbw, zbz, zne1, zone, mrgI, List.length_nil, List.length_cons, Nat.reduceAdd, Nat.reduceSub, Nat.reduceLeDiff, Nat.zero_le, and_true, true_and, false_and, and_false, true_or, or_true, false_or, or_false, G_ite, z10, z1n, z1and, z1or, z0not, z0and, itn, if_true, if_false, reduceIte, Int.reduceEq, Int.reduceLT, Int.reduceNeg, Nat.reduceEqDiff, ite_self, h1, c26]
    have e : (if μ 51 (μ 0 0 50 - 1) w = -1 then μ 61 0 w else (if μ 51 (μ 0 0 50 - 1) w < 10 then 1 else 2) * 6) = wdt μ (μ 0 0 50 - 1) w := rfl
    rw [e]
    by_cases q1 : 1 ≤ μ 50 (μ 0 0 50 - 1) 1
    · have q1' : ¬ μ 50 (μ 0 0 50 - 1) 1 - 1 < 0 := by omega
      have i4 := i3 (μ 50 (μ 0 0 50 - 1) 1 - 1) (by omega) (by omega)
      by_cases q2 : μ 52 (μ 0 0 50 - 1) (μ 50 (μ 0 0 50 - 1) 1 - 1) = μ 33 d w
      · by_cases q3 : μ 55 (μ 0 0 50 - 1) (μ 50 (μ 0 0 50 - 1) 1 - 1) + 4 + wdt μ (μ 0 0 50 - 1) w ≤ μ 30 d 0
        · have e2 : bl1 μ (μ 0 0 50 - 1) d w = _ := if_pos ⟨q1, q2, q3⟩
          have q3' : ¬ μ 30 d 0 < μ 55 (μ 0 0 50 - 1) (μ 50 (μ 0 0 50 - 1) 1 - 1) + 4 + wdt μ (μ 0 0 50 - 1) w := by omega
          rw [e2] at ih ⊢
          simp (disch := first | omega | (simp (disch := decide) only [zmu0, mu_g, List.length_nil, List.length_cons]; omega)) only [g24_0, g24_1, g24_4, g24_5, g24_8, g24_9, g24_11, g24_12, g24_15, g24_18, g24_19, g24_22, g24_23, g24_24, g24_25, g24_26, g24_29, g24_32, g24_33, g24_34, g24_35, g24_38, g24_39, g24_42, g24_43, g24_44, g24_47, g24_48, g24_49, g24_52, g24_55, g24_56, g24_57, g24_60, g24_62, g24_63, g24_65, g24_66, g24_69, g24_72, g24_73, g24_74, g24_76, g24_78, g24_81, g24_82, g24_85, g24_88, g24_90, g24_91, g24_92, g24_95, g24_96, g24_99, g24_102, g24_104, g24_105, g24_106, g24_107, g24_109, g24_110, g24_111, g24_114, g24_117, g24_118, g24_121, g24_124, g24_126, g24_127, g24_128, g24_129, g24_131, g24_132, g24_133, g24_134, g24_135, g24_138, g24_141, g24_143, g24_144, g24_145, g24_148, g24_149, g24_150, g24_151, g24_153, g24_156, g24_159, g24_162, ob8, oc8, fl8_0, fl8_1, fl8_2, fl8_3, fl8_4, fl8_5, fl8_6, ob30, oc30, fl30_0, wo30_0, fl30_1, wo30_1, fl30_2, fl30_3, fl30_4, fl30_5, fl30_6, fl30_7, wo30_7, fl30_8, wo30_8, fl30_9, wo30_9, fl30_10, wo30_10, ob50, oc50, fl50_0, wo50_0, fl50_1, wo50_1, fl50_2, wo50_2, fl50_3, wo50_3, fl50_4, wo50_4, fl50_5, wo50_5, fl50_6, fl50_7, fl50_8, fl50_9, fl50_10, fl50_11, rd52, wr52, rd54, wr54, rd55, wr55, zoA_at, gback_v, gback_n, zem, zisr, zro_at, zrl_at, mu_g, mu_at, mu_mu, mu_self, not_true, not_false_iff, zb0, zb1, zbnd, zbw, zbz, zne1, zone, mrgI, List.length_nil, List.length_cons, Nat.reduceAdd, Nat.reduceSub, Nat.reduceLeDiff, Nat.zero_le, and_true, true_and, false_and, and_false, true_or, or_true, false_or, or_false, G_ite, z10, z1n, z1and, z1or, z0not, z0and, itn, if_true, if_false, reduceIte, Int.reduceEq, Int.reduceLT, Int.reduceNeg, Nat.reduceEqDiff, ite_self, q1', q2, q3', ih]
        · have e2 : bl1 μ (μ 0 0 50 - 1) d w = _ := if_neg (fun z => q3 z.2.2)
          have q3' : μ 30 d 0 < μ 55 (μ 0 0 50 - 1) (μ 50 (μ 0 0 50 - 1) 1 - 1) + 4 + wdt μ (μ 0 0 50 - 1) w := by omega
          rw [e2] at ih ⊢
          simp (disch := first | omega | (simp (disch := decide) only [zmu0, mu_g, List.length_nil, List.length_cons]; omega)) only [g24_0, g24_1, g24_4, g24_5, g24_8, g24_9, g24_11, g24_12, g24_15, g24_18, g24_19, g24_22, g24_23, g24_24, g24_25, g24_26, g24_29, g24_32, g24_33, g24_34, g24_35, g24_38, g24_39, g24_42, g24_43, g24_44, g24_47, g24_48, g24_49, g24_52, g24_55, g24_56, g24_57, g24_60, g24_62, g24_63, g24_65, g24_66, g24_69, g24_72, g24_73, g24_74, g24_76, g24_78, g24_81, g24_82, g24_85, g24_88, g24_90, g24_91, g24_92, g24_95, g24_96, g24_99, g24_102, g24_104, g24_105, g24_106, g24_107, g24_109, g24_110, g24_111, g24_114, g24_117, g24_118, g24_121, g24_124, g24_126, g24_127, g24_128, g24_129, g24_131, g24_132, g24_133, g24_134, g24_135, g24_138, g24_141, g24_143, g24_144, g24_145, g24_148, g24_149, g24_150, g24_151, g24_153, g24_156, g24_159, g24_162, ob8, oc8, fl8_0, fl8_1, fl8_2, fl8_3, fl8_4, fl8_5, fl8_6, ob30, oc30, fl30_0, wo30_0, fl30_1, wo30_1, fl30_2, fl30_3, fl30_4, fl30_5, fl30_6, fl30_7, wo30_7, fl30_8, wo30_8, fl30_9, wo30_9, fl30_10, wo30_10, ob50, oc50, fl50_0, wo50_0, fl50_1, wo50_1, fl50_2, wo50_2, fl50_3, wo50_3, fl50_4, wo50_4, fl50_5, wo50_5, fl50_6, fl50_7, fl50_8, fl50_9, fl50_10, fl50_11, rd52, wr52, rd54, wr54, rd55, wr55, zoA_at, gback_v, gback_n, zem, zisr, zro_at, zrl_at, mu_g, mu_at, mu_mu, mu_self, not_true, not_false_iff, zb0, zb1, zbnd, zbw, zbz, zne1, zone, mrgI, List.length_nil, List.length_cons, Nat.reduceAdd, Nat.reduceSub, Nat.reduceLeDiff, Nat.zero_le, and_true, true_and, false_and, and_false, true_or, or_true, false_or, or_false, G_ite, z10, z1n, z1and, z1or, z0not, z0and, itn, if_true, if_false, reduceIte, Int.reduceEq, Int.reduceLT, Int.reduceNeg, Nat.reduceEqDiff, ite_self, q1', q2, q3', c25 rfl hc i1 (by omega), ih]
      · have e2 : bl1 μ (μ 0 0 50 - 1) d w = _ := if_neg (fun z => q2 z.2.1)
        rw [e2] at ih ⊢
        simp (disch := first | omega | (simp (disch := decide) only [zmu0, mu_g, List.length_nil, List.length_cons]; omega)) only [g24_0, g24_1, g24_4, g24_5, g24_8, g24_9, g24_11, g24_12, g24_15, g24_18, g24_19, g24_22, g24_23, g24_24, g24_25, g24_26, g24_29, g24_32, g24_33, g24_34, g24_35, g24_38, g24_39, g24_42, g24_43, g24_44, g24_47, g24_48, g24_49, g24_52, g24_55, g24_56, g24_57, g24_60, g24_62, g24_63, g24_65, g24_66, g24_69, g24_72, g24_73, g24_74, g24_76, g24_78, g24_81, g24_82, g24_85, g24_88, g24_90, g24_91, g24_92, g24_95, g24_96, g24_99, g24_102, g24_104, g24_105, g24_106, g24_107, g24_109, g24_110, g24_111, g24_114, g24_117, g24_118, g24_121, g24_124, g24_126, g24_127, g24_128, g24_129, g24_131, g24_132, g24_133, g24_134, g24_135, g24_138, g24_141, g24_143, g24_144, g24_145, g24_148, g24_149, g24_150, g24_151, g24_153, g24_156, g24_159, g24_162, ob8, oc8, fl8_0, fl8_1, fl8_2, fl8_3, fl8_4, fl8_5, fl8_6, ob30, oc30, fl30_0, wo30_0, fl30_1, wo30_1, fl30_2, fl30_3, fl30_4, fl30_5, fl30_6, fl30_7, wo30_7, fl30_8, wo30_8, fl30_9, wo30_9, fl30_10, wo30_10, ob50, oc50, fl50_0, wo50_0, fl50_1, wo50_1, fl50_2, wo50_2, fl50_3, wo50_3, fl50_4, wo50_4, fl50_5, wo50_5, fl50_6, fl50_7, fl50_8, fl50_9, fl50_10, fl50_11, rd52, wr52, rd54, wr54, rd55, wr55, zoA_at, gback_v, gback_n, zem, zisr, zro_at, zrl_at, mu_g, mu_at, mu_mu, mu_self, not_true, not_false_iff, zb0, zb1, zbnd, zbw, zbz, zne1, zone, mrgI, List.length_nil, List.length_cons, Nat.reduceAdd, Nat.reduceSub, Nat.reduceLeDiff, Nat.zero_le, and_true, true_and, false_and, and_false, true_or, or_true, false_or, or_false, G_ite, z10, z1n, z1and, z1or, z0not, z0and, itn, if_true, if_false, reduceIte, Int.reduceEq, Int.reduceLT, Int.reduceNeg, Nat.reduceEqDiff, ite_self, q1', q2, c25 rfl hc i1 (by omega), ih]
    · have q1' : μ 50 (μ 0 0 50 - 1) 1 - 1 < 0 := by omega
      have e2 : bl1 μ (μ 0 0 50 - 1) d w = _ := if_neg (fun z => q1 z.1)
      rw [e2] at ih ⊢
      simp (disch := first | omega | (simp (disch := decide) only [zmu0, mu_g, List.length_nil, List.length_cons]; omega)) only [g24_0, g24_1, g24_4, g24_5, g24_8, g24_9, g24_11, g24_12, g24_15, g24_18, g24_19, g24_22, g24_23, g24_24, g24_25, g24_26, g24_29, g24_32, g24_33, g24_34, g24_35, g24_38, g24_39, g24_42, g24_43, g24_44, g24_47, g24_48, g24_49, g24_52, g24_55, g24_56, g24_57, g24_60, g24_62, g24_63, g24_65, g24_66, g24_69, g24_72, g24_73, g24_74, g24_76, g24_78, g24_81, g24_82, g24_85, g24_88, g24_90, g24_91, g24_92, g24_95, g24_96, g24_99, g24_102, g24_104, g24_105, g24_106, g24_107, g24_109, g24_110, g24_111, g24_114, g24_117, g24_118, g24_121, g24_124, g24_126, g24_127, g24_128, g24_129, g24_131, g24_132, g24_133, g24_134, g24_135, g24_138, g24_141, g24_143, g24_144, g24_145, g24_148, g24_149, g24_150, g24_151, g24_153, g24_156, g24_159, g24_162, ob8, oc8, fl8_0, fl8_1, fl8_2, fl8_3, fl8_4, fl8_5, fl8_6, ob30, oc30, fl30_0, wo30_0, fl30_1, wo30_1, fl30_2, fl30_3, fl30_4, fl30_5, fl30_6, fl30_7, wo30_7, fl30_8, wo30_8, fl30_9, wo30_9, fl30_10, wo30_10, ob50, oc50, fl50_0, wo50_0, fl50_1, wo50_1, fl50_2, wo50_2, fl50_3, wo50_3, fl50_4, wo50_4, fl50_5, wo50_5, fl50_6, fl50_7, fl50_8, fl50_9, fl50_10, fl50_11, rd52, wr52, rd54, wr54, rd55, wr55, zoA_at, gback_v, gback_n, zem, zisr, zro_at, zrl_at, mu_g, mu_at, mu_mu, mu_self, not_true, not_false_iff, zb0, zb1, zbnd, zbw, zbz, zne1, zone, mrgI, List.length_nil, List.length_cons, Nat.reduceAdd, Nat.reduceSub, Nat.reduceLeDiff, Nat.zero_le, and_true, true_and, false_and, and_false, true_or, or_true, false_or, or_false, G_ite, z10, z1n, z1and, z1or, z0not, z0and, itn, if_true, if_false, reduceIte, Int.reduceEq, Int.reduceLT, Int.reduceNeg, Nat.reduceEqDiff, ite_self, q1', c25 rfl hc i1 (by omega), ih]
theorem c24 (hd : 0 ≤ d) (hc : 0 < μ 0 0 50) (hd2 : d < μ 0 0 30) (h90 : 0 ≤ μ 30 d 9) (h9 : μ 30 d 9 ≤ 60) (hm0 : 0 ≤ μ 30 d 0) (hm : μ 30 d 0 ≤ 200) (hw : ∀ w, 0 ≤ w → w < μ 30 d 9 → 0 ≤ μ 61 0 w ∧ μ 61 0 w ≤ 160) :
    G 24 0 [zR 8 0, zR 30 d, u''', u, u', u''] [] (HM μ) ck sk Q ↔ Q (.inl none) (HM (blN (μ 0 0 50 - 1) d (μ 30 d 9).toNat 0 (mu μ 50 (μ 0 0 50 - 1) 1 0))) := by
  simp (disch := first | omega | (simp (disch := decide) only [zmu0, mu_g, List.length_nil, List.length_cons]; omega)) only [g24_0, g24_1, g24_4, g24_5, g24_8, g24_9, ob8, oc8, fl8_0, fl8_1, fl8_2, fl8_3, fl8_4, fl8_5, fl8_6, ob50, oc50, fl50_0, wo50_0, fl50_1, wo50_1, fl50_2, wo50_2, fl50_3, wo50_3, fl50_4, wo50_4, fl50_5, wo50_5, fl50_6, fl50_7, fl50_8, fl50_9, fl50_10, fl50_11, zoA_at, gback_v, gback_n, zem, zisr, zro_at, zrl_at, mu_g, mu_at, mu_mu, mu_self, not_true, not_false_iff, zb0, zb1, zbnd, zbw, zbz, zne1, zone, mrgI, List.length_nil, List.length_cons, Nat.reduceAdd, Nat.reduceSub, Nat.reduceLeDiff, Nat.zero_le, and_true, true_and, false_and, and_false, true_or, or_true, false_or, or_false, G_ite, z10, z1n, z1and, z1or, z0not, z0and, itn, if_true, if_false, reduceIte, Int.reduceEq, Int.reduceLT, Int.reduceNeg, Nat.reduceEqDiff, ite_self]
  refine c24_l hd (by omega) _ 0 _ _ _ _ ?_ ?_ ?_ ?_ ?_ ?_ ⟨?_, ?_, ?_⟩ (by omega) ?_
  · rw [mu_g (by decide)]
  · rw [mu_g (by decide)]; exact hd2
  · rw [mu_g (by decide)]; exact h9
  · rw [mu_g (by decide)]; exact hm0
  · rw [mu_g (by decide)]; exact hm
  · rw [mu_g (by decide), mu_g (by decide)]; exact hw
  · rw [mu_at]; omega
  · rw [mu_at]; omega
  · rw [mu_at]; intro j a1 a2; omega
  · rw [mu_g (by decide)]; omega
end ZL5
