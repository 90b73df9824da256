/-! ===== the class: pages numbered, references renewed ===== -/
def npN (c : Int) : Nat → Int → Int → ZU → ZU
  | 0, _, _, μ => μ
  | n + 1, l, en, μ => if l = en then npN c n (l + 1) (μ 65 0 l) (mu (mu μ 50 c 2 (μ 50 c 2 + 1)) 56 c l (μ 50 c 2 + 1 - 1)) else npN c n (l + 1) en (mu μ 56 c l (μ 50 c 2 - 1))
/-- what the paragraphs begin on -/
def fb0 : Nat → Int → ZU → ZU
  | 0, _, μ => μ
  | n + 1, p, μ => fb0 n (p + 1) (mu μ 66 0 p 1)
def fbN (c : Int) : Nat → ZU → ZU
  | 0, μ => μ
  | n + 1, μ => fbN c n (mu μ 66 0 (μ 52 c n) (μ 56 c n + 1))
theorem fb0_g {k : Nat} (h : k ≠ 66) : ∀ (n : Nat) (p : Int) (μ : ZU), fb0 n p μ k = μ k
  | 0, _, _ => rfl
  | n + 1, p, μ => by
    unfold fb0
    rw [fb0_g h n, mu_g h]
section ZL7
variable {h : ZH} {ck sk : Nat} {Q : ZO → ZH → Prop} {a b c d e f l s v w x m H L : Int} {u u' u'' u''' : ZV}
theorem c32_l (hc0 : 0 ≤ c) : ∀ (n : Nat) (l en : Int) (μ : ZU), c = μ 0 0 50 - 1 → μ 50 c 1 ≤ 60 → 0 ≤ l → l + n = μ 50 c 1 → 0 ≤ μ 50 c 2 → μ 50 c 2 ≤ l →
    (G 32 12 [zR 8 0, zI en, zI l] [] (HM μ) ck sk Q ↔ Q (.inl none) (HM (npN c n l en μ)))
  | 0, l, en, μ, hc, hL, h0, hi, hp, hp2 => by
    have h1 : ¬ l < μ 50 c 1 := by omega
    subst hc
    rw [g32_12]
    simp (disch := first | omega | (simp (disch := decide) only [zmu0, mu_g, List.length_nil, List.length_cons]; omega)) only [g32_0, g32_1, g32_2, g32_3, g32_6, g32_7, g32_10, g32_11, g32_13, g32_14, g32_17, g32_20, g32_23, g32_24, g32_25, g32_28, g32_29, g32_32, g32_33, g32_34, g32_35, g32_36, g32_39, g32_39r, g32_40, g32_43, g32_44, g32_45, g32_48, g32_49, g32_52, g32_55, g32_56, g32_57, g32_60, g32_63, g32_64, g32_65, g32_66, g32_69, g32_72, ob8, oc8, fl8_0, fl8_1, fl8_2, fl8_3, fl8_4, fl8_5, fl8_6, ob50, oc50, fl50_0, wo50_0, fl50_1, wo50_1, fl50_2, wo50_2, fl50_3, wo50_3, fl50_4, wo50_4, fl50_5, wo50_5, fl50_6, fl50_7, fl50_8, fl50_9, fl50_10, fl50_11, zoA_at, gback_v, gback_n, zem, zisr, zro_at, zrl_at, mu_g, mu_at, mu_mu, mu_self, not_true, not_false_iff, zb0, zb1, zbnd, zbw, zbz, zne1, zone, mrgI, List.length_nil, List.length_cons, Nat.reduceAdd, Nat.reduceSub, Nat.reduceLeDiff, Nat.zero_le, and_true, true_and, false_and, and_false, true_or, or_true, false_or, or_false, G_ite, z10, z1n, z1and, z1or, z0not, z0and, itn, if_true, if_false, reduceIte, Int.reduceEq, Int.reduceLT, Int.reduceNeg, Nat.reduceEqDiff, ite_self, h1, npN]
  | n + 1, l, en, μ, hc, hL, h0, hi, hp, hp2 => by
    have h1 : l < μ 50 c 1 := by omega
    unfold npN
    by_cases h2 : l = en
    · have ih := c32_l hc0 n (l + 1) (μ 65 0 l) (mu (mu μ 50 c 2 (μ 50 c 2 + 1)) 56 c l (μ 50 c 2 + 1 - 1)) (by rw [zmu0 (by decide), zmu0 (by decide)]; exact hc) (by rw [mu_g (by decide), mu_j (by decide)]; exact hL) (by omega) (by rw [mu_g (by decide), mu_j (by decide)]; omega) (by rw [mu_g (by decide), mu_at]; omega) (by rw [mu_g (by decide), mu_at]; omega)
      subst hc
      rw [if_pos h2, g32_12]
      simp (disch := first | omega | (simp (disch := decide) only [zmu0, mu_g, List.length_nil, List.length_cons]; omega)) only [g32_0, g32_1, g32_2, g32_3, g32_6, g32_7, g32_10, g32_11, g32_13, g32_14, g32_17, g32_20, g32_23, g32_24, g32_25, g32_28, g32_29, g32_32, g32_33, g32_34, g32_35, g32_36, g32_39, g32_39r, g32_40, g32_43, g32_44, g32_45, g32_48, g32_49, g32_52, g32_55, g32_56, g32_57, g32_60, g32_63, g32_64, g32_65, g32_66, g32_69, g32_72, ob8, oc8, fl8_0, fl8_1, fl8_2, fl8_3, fl8_4, fl8_5, fl8_6, ob50, oc50, fl50_0, wo50_0, fl50_1, wo50_1, fl50_2, wo50_2, fl50_3, wo50_3, fl50_4, wo50_4, fl50_5, wo50_5, fl50_6, fl50_7, fl50_8, fl50_9, fl50_10, fl50_11, rd56, wr56, rd65, wr65, zoA_at, gback_v, gback_n, zem, zisr, zro_at, zrl_at, mu_g, mu_at, mu_mu, mu_self, not_true, not_false_iff, zb0, zb1, zbnd, zbw, zbz, zne1, zone, mrgI, List.length_nil, List.length_cons, Nat.reduceAdd, Nat.reduceSub, Nat.reduceLeDiff, Nat.zero_le, and_true, true_and, false_and, and_false, true_or, or_true, false_or, or_false, G_ite, z10, z1n, z1and, z1or, z0not, z0and, itn, if_true, if_false, reduceIte, Int.reduceEq, Int.reduceLT, Int.reduceNeg, Nat.reduceEqDiff, ite_self, h1, h2] at ih ⊢
      subst h2
      simp (disch := first | omega | (simp (disch := decide) only [zmu0, mu_g, List.length_nil, List.length_cons]; omega)) only [g32_0, g32_1, g32_2, g32_3, g32_6, g32_7, g32_10, g32_11, g32_13, g32_14, g32_17, g32_20, g32_23, g32_24, g32_25, g32_28, g32_29, g32_32, g32_33, g32_34, g32_35, g32_36, g32_39, g32_39r, g32_40, g32_43, g32_44, g32_45, g32_48, g32_49, g32_52, g32_55, g32_56, g32_57, g32_60, g32_63, g32_64, g32_65, g32_66, g32_69, g32_72, ob8, oc8, fl8_0, fl8_1, fl8_2, fl8_3, fl8_4, fl8_5, fl8_6, ob50, oc50, fl50_0, wo50_0, fl50_1, wo50_1, fl50_2, wo50_2, fl50_3, wo50_3, fl50_4, wo50_4, fl50_5, wo50_5, fl50_6, fl50_7, fl50_8, fl50_9, fl50_10, fl50_11, rd56, wr56, rd65, wr65, zoA_at, gback_v, gback_n, zem, zisr, zro_at, zrl_at, mu_g, mu_at, mu_mu, mu_self, not_true, not_false_iff, zb0, zb1, zbnd, zbw, zbz, zne1, zone, mrgI, List.length_nil, List.length_cons, Nat.reduceAdd, Nat.reduceSub, Nat.reduceLeDiff, Nat.zero_le, and_true, true_and, false_and, and_false, true_or, or_true, false_or, or_false, G_ite, z10, z1n, z1and, z1or, z0not, z0and, itn, if_true, if_false, reduceIte, Int.reduceEq, Int.reduceLT, Int.reduceNeg, Nat.reduceEqDiff, ite_self, h1, ih]
    · have ih := c32_l hc0 n (l + 1) en (mu μ 56 c l (μ 50 c 2 - 1)) (by rw [zmu0 (by decide)]; exact hc) (by rw [mu_g (by decide)]; exact hL) (by omega) (by rw [mu_g (by decide)]; omega) (by rw [mu_g (by decide)]; omega) (by rw [mu_g (by decide)]; omega)
      subst hc
      rw [if_neg h2, g32_12]
      simp (disch := first | omega | (simp (disch := decide) only [zmu0, mu_g, List.length_nil, List.length_cons]; omega)) only [g32_0, g32_1, g32_2, g32_3, g32_6, g32_7, g32_10, g32_11, g32_13, g32_14, g32_17, g32_20, g32_23, g32_24, g32_25, g32_28, g32_29, g32_32, g32_33, g32_34, g32_35, g32_36, g32_39, g32_39r, g32_40, g32_43, g32_44, g32_45, g32_48, g32_49, g32_52, g32_55, g32_56, g32_57, g32_60, g32_63, g32_64, g32_65, g32_66, g32_69, g32_72, ob8, oc8, fl8_0, fl8_1, fl8_2, fl8_3, fl8_4, fl8_5, fl8_6, ob50, oc50, fl50_0, wo50_0, fl50_1, wo50_1, fl50_2, wo50_2, fl50_3, wo50_3, fl50_4, wo50_4, fl50_5, wo50_5, fl50_6, fl50_7, fl50_8, fl50_9, fl50_10, fl50_11, rd56, wr56, rd65, wr65, zoA_at, gback_v, gback_n, zem, zisr, zro_at, zrl_at, mu_g, mu_at, mu_mu, mu_self, not_true, not_false_iff, zb0, zb1, zbnd, zbw, zbz, zne1, zone, mrgI, List.length_nil, List.length_cons, Nat.reduceAdd, Nat.reduceSub, Nat.reduceLeDiff, Nat.zero_le, and_true, true_and, false_and, and_false, true_or, or_true, false_or, or_false, G_ite, z10, z1n, z1and, z1or, z0not, z0and, itn, if_true, if_false, reduceIte, Int.reduceEq, Int.reduceLT, Int.reduceNeg, Nat.reduceEqDiff, ite_self, h1, h2, ih]
theorem c34_a : ∀ (n : Nat) (p : Int) (μ : ZU), 0 ≤ p → p + n = 12 → (G 34 2 [zR 8 0, zI p] [] (HM μ) ck sk Q ↔ G 34 21 [zR 8 0, zI 12] [] (HM (fb0 n p μ)) ck sk Q)
  | 0, p, μ, h0, hi => by
    have h1 : p = 12 := by omega
    subst h1
    rw [g34_2]
    simp (disch := first | omega | (simp (disch := decide) only [zmu0, mu_g, List.length_nil, List.length_cons]; omega)) only [g34_3, g34_5, zoA_at, gback_v, gback_n, zem, zisr, zro_at, zrl_at, mu_g, mu_at, mu_mu, mu_self, not_true, not_false_iff, zb0, zb1, zbnd, zbw, zbz, zne1, zone, mrgI, List.length_nil, List.length_cons, Nat.reduceAdd, Nat.reduceSub, Nat.reduceLeDiff, Nat.zero_le, and_true, true_and, false_and, and_false, true_or, or_true, false_or, or_false, G_ite, z10, z1n, z1and, z1or, z0not, z0and, itn, if_true, if_false, reduceIte, Int.reduceEq, Int.reduceLT, Int.reduceNeg, Nat.reduceEqDiff, ite_self, fb0]
  | n + 1, p, μ, h0, hi => by
    have h1 : p < 12 := by omega
    have ih := c34_a n (p + 1) (mu μ 66 0 p 1) (by omega) (by omega)
    rw [g34_2]
    unfold fb0
    rw [← ih]
    simp (disch := first | omega | (simp (disch := decide) only [zmu0, mu_g, List.length_nil, List.length_cons]; omega)) only [g34_0, g34_1, g34_3, g34_5, g34_8, g34_9, g34_12, g34_13, g34_14, g34_15, g34_18, g34_22, g34_25, g34_28, g34_29, g34_30, g34_31, g34_32, g34_35, g34_36, g34_39, g34_40, g34_43, g34_46, g34_47, g34_48, g34_49, g34_52, g34_55, g34_56, g34_57, g34_58, g34_59, g34_60, g34_63, g34_66, ob8, oc8, fl8_0, fl8_1, fl8_2, fl8_3, fl8_4, fl8_5, fl8_6, rd66, wr66, zoA_at, gback_v, gback_n, zem, zisr, zro_at, zrl_at, mu_g, mu_at, mu_mu, mu_self, not_true, not_false_iff, zb0, zb1, zbnd, zbw, zbz, zne1, zone, mrgI, List.length_nil, List.length_cons, Nat.reduceAdd, Nat.reduceSub, Nat.reduceLeDiff, Nat.zero_le, and_true, true_and, false_and, and_false, true_or, or_true, false_or, or_false, G_ite, z10, z1n, z1and, z1or, z0not, z0and, itn, if_true, if_false, reduceIte, Int.reduceEq, Int.reduceLT, Int.reduceNeg, Nat.reduceEqDiff, ite_self, h1]
theorem c34_l (hc0 : 0 ≤ c) : ∀ (n : Nat) (μ : ZU), c = μ 0 0 50 - 1 → μ 50 c 1 ≤ 60 → (n : Int) ≤ μ 50 c 1 → (∀ l, 0 ≤ l → l < μ 50 c 1 → (0 ≤ μ 52 c l ∧ μ 52 c l < 12) ∧ 0 ≤ μ 56 c l ∧ μ 56 c l ≤ 60) →
    (G 34 31 [zR 8 0, zI ((n : Int) - 1)] [] (HM μ) ck sk Q ↔ Q (.inl none) (HM (fbN c n μ)))
  | 0, μ, hc, hL, hn, hI => by
    have h1 : ((0 : Nat) : Int) - 1 < 0 := by omega
    rw [g34_31]
    simp (disch := first | omega | (simp (disch := decide) only [zmu0, mu_g, List.length_nil, List.length_cons]; omega)) only [g34_0, g34_1, g34_2, g34_3, g34_5, g34_8, g34_9, g34_12, g34_13, g34_14, g34_15, g34_18, g34_21, g34_22, g34_25, g34_28, g34_29, g34_30, g34_32, g34_35, g34_36, g34_39, g34_40, g34_43, g34_46, g34_47, g34_48, g34_49, g34_52, g34_55, g34_56, g34_57, g34_58, g34_59, g34_60, g34_63, g34_66, zoA_at, gback_v, gback_n, zem, zisr, zro_at, zrl_at, mu_g, mu_at, mu_mu, mu_self, not_true, not_false_iff, zb0, zb1, zbnd, zbw, zbz, zne1, zone, mrgI, List.length_nil, List.length_cons, Nat.reduceAdd, Nat.reduceSub, Nat.reduceLeDiff, Nat.zero_le, and_true, true_and, false_and, and_false, true_or, or_true, false_or, or_false, G_ite, z10, z1n, z1and, z1or, z0not, z0and, itn, if_true, if_false, reduceIte, Int.reduceEq, Int.reduceLT, Int.reduceNeg, Nat.reduceEqDiff, ite_self, h1, fbN]
  | n + 1, μ, hc, hL, hn, hI => by
    have e1 : ((n + 1 : Nat) : Int) - 1 = n := by omega
    have h1 : ¬ (n : Int) < 0 := by omega
    have e3 : (n : Int) + (-1) = n - 1 := by omega
    have hh := hI n (by omega) (by omega)
    have ih := c34_l hc0 n (mu μ 66 0 (μ 52 c n) (μ 56 c n + 1)) (by rw [zmu0 (by decide)]; exact hc) (by rw [mu_g (by decide)]; exact hL) (by rw [mu_g (by decide)]; omega) (by simp (disch := decide) only [mu_g]; exact hI)
    subst hc
    rw [e1, g34_31]
    unfold fbN
    simp (disch := first | omega | (simp (disch := decide) only [zmu0, mu_g, List.length_nil, List.length_cons]; omega)) only [g34_0, g34_1, g34_2, g34_3, g34_5, g34_8, g34_9, g34_12, g34_13, g34_14, g34_15, g34_18, g34_21, g34_22, g34_25, g34_28, g34_29, g34_30, g34_32, g34_35, g34_36, g34_39, g34_40, g34_43, g34_46, g34_47, g34_48, g34_49, g34_52, g34_55, g34_56, g34_57, g34_58, g34_59, g34_60, g34_63, g34_66, ob8, oc8, fl8_0, fl8_1, fl8_2, fl8_3, fl8_4, fl8_5, fl8_6, ob50, oc50, fl50_0, wo50_0, fl50_1, wo50_1, fl50_2, wo50_2, fl50_3, wo50_3, fl50_4, wo50_4, fl50_5, wo50_5, fl50_6, fl50_7, fl50_8, fl50_9, fl50_10, fl50_11, rd52, wr52, rd56, wr56, rd66, wr66, zoA_at, gback_v, gback_n, zem, zisr, zro_at, zrl_at, mu_g, mu_at, mu_mu, mu_self, not_true, not_false_iff, zb0, zb1, zbnd, zbw, zbz, zne1, zone, mrgI, List.length_nil, List.length_cons, Nat.reduceAdd, Nat.reduceSub, Nat.reduceLeDiff, Nat.zero_le, and_true, true_and, false_and, and_false, true_or, or_true, false_or, or_false, G_ite, z10, z1n, z1and, z1or, z0not, z0and, itn, if_true, if_false, reduceIte, Int.reduceEq, Int.reduceLT, Int.reduceNeg, Nat.reduceEqDiff, ite_self, h1, e3, ih]
theorem c32 {μ : ZU} (hc : c = μ 0 0 50 - 1) (hc0 : 0 ≤ c) (hL0 : 0 ≤ μ 50 c 1) (hL : μ 50 c 1 ≤ 60) : G 32 0 [zR 8 0, u, u'] [] (HM μ) ck sk Q ↔ Q (.inl none) (HM (npN c (μ 50 c 1).toNat 0 0 (mu μ 50 c 2 0))) := by
  have e1 := c32_l (ck := ck) (sk := sk) (Q := Q) hc0 (μ 50 c 1).toNat 0 0 (mu μ 50 c 2 0) (by rw [zmu0 (by decide)]; exact hc) (by rw [mu_j (by decide)]; exact hL) (by omega) (by rw [mu_j (by decide)]; omega) (by rw [mu_at]; omega) (by rw [mu_at]; omega)
  subst hc
  simp (disch := first | omega | (simp (disch := decide) only [zmu0, mu_g, List.length_nil, List.length_cons]; omega)) only [g32_0, g32_1, g32_2, g32_3, g32_6, g32_7, g32_10, g32_11, g32_13, g32_14, g32_17, g32_20, g32_23, g32_24, g32_25, g32_28, g32_29, g32_32, g32_33, g32_34, g32_35, g32_36, g32_39, g32_39r, g32_40, g32_43, g32_44, g32_45, g32_48, g32_49, g32_52, g32_55, g32_56, g32_57, g32_60, g32_63, g32_64, g32_65, g32_66, g32_69, g32_72, ob8, oc8, fl8_0, fl8_1, fl8_2, fl8_3, fl8_4, fl8_5, fl8_6, ob50, oc50, fl50_0, wo50_0, fl50_1, wo50_1, fl50_2, wo50_2, fl50_3, wo50_3, fl50_4, wo50_4, fl50_5, wo50_5, fl50_6, fl50_7, fl50_8, fl50_9, fl50_10, fl50_11, zoA_at, gback_v, gback_n, zem, zisr, zro_at, zrl_at, mu_g, mu_at, mu_mu, mu_self, not_true, not_false_iff, zb0, zb1, zbnd, zbw, zbz, zne1, zone, mrgI, List.length_nil, List.length_cons, Nat.reduceAdd, Nat.reduceSub, Nat.reduceLeDiff, Nat.zero_le, and_true, true_and, false_and, and_false, true_or, or_true, false_or, or_false, G_ite, z10, z1n, z1and, z1or, z0not, z0and, itn, if_true, if_false, reduceIte, Int.reduceEq, Int.reduceLT, Int.reduceNeg, Nat.reduceEqDiff, ite_self, e1]
def fbg (c : Int) (μ : ZU) : ZU := fbN c (μ 50 c 1).toNat (fb0 12 0 μ)
theorem c34 {μ : ZU} (hc : c = μ 0 0 50 - 1) (hc0 : 0 ≤ c) (hL0 : 0 ≤ μ 50 c 1) (hL : μ 50 c 1 ≤ 60) (hI : ∀ l, 0 ≤ l → l < μ 50 c 1 → (0 ≤ μ 52 c l ∧ μ 52 c l < 12) ∧ 0 ≤ μ 56 c l ∧ μ 56 c l ≤ 60) : G 34 0 [zR 8 0, u] [] (HM μ) ck sk Q ↔ Q (.inl none) (HM (fbg c μ)) := by
  have e2 := c34_l (ck := ck) (sk := sk) (Q := Q) hc0 (μ 50 c 1).toNat (fb0 12 0 μ) (by rw [fb0_g (by decide)]; exact hc) (by rw [fb0_g (by decide)]; exact hL) (by rw [fb0_g (by decide)]; omega) (by rw [fb0_g (k := 50) (by decide), fb0_g (k := 52) (by decide), fb0_g (k := 56) (by decide)]; exact hI)
  have e3 : ((μ 50 c 1).toNat : Int) - 1 = μ 50 c 1 - 1 := by omega
  have e4 : fb0 12 0 μ 50 = μ 50 := fb0_g (by decide) _ _ _
  have e5 : fb0 12 0 μ 0 = μ 0 := fb0_g (by decide) _ _ _
  rw [e3] at e2
  simp only [g34_0, g34_1]
  rw [c34_a 12 0 μ (by omega) (by omega)]
  subst hc
  unfold fbg
  rw [← e5] at e2 hc0
  have h5 : fb0 12 0 μ 0 0 50 - 1 < fb0 12 0 μ 0 0 50 := by omega
  have h6 : 0 ≤ μ 50 (fb0 12 0 μ 0 0 50 - 1) 1 ∧ μ 50 (fb0 12 0 μ 0 0 50 - 1) 1 ≤ 60 := by rw [e5]; exact ⟨hL0, hL⟩
  simp (disch := first | omega | (simp (disch := decide) only [zmu0, mu_g, List.length_nil, List.length_cons]; omega)) only [g34_21, g34_22, g34_25, g34_28, g34_29, g34_30, ob8, oc8, fl8_0, fl8_1, fl8_2, fl8_3, fl8_4, fl8_5, fl8_6, ob50, oc50, fl50_0, wo50_0, fl50_1, wo50_1, fl50_2, wo50_2, fl50_3, wo50_3, fl50_4, wo50_4, fl50_5, wo50_5, fl50_6, fl50_7, fl50_8, fl50_9, fl50_10, fl50_11, zoA_at, gback_v, gback_n, zem, zisr, zro_at, zrl_at, mu_g, mu_at, mu_mu, mu_self, not_true, not_false_iff, zb0, zb1, zbnd, zbw, zbz, zne1, zone, mrgI, List.length_nil, List.length_cons, Nat.reduceAdd, Nat.reduceSub, Nat.reduceLeDiff, Nat.zero_le, and_true, true_and, false_and, and_false, true_or, or_true, false_or, or_false, G_ite, z10, z1n, z1and, z1or, z0not, z0and, itn, if_true, if_false, reduceIte, Int.reduceEq, Int.reduceLT, Int.reduceNeg, Nat.reduceEqDiff, ite_self, e4]
  simp only [e5] at e2 ⊢
  exact e2
/-- references renewed: the memory, whether one shows something else -/
def rnN (c d : Int) : Nat → Int → Int → ZU → ZU × Int
  | 0, _, r, μ => (μ, r)
  | n + 1, w, r, μ => if μ 35 d w = -1 ∨ μ 51 c w = μ 66 0 (μ 35 d w) then rnN c d n (w + 1) r μ else rnN c d n (w + 1) 1 (mu μ 51 c w (μ 66 0 (μ 35 d w)))
theorem c33_l (hc0 : 0 ≤ c) (hd : 0 ≤ d) : ∀ (n : Nat) (w r : Int) (u : ZV) (μ : ZU), c = μ 0 0 50 - 1 → d < μ 0 0 30 → μ 30 d 9 ≤ 60 → (∀ w, 0 ≤ w → w < μ 30 d 9 → -1 ≤ μ 35 d w ∧ μ 35 d w < 12) → 0 ≤ w → w + n = μ 30 d 9 → (r = 0 ∨ r = 1) →
    (G 33 8 [zR 8 0, zR 30 d, zI r, zI w, u] [] (HM μ) ck sk Q ↔ Q (.inl (some (zI (rnN c d n w r μ).2))) (HM (rnN c d n w r μ).1))
  | 0, w, r, u, μ, hc, hd2, h60, hI, h0, hi, hr => by
    have h1 : ¬ w < μ 30 d 9 := by omega
    rw [g33_8]
    simp (disch := first | omega | (simp (disch := decide) only [zmu0, mu_g, List.length_nil, List.length_cons]; omega)) only [g33_0, g33_1, g33_4, g33_5, g33_6, g33_7, g33_9, g33_10, g33_13, g33_16, g33_17, g33_20, g33_21, g33_22, g33_24, g33_26, g33_27, g33_30, g33_31, g33_34, g33_37, g33_38, g33_39, g33_40, g33_43, g33_45, g33_46, g33_49, g33_50, g33_53, g33_56, g33_57, g33_58, g33_61, g33_63, g33_64, g33_65, g33_66, g33_67, g33_70, g33_73, g33_74, ob30, oc30, fl30_0, wo30_0, fl30_1, wo30_1, fl30_2, fl30_3, fl30_4, fl30_5, fl30_6, fl30_7, wo30_7, fl30_8, wo30_8, fl30_9, wo30_9, fl30_10, wo30_10, zoA_at, gback_v, gback_n, zem, zisr, zro_at, zrl_at, mu_g, mu_at, mu_mu, mu_self, not_true, not_false_iff, zb0, zb1, zbnd, zbw, zbz, zne1, zone, mrgI, List.length_nil, List.length_cons, Nat.reduceAdd, Nat.reduceSub, Nat.reduceLeDiff, Nat.zero_le, and_true, true_and, false_and, and_false, true_or, or_true, false_or, or_false, G_ite, z10, z1n, z1and, z1or, z0not, z0and, itn, if_true, if_false, reduceIte, Int.reduceEq, Int.reduceLT, Int.reduceNeg, Nat.reduceEqDiff, ite_self, h1, rnN, zb01]
  | n + 1, w, r, u, μ, hc, hd2, h60, hI, h0, hi, hr => by
    have h1 : w < μ 30 d 9 := by omega
    have hh := hI w h0 h1
    have ih1 := fun u => c33_l hc0 hd n (w + 1) r u μ hc hd2 h60 hI (by omega) (by omega) hr
    have ih2 := fun u => c33_l hc0 hd n (w + 1) 1 u (mu μ 51 c w (μ 66 0 (μ 35 d w))) (by rw [zmu0 (by decide)]; exact hc) (by rw [zmu0 (by decide)]; exact hd2) (by rw [mu_g (by decide)]; exact h60) (by rw [mu_g (by decide), mu_g (by decide)]; exact hI) (by omega) (by rw [mu_g (by decide)]; omega) (Or.inr rfl)
    subst hc
    rw [g33_8]
    unfold rnN
    by_cases h2 : μ 35 d w = -1
    · rw [if_pos (Or.inl h2)]
      simp (disch := first | omega | (simp (disch := decide) only [zmu0, mu_g, List.length_nil, List.length_cons]; omega)) only [g33_0, g33_1, g33_4, g33_5, g33_6, g33_7, g33_9, g33_10, g33_13, g33_16, g33_17, g33_20, g33_21, g33_22, g33_24, g33_26, g33_27, g33_30, g33_31, g33_34, g33_37, g33_38, g33_39, g33_40, g33_43, g33_45, g33_46, g33_49, g33_50, g33_53, g33_56, g33_57, g33_58, g33_61, g33_63, g33_64, g33_65, g33_66, g33_67, g33_70, g33_73, g33_74, ob8, oc8, fl8_0, fl8_1, fl8_2, fl8_3, fl8_4, fl8_5, fl8_6, ob30, oc30, fl30_0, wo30_0, fl30_1, wo30_1, fl30_2, fl30_3, fl30_4, fl30_5, fl30_6, fl30_7, wo30_7, fl30_8, wo30_8, fl30_9, wo30_9, fl30_10, wo30_10, rd35, wr35, ob50, oc50, fl50_0, wo50_0, fl50_1, wo50_1, fl50_2, wo50_2, fl50_3, wo50_3, fl50_4, wo50_4, fl50_5, wo50_5, fl50_6, fl50_7, fl50_8, fl50_9, fl50_10, fl50_11, rd51, wr51, rd66, wr66, zoA_at, gback_v, gback_n, zem, zisr, zro_at, zrl_at, mu_g, mu_at, mu_mu, mu_self, not_true, not_false_iff, zb0, zb1, zbnd, zbw, zbz, zne1, zone, mrgI, List.length_nil, List.length_cons, Nat.reduceAdd, Nat.reduceSub, Nat.reduceLeDiff, Nat.zero_le, and_true, true_and, false_and, and_false, true_or, or_true, false_or, or_false, G_ite, z10, z1n, z1and, z1or, z0not, z0and, itn, if_true, if_false, reduceIte, Int.reduceEq, Int.reduceLT, Int.reduceNeg, Nat.reduceEqDiff, ite_self, h1, h2, ih1]
    · by_cases h3 : μ 51 (μ 0 0 50 - 1) w = μ 66 0 (μ 35 d w)
      · rw [if_pos (Or.inr h3)]
        simp (disch := first | omega | (simp (disch := decide) only [zmu0, mu_g, List.length_nil, List.length_cons]; omega)) only [g33_0, g33_1, g33_4, g33_5, g33_6, g33_7, g33_9, g33_10, g33_13, g33_16, g33_17, g33_20, g33_21, g33_22, g33_24, g33_26, g33_27, g33_30, g33_31, g33_34, g33_37, g33_38, g33_39, g33_40, g33_43, g33_45, g33_46, g33_49, g33_50, g33_53, g33_56, g33_57, g33_58, g33_61, g33_63, g33_64, g33_65, g33_66, g33_67, g33_70, g33_73, g33_74, ob8, oc8, fl8_0, fl8_1, fl8_2, fl8_3, fl8_4, fl8_5, fl8_6, ob30, oc30, fl30_0, wo30_0, fl30_1, wo30_1, fl30_2, fl30_3, fl30_4, fl30_5, fl30_6, fl30_7, wo30_7, fl30_8, wo30_8, fl30_9, wo30_9, fl30_10, wo30_10, rd35, wr35, ob50, oc50, fl50_0, wo50_0, fl50_1, wo50_1, fl50_2, wo50_2, fl50_3, wo50_3, fl50_4, wo50_4, fl50_5, wo50_5, fl50_6, fl50_7, fl50_8, fl50_9, fl50_10, fl50_11, rd51, wr51, rd66, wr66, zoA_at, gback_v, gback_n, zem, zisr, zro_at, zrl_at, mu_g, mu_at, mu_mu, mu_self, not_true, not_false_iff, zb0, zb1, zbnd, zbw, zbz, zne1, zone, mrgI, List.length_nil, List.length_cons, Nat.reduceAdd, Nat.reduceSub, Nat.reduceLeDiff, Nat.zero_le, and_true, true_and, false_and, and_false, true_or, or_true, false_or, or_false, G_ite, z10, z1n, z1and, z1or, z0not, z0and, itn, if_true, if_false, reduceIte, Int.reduceEq, Int.reduceLT, Int.reduceNeg, Nat.reduceEqDiff, ite_self, h1, h2, h3, ih1]
      · rw [if_neg (fun z => z.elim h2 h3)]
        simp (disch := first | omega | (simp (disch := decide) only [zmu0, mu_g, List.length_nil, List.length_cons]; omega)) only [g33_0, g33_1, g33_4, g33_5, g33_6, g33_7, g33_9, g33_10, g33_13, g33_16, g33_17, g33_20, g33_21, g33_22, g33_24, g33_26, g33_27, g33_30, g33_31, g33_34, g33_37, g33_38, g33_39, g33_40, g33_43, g33_45, g33_46, g33_49, g33_50, g33_53, g33_56, g33_57, g33_58, g33_61, g33_63, g33_64, g33_65, g33_66, g33_67, g33_70, g33_73, g33_74, ob8, oc8, fl8_0, fl8_1, fl8_2, fl8_3, fl8_4, fl8_5, fl8_6, ob30, oc30, fl30_0, wo30_0, fl30_1, wo30_1, fl30_2, fl30_3, fl30_4, fl30_5, fl30_6, fl30_7, wo30_7, fl30_8, wo30_8, fl30_9, wo30_9, fl30_10, wo30_10, rd35, wr35, ob50, oc50, fl50_0, wo50_0, fl50_1, wo50_1, fl50_2, wo50_2, fl50_3, wo50_3, fl50_4, wo50_4, fl50_5, wo50_5, fl50_6, fl50_7, fl50_8, fl50_9, fl50_10, fl50_11, rd51, wr51, rd66, wr66, zoA_at, gback_v, gback_n, zem, zisr, zro_at, zrl_at, mu_g, mu_at, mu_mu, mu_self, not_true, not_false_iff, zb0, zb1, zbnd, zbw, zbz, zne1, zone, mrgI, List.length_nil, List.length_cons, Nat.reduceAdd, Nat.reduceSub, Nat.reduceLeDiff, Nat.zero_le, and_true, true_and, false_and, and_false, true_or, or_true, false_or, or_false, G_ite, z10, z1n, z1and, z1or, z0not, z0and, itn, if_true, if_false, reduceIte, Int.reduceEq, Int.reduceLT, Int.reduceNeg, Nat.reduceEqDiff, ite_self, h1, h2, h3, ih2]
end ZL7
