/-! ===== the class: spaces, words measured ===== -/
def spc (inc : Int) (hs : Int → Bool) (sz : Int → Int) : Nat → Int → Int → Int
  | 0, _, s => s
  | n + 1, i, s => spc inc hs sz n (i + 1) (if ¬ zand (zshr inc i) 1 = 0 ∧ hs i = true then s + sz i else s)
/-- a document's words: their paragraphs, styles, fonts -/
def docOK (A F S H : Int → Int) : Prop := 0 ≤ A 9 ∧ A 9 ≤ 60 ∧ ∀ w, 0 ≤ w → w < A 9 → (0 ≤ H w ∧ H w < 12) ∧ (0 ≤ S (H w) ∧ S (H w) < 4) ∧ 0 ≤ F (S (H w)) ∧ F (S (H w)) < 5
/-- what a word of letters is wide, and what was read -/
def wwd (μ : ZU) (d b w r : Int) : Int × Int := ww (fhs μ b) (μ 23 b) (μ 24 b) (kcd (Int64.ofInt (μ 34 d w))) (μ 31 d (μ 32 d (μ 33 d w))) (klen (Int64.ofInt (μ 34 d w))).toNat 0 0 r
def mw1 (μ : ZU) (c d b w : Int) : ZU := if μ 35 d w = -1 then mu (mu (mu μ 51 c w (-1)) 50 c 5 (wwd μ d b w (μ 50 c 5)).2) 61 0 w (wwd μ d b w (μ 50 c 5)).1 else mu (mu μ 51 c w 1) 61 0 w 0
def mwN (c d b : Int) : Nat → Int → ZU → ZU
  | 0, _, μ => μ
  | n + 1, w, μ => mwN c d b n (w + 1) (mw1 μ c d b w)
theorem mw1_g {μ : ZU} {c d b w : Int} {k : Nat} (h1 : k ≠ 51) (h2 : k ≠ 50) (h3 : k ≠ 61) : mw1 μ c d b w k = μ k := by
  unfold mw1
  split
  · rw [mu_g h3, mu_g h2, mu_g h1]
  · rw [mu_g h3, mu_g h1]
section ZL4
variable {h : ZH} {μ : ZU} {ck sk : Nat} {Q : ZO → ZH → Prop} {a b c d e f l s v w x : Int} {u u' : ZV}
theorem c23_l (hb : 0 ≤ b) (hb2 : b < μ 0 0 20) (hd : 0 ≤ d) (hd2 : d < μ 0 0 30) (hsz : ∀ t, 5 ≤ t → t < 10 → 0 ≤ μ 23 b t ∧ μ 23 b t ≤ 3) : ∀ (n : Nat) (i s : Int), 5 ≤ i → i + n = 10 → 0 ≤ s → s ≤ 3 * (i - 5) →
    (G 23 5 [zR 8 0, zR 30 d, zR 21 b, zI s, zI i] [] (HM μ) ck sk Q ↔ Q (.inl (some (zI (spc (μ 30 d 7) (fhs μ b) (μ 23 b) n i s)))) (HM μ))
  | 0, i, s, h0, hi, hs0, hs1 => by
    have h1 : ¬ i < 10 := by omega
    rw [g23_5]
    simp (disch := first | omega | (simp (disch := decide) only [zmu0, mu_g, List.length_nil, List.length_cons]; omega)) only [g23_0, g23_1, g23_2, g23_3, g23_7, g23_9, g23_12, g23_13, g23_16, g23_18, g23_19, g23_20, g23_21, g23_24, g23_25, g23_27, g23_30, g23_33, g23_34, g23_35, g23_38, g23_40, g23_41, g23_42, g23_43, g23_46, g23_49, g23_50, zoA_at, gback_v, gback_n, zem, zisr, zro_at, zrl_at, mu_g, mu_at, mu_mu, mu_self, not_true, not_false_iff, zb0, zb1, zbnd, zbw, zbz, zne1, zone, mrgI, List.length_nil, List.length_cons, Nat.reduceAdd, Nat.reduceSub, Nat.reduceLeDiff, Nat.zero_le, and_true, true_and, false_and, and_false, true_or, or_true, false_or, or_false, G_ite, z10, z1n, z1and, z1or, z0not, z0and, itn, if_true, if_false, reduceIte, Int.reduceEq, Int.reduceLT, Int.reduceNeg, Nat.reduceEqDiff, ite_self, h1, spc]
  | n + 1, i, s, h0, hi, hs0, hs1 => by
    have h1 : i < 10 := by omega
    have hz := hsz i h0 h1
    have ih1 := c23_l hb hb2 hd hd2 hsz n (i + 1) s (by omega) (by omega) (by omega) (by omega)
    have ih2 := c23_l hb hb2 hd hd2 hsz n (i + 1) (s + μ 23 b i) (by omega) (by omega) (by omega) (by omega)
    rw [g23_5]
    unfold spc
    simp (disch := first | omega | (simp (disch := decide) only [zmu0, mu_g, List.length_nil, List.length_cons]; omega)) only [g23_0, g23_1, g23_2, g23_3, g23_7, g23_9, g23_12, g23_13, g23_16, g23_18, g23_19, g23_20, g23_21, g23_24, g23_25, g23_27, g23_30, g23_33, g23_34, g23_35, g23_38, g23_40, g23_41, g23_42, g23_43, g23_46, g23_49, g23_50, ob21, oc21, fl21_0, fl21_1, fl21_2, rd22, wr22, rd23, wr23, ob30, oc30, fl30_0, wo30_0, fl30_1, wo30_1, fl30_2, fl30_3, fl30_4, fl30_5, fl30_6, fl30_7, wo30_7, fl30_8, wo30_8, fl30_9, wo30_9, fl30_10, wo30_10, zoA_at, gback_v, gback_n, zem, zisr, zro_at, zrl_at, mu_g, mu_at, mu_mu, mu_self, not_true, not_false_iff, zb0, zb1, zbnd, zbw, zbz, zne1, zone, mrgI, List.length_nil, List.length_cons, Nat.reduceAdd, Nat.reduceSub, Nat.reduceLeDiff, Nat.zero_le, and_true, true_and, false_and, and_false, true_or, or_true, false_or, or_false, G_ite, z10, z1n, z1and, z1or, z0not, z0and, itn, if_true, if_false, reduceIte, Int.reduceEq, Int.reduceLT, Int.reduceNeg, Nat.reduceEqDiff, ite_self, h1, c6, ih1, ih2]
    by_cases h2 : zand (zshr (μ 30 d 7) i) 1 = 0 <;> by_cases h3 : μ 22 b i = 1 <;> simp [h2, h3]
theorem c23 (hb : 0 ≤ b) (hb2 : b < μ 0 0 20) (hd : 0 ≤ d) (hd2 : d < μ 0 0 30) (hsz : ∀ t, 5 ≤ t → t < 10 → 0 ≤ μ 23 b t ∧ μ 23 b t ≤ 3) :
    G 23 0 [zR 8 0, zR 30 d, zR 21 b, u, u'] [] (HM μ) ck sk Q ↔ Q (.inl (some (zI (spc (μ 30 d 7) (fhs μ b) (μ 23 b) 5 5 0)))) (HM μ) := by
  simp (disch := first | omega | (simp (disch := decide) only [zmu0, mu_g, List.length_nil, List.length_cons]; omega)) only [g23_0, g23_1, g23_2, g23_3, c23_l hb hb2 hd hd2 hsz 5 5 0 (by omega) (by omega) (by omega) (by omega)]
theorem c20_l (hb : 0 ≤ b) (hd : 0 ≤ d) (hc : 0 ≤ c) : ∀ (n : Nat) (w : Int) (u u' : ZV) (μ : ZU), c = μ 0 0 50 - 1 → b < μ 0 0 20 → d < μ 0 0 30 → docOK (μ 30 d) (μ 31 d) (μ 32 d) (μ 33 d) → (∀ t, 0 ≤ t → t < 5 → 0 ≤ μ 23 b t ∧ μ 23 b t ≤ 20) → 0 ≤ w → w + n = μ 30 d 9 →
    (G 20 2 [zR 8 0, zR 30 d, zR 21 b, zI w, u, u'] [] (HM μ) ck sk Q ↔ Q (.inl none) (HM (mwN c d b n w μ)))
  | 0, w, u, u', μ, hc2, hb2, hd2, hD, hsz, h0, hi => by
    have h1 : ¬ w < μ 30 d 9 := by omega
    rw [g20_2]
    simp (disch := first | omega | (simp (disch := decide) only [zmu0, mu_g, List.length_nil, List.length_cons]; omega)) only [g20_0, g20_1, g20_3, g20_4, g20_7, g20_10, g20_11, g20_14, g20_15, g20_16, g20_17, g20_20, g20_21, g20_24, g20_25, g20_27, g20_28, g20_31, g20_34, g20_35, g20_37, g20_40, g20_41, g20_44, g20_45, g20_46, g20_47, g20_50, g20_51, g20_54, g20_55, g20_58, g20_59, g20_60, g20_61, g20_62, g20_64, g20_65, g20_68, g20_69, g20_71, g20_74, g20_75, g20_78, g20_79, g20_80, g20_83, g20_84, g20_85, g20_87, g20_88, g20_91, g20_92, g20_95, g20_98, ob30, oc30, fl30_0, wo30_0, fl30_1, wo30_1, fl30_2, fl30_3, fl30_4, fl30_5, fl30_6, fl30_7, wo30_7, fl30_8, wo30_8, fl30_9, wo30_9, fl30_10, wo30_10, zoA_at, gback_v, gback_n, zem, zisr, zro_at, zrl_at, mu_g, mu_at, mu_mu, mu_self, not_true, not_false_iff, zb0, zb1, zbnd, zbw, zbz, zne1, zone, mrgI, List.length_nil, List.length_cons, Nat.reduceAdd, Nat.reduceSub, Nat.reduceLeDiff, Nat.zero_le, and_true, true_and, false_and, and_false, true_or, or_true, false_or, or_false, G_ite, z10, z1n, z1and, z1or, z0not, z0and, itn, if_true, if_false, reduceIte, Int.reduceEq, Int.reduceLT, Int.reduceNeg, Nat.reduceEqDiff, ite_self, h1, mwN]
  | n + 1, w, u, u', μ, hc2, hb2, hd2, hD, hsz, h0, hi => by
    have h1 : w < μ 30 d 9 := by omega
    have hD1 := hD.2.1
    obtain ⟨hH, hS, hF⟩ := hD.2.2 w h0 h1
    have ih := fun u u' => c20_l hb hd hc n (w + 1) u u' (mw1 μ c d b w) (by rw [mw1_g (by decide) (by decide) (by decide)]; exact hc2) (by rw [mw1_g (by decide) (by decide) (by decide)]; exact hb2) (by rw [mw1_g (by decide) (by decide) (by decide)]; exact hd2)
      (by simp (disch := decide) only [mw1_g]; exact hD) (by simp (disch := decide) only [mw1_g]; exact hsz) (by omega) (by simp (disch := decide) only [mw1_g]; omega)
    rw [g20_2]
    subst hc2
    unfold mwN
    by_cases h2 : μ 35 d w = -1
    · have e : mw1 μ (μ 0 0 50 - 1) d b w = mu (mu (mu μ 51 (μ 0 0 50 - 1) w (-1)) 50 (μ 0 0 50 - 1) 5 (wwd μ d b w (μ 50 (μ 0 0 50 - 1) 5)).2) 61 0 w (wwd μ d b w (μ 50 (μ 0 0 50 - 1) 5)).1 := if_pos h2
      rw [e] at ih ⊢
      simp (disch := first | omega | (simp (disch := decide) only [zmu0, mu_g, List.length_nil, List.length_cons]; omega)) only [g20_0, g20_1, g20_3, g20_4, g20_7, g20_10, g20_11, g20_14, g20_15, g20_16, g20_17, g20_20, g20_21, g20_24, g20_25, g20_27, g20_28, g20_31, g20_34, g20_35, g20_37, g20_40, g20_41, g20_44, g20_45, g20_46, g20_47, g20_50, g20_51, g20_54, g20_55, g20_58, g20_59, g20_60, g20_61, g20_62, g20_64, g20_65, g20_68, g20_69, g20_71, g20_74, g20_75, g20_78, g20_79, g20_80, g20_83, g20_84, g20_85, g20_87, g20_88, g20_91, g20_92, g20_95, g20_98, ob8, oc8, fl8_0, fl8_1, fl8_2, fl8_3, fl8_4, fl8_5, fl8_6, ob30, oc30, fl30_0, wo30_0, fl30_1, wo30_1, fl30_2, fl30_3, fl30_4, fl30_5, fl30_6, fl30_7, wo30_7, fl30_8, wo30_8, fl30_9, wo30_9, fl30_10, wo30_10, rd31, wr31, rd32, wr32, rd33, wr33, rd34, wr34, rd35, wr35, ob50, oc50, fl50_0, wo50_0, fl50_1, wo50_1, fl50_2, wo50_2, fl50_3, wo50_3, fl50_4, wo50_4, fl50_5, wo50_5, fl50_6, fl50_7, fl50_8, fl50_9, fl50_10, fl50_11, rd51, wr51, rd61, wr61, zoA_at, gback_v, gback_n, zem, zisr, zro_at, zrl_at, mu_g, mu_at, mu_mu, mu_self, not_true, not_false_iff, zb0, zb1, zbnd, zbw, zbz, zne1, zone, mrgI, List.length_nil, List.length_cons, Nat.reduceAdd, Nat.reduceSub, Nat.reduceLeDiff, Nat.zero_le, and_true, true_and, false_and, and_false, true_or, or_true, false_or, or_false, G_ite, z10, z1n, z1and, z1or, z0not, z0and, itn, if_true, if_false, reduceIte, Int.reduceEq, Int.reduceLT, Int.reduceNeg, Nat.reduceEqDiff, ite_self, h1, h2, c21, fhs_mu]
      exact ih _ _
    · have e : mw1 μ (μ 0 0 50 - 1) d b w = mu (mu μ 51 (μ 0 0 50 - 1) w 1) 61 0 w 0 := if_neg h2
      rw [e] at ih ⊢
      simp (disch := first | omega | (simp (disch := decide) only [zmu0, mu_g, List.length_nil, List.length_cons]; omega)) only [g20_0, g20_1, g20_3, g20_4, g20_7, g20_10, g20_11, g20_14, g20_15, g20_16, g20_17, g20_20, g20_21, g20_24, g20_25, g20_27, g20_28, g20_31, g20_34, g20_35, g20_37, g20_40, g20_41, g20_44, g20_45, g20_46, g20_47, g20_50, g20_51, g20_54, g20_55, g20_58, g20_59, g20_60, g20_61, g20_62, g20_64, g20_65, g20_68, g20_69, g20_71, g20_74, g20_75, g20_78, g20_79, g20_80, g20_83, g20_84, g20_85, g20_87, g20_88, g20_91, g20_92, g20_95, g20_98, ob8, oc8, fl8_0, fl8_1, fl8_2, fl8_3, fl8_4, fl8_5, fl8_6, ob30, oc30, fl30_0, wo30_0, fl30_1, wo30_1, fl30_2, fl30_3, fl30_4, fl30_5, fl30_6, fl30_7, wo30_7, fl30_8, wo30_8, fl30_9, wo30_9, fl30_10, wo30_10, rd31, wr31, rd32, wr32, rd33, wr33, rd34, wr34, rd35, wr35, ob50, oc50, fl50_0, wo50_0, fl50_1, wo50_1, fl50_2, wo50_2, fl50_3, wo50_3, fl50_4, wo50_4, fl50_5, wo50_5, fl50_6, fl50_7, fl50_8, fl50_9, fl50_10, fl50_11, rd51, wr51, rd61, wr61, zoA_at, gback_v, gback_n, zem, zisr, zro_at, zrl_at, mu_g, mu_at, mu_mu, mu_self, not_true, not_false_iff, zb0, zb1, zbnd, zbw, zbz, zne1, zone, mrgI, List.length_nil, List.length_cons, Nat.reduceAdd, Nat.reduceSub, Nat.reduceLeDiff, Nat.zero_le, and_true, true_and, false_and, and_false, true_or, or_true, false_or, or_false, G_ite, z10, z1n, z1and, z1or, z0not, z0and, itn, if_true, if_false, reduceIte, Int.reduceEq, Int.reduceLT, Int.reduceNeg, Nat.reduceEqDiff, ite_self, h1, h2, ih]
theorem c20 {u'' : ZV} (hb : 0 ≤ b) (hd : 0 ≤ d) (hc : 0 < μ 0 0 50) (hb2 : b < μ 0 0 20) (hd2 : d < μ 0 0 30) (hD : docOK (μ 30 d) (μ 31 d) (μ 32 d) (μ 33 d)) (hsz : ∀ t, 0 ≤ t → t < 5 → 0 ≤ μ 23 b t ∧ μ 23 b t ≤ 20) :
    G 20 0 [zR 8 0, zR 30 d, zR 21 b, u'', u, u'] [] (HM μ) ck sk Q ↔ Q (.inl none) (HM (mwN (μ 0 0 50 - 1) d b (μ 30 d 9).toNat 0 μ)) := by
  have h9 := hD.1
  simp (disch := first | omega | (simp (disch := decide) only [zmu0, mu_g, List.length_nil, List.length_cons]; omega)) only [g20_0, g20_1]
  exact c20_l hb hd (by omega) _ 0 _ _ μ rfl hb2 hd2 hD hsz (by omega) (by omega)
end ZL4
