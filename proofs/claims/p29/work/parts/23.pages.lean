/-! ===== the class: borders, pages ===== -/
def opn (L : Int) (hm : Int → Int) (l : Int) : Prop := l = 0 ∨ ¬ hm (l - 1) = hm l
def cls (L : Int) (hm : Int → Int) (l : Int) : Prop := l = L - 1 ∨ ¬ hm (l + 1) = hm l
def hgt (L : Int) (hm : Int → Int) (s l : Int) : Int := if l = L - 1 ∨ ¬ hm (l + 1) = hm l then 1 + s else 1
def bd7 (L : Int) (hm : Int → Int) (l : Int) : Int := if (l = 0 ∨ ¬ hm (l - 1) = hm l) ∧ ¬ (l = L - 1 ∨ ¬ hm (l + 1) = hm l) then 7 else 0
def bd10 (L : Int) (hm : Int → Int) (l : Int) : Int := if (l = L - 1 ∨ ¬ hm (l + 1) = hm l) ∧ ¬ (l = 0 ∨ ¬ hm (l - 1) = hm l) then 10 else 0
def bdp (L : Int) (hm : Int → Int) (l : Int) : Int := bd7 L hm (l - 1) + bd10 L hm l
def wl1 (c s l : Int) (μ : ZU) : ZU := mu (mu μ 62 0 l (hgt (μ 50 c 1) (μ 52 c) s l)) 63 0 l (if l = 0 then 0 else bdp (μ 50 c 1) (μ 52 c) l)
def wlN (c s : Int) : Nat → Int → ZU → ZU
  | 0, _, μ => μ
  | n + 1, l, μ => wlN c s n (l + 1) (wl1 c s l μ)
def pw (L : Int) (bd ls : Int → Int) (e m : Int) : Int := if e < L then max m 0 * max m 0 + bd e + ls e else 0
def cpg (L H : Int) (hg bd ls : Int → Int) : Nat → Int → Int → Int → Int → Int × Int
  | 0, _, _, lb, pe => (lb, pe)
  | n + 1, e, f, lb, pe => if H < f + hg (e - 1) then (lb, pe) else if lb < pw L bd ls e (H - (f + hg (e - 1))) then cpg L H hg bd ls n (e + 1) (f + hg (e - 1)) lb pe else cpg L H hg bd ls n (e + 1) (f + hg (e - 1)) (pw L bd ls e (H - (f + hg (e - 1)))) e
section ZL6
variable {h : ZH} {μ : ZU} {ck sk : Nat} {Q : ZO → ZH → Prop} {a b c d e f l s v w x m H L : Int} {u u' u'' u''' : ZV}
theorem c28 (hc : c = μ 0 0 50 - 1) (hc0 : 0 ≤ c) (hL2 : μ 50 c 1 ≤ 60) (hb : 1 ≤ b) (hb2 : b < μ 50 c 1) : G 28 0 [zR 8 0, zI b, u, u'] [] (HM μ) ck sk Q ↔ Q (.inl (some (zI (bdp (μ 50 c 1) (μ 52 c) b)))) (HM μ) := by
  subst hc
  have e1 := fun (ck sk : Nat) (Q : ZO → ZH → Prop) => c38 (μ := μ) (ck := ck) (sk := sk) (Q := Q) (a := μ 0 0 50 - 1) (b := b) hc0 (by omega) (by omega) (by omega)
  have e2 := fun (ck sk : Nat) (Q : ZO → ZH → Prop) => c39 (μ := μ) (ck := ck) (sk := sk) (Q := Q) (a := μ 0 0 50 - 1) (b := b) hc0 (by omega) (by omega) (by omega) hL2 (by omega) hb2
  have e3 := fun (ck sk : Nat) (Q : ZO → ZH → Prop) => c38 (μ := μ) (ck := ck) (sk := sk) (Q := Q) (a := μ 0 0 50 - 1) (b := b - 1) hc0 (by omega) (by omega) (by omega)
  have e4 := fun (ck sk : Nat) (Q : ZO → ZH → Prop) => c39 (μ := μ) (ck := ck) (sk := sk) (Q := Q) (a := μ 0 0 50 - 1) (b := b - 1) hc0 (by omega) (by omega) (by omega) hL2 (by omega) (by omega)
  unfold bdp bd7 bd10
  by_cases h1 : b - 1 = 0 ∨ ¬ μ 52 (μ 0 0 50 - 1) (b - 1 - 1) = μ 52 (μ 0 0 50 - 1) (b - 1) <;> by_cases h2 : b - 1 = μ 50 (μ 0 0 50 - 1) 1 - 1 ∨ ¬ μ 52 (μ 0 0 50 - 1) (b - 1 + 1) = μ 52 (μ 0 0 50 - 1) (b - 1) <;> by_cases h3 : b = μ 50 (μ 0 0 50 - 1) 1 - 1 ∨ ¬ μ 52 (μ 0 0 50 - 1) (b + 1) = μ 52 (μ 0 0 50 - 1) b <;> by_cases h4 : b = 0 ∨ ¬ μ 52 (μ 0 0 50 - 1) (b - 1) = μ 52 (μ 0 0 50 - 1) b <;>
    simp only [h1, h2, h3, h4, if_true, if_false] at e1 e2 e3 e4 <;>
    simp (disch := first | omega | (simp (disch := decide) only [zmu0, mu_g, List.length_nil, List.length_cons]; omega)) only [g28_0, g28_1, g28_2, g28_3, g28_4, g28_5, g28_6, g28_7, g28_10, g28_11, g28_14, g28_17, g28_18, g28_21, g28_22, g28_25, g28_28, g28_31, g28_32, g28_35, g28_36, g28_39, g28_42, g28_43, g28_46, g28_47, g28_50, g28_53, g28_56, g28_57, ob8, oc8, fl8_0, fl8_1, fl8_2, fl8_3, fl8_4, fl8_5, fl8_6, ob50, oc50, fl50_0, wo50_0, fl50_1, wo50_1, fl50_2, wo50_2, fl50_3, wo50_3, fl50_4, wo50_4, fl50_5, wo50_5, fl50_6, fl50_7, fl50_8, fl50_9, fl50_10, fl50_11, zoA_at, gback_v, gback_n, zem, zisr, zro_at, zrl_at, mu_g, mu_at, mu_mu, mu_self, not_true, not_false_iff, zb0, zb1, zbnd, zbw, zbz, zne1, zone, mrgI, List.length_nil, List.length_cons, Nat.reduceAdd, Nat.reduceSub, Nat.reduceLeDiff, Nat.zero_le, and_true, true_and, false_and, and_false, true_or, or_true, false_or, or_false, G_ite, z10, z1n, z1and, z1or, z0not, z0and, itn, if_true, if_false, reduceIte, Int.reduceEq, Int.reduceLT, Int.reduceNeg, Nat.reduceEqDiff, ite_self, e1, e2, e3, e4, h1, h2, h3, h4, Int.reduceAdd]
theorem c27_l (hs : 0 ≤ s) (hs2 : s ≤ 15) (hc0 : 0 ≤ c) : ∀ (n : Nat) (l : Int) (μ : ZU), c = μ 0 0 50 - 1 → μ 50 c 1 ≤ 60 → 0 ≤ l → l + n = μ 50 c 1 →
    (G 27 2 [zR 8 0, zI s, zI l] [] (HM μ) ck sk Q ↔ Q (.inl none) (HM (wlN c s n l μ)))
  | 0, l, μ, hc, hL, h0, hi => by
    have h1 : ¬ l < μ 50 c 1 := by omega
    subst hc
    rw [g27_2]
    simp (disch := first | omega | (simp (disch := decide) only [zmu0, mu_g, List.length_nil, List.length_cons]; omega)) only [g27_0, g27_1, g27_3, g27_4, g27_7, g27_10, g27_13, g27_14, g27_17, g27_18, g27_19, g27_22, g27_23, g27_26, g27_29, g27_30, g27_31, g27_32, g27_35, g27_36, g27_37, g27_38, g27_41, g27_42, g27_43, g27_46, g27_47, g27_50, g27_51, g27_52, g27_55, g27_56, g27_59, g27_62, ob8, oc8, fl8_0, fl8_1, fl8_2, fl8_3, fl8_4, fl8_5, fl8_6, ob50, oc50, fl50_0, wo50_0, fl50_1, wo50_1, fl50_2, wo50_2, fl50_3, wo50_3, fl50_4, wo50_4, fl50_5, wo50_5, fl50_6, fl50_7, fl50_8, fl50_9, fl50_10, fl50_11, zoA_at, gback_v, gback_n, zem, zisr, zro_at, zrl_at, mu_g, mu_at, mu_mu, mu_self, not_true, not_false_iff, zb0, zb1, zbnd, zbw, zbz, zne1, zone, mrgI, List.length_nil, List.length_cons, Nat.reduceAdd, Nat.reduceSub, Nat.reduceLeDiff, Nat.zero_le, and_true, true_and, false_and, and_false, true_or, or_true, false_or, or_false, G_ite, z10, z1n, z1and, z1or, z0not, z0and, itn, if_true, if_false, reduceIte, Int.reduceEq, Int.reduceLT, Int.reduceNeg, Nat.reduceEqDiff, ite_self, h1, wlN]
  | n + 1, l, μ, hc, hL, h0, hi => by
    have h1 : l < μ 50 c 1 := by omega
    have ih := c27_l hs hs2 hc0 n (l + 1) (wl1 c s l μ) (by unfold wl1; rw [zmu0 (by decide), zmu0 (by decide)]; exact hc) (by unfold wl1; rw [mu_g (by decide), mu_g (by decide)]; exact hL) (by omega) (by unfold wl1; rw [mu_g (by decide), mu_g (by decide)]; omega)
    subst hc
    have e2 := fun (ck sk : Nat) (Q : ZO → ZH → Prop) => c39 (μ := μ) (ck := ck) (sk := sk) (Q := Q) (a := μ 0 0 50 - 1) (b := l) hc0 (by omega) (by omega) (by omega) hL (by omega) h1
    rw [g27_2]
    unfold wlN
    by_cases h2 : l = 0
    · have e : wl1 (μ 0 0 50 - 1) s l μ = mu (mu μ 62 0 l (hgt (μ 50 (μ 0 0 50 - 1) 1) (μ 52 (μ 0 0 50 - 1)) s l)) 63 0 l 0 := by unfold wl1; rw [if_pos h2]
      rw [e] at ih ⊢
      simp (disch := first | omega | (simp (disch := decide) only [zmu0, mu_g, List.length_nil, List.length_cons]; omega)) only [g27_0, g27_1, g27_3, g27_4, g27_7, g27_10, g27_13, g27_14, g27_17, g27_18, g27_19, g27_22, g27_23, g27_26, g27_29, g27_30, g27_31, g27_32, g27_35, g27_37, g27_38, g27_41, g27_42, g27_43, g27_46, g27_47, g27_50, g27_51, g27_52, g27_55, g27_56, g27_59, g27_62, ob8, oc8, fl8_0, fl8_1, fl8_2, fl8_3, fl8_4, fl8_5, fl8_6, ob50, oc50, fl50_0, wo50_0, fl50_1, wo50_1, fl50_2, wo50_2, fl50_3, wo50_3, fl50_4, wo50_4, fl50_5, wo50_5, fl50_6, fl50_7, fl50_8, fl50_9, fl50_10, fl50_11, zoA_at, gback_v, gback_n, zem, zisr, zro_at, zrl_at, mu_g, mu_at, mu_mu, mu_self, not_true, not_false_iff, zb0, zb1, zbnd, zbw, zbz, zne1, zone, mrgI, List.length_nil, List.length_cons, Nat.reduceAdd, Nat.reduceSub, Nat.reduceLeDiff, Nat.zero_le, and_true, true_and, false_and, and_false, true_or, or_true, false_or, or_false, G_ite, z10, z1n, z1and, z1or, z0not, z0and, itn, if_true, if_false, reduceIte, Int.reduceEq, Int.reduceLT, Int.reduceNeg, Nat.reduceEqDiff, ite_self, h1, e2]
      have e3 : (if ¬ (l = μ 50 (μ 0 0 50 - 1) 1 - 1 ∨ ¬ μ 52 (μ 0 0 50 - 1) (l + 1) = μ 52 (μ 0 0 50 - 1) l) then 1 else 1 + s) = hgt (μ 50 (μ 0 0 50 - 1) 1) (μ 52 (μ 0 0 50 - 1)) s l := by unfold hgt; rw [ite_not]
      rw [e3]
      simp (disch := first | omega | (simp (disch := decide) only [zmu0, mu_g, List.length_nil, List.length_cons]; omega)) only [g27_0, g27_1, g27_3, g27_4, g27_7, g27_10, g27_13, g27_14, g27_17, g27_18, g27_19, g27_22, g27_23, g27_26, g27_29, g27_30, g27_31, g27_32, g27_35, g27_36, g27_37, g27_38, g27_41, g27_42, g27_43, g27_46, g27_47, g27_50, g27_51, g27_52, g27_55, g27_56, g27_59, g27_62, ob8, oc8, fl8_0, fl8_1, fl8_2, fl8_3, fl8_4, fl8_5, fl8_6, ob50, oc50, fl50_0, wo50_0, fl50_1, wo50_1, fl50_2, wo50_2, fl50_3, wo50_3, fl50_4, wo50_4, fl50_5, wo50_5, fl50_6, fl50_7, fl50_8, fl50_9, fl50_10, fl50_11, rd62, wr62, rd63, wr63, zoA_at, gback_v, gback_n, zem, zisr, zro_at, zrl_at, mu_g, mu_at, mu_mu, mu_self, not_true, not_false_iff, zb0, zb1, zbnd, zbw, zbz, zne1, zone, mrgI, List.length_nil, List.length_cons, Nat.reduceAdd, Nat.reduceSub, Nat.reduceLeDiff, Nat.zero_le, and_true, true_and, false_and, and_false, true_or, or_true, false_or, or_false, G_ite, z10, z1n, z1and, z1or, z0not, z0and, itn, if_true, if_false, reduceIte, Int.reduceEq, Int.reduceLT, Int.reduceNeg, Nat.reduceEqDiff, ite_self, h2] at ih ⊢
      exact ih
    · have e : wl1 (μ 0 0 50 - 1) s l μ = mu (mu μ 62 0 l (hgt (μ 50 (μ 0 0 50 - 1) 1) (μ 52 (μ 0 0 50 - 1)) s l)) 63 0 l (bdp (μ 50 (μ 0 0 50 - 1) 1) (μ 52 (μ 0 0 50 - 1)) l) := by unfold wl1; rw [if_neg h2]
      rw [e] at ih ⊢
      simp (disch := first | omega | (simp (disch := decide) only [zmu0, mu_g, List.length_nil, List.length_cons]; omega)) only [g27_0, g27_1, g27_3, g27_4, g27_7, g27_10, g27_13, g27_14, g27_17, g27_18, g27_19, g27_22, g27_23, g27_26, g27_29, g27_30, g27_31, g27_32, g27_35, g27_37, g27_38, g27_41, g27_42, g27_43, g27_46, g27_47, g27_50, g27_51, g27_52, g27_55, g27_56, g27_59, g27_62, ob8, oc8, fl8_0, fl8_1, fl8_2, fl8_3, fl8_4, fl8_5, fl8_6, ob50, oc50, fl50_0, wo50_0, fl50_1, wo50_1, fl50_2, wo50_2, fl50_3, wo50_3, fl50_4, wo50_4, fl50_5, wo50_5, fl50_6, fl50_7, fl50_8, fl50_9, fl50_10, fl50_11, zoA_at, gback_v, gback_n, zem, zisr, zro_at, zrl_at, mu_g, mu_at, mu_mu, mu_self, not_true, not_false_iff, zb0, zb1, zbnd, zbw, zbz, zne1, zone, mrgI, List.length_nil, List.length_cons, Nat.reduceAdd, Nat.reduceSub, Nat.reduceLeDiff, Nat.zero_le, and_true, true_and, false_and, and_false, true_or, or_true, false_or, or_false, G_ite, z10, z1n, z1and, z1or, z0not, z0and, itn, if_true, if_false, reduceIte, Int.reduceEq, Int.reduceLT, Int.reduceNeg, Nat.reduceEqDiff, ite_self, h1, e2]
      have e3 : (if ¬ (l = μ 50 (μ 0 0 50 - 1) 1 - 1 ∨ ¬ μ 52 (μ 0 0 50 - 1) (l + 1) = μ 52 (μ 0 0 50 - 1) l) then 1 else 1 + s) = hgt (μ 50 (μ 0 0 50 - 1) 1) (μ 52 (μ 0 0 50 - 1)) s l := by unfold hgt; rw [ite_not]
      rw [e3]
      have e5 := fun (ck sk : Nat) (Q : ZO → ZH → Prop) (u u' : ZV) => c28 (μ := mu μ 62 0 l (hgt (μ 50 (μ 0 0 50 - 1) 1) (μ 52 (μ 0 0 50 - 1)) s l)) (ck := ck) (sk := sk) (Q := Q) (u := u) (u' := u') (c := μ 0 0 50 - 1) (b := l) (by rw [zmu0 (by decide)]) hc0 (by rw [mu_g (by decide)]; exact hL) (by omega) (by rw [mu_g (by decide)]; exact h1)
      simp (disch := decide) only [mu_g] at e5
      simp (disch := first | omega | (simp (disch := decide) only [zmu0, mu_g, List.length_nil, List.length_cons]; omega)) only [g27_0, g27_1, g27_3, g27_4, g27_7, g27_10, g27_13, g27_14, g27_17, g27_18, g27_19, g27_22, g27_23, g27_26, g27_29, g27_30, g27_31, g27_32, g27_35, g27_36, g27_37, g27_38, g27_41, g27_42, g27_43, g27_46, g27_47, g27_50, g27_51, g27_52, g27_55, g27_56, g27_59, g27_62, ob8, oc8, fl8_0, fl8_1, fl8_2, fl8_3, fl8_4, fl8_5, fl8_6, ob50, oc50, fl50_0, wo50_0, fl50_1, wo50_1, fl50_2, wo50_2, fl50_3, wo50_3, fl50_4, wo50_4, fl50_5, wo50_5, fl50_6, fl50_7, fl50_8, fl50_9, fl50_10, fl50_11, rd62, wr62, rd63, wr63, zoA_at, gback_v, gback_n, zem, zisr, zro_at, zrl_at, mu_g, mu_at, mu_mu, mu_self, not_true, not_false_iff, zb0, zb1, zbnd, zbw, zbz, zne1, zone, mrgI, List.length_nil, List.length_cons, Nat.reduceAdd, Nat.reduceSub, Nat.reduceLeDiff, Nat.zero_le, and_true, true_and, false_and, and_false, true_or, or_true, false_or, or_false, G_ite, z10, z1n, z1and, z1or, z0not, z0and, itn, if_true, if_false, reduceIte, Int.reduceEq, Int.reduceLT, Int.reduceNeg, Nat.reduceEqDiff, ite_self, h2, e5, ih]
theorem c27 (hs : 0 ≤ s) (hs2 : s ≤ 15) (hc0 : 0 < μ 0 0 50) (hL0 : 0 ≤ μ 50 (μ 0 0 50 - 1) 1) (hL : μ 50 (μ 0 0 50 - 1) 1 ≤ 60) : G 27 0 [zR 8 0, zI s, u] [] (HM μ) ck sk Q ↔ Q (.inl none) (HM (wlN (μ 0 0 50 - 1) s (μ 50 (μ 0 0 50 - 1) 1).toNat 0 μ)) := by
  simp (disch := first | omega | (simp (disch := decide) only [zmu0, mu_g, List.length_nil, List.length_cons]; omega)) only [g27_0, g27_1]
  exact c27_l hs hs2 (by omega) _ 0 μ rfl hL (by omega) (by omega)
theorem c31 (hc : c = μ 0 0 50 - 1) (hc0 : 0 ≤ c) (hL2 : μ 50 c 1 ≤ 60) (he : 0 ≤ e) (hm : m ≤ 12) (hbd : e < μ 50 c 1 → 0 ≤ μ 63 0 e ∧ μ 63 0 e ≤ 17) (hls : e < μ 50 c 1 → 0 ≤ μ 64 0 e ∧ μ 64 0 e ≤ 10000) : G 31 0 [zR 8 0, zI e, zI m, u] [] (HM μ) ck sk Q ↔ Q (.inl (some (zI (pw (μ 50 c 1) (μ 63 0) (μ 64 0) e m)))) (HM μ) := by
  subst hc
  unfold pw
  by_cases h1 : e < μ 50 (μ 0 0 50 - 1) 1
  · have hg : 0 ≤ max m 0 ∧ max m 0 ≤ 12 := by omega
    have g1 : 0 ≤ max m 0 * max m 0 := Int.mul_nonneg hg.1 hg.1
    have g2 : max m 0 * max m 0 ≤ 12 * 12 := Int.mul_le_mul hg.2 hg.2 hg.1 (by omega)
    have b1 := hbd h1
    have b2 := hls h1
    generalize hgg : max m 0 * max m 0 = gg at *
    simp (disch := first | omega | (simp (disch := decide) only [zmu0, mu_g, List.length_nil, List.length_cons]; omega)) only [g31_0, g31_1, g31_2, g31_5, g31_8, g31_11, g31_12, g31_13, g31_14, g31_15, g31_18, g31_19, g31_20, g31_21, g31_22, g31_23, g31_26, g31_27, g31_28, g31_29, g31_30, g31_33, g31_34, g31_35, g31_36, ob8, oc8, fl8_0, fl8_1, fl8_2, fl8_3, fl8_4, fl8_5, fl8_6, ob50, oc50, fl50_0, wo50_0, fl50_1, wo50_1, fl50_2, wo50_2, fl50_3, wo50_3, fl50_4, wo50_4, fl50_5, wo50_5, fl50_6, fl50_7, fl50_8, fl50_9, fl50_10, fl50_11, rd63, wr63, rd64, wr64, zoA_at, gback_v, gback_n, zem, zisr, zro_at, zrl_at, mu_g, mu_at, mu_mu, mu_self, not_true, not_false_iff, zb0, zb1, zbnd, zbw, zbz, zne1, zone, mrgI, List.length_nil, List.length_cons, Nat.reduceAdd, Nat.reduceSub, Nat.reduceLeDiff, Nat.zero_le, and_true, true_and, false_and, and_false, true_or, or_true, false_or, or_false, G_ite, z10, z1n, z1and, z1or, z0not, z0and, itn, if_true, if_false, reduceIte, Int.reduceEq, Int.reduceLT, Int.reduceNeg, Nat.reduceEqDiff, ite_self, h1, hgg]
  · simp (disch := first | omega | (simp (disch := decide) only [zmu0, mu_g, List.length_nil, List.length_cons]; omega)) only [g31_0, g31_1, g31_2, g31_5, g31_8, g31_11, g31_12, g31_13, g31_14, g31_15, g31_18, g31_19, g31_20, g31_21, g31_22, g31_23, g31_26, g31_27, g31_28, g31_29, g31_30, g31_33, g31_34, g31_35, g31_36, ob8, oc8, fl8_0, fl8_1, fl8_2, fl8_3, fl8_4, fl8_5, fl8_6, ob50, oc50, fl50_0, wo50_0, fl50_1, wo50_1, fl50_2, wo50_2, fl50_3, wo50_3, fl50_4, wo50_4, fl50_5, wo50_5, fl50_6, fl50_7, fl50_8, fl50_9, fl50_10, fl50_11, rd63, wr63, rd64, wr64, zoA_at, gback_v, gback_n, zem, zisr, zro_at, zrl_at, mu_g, mu_at, mu_mu, mu_self, not_true, not_false_iff, zb0, zb1, zbnd, zbw, zbz, zne1, zone, mrgI, List.length_nil, List.length_cons, Nat.reduceAdd, Nat.reduceSub, Nat.reduceLeDiff, Nat.zero_le, and_true, true_and, false_and, and_false, true_or, or_true, false_or, or_false, G_ite, z10, z1n, z1and, z1or, z0not, z0and, itn, if_true, if_false, reduceIte, Int.reduceEq, Int.reduceLT, Int.reduceNeg, Nat.reduceEqDiff, ite_self, h1]
/-- what choosePage needs of the lines ahead -/
def pgI (L : Int) (hg bd ls : Int → Int) (b : Int) : Prop := (∀ e, 0 ≤ e → e < L → 1 ≤ hg e ∧ hg e ≤ 16) ∧ (∀ e, 0 ≤ e → e < L → 0 ≤ bd e ∧ bd e ≤ 17) ∧ ∀ e, b < e → e < L → 0 ≤ ls e ∧ ls e ≤ 161 * (L - e)
theorem pw_b {bd ls : Int → Int} (hm : m ≤ 12) (hL : L ≤ 60) (hbL : b < L) (he : b < e) (hbd : e < L → 0 ≤ bd e ∧ bd e ≤ 17) (hls : e < L → 0 ≤ ls e ∧ ls e ≤ 161 * (L - e)) : 0 ≤ pw L bd ls e m ∧ pw L bd ls e m ≤ 161 * (L - b) := by
  unfold pw
  split
  · rename_i h1
    have hg : 0 ≤ max m 0 ∧ max m 0 ≤ 12 := by omega
    have g1 : 0 ≤ max m 0 * max m 0 := Int.mul_nonneg hg.1 hg.1
    have g2 : max m 0 * max m 0 ≤ 12 * 12 := Int.mul_le_mul hg.2 hg.2 hg.1 (by omega)
    have b1 := hbd h1
    have b2 := hls h1
    omega
  · omega
theorem cpg_b {hg bd ls : Int → Int} (hH : H ≤ 12) (hL : L ≤ 60) (hb : 0 ≤ b) (hbL : b < L) (hI : pgI L hg bd ls b) : ∀ (n : Nat) (e f lb pe : Int), b + 2 ≤ e → e + n = L + 1 → 0 ≤ f → 0 ≤ lb → lb ≤ 161 * (L - b) → b < pe → pe ≤ L →
    (0 ≤ (cpg L H hg bd ls n e f lb pe).1 ∧ (cpg L H hg bd ls n e f lb pe).1 ≤ 161 * (L - b)) ∧ b < (cpg L H hg bd ls n e f lb pe).2 ∧ (cpg L H hg bd ls n e f lb pe).2 ≤ L
  | 0, e, f, lb, pe, h0, hi, hf, hl, hl2, hp, hp2 => ⟨⟨hl, hl2⟩, hp, hp2⟩
  | n + 1, e, f, lb, pe, h0, hi, hf, hl, hl2, hp, hp2 => by
    have hgg := hI.1 (e - 1) (by omega) (by omega)
    have hpw := pw_b (b := b) (m := H - (f + hg (e - 1))) (e := e) (bd := bd) (ls := ls) (by omega) hL hbL (by omega) (fun z => hI.2.1 e (by omega) z) (fun z => hI.2.2 e (by omega) z)
    unfold cpg
    split
    · exact ⟨⟨hl, hl2⟩, hp, hp2⟩
    · split
      · exact cpg_b hH hL hb hbL hI n (e + 1) _ lb pe (by omega) (by omega) (by omega) hl hl2 hp hp2
      · exact cpg_b hH hL hb hbL hI n (e + 1) _ _ e (by omega) (by omega) (by omega) hpw.1 hpw.2 (by omega) (by omega)
theorem pw_at {bd ls : Int → Int} {μ : ZU} (he : b < e) (hls : ∀ e, b < e → ls e = μ 64 0 e) : pw L bd ls e m = pw L bd (μ 64 0) e m := by
  unfold pw
  rw [hls e he]
theorem c30_l (hc0 : 0 ≤ c) (hH : H ≤ 12) (hH0 : 3 ≤ H) (hb : 0 ≤ b) : ∀ (n : Nat) (e f lb pe : Int) (u : ZV), c = μ 0 0 50 - 1 → L = μ 50 c 1 → L ≤ 60 → b < L → pgI L (μ 62 0) (μ 63 0) (μ 64 0) b → b + 2 ≤ e → e + n = L + 1 → 0 ≤ f → f ≤ 16 * e → 0 ≤ lb → lb ≤ 161 * (L - b) → b < pe → pe ≤ L →
    (G 30 37 [zR 8 0, zI b, zI H, zI f, zI e, u] [] (HM (mu (mu μ 64 0 b lb) 65 0 b pe)) ck sk Q ↔ Q (.inl none) (HM (mu (mu μ 64 0 b (cpg L H (μ 62 0) (μ 63 0) (μ 64 0) n e f lb pe).1) 65 0 b (cpg L H (μ 62 0) (μ 63 0) (μ 64 0) n e f lb pe).2)))
  | 0, e, f, lb, pe, u, hc, hLe, hL, hbL, hI, h0, hi, hf, hf2, hl, hl2, hp, hp2 => by
    have h1 : μ 50 (μ 0 0 50 - 1) 1 < e := by rw [← hc, ← hLe]; omega
    subst hc
    rw [g30_37]
    simp (disch := first | omega | (simp (disch := decide) only [zmu0, mu_g, List.length_nil, List.length_cons]; omega)) only [g30_0, g30_1, g30_4, g30_5, g30_6, g30_7, g30_8, g30_11, g30_12, g30_13, g30_14, g30_15, g30_16, g30_17, g30_18, g30_19, g30_22, g30_23, g30_24, g30_27, g30_28, g30_29, g30_30, g30_31, g30_32, g30_33, g30_34, g30_35, g30_39, g30_40, g30_43, g30_46, g30_49, g30_50, g30_51, g30_54, g30_56, g30_57, g30_58, g30_59, g30_60, g30_61, g30_62, g30_63, g30_66, g30_67, g30_68, g30_70, g30_71, g30_72, g30_73, g30_76, g30_78, g30_80, g30_81, g30_84, g30_85, g30_86, g30_89, g30_90, g30_93, g30_94, g30_96, g30_97, g30_98, g30_101, g30_102, g30_104, g30_105, g30_108, g30_111, ob8, oc8, fl8_0, fl8_1, fl8_2, fl8_3, fl8_4, fl8_5, fl8_6, ob50, oc50, fl50_0, wo50_0, fl50_1, wo50_1, fl50_2, wo50_2, fl50_3, wo50_3, fl50_4, wo50_4, fl50_5, wo50_5, fl50_6, fl50_7, fl50_8, fl50_9, fl50_10, fl50_11, zoA_at, gback_v, gback_n, zem, zisr, zro_at, zrl_at, mu_g, mu_at, mu_mu, mu_self, not_true, not_false_iff, zb0, zb1, zbnd, zbw, zbz, zne1, zone, mrgI, List.length_nil, List.length_cons, Nat.reduceAdd, Nat.reduceSub, Nat.reduceLeDiff, Nat.zero_le, and_true, true_and, false_and, and_false, true_or, or_true, false_or, or_false, G_ite, z10, z1n, z1and, z1or, z0not, z0and, itn, if_true, if_false, reduceIte, Int.reduceEq, Int.reduceLT, Int.reduceNeg, Nat.reduceEqDiff, ite_self, h1, cpg]
  | n + 1, e, f, lb, pe, u, hc, hLe, hL, hbL, hI, h0, hi, hf, hf2, hl, hl2, hp, hp2 => by
    have hgg := hI.1 (e - 1) (by omega) (by omega)
    have hpw := pw_b (b := b) (m := H - (f + μ 62 0 (e - 1))) (e := e) (bd := μ 63 0) (ls := μ 64 0) (by omega) hL hbL (by omega) (fun z => hI.2.1 e (by omega) z) (fun z => hI.2.2 e (by omega) z)
    have ih1 := fun u => c30_l hc0 hH hH0 hb n (e + 1) (f + μ 62 0 (e - 1)) lb pe u hc hLe hL hbL hI (by omega) (by omega) (by omega) (by omega) hl hl2 hp hp2
    have ih2 := fun u => c30_l hc0 hH hH0 hb n (e + 1) (f + μ 62 0 (e - 1)) (pw L (μ 63 0) (μ 64 0) e (H - (f + μ 62 0 (e - 1)))) e u hc hLe hL hbL hI (by omega) (by omega) (by omega) (by omega) hpw.1 hpw.2 (by omega) (by omega)
    have e5 := fun (ck sk : Nat) (Q : ZO → ZH → Prop) (u : ZV) => c31 (μ := mu (mu μ 64 0 b lb) 65 0 b pe) (ck := ck) (sk := sk) (Q := Q) (u := u) (c := c) (e := e) (m := H - (f + μ 62 0 (e - 1))) (by rw [zmu0 (by decide), zmu0 (by decide)]; exact hc) hc0 (by rw [mu_g (by decide), mu_g (by decide), ← hLe]; exact hL) (by omega) (by omega)
      (by rw [mu_g (by decide), mu_g (by decide), mu_g (by decide), mu_g (by decide), ← hLe]; exact fun z => hI.2.1 e (by omega) z) (by rw [mu_g (by decide), mu_g (by decide), mu_g (by decide), ← hLe, mu_j (by omega)]; exact fun z => by have := hI.2.2 e (by omega) z; omega)
    simp (disch := decide) only [mu_g] at e5
    simp only [pw_at (μ := μ) (b := b) (e := e) (ls := mu μ 64 0 b lb 64 0) (by omega) (fun e h => mu_j (by omega))] at e5
    subst hc
    subst hLe
    have h1 : ¬ μ 50 (μ 0 0 50 - 1) 1 < e := by omega
    rw [g30_37]
    unfold cpg
    by_cases q1 : H < f + μ 62 0 (e - 1)
    · simp (disch := first | omega | (simp (disch := decide) only [zmu0, mu_g, List.length_nil, List.length_cons]; omega)) only [g30_0, g30_1, g30_4, g30_5, g30_6, g30_7, g30_8, g30_11, g30_12, g30_13, g30_14, g30_15, g30_16, g30_17, g30_18, g30_19, g30_22, g30_23, g30_24, g30_27, g30_28, g30_29, g30_30, g30_31, g30_32, g30_33, g30_34, g30_35, g30_39, g30_40, g30_43, g30_46, g30_49, g30_50, g30_51, g30_54, g30_56, g30_57, g30_58, g30_59, g30_60, g30_61, g30_62, g30_63, g30_66, g30_67, g30_68, g30_70, g30_71, g30_72, g30_73, g30_76, g30_78, g30_80, g30_81, g30_84, g30_85, g30_86, g30_89, g30_90, g30_93, g30_94, g30_96, g30_97, g30_98, g30_101, g30_102, g30_104, g30_105, g30_108, g30_111, ob8, oc8, fl8_0, fl8_1, fl8_2, fl8_3, fl8_4, fl8_5, fl8_6, ob50, oc50, fl50_0, wo50_0, fl50_1, wo50_1, fl50_2, wo50_2, fl50_3, wo50_3, fl50_4, wo50_4, fl50_5, wo50_5, fl50_6, fl50_7, fl50_8, fl50_9, fl50_10, fl50_11, rd62, wr62, zoA_at, gback_v, gback_n, zem, zisr, zro_at, zrl_at, mu_g, mu_at, mu_mu, mu_self, not_true, not_false_iff, zb0, zb1, zbnd, zbw, zbz, zne1, zone, mrgI, List.length_nil, List.length_cons, Nat.reduceAdd, Nat.reduceSub, Nat.reduceLeDiff, Nat.zero_le, and_true, true_and, false_and, and_false, true_or, or_true, false_or, or_false, G_ite, z10, z1n, z1and, z1or, z0not, z0and, itn, if_true, if_false, reduceIte, Int.reduceEq, Int.reduceLT, Int.reduceNeg, Nat.reduceEqDiff, ite_self, h1, q1]
    · by_cases q2 : lb < pw (μ 50 (μ 0 0 50 - 1) 1) (μ 63 0) (μ 64 0) e (H - (f + μ 62 0 (e - 1)))
      · simp (disch := first | omega | (simp (disch := decide) only [zmu0, mu_g, List.length_nil, List.length_cons]; omega)) only [g30_0, g30_1, g30_4, g30_5, g30_6, g30_7, g30_8, g30_11, g30_12, g30_13, g30_14, g30_15, g30_16, g30_17, g30_18, g30_19, g30_22, g30_23, g30_24, g30_27, g30_28, g30_29, g30_30, g30_31, g30_32, g30_33, g30_34, g30_35, g30_39, g30_40, g30_43, g30_46, g30_49, g30_50, g30_51, g30_54, g30_56, g30_57, g30_58, g30_59, g30_60, g30_61, g30_62, g30_63, g30_66, g30_67, g30_68, g30_70, g30_71, g30_72, g30_73, g30_76, g30_78, g30_80, g30_81, g30_84, g30_85, g30_86, g30_89, g30_90, g30_93, g30_94, g30_96, g30_97, g30_98, g30_101, g30_102, g30_104, g30_105, g30_108, g30_111, ob8, oc8, fl8_0, fl8_1, fl8_2, fl8_3, fl8_4, fl8_5, fl8_6, ob50, oc50, fl50_0, wo50_0, fl50_1, wo50_1, fl50_2, wo50_2, fl50_3, wo50_3, fl50_4, wo50_4, fl50_5, wo50_5, fl50_6, fl50_7, fl50_8, fl50_9, fl50_10, fl50_11, rd62, wr62, rd64, wr64, zoA_at, gback_v, gback_n, zem, zisr, zro_at, zrl_at, mu_g, mu_at, mu_mu, mu_self, not_true, not_false_iff, zb0, zb1, zbnd, zbw, zbz, zne1, zone, mrgI, List.length_nil, List.length_cons, Nat.reduceAdd, Nat.reduceSub, Nat.reduceLeDiff, Nat.zero_le, and_true, true_and, false_and, and_false, true_or, or_true, false_or, or_false, G_ite, z10, z1n, z1and, z1or, z0not, z0and, itn, if_true, if_false, reduceIte, Int.reduceEq, Int.reduceLT, Int.reduceNeg, Nat.reduceEqDiff, ite_self, h1, q1, q2, e5, ih1]
      · simp (disch := first | omega | (simp (disch := decide) only [zmu0, mu_g, List.length_nil, List.length_cons]; omega)) only [g30_0, g30_1, g30_4, g30_5, g30_6, g30_7, g30_8, g30_11, g30_12, g30_13, g30_14, g30_15, g30_16, g30_17, g30_18, g30_19, g30_22, g30_23, g30_24, g30_27, g30_28, g30_29, g30_30, g30_31, g30_32, g30_33, g30_34, g30_35, g30_39, g30_40, g30_43, g30_46, g30_49, g30_50, g30_51, g30_54, g30_56, g30_57, g30_58, g30_59, g30_60, g30_61, g30_62, g30_63, g30_66, g30_67, g30_68, g30_70, g30_71, g30_72, g30_73, g30_76, g30_78, g30_80, g30_81, g30_84, g30_85, g30_86, g30_89, g30_90, g30_93, g30_94, g30_96, g30_97, g30_98, g30_101, g30_102, g30_104, g30_105, g30_108, g30_111, ob8, oc8, fl8_0, fl8_1, fl8_2, fl8_3, fl8_4, fl8_5, fl8_6, ob50, oc50, fl50_0, wo50_0, fl50_1, wo50_1, fl50_2, wo50_2, fl50_3, wo50_3, fl50_4, wo50_4, fl50_5, wo50_5, fl50_6, fl50_7, fl50_8, fl50_9, fl50_10, fl50_11, rd62, wr62, rd64, wr64, rd65, wr65, zoA_at, gback_v, gback_n, zem, zisr, zro_at, zrl_at, mu_g, mu_at, mu_mu, mu_self, not_true, not_false_iff, zb0, zb1, zbnd, zbw, zbz, zne1, zone, mrgI, List.length_nil, List.length_cons, Nat.reduceAdd, Nat.reduceSub, Nat.reduceLeDiff, Nat.zero_le, and_true, true_and, false_and, and_false, true_or, or_true, false_or, or_false, G_ite, z10, z1n, z1and, z1or, z0not, z0and, itn, if_true, if_false, reduceIte, Int.reduceEq, Int.reduceLT, Int.reduceNeg, Nat.reduceEqDiff, ite_self, h1, q1, q2, e5, mu_s3, ih2]
/-- a page that begins with the line b: the least penalties, the line behind it -/
def cpb (L H : Int) (hg bd ls : Int → Int) (b : Int) : Int × Int := cpg L H hg bd ls (L - 1 - b).toNat (b + 2) (hg b) (pw L bd ls (b + 1) (H - hg b)) (b + 1)
theorem cpb_b {hg bd ls : Int → Int} (hH : H ≤ 12) (hL : L ≤ 60) (hb : 0 ≤ b) (hbL : b < L) (hI : pgI L hg bd ls b) :
    (0 ≤ (cpb L H hg bd ls b).1 ∧ (cpb L H hg bd ls b).1 ≤ 161 * (L - b)) ∧ b < (cpb L H hg bd ls b).2 ∧ (cpb L H hg bd ls b).2 ≤ L := by
  have hgg := hI.1 b hb hbL
  have hpw := pw_b (b := b) (m := H - hg b) (e := b + 1) (bd := bd) (ls := ls) (by omega) hL hbL (by omega) (fun z => hI.2.1 (b + 1) (by omega) z) (fun z => hI.2.2 (b + 1) (by omega) z)
  exact cpg_b hH hL hb hbL hI _ _ _ _ _ (by omega) (by omega) (by omega) hpw.1 hpw.2 (by omega) (by omega)
theorem c30 (hc : c = μ 0 0 50 - 1) (hc0 : 0 ≤ c) (hLe : L = μ 50 c 1) (hL : L ≤ 60) (hH : H ≤ 12) (hH0 : 3 ≤ H) (hb : 0 ≤ b) (hbL : b < L) (hI : pgI L (μ 62 0) (μ 63 0) (μ 64 0) b) :
    G 30 0 [zR 8 0, zI b, zI H, u, u', u''] [] (HM μ) ck sk Q ↔ Q (.inl none) (HM (mu (mu μ 64 0 b (cpb L H (μ 62 0) (μ 63 0) (μ 64 0) b).1) 65 0 b (cpb L H (μ 62 0) (μ 63 0) (μ 64 0) b).2)) := by
  have hgg := hI.1 b hb hbL
  have hpw := pw_b (b := b) (m := H - μ 62 0 b) (e := b + 1) (bd := μ 63 0) (ls := μ 64 0) (by omega) hL hbL (by omega) (fun z => hI.2.1 (b + 1) (by omega) z) (fun z => hI.2.2 (b + 1) (by omega) z)
  have e5 := fun (ck sk : Nat) (Q : ZO → ZH → Prop) (u : ZV) => c31 (μ := μ) (ck := ck) (sk := sk) (Q := Q) (u := u) (c := c) (e := b + 1) (m := H - μ 62 0 b) hc hc0 (by rw [← hLe]; exact hL) (by omega) (by omega)
    (by rw [← hLe]; exact fun z => hI.2.1 (b + 1) (by omega) z) (by rw [← hLe]; exact fun z => by have := hI.2.2 (b + 1) (by omega) z; omega)
  have el := fun u => c30_l (ck := ck) (sk := sk) (Q := Q) hc0 hH hH0 hb (L - 1 - b).toNat (b + 2) (μ 62 0 b) (pw L (μ 63 0) (μ 64 0) (b + 1) (H - μ 62 0 b)) (b + 1) u hc hLe hL hbL hI (by omega) (by omega) (by omega) (by omega) hpw.1 hpw.2 (by omega) (by omega)
  unfold cpb
  subst hc
  subst hLe
  simp (disch := first | omega | (simp (disch := decide) only [zmu0, mu_g, List.length_nil, List.length_cons]; omega)) only [g30_0, g30_1, g30_4, g30_5, g30_6, g30_7, g30_8, g30_11, g30_12, g30_13, g30_14, g30_15, g30_16, g30_17, g30_18, g30_19, g30_22, g30_23, g30_24, g30_27, g30_28, g30_29, g30_30, g30_31, g30_32, g30_33, g30_34, g30_35, g30_39, g30_40, g30_43, g30_46, g30_49, g30_50, g30_51, g30_54, g30_56, g30_57, g30_58, g30_59, g30_60, g30_61, g30_62, g30_63, g30_66, g30_67, g30_68, g30_70, g30_71, g30_72, g30_73, g30_76, g30_78, g30_80, g30_81, g30_84, g30_85, g30_86, g30_89, g30_90, g30_93, g30_94, g30_96, g30_97, g30_98, g30_101, g30_102, g30_104, g30_105, g30_108, g30_111, ob8, oc8, fl8_0, fl8_1, fl8_2, fl8_3, fl8_4, fl8_5, fl8_6, ob50, oc50, fl50_0, wo50_0, fl50_1, wo50_1, fl50_2, wo50_2, fl50_3, wo50_3, fl50_4, wo50_4, fl50_5, wo50_5, fl50_6, fl50_7, fl50_8, fl50_9, fl50_10, fl50_11, rd62, wr62, rd64, wr64, rd65, wr65, zoA_at, gback_v, gback_n, zem, zisr, zro_at, zrl_at, mu_g, mu_at, mu_mu, mu_self, not_true, not_false_iff, zb0, zb1, zbnd, zbw, zbz, zne1, zone, mrgI, List.length_nil, List.length_cons, Nat.reduceAdd, Nat.reduceSub, Nat.reduceLeDiff, Nat.zero_le, and_true, true_and, false_and, and_false, true_or, or_true, false_or, or_false, G_ite, z10, z1n, z1and, z1or, z0not, z0and, itn, if_true, if_false, reduceIte, Int.reduceEq, Int.reduceLT, Int.reduceNeg, Nat.reduceEqDiff, ite_self, e5, el]
/-- the pages from a line down on -/
def bp1 (c H l : Int) (μ : ZU) : ZU := mu (mu μ 64 0 l (cpb (μ 50 c 1) H (μ 62 0) (μ 63 0) (μ 64 0) l).1) 65 0 l (cpb (μ 50 c 1) H (μ 62 0) (μ 63 0) (μ 64 0) l).2
def bpN (c H : Int) : Nat → ZU → ZU
  | 0, μ => μ
  | n + 1, μ => bpN c H n (bp1 c H n μ)
theorem bp1_g {k : Nat} (h1 : k ≠ 64) (h2 : k ≠ 65) : bp1 c H l μ k = μ k := by
  unfold bp1
  rw [mu_g h2, mu_g h1]
theorem bp1_I (hH : H ≤ 12) (hL : μ 50 c 1 ≤ 60) (hl : 0 ≤ l) (hlL : l < μ 50 c 1) (hI : pgI (μ 50 c 1) (μ 62 0) (μ 63 0) (μ 64 0) l) : pgI (μ 50 c 1) (μ 62 0) (μ 63 0) (bp1 c H l μ 64 0) (l - 1) := by
  refine ⟨hI.1, hI.2.1, fun e h1 h2 => ?_⟩
  unfold bp1
  rw [mu_g (by decide)]
  by_cases he : e = l
  · rw [he, mu_at]
    exact (cpb_b hH hL hl hlL hI).1
  · rw [mu_j he]
    exact hI.2.2 e (by omega) h2
theorem c29_l (hc0 : 0 ≤ c) (hH : H ≤ 12) (hH0 : 3 ≤ H) : ∀ (n : Nat) (μ : ZU), c = μ 0 0 50 - 1 → μ 50 c 1 ≤ 60 → (n : Int) ≤ μ 50 c 1 → pgI (μ 50 c 1) (μ 62 0) (μ 63 0) (μ 64 0) (n - 1) →
    (G 29 23 [zR 8 0, zI H, zI ((n : Int) - 1)] [] (HM μ) ck sk Q ↔ G 29 39 [zR 8 0, zI H, zI (-1)] [] (HM (bpN c H n μ)) ck sk Q)
  | 0, μ, hc, hL, hn, hI => by
    rw [g29_23]
    simp (disch := first | omega | (simp (disch := decide) only [zmu0, mu_g, List.length_nil, List.length_cons]; omega)) only [g29_24, bpN, zoA_at, gback_v, gback_n, zem, zisr, zro_at, zrl_at, mu_g, mu_at, mu_mu, mu_self, not_true, not_false_iff, zb0, zb1, zbnd, zbw, zbz, zne1, zone, mrgI, List.length_nil, List.length_cons, Nat.reduceAdd, Nat.reduceSub, Nat.reduceLeDiff, Nat.zero_le, and_true, true_and, false_and, and_false, true_or, or_true, false_or, or_false, G_ite, z10, z1n, z1and, z1or, z0not, z0and, itn, if_true, if_false, reduceIte, Int.reduceEq, Int.reduceLT, Int.reduceNeg, Nat.reduceEqDiff, ite_self]
    rw [if_pos (by omega)]
    rfl
  | n + 1, μ, hc, hL, hn, hI => by
    have e1 : ((n + 1 : Nat) : Int) - 1 = n := by omega
    rw [e1] at hI ⊢
    have ih := c29_l hc0 hH hH0 n (bp1 c H n μ) (by rw [bp1_g (by decide) (by decide)]; exact hc) (by rw [bp1_g (by decide) (by decide)]; exact hL) (by rw [bp1_g (by decide) (by decide)]; omega)
      (by rw [bp1_g (by decide) (by decide), bp1_g (k := 62) (by decide) (by decide), bp1_g (k := 63) (by decide) (by decide)]; exact bp1_I hH hL (by omega) (by omega) hI)
    have e2 := fun (ck sk : Nat) (Q : ZO → ZH → Prop) (u u' u'' : ZV) => c30 (ck := ck) (sk := sk) (Q := Q) (u := u) (u' := u') (u'' := u'') (b := (n : Int)) hc hc0 rfl hL hH hH0 (by omega) (by omega) hI
    have h1 : ¬ (n : Int) < 0 := by omega
    have e3 : (n : Int) + (-1) = n - 1 := by omega
    rw [g29_23]
    unfold bpN
    rw [← ih]
    simp (disch := first | omega | (simp (disch := decide) only [zmu0, mu_g, List.length_nil, List.length_cons]; omega)) only [g29_0, g29_1, g29_4, g29_5, g29_8, g29_11, g29_12, g29_13, g29_14, g29_17, g29_20, g29_21, g29_22, g29_24, g29_27, g29_28, g29_29, g29_30, g29_33, g29_36, g29_40, g29_43, g29_44, g29_47, g29_48, g29_49, g29_52, g29_53, g29_56, ob8, oc8, fl8_0, fl8_1, fl8_2, fl8_3, fl8_4, fl8_5, fl8_6, zoA_at, gback_v, gback_n, zem, zisr, zro_at, zrl_at, mu_g, mu_at, mu_mu, mu_self, not_true, not_false_iff, zb0, zb1, zbnd, zbw, zbz, zne1, zone, mrgI, List.length_nil, List.length_cons, Nat.reduceAdd, Nat.reduceSub, Nat.reduceLeDiff, Nat.zero_le, and_true, true_and, false_and, and_false, true_or, or_true, false_or, or_false, G_ite, z10, z1n, z1and, z1or, z0not, z0and, itn, if_true, if_false, reduceIte, Int.reduceEq, Int.reduceLT, Int.reduceNeg, Nat.reduceEqDiff, ite_self, h1, e2, e3, bp1]
end ZL6
