/-! ===== the class: widths ===== -/
/-- a letter's width and what was read, from a font on -/
def lw (hs : Int → Bool) (sz dt : Int → Int) (f l : Int) : Nat → Int → Int → Int × Int
  | 0, _, r => (10, r)
  | n + 1, i, r => if hs ((f + i) % 5) = true ∧ ¬ zand (zshr (dt ((f + i) % 5)) l) 1 = 0 then (sz ((f + i) % 5), zor r (zshl 1 ((f + i) % 5))) else lw hs sz dt f l n (i + 1) (zor r (zshl 1 ((f + i) % 5)))
/-- a word's width and what was read -/
def ww (hs : Int → Bool) (sz dt cd : Int → Int) (f : Int) : Nat → Int → Int → Int → Int × Int
  | 0, _, s, r => (s, r)
  | n + 1, i, s, r => ww hs sz dt cd f n (i + 1) (s + (lw hs sz dt f (cd i - 1) 5 0 r).1) (lw hs sz dt f (cd i - 1) 5 0 r).2
theorem lw_s {hs : Int → Bool} {sz dt : Int → Int} {f l : Int} {n : Nat} {i r : Int} : lw hs sz dt f l (n + 1) i r = if hs ((f + i) % 5) = true ∧ ¬ zand (zshr (dt ((f + i) % 5)) l) 1 = 0 then (sz ((f + i) % 5), zor r (zshl 1 ((f + i) % 5))) else lw hs sz dt f l n (i + 1) (zor r (zshl 1 ((f + i) % 5))) := rfl
theorem ww_s {hs : Int → Bool} {sz dt cd : Int → Int} {f : Int} {n : Nat} {i s r : Int} : ww hs sz dt cd f (n + 1) i s r = ww hs sz dt cd f n (i + 1) (s + (lw hs sz dt f (cd i - 1) 5 0 r).1) (lw hs sz dt f (cd i - 1) 5 0 r).2 := rfl
theorem lw_b {hs : Int → Bool} {sz dt : Int → Int} {f l : Int} (hf : 0 ≤ f) (hsz : ∀ t, 0 ≤ t → t < 5 → 0 ≤ sz t ∧ sz t ≤ 20) : ∀ (n : Nat) (i r : Int), 0 ≤ i → 0 ≤ (lw hs sz dt f l n i r).1 ∧ (lw hs sz dt f l n i r).1 ≤ 20
  | 0, i, r, _ => by
    unfold lw
    exact ⟨(by decide : (0 : Int) ≤ 10), (by decide : (10 : Int) ≤ 20)⟩
  | n + 1, i, r, hi => by
    unfold lw
    split
    · exact hsz _ (by omega) (by omega)
    · exact lw_b hf hsz n (i + 1) _ (by omega)
section ZL3
variable {h : ZH} {μ : ZU} {ck sk : Nat} {Q : ZO → ZH → Prop} {a b c d e f l s v w x : Int} {u : ZV}
abbrev fhs (μ : ZU) (b : Int) : Int → Bool := fun t => decide (μ 22 b t = 1)
theorem c22_l (hb : 0 ≤ b) (hf : 0 ≤ f) (hf2 : f < 5) : ∀ (n : Nat) (i : Int) (u : ZV) (μ : ZU), 0 < μ 0 0 50 → b < μ 0 0 20 → 0 ≤ i → i + n = 5 →
    (G 22 3 [zR 8 0, zI l, zI f, zR 21 b, zI i, u] [] (HM μ) ck sk Q ↔ Q (.inl (some (zI (lw (fhs μ b) (μ 23 b) (μ 24 b) f l n i (μ 50 (μ 0 0 50 - 1) 5)).1))) (HM (mu μ 50 (μ 0 0 50 - 1) 5 (lw (fhs μ b) (μ 23 b) (μ 24 b) f l n i (μ 50 (μ 0 0 50 - 1) 5)).2)))
  | 0, i, u, μ, hs, hb2, h0, hi => by
    have h1 : ¬ i < 5 := by omega
    rw [g22_3]
    simp (disch := first | omega | (simp (disch := decide) only [zmu0, mu_g, List.length_nil, List.length_cons]; omega)) only [g22_0, g22_1, g22_5, g22_6, g22_9, g22_10, g22_12, g22_13, g22_14, g22_15, g22_17, g22_18, g22_21, g22_21r, g22_22, g22_25, g22_26, g22_28, g22_29, g22_30, g22_33, g22_34, g22_36, g22_39, g22_42, g22_43, g22_46, g22_48, g22_49, g22_50, g22_51, g22_52, g22_53, g22_56, g22_57, g22_60, g22_62, g22_63, g22_64, g22_67, g22_70, g22_72, zoA_at, gback_v, gback_n, zem, zisr, zro_at, zrl_at, mu_g, mu_at, mu_mu, mu_self, not_true, not_false_iff, zb0, zb1, zbnd, zbw, zbz, zne1, zone, mrgI, List.length_nil, List.length_cons, Nat.reduceAdd, Nat.reduceSub, Nat.reduceLeDiff, Nat.zero_le, and_true, true_and, false_and, and_false, true_or, or_true, false_or, or_false, G_ite, z10, z1n, z1and, z1or, z0not, z0and, itn, if_true, if_false, reduceIte, Int.reduceEq, Int.reduceLT, Int.reduceNeg, Nat.reduceEqDiff, ite_self, h1, lw, mu_self]
  | n + 1, i, u, μ, hs, hb2, h0, hi => by
    have h1 : i < 5 := by omega
    have ht : 0 ≤ (f + i) % 5 ∧ (f + i) % 5 < 5 := by omega
    have ih := fun u => c22_l hb hf hf2 n (i + 1) u (mu μ 50 (μ 0 0 50 - 1) 5 (zor (μ 50 (μ 0 0 50 - 1) 5) (zshl 1 ((f + i) % 5)))) (by rw [zmu0 (by decide)]; exact hs) (by rw [zmu0 (by decide)]; exact hb2) (by omega) (by omega)
    have e8 : ∀ (x y v : Int), fhs (mu μ 50 x y v) b = fhs μ b := fun x y v => by
      unfold fhs
      rw [mu_g (by decide)]
    simp (disch := decide) only [mu_g, mu_mu, mu_at, e8] at ih
    rw [g22_3]
    simp (disch := first | omega | (simp (disch := decide) only [zmu0, mu_g, List.length_nil, List.length_cons]; omega)) only [g22_0, g22_1, g22_5, g22_6, g22_9, g22_10, g22_12, g22_13, g22_14, g22_15, g22_17, g22_18, g22_21, g22_21r, g22_22, g22_25, g22_26, g22_28, g22_29, g22_30, g22_33, g22_34, g22_36, g22_39, g22_42, g22_43, g22_46, g22_48, g22_49, g22_50, g22_51, g22_52, g22_53, g22_56, g22_57, g22_60, g22_62, g22_63, g22_64, g22_67, g22_70, g22_72, ob8, oc8, fl8_0, fl8_1, fl8_2, fl8_3, fl8_4, fl8_5, fl8_6, ob50, oc50, fl50_0, wo50_0, fl50_1, wo50_1, fl50_2, wo50_2, fl50_3, wo50_3, fl50_4, wo50_4, fl50_5, wo50_5, fl50_6, fl50_7, fl50_8, fl50_9, fl50_10, fl50_11, ob21, oc21, fl21_0, fl21_1, fl21_2, rd22, wr22, rd23, wr23, rd24, wr24, zoA_at, gback_v, gback_n, zem, zisr, zro_at, zrl_at, mu_g, mu_at, mu_mu, mu_self, not_true, not_false_iff, zb0, zb1, zbnd, zbw, zbz, zne1, zone, mrgI, List.length_nil, List.length_cons, Nat.reduceAdd, Nat.reduceSub, Nat.reduceLeDiff, Nat.zero_le, and_true, true_and, false_and, and_false, true_or, or_true, false_or, or_false, G_ite, z10, z1n, z1and, z1or, z0not, z0and, itn, if_true, if_false, reduceIte, Int.reduceEq, Int.reduceLT, Int.reduceNeg, Nat.reduceEqDiff, ite_self, h1, c6, ih]
    rw [lw_s]
    by_cases h2 : μ 22 b ((f + i) % 5) = 1 <;> by_cases h3 : zand (zshr (μ 24 b ((f + i) % 5)) l) 1 = 0 <;> simp [h2, h3]
theorem c22 {u u' : ZV} (hb : 0 ≤ b) (hf : 0 ≤ f) (hf2 : f < 5) (hs : 0 < μ 0 0 50) (hb2 : b < μ 0 0 20) :
    G 22 0 [zR 8 0, zI l, zI f, zR 21 b, u', u] [] (HM μ) ck sk Q ↔ Q (.inl (some (zI (lw (fhs μ b) (μ 23 b) (μ 24 b) f l 5 0 (μ 50 (μ 0 0 50 - 1) 5)).1))) (HM (mu μ 50 (μ 0 0 50 - 1) 5 (lw (fhs μ b) (μ 23 b) (μ 24 b) f l 5 0 (μ 50 (μ 0 0 50 - 1) 5)).2)) := by
  simp (disch := first | omega | (simp (disch := decide) only [zmu0, mu_g, List.length_nil, List.length_cons]; omega)) only [g22_0, g22_1, c22_l hb hf hf2 5 0 u μ hs hb2 (by omega) (by omega)]
theorem fhs_mu {k : Nat} {i j : Int} (hk : 22 ≠ k) : fhs (mu μ k i j v) b = fhs μ b := by
  unfold fhs
  rw [mu_g hk]
theorem kcd_b {y : Int64} {i : Int} : 0 ≤ kcd y i ∧ kcd y i ≤ 255 := by
  unfold kcd zand
  have e : (Int32.ofInt 255) = 255 := rfl
  rw [e]
  generalize Int32.ofInt (zl2i (zlushr y (8 * i))) = t
  have h : (t &&& 255).toInt = (t.toBitVec &&& 255#32).toInt := rfl
  have h2 : (t.toBitVec &&& 255#32).toNat ≤ 255 := by
    rw [BitVec.toNat_and]
    exact Nat.and_le_right
  have h3 : (t.toBitVec &&& 255#32).toInt = ((t.toBitVec &&& 255#32).toNat : Int) := by
    rw [BitVec.toInt_eq_toNat_of_lt (by omega)]
  rw [h, h3]
  omega
theorem c21_l {y : Int64} {k : Int} (hb : 0 ≤ b) (hf : 0 ≤ f) (hf2 : f < 5) (hk : 0 ≤ k ∧ k ≤ 8) : ∀ (n : Nat) (i s : Int) (μ : ZU), 0 < μ 0 0 50 → b < μ 0 0 20 → (∀ t, 0 ≤ t → t < 5 → 0 ≤ μ 23 b t ∧ μ 23 b t ≤ 20) → 0 ≤ i → i + n = k → 0 ≤ s → s ≤ 20 * i →
    (G 21 12 [zR 8 0, zL y, zJ, zI f, zR 21 b, zI k, zI s, zI i] [] (HM μ) ck sk Q ↔ Q (.inl (some (zI (ww (fhs μ b) (μ 23 b) (μ 24 b) (kcd y) f n i s (μ 50 (μ 0 0 50 - 1) 5)).1))) (HM (mu μ 50 (μ 0 0 50 - 1) 5 (ww (fhs μ b) (μ 23 b) (μ 24 b) (kcd y) f n i s (μ 50 (μ 0 0 50 - 1) 5)).2)))
  | 0, i, s, μ, hs, hb2, hsz, h0, hi, hs0, hs1 => by
    have h1 : ¬ i < k := by omega
    rw [g21_12]
    simp (disch := first | omega | (simp (disch := decide) only [zmu0, mu_g, List.length_nil, List.length_cons]; omega)) only [g21_0, g21_1, g21_4, g21_6, g21_7, g21_9, g21_10, g21_14, g21_16, g21_19, g21_21, g21_22, g21_23, g21_25, g21_28, g21_29, g21_30, g21_31, g21_33, g21_36, g21_37, g21_39, g21_42, g21_45, g21_47, zoA_at, gback_v, gback_n, zem, zisr, zro_at, zrl_at, mu_g, mu_at, mu_mu, mu_self, not_true, not_false_iff, zb0, zb1, zbnd, zbw, zbz, zne1, zone, mrgI, List.length_nil, List.length_cons, Nat.reduceAdd, Nat.reduceSub, Nat.reduceLeDiff, Nat.zero_le, and_true, true_and, false_and, and_false, true_or, or_true, false_or, or_false, G_ite, z10, z1n, z1and, z1or, z0not, z0and, itn, if_true, if_false, reduceIte, Int.reduceEq, Int.reduceLT, Int.reduceNeg, Nat.reduceEqDiff, ite_self, h1, ww]
  | n + 1, i, s, μ, hs, hb2, hsz, h0, hi, hs0, hs1 => by
    have h1 : i < k := by omega
    have hc := kcd_b (y := y) (i := i)
    have hl := lw_b (hs := fhs μ b) (dt := μ 24 b) (l := kcd y i - 1) hf hsz 5 0 (μ 50 (μ 0 0 50 - 1) 5) (by omega)
    have ih := c21_l (y := y) hb hf hf2 hk n (i + 1) (s + (lw (fhs μ b) (μ 23 b) (μ 24 b) f (kcd y i - 1) 5 0 (μ 50 (μ 0 0 50 - 1) 5)).1) (mu μ 50 (μ 0 0 50 - 1) 5 (lw (fhs μ b) (μ 23 b) (μ 24 b) f (kcd y i - 1) 5 0 (μ 50 (μ 0 0 50 - 1) 5)).2) (by rw [zmu0 (by decide)]; exact hs) (by rw [zmu0 (by decide)]; exact hb2) (fun t a1 a2 => by rw [mu_g (by decide)]; exact hsz t a1 a2) (by omega) (by omega) (by omega) (by omega)
    simp (disch := decide) only [mu_g, mu_mu, mu_at, fhs_mu] at ih
    rw [g21_12, ww_s]
    simp (disch := first | omega | (simp (disch := decide) only [zmu0, mu_g, List.length_nil, List.length_cons]; omega)) only [g21_0, g21_1, g21_4, g21_6, g21_7, g21_9, g21_10, g21_14, g21_16, g21_19, g21_21, g21_22, g21_23, g21_25, g21_28, g21_29, g21_30, g21_31, g21_33, g21_36, g21_37, g21_39, g21_42, g21_45, g21_47, ob8, oc8, fl8_0, fl8_1, fl8_2, fl8_3, fl8_4, fl8_5, fl8_6, zoA_at, gback_v, gback_n, zem, zisr, zro_at, zrl_at, mu_g, mu_at, mu_mu, mu_self, not_true, not_false_iff, zb0, zb1, zbnd, zbw, zbz, zne1, zone, mrgI, List.length_nil, List.length_cons, Nat.reduceAdd, Nat.reduceSub, Nat.reduceLeDiff, Nat.zero_le, and_true, true_and, false_and, and_false, true_or, or_true, false_or, or_false, G_ite, z10, z1n, z1and, z1or, z0not, z0and, itn, if_true, if_false, reduceIte, Int.reduceEq, Int.reduceLT, Int.reduceNeg, Nat.reduceEqDiff, ite_self, h1, c79, c22, ih]
theorem c21 {y : Int64} {u u' u'' : ZV} (hb : 0 ≤ b) (hf : 0 ≤ f) (hf2 : f < 5) (hs : 0 < μ 0 0 50) (hb2 : b < μ 0 0 20) (hsz : ∀ t, 0 ≤ t → t < 5 → 0 ≤ μ 23 b t ∧ μ 23 b t ≤ 20) :
    G 21 0 [zR 8 0, zL y, zJ, zI f, zR 21 b, u, u', u''] [] (HM μ) ck sk Q ↔ Q (.inl (some (zI (ww (fhs μ b) (μ 23 b) (μ 24 b) (kcd y) f (klen y).toNat 0 0 (μ 50 (μ 0 0 50 - 1) 5)).1))) (HM (mu μ 50 (μ 0 0 50 - 1) 5 (ww (fhs μ b) (μ 23 b) (μ 24 b) (kcd y) f (klen y).toNat 0 0 (μ 50 (μ 0 0 50 - 1) 5)).2)) := by
  have hk := klen_in (x := y)
  simp (disch := first | omega | (simp (disch := decide) only [zmu0, mu_g, List.length_nil, List.length_cons]; omega)) only [g21_0, g21_1, g21_4, g21_6, g21_7, g21_9, g21_10, g21_14, g21_16, g21_19, g21_21, g21_22, g21_23, g21_25, g21_28, g21_29, g21_30, g21_31, g21_33, g21_36, g21_37, g21_39, g21_42, g21_45, g21_47, zoA_at, gback_v, gback_n, zem, zisr, zro_at, zrl_at, mu_g, mu_at, mu_mu, mu_self, not_true, not_false_iff, zb0, zb1, zbnd, zbw, zbz, zne1, zone, mrgI, List.length_nil, List.length_cons, Nat.reduceAdd, Nat.reduceSub, Nat.reduceLeDiff, Nat.zero_le, and_true, true_and, false_and, and_false, true_or, or_true, false_or, or_false, G_ite, z10, z1n, z1and, z1or, z0not, z0and, itn, if_true, if_false, reduceIte, Int.reduceEq, Int.reduceLT, Int.reduceNeg, Nat.reduceEqDiff, ite_self, c80, c21_l hb hf hf2 hk (klen y).toNat 0 0 μ hs hb2 hsz (by omega) (by omega) (by omega) (by omega)]
end ZL3
