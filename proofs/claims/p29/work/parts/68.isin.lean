/-! ===== the law: isIn; layers let go, on both sides ===== -/
def inq (μ : ZU) (l k : Int) : Bool := decide (0 < k % 4 ∧ 0 < μ 103 0 (k / 4 * 4) ∧ μ 103 0 k = l + 1)
def nin (μ : ZU) (l : Int) : Int → Bool := fun k => decide (¬ inq μ l k = true)
def lgp (μ : ZU) (r k : Int) (n : Nat) (l : Int) : Bool := decide (¬ zall (fun j => decide (¬ μ 26 r j = l)) n k = true ∧ μ 10 l 1 = 1 ∧ hds μ l = 0)
section ZPY
variable {ck sk : Nat} {Q : ZO → ZH → Prop} {p q : Int → Bool} {μ ν κ β M Φ : ZU} {a b c d e f g h i j k l m o r s t t' v w x y z L H R W C J B K : Int} {u u1 u2 u3 u4 u5 u6 u7 u8 u9 u10 u11 : ZV}
theorem c107_l (h1 : 0 ≤ μ 106 0 1 ∧ μ 106 0 1 ≤ 12) (hl : 0 ≤ l ∧ l < 100) : ∀ (n : Nat) (k s : Int), 0 ≤ k → k + n = 4 * μ 106 0 1 → (s = 0 ∨ s = 1) → (G 107 5 [zR 103 0, zR 106 0, zI l, zI s, zI k] [] (HM μ) ck sk Q ↔ Q (.inl (some (zI (if s = 1 ∨ ¬ zall (nin μ l) n k = true then 1 else 0)))) (HM μ))
  | 0, k, s, k0, kn, hs => by
    have q : ¬ k < 4 * μ 106 0 1 := by omega
    have e : (if s = 1 ∨ ¬ zall (nin μ l) 0 k = true then (1 : Int) else 0) = s := by
      rcases hs with rfl | rfl
      · rw [if_neg (fun z => z.elim (fun z => by omega) fun z => z rfl)]
      · rw [if_pos (Or.inl rfl)]
    rw [e, g107_5]
    simp (disch := first | omega | (simp (disch := decide) only [zmu0, mu_g, List.length_nil, List.length_cons]; omega)) only [g107_0, g107_1, g107_2, g107_3, g107_7, g107_8, g107_9, g107_10, g107_11, g107_12, g107_15, g107_16, g107_19, g107_21, g107_22, g107_23, g107_26, g107_27, g107_29, g107_30, g107_31, g107_32, g107_33, g107_34, g107_37, g107_38, g107_40, g107_41, g107_42, g107_43, g107_44, g107_47, g107_48, g107_51, g107_52, g107_53, g107_56, g107_59, g107_60, rd106, wr106, Nat.sub_zero, Int.reduceSub, Int.reduceAdd, Int.add_zero, Int.zero_add, Int.cast_ofNat_Int, Bool.false_eq_true, decide_true, decide_false, zbndI, zbwI, zbzI, zb1I, zoA_at, gback_v, gback_n, zem, zisr, zro_at, zrl_at, mu_g, mu_at, mu_mu, mu_self, not_true, not_false_iff, zb0, zb1, zbnd, zbw, zbz, zne1, zone, mrgI, List.length_nil, List.length_cons, Nat.reduceAdd, Nat.reduceSub, Nat.reduceLeDiff, Nat.zero_le, and_true, true_and, false_and, and_false, true_or, or_true, false_or, or_false, G_ite, z10, z1n, z1and, z1or, z0not, z0and, itn, if_true, if_false, reduceIte, Int.reduceEq, Int.reduceLT, Int.reduceNeg, Nat.reduceEqDiff, ite_self, q, hs]
  | n + 1, k, s, k0, kn, hs => by
    have q : k < 4 * μ 106 0 1 := by omega
    have q52 : k < 52 := by omega
    have q53 : k / 4 * 4 < 52 := by omega
    have hk4 : 0 ≤ k / 4 * 4 := by omega
    rw [g107_5]
    rcases hs with rfl | rfl
    · have z10 : ¬ (0 : Int) = 1 := by decide
      by_cases hi : inq μ l k = true
      · have ih := c107_l h1 hl n (k + 1) 1 (by omega) (by omega) (Or.inr rfl)
        rw [if_pos (Or.inl rfl)] at ih
        have e : ¬ zall (nin μ l) (n + 1) k = true := fun z => by
          have := zall_iff.mp z k (by omega) (by omega)
          exact absurd hi (of_decide_eq_true this)
        rw [if_pos (Or.inr e)]
        obtain ⟨i1, i2, i3⟩ := of_decide_eq_true hi
        simp (disch := first | omega | (simp (disch := decide) only [zmu0, mu_g, List.length_nil, List.length_cons]; omega)) only [g107_0, g107_1, g107_2, g107_3, g107_7, g107_8, g107_9, g107_10, g107_11, g107_12, g107_15, g107_16, g107_19, g107_21, g107_22, g107_23, g107_26, g107_27, g107_29, g107_30, g107_31, g107_32, g107_33, g107_34, g107_37, g107_38, g107_40, g107_41, g107_42, g107_43, g107_44, g107_47, g107_48, g107_51, g107_52, g107_53, g107_56, g107_59, g107_60, rd103, wr103, rd106, wr106, Nat.sub_zero, Int.reduceSub, Int.reduceAdd, Int.add_zero, Int.zero_add, Int.cast_ofNat_Int, Bool.false_eq_true, decide_true, decide_false, zbndI, zbwI, zbzI, zb1I, zoA_at, gback_v, gback_n, zem, zisr, zro_at, zrl_at, mu_g, mu_at, mu_mu, mu_self, not_true, not_false_iff, zb0, zb1, zbnd, zbw, zbz, zne1, zone, mrgI, List.length_nil, List.length_cons, Nat.reduceAdd, Nat.reduceSub, Nat.reduceLeDiff, Nat.zero_le, and_true, true_and, false_and, and_false, true_or, or_true, false_or, or_false, G_ite, z10, z1n, z1and, z1or, z0not, z0and, itn, if_true, if_false, reduceIte, Int.reduceEq, Int.reduceLT, Int.reduceNeg, Nat.reduceEqDiff, ite_self, q, i1, i2, i3, ih, eq_self]
      · have ih := c107_l h1 hl n (k + 1) 0 (by omega) (by omega) (Or.inl rfl)
        have e : zall (nin μ l) (n + 1) k = zall (nin μ l) n (k + 1) := if_pos (decide_eq_true hi)
        rw [e, ← ih]
        by_cases i1 : 0 < k % 4
        · by_cases i2 : 0 < μ 103 0 (k / 4 * 4)
          · have i3 : ¬ μ 103 0 k = l + 1 := fun z => hi (decide_eq_true ⟨i1, i2, z⟩)
            simp (disch := first | omega | (simp (disch := decide) only [zmu0, mu_g, List.length_nil, List.length_cons]; omega)) only [g107_0, g107_1, g107_2, g107_3, g107_7, g107_8, g107_9, g107_10, g107_11, g107_12, g107_15, g107_16, g107_19, g107_21, g107_22, g107_23, g107_26, g107_27, g107_29, g107_30, g107_31, g107_32, g107_33, g107_34, g107_37, g107_38, g107_40, g107_41, g107_42, g107_43, g107_44, g107_47, g107_48, g107_51, g107_52, g107_53, g107_56, g107_59, g107_60, rd103, wr103, rd106, wr106, Nat.sub_zero, Int.reduceSub, Int.reduceAdd, Int.add_zero, Int.zero_add, Int.cast_ofNat_Int, Bool.false_eq_true, decide_true, decide_false, zbndI, zbwI, zbzI, zb1I, zoA_at, gback_v, gback_n, zem, zisr, zro_at, zrl_at, mu_g, mu_at, mu_mu, mu_self, not_true, not_false_iff, zb0, zb1, zbnd, zbw, zbz, zne1, zone, mrgI, List.length_nil, List.length_cons, Nat.reduceAdd, Nat.reduceSub, Nat.reduceLeDiff, Nat.zero_le, and_true, true_and, false_and, and_false, true_or, or_true, false_or, or_false, G_ite, z10, z1n, z1and, z1or, z0not, z0and, itn, if_true, if_false, reduceIte, Int.reduceEq, Int.reduceLT, Int.reduceNeg, Nat.reduceEqDiff, ite_self, q, i1, i2, i3]
          · simp (disch := first | omega | (simp (disch := decide) only [zmu0, mu_g, List.length_nil, List.length_cons]; omega)) only [g107_0, g107_1, g107_2, g107_3, g107_7, g107_8, g107_9, g107_10, g107_11, g107_12, g107_15, g107_16, g107_19, g107_21, g107_22, g107_23, g107_26, g107_27, g107_29, g107_30, g107_31, g107_32, g107_33, g107_34, g107_37, g107_38, g107_40, g107_41, g107_42, g107_43, g107_44, g107_47, g107_48, g107_51, g107_52, g107_53, g107_56, g107_59, g107_60, rd103, wr103, rd106, wr106, Nat.sub_zero, Int.reduceSub, Int.reduceAdd, Int.add_zero, Int.zero_add, Int.cast_ofNat_Int, Bool.false_eq_true, decide_true, decide_false, zbndI, zbwI, zbzI, zb1I, zoA_at, gback_v, gback_n, zem, zisr, zro_at, zrl_at, mu_g, mu_at, mu_mu, mu_self, not_true, not_false_iff, zb0, zb1, zbnd, zbw, zbz, zne1, zone, mrgI, List.length_nil, List.length_cons, Nat.reduceAdd, Nat.reduceSub, Nat.reduceLeDiff, Nat.zero_le, and_true, true_and, false_and, and_false, true_or, or_true, false_or, or_false, G_ite, z10, z1n, z1and, z1or, z0not, z0and, itn, if_true, if_false, reduceIte, Int.reduceEq, Int.reduceLT, Int.reduceNeg, Nat.reduceEqDiff, ite_self, q, i1, i2]
        · simp (disch := first | omega | (simp (disch := decide) only [zmu0, mu_g, List.length_nil, List.length_cons]; omega)) only [g107_0, g107_1, g107_2, g107_3, g107_7, g107_8, g107_9, g107_10, g107_11, g107_12, g107_15, g107_16, g107_19, g107_21, g107_22, g107_23, g107_26, g107_27, g107_29, g107_30, g107_31, g107_32, g107_33, g107_34, g107_37, g107_38, g107_40, g107_41, g107_42, g107_43, g107_44, g107_47, g107_48, g107_51, g107_52, g107_53, g107_56, g107_59, g107_60, rd103, wr103, rd106, wr106, Nat.sub_zero, Int.reduceSub, Int.reduceAdd, Int.add_zero, Int.zero_add, Int.cast_ofNat_Int, Bool.false_eq_true, decide_true, decide_false, zbndI, zbwI, zbzI, zb1I, zoA_at, gback_v, gback_n, zem, zisr, zro_at, zrl_at, mu_g, mu_at, mu_mu, mu_self, not_true, not_false_iff, zb0, zb1, zbnd, zbw, zbz, zne1, zone, mrgI, List.length_nil, List.length_cons, Nat.reduceAdd, Nat.reduceSub, Nat.reduceLeDiff, Nat.zero_le, and_true, true_and, false_and, and_false, true_or, or_true, false_or, or_false, G_ite, z10, z1n, z1and, z1or, z0not, z0and, itn, if_true, if_false, reduceIte, Int.reduceEq, Int.reduceLT, Int.reduceNeg, Nat.reduceEqDiff, ite_self, q, i1]
    · have ih := c107_l h1 hl n (k + 1) 1 (by omega) (by omega) (Or.inr rfl)
      rw [if_pos (Or.inl rfl)] at ih ⊢
      simp (disch := first | omega | (simp (disch := decide) only [zmu0, mu_g, List.length_nil, List.length_cons]; omega)) only [g107_0, g107_1, g107_2, g107_3, g107_7, g107_8, g107_9, g107_10, g107_11, g107_12, g107_15, g107_16, g107_19, g107_21, g107_22, g107_23, g107_26, g107_27, g107_29, g107_30, g107_31, g107_32, g107_33, g107_34, g107_37, g107_38, g107_40, g107_41, g107_42, g107_43, g107_44, g107_47, g107_48, g107_51, g107_52, g107_53, g107_56, g107_59, g107_60, rd103, wr103, rd106, wr106, Nat.sub_zero, Int.reduceSub, Int.reduceAdd, Int.add_zero, Int.zero_add, Int.cast_ofNat_Int, Bool.false_eq_true, decide_true, decide_false, zbndI, zbwI, zbzI, zb1I, zoA_at, gback_v, gback_n, zem, zisr, zro_at, zrl_at, mu_g, mu_at, mu_mu, mu_self, not_true, not_false_iff, zb0, zb1, zbnd, zbw, zbz, zne1, zone, mrgI, List.length_nil, List.length_cons, Nat.reduceAdd, Nat.reduceSub, Nat.reduceLeDiff, Nat.zero_le, and_true, true_and, false_and, and_false, true_or, or_true, false_or, or_false, G_ite, z10, z1n, z1and, z1or, z0not, z0and, itn, if_true, if_false, reduceIte, Int.reduceEq, Int.reduceLT, Int.reduceNeg, Nat.reduceEqDiff, ite_self, q, ih]
theorem c107 (h1 : 0 ≤ μ 106 0 1 ∧ μ 106 0 1 ≤ 12) (hl : 0 ≤ l ∧ l < 100) : G 107 0 [zR 103 0, zR 106 0, zI l, u, u1] [] (HM μ) ck sk Q ↔ Q (.inl (some (zI (if zall (nin μ l) (4 * μ 106 0 1).toNat 0 = true then 0 else 1)))) (HM μ) := by
  have e := c107_l (ck := ck) (sk := sk) (Q := Q) h1 hl (4 * μ 106 0 1).toNat 0 0 (by omega) (by omega) (Or.inl rfl)
  simp only [g107_0, g107_1, g107_2, g107_3]
  rw [e]
  by_cases q : zall (nin μ l) (4 * μ 106 0 1).toNat 0 = true
  · rw [if_neg (fun z => z.elim (fun z => by omega) fun z => z q), if_pos q]
  · rw [if_pos (Or.inr q), if_neg q]
theorem zct_n : ∀ (n : Nat) (i s : Int), zct p n i s = s → ∀ j, i ≤ j → j < i + n → p j = false
  | 0, i, s, h, j, a, b => by omega
  | n + 1, i, s, h, j, a, b => by
    rw [zct_s] at h
    by_cases q : p i = true
    · rw [if_pos q] at h
      have := (zct_b (p := p) n (i + 1) (s + 1)).1
      omega
    · rw [if_neg q] at h
      by_cases hj : j = i
      · rw [hj]
        simpa using q
      · exact zct_n n (i + 1) s h j (by omega) (by omega)
theorem zct_p : ∀ (n : Nat) (i s : Int), zct p n i (s + 1) = zct p n i s + 1
  | 0, i, s => rfl
  | n + 1, i, s => by
    rw [zct_s, zct_s]
    by_cases q : p i = true
    · rw [if_pos q, if_pos q, zct_p n]
    · rw [if_neg q, if_neg q, zct_p n]
theorem zct_one (hp : p a = true) (hq : q a = false) (he : ∀ j, j ≠ a → p j = q j) : ∀ (n : Nat) (i s : Int), i ≤ a → a < i + n → zct p n i s = zct q n i s + 1
  | 0, i, s, h1, h2 => by omega
  | n + 1, i, s, h1, h2 => by
    rw [zct_s, zct_s]
    by_cases z : i = a
    · rw [z, if_pos hp, if_neg (by rw [hq]; decide), zct_p, zct_eq (q := q) n (a + 1) s fun j b c => he j (by omega)]
    · rw [he i z]
      exact zct_one hp hq he n (i + 1) _ (by omega) (by omega)
theorem isn_hds (h : RW μ t) (l0 : 0 ≤ l) : zall (nin μ l) (4 * μ 106 0 1).toNat 0 = true ↔ hds μ l = 0 := by
  have ha := h.2.1.2.1
  have hc := h.2.2.2.1.1
  constructor
  · intro z
    refine zct_0 12 0 0 fun j j0 j1 => decide_eq_false fun ⟨c1, c2, c3⟩ => c3 (zall_iff.mpr fun j' b0 b1 => decide_eq_true fun e => ?_)
    obtain ⟨i1, i2, i3, i4, i5, i6, -⟩ := hc j j0 c1
    have b1 : j' < μ 0 1 (μ 20 j 1) := by omega
    have e5 := i5 j' b0 (by omega)
    rw [if_pos b1, e] at e5
    have := zall_iff.mp z (4 * j + 1 + j') (by omega) (by omega)
    refine of_decide_eq_true this (decide_eq_true ⟨by omega, ?_, e5⟩)
    have e4 : (4 * j + 1 + j') / 4 * 4 = 4 * j := by omega
    rw [e4, i1.1]
    exact c2
  · intro z
    refine zall_iff.mpr fun k k0 k1 => decide_eq_true fun hi => ?_
    obtain ⟨c1, c2, c3⟩ := of_decide_eq_true hi
    have k1 : k < 4 * μ 106 0 1 := by omega
    obtain ⟨i1, i2, i3, i4, i5, i6, -⟩ := hc (k / 4) (by omega) (by omega)
    have e4 : k / 4 * 4 = 4 * (k / 4) := by omega
    rw [e4, i1.1] at c2
    have e5 := i5 (k % 4 - 1) (by omega) (by omega)
    have e6 : 4 * (k / 4) + 1 + (k % 4 - 1) = k := by omega
    rw [e6, c3] at e5
    have hn := zct_n 12 0 0 z (k / 4) (by omega) (by omega)
    refine absurd ?_ (of_decide_eq_false hn)
    refine ⟨by omega, c2, fun w => ?_⟩
    by_cases q : k % 4 - 1 < μ 0 1 (μ 20 (k / 4) 1)
    · rw [if_pos q] at e5
      have := of_decide_eq_true (zall_iff.mp w (k % 4 - 1) (by omega) (by omega))
      omega
    · rw [if_neg q] at e5
      omega
theorem hds_10 : hds (mu μ 10 a 1 x) l = hds μ l := by
  unfold hds hdp
  simp (disch := decide) only [mu_g]
theorem lgN_all {r : Int} {c : Nat} : ∀ (n : Nat) (k s : Int) (μ : ZU), (∀ j, k ≤ j → j < k + n → 0 ≤ μ 26 r j ∧ μ 26 r j < c) → (∀ q, q ≠ 10 → (lgN r n k s μ).1 q = μ q) ∧ (∀ l j, j ≠ 1 → (lgN r n k s μ).1 10 l j = μ 10 l j) ∧ (∀ l, (lgN r n k s μ).1 10 l 1 = if lgp μ r k n l = true then 2 else μ 10 l 1) ∧ (lgN r n k s μ).2 = zct (lgp μ r k n) c 0 s
  | 0, k, s, μ, h => by
    have e : ∀ l, lgp μ r k 0 l = false := fun l => decide_eq_false fun z => z.1 rfl
    refine ⟨fun _ _ => rfl, fun _ _ _ => rfl, fun l => ?_, ?_⟩
    · rw [e, if_neg (by decide)]
      rfl
    · exact (zct_0 _ _ _ fun j _ _ => e j).symm
  | n + 1, k, s, μ, h => by
    obtain ⟨h0, h1⟩ := h k (by omega) (by omega)
    have ez : ∀ (μ : ZU) l, zall (fun j => decide (¬ μ 26 r j = l)) (n + 1) k = if (decide (¬ μ 26 r k = l)) = true then zall (fun j => decide (¬ μ 26 r j = l)) n (k + 1) else false := fun μ l => rfl
    by_cases q : μ 10 (μ 26 r k) 1 = 1 ∧ hds μ (μ 26 r k) = 0
    · have e : lgN r (n + 1) k s μ = lgN r n (k + 1) (s + 1) (mu μ 10 (μ 26 r k) 1 2) := if_pos q
      obtain ⟨i1, i2, i3, i4⟩ := lgN_all (c := c) n (k + 1) (s + 1) (mu μ 10 (μ 26 r k) 1 2) (fun j a b => by rw [mu_g (by decide)]; exact h j (by omega) (by omega))
      have p1 : lgp μ r k (n + 1) (μ 26 r k) = true := decide_eq_true ⟨(fun z => by
        rw [ez, if_neg (by simp)] at z
        exact absurd z (by decide)), q⟩
      have p2 : lgp (mu μ 10 (μ 26 r k) 1 2) r (k + 1) n (μ 26 r k) = false := decide_eq_false fun z => by
        have := z.2.1
        rw [mu_at] at this
        omega
      have p3 : ∀ l, l ≠ μ 26 r k → lgp μ r k (n + 1) l = lgp (mu μ 10 (μ 26 r k) 1 2) r (k + 1) n l := fun l hl => by
        unfold lgp
        rw [hds_10, mu_i hl, mu_g (k' := 26) (by decide), ez, if_pos (decide_eq_true (p := ¬ μ 26 r k = l) (fun z => hl z.symm))]
      rw [e]
      refine ⟨fun q hq => (i1 q hq).trans (mu_g hq), fun l j hj => (i2 l j hj).trans (mu_j hj), fun l => ?_, ?_⟩
      · rw [i3]
        by_cases hl : l = μ 26 r k
        · rw [hl, p1, p2, if_pos rfl, if_neg (by decide), mu_at]
        · rw [p3 l hl, mu_i hl]
      · rw [i4, zct_p, zct_one p1 p2 p3 c 0 s h0 (by omega)]
    · have e : lgN r (n + 1) k s μ = lgN r n (k + 1) s μ := if_neg q
      obtain ⟨i1, i2, i3, i4⟩ := lgN_all (c := c) n (k + 1) s μ (fun j a b => h j (by omega) (by omega))
      have p3 : lgp μ r k (n + 1) = lgp μ r (k + 1) n := by
        funext l
        unfold lgp
        rw [ez]
        by_cases hl : μ 26 r k = l
        · subst hl
          rw [decide_eq_decide]
          exact ⟨fun z => absurd z.2 q, fun z => absurd z.2 q⟩
        · rw [if_pos (decide_eq_true hl)]
      rw [e, p3]
      exact ⟨i1, i2, i3, i4⟩
end ZPY
