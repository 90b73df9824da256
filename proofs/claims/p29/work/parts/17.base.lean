/-! ===== what runs come to: base ===== -/
section ZBS
variable {m pc : Nat} {ls st : List ZV} {h : ZH} {ck sk : Nat} {Q : ZO → ZH → Prop} {P : Prop} {c : Prop}
theorem zbnd {j : Int} {n : Nat} (h1 : 0 ≤ j) (h2 : j < (n : Int)) : ((0 ≤ j ∧ j < (n : Int)) ∧ P) ↔ P := ⟨fun q => q.2, fun q => ⟨⟨h1, h2⟩, q⟩⟩
theorem zbw {k : Nat} {j : Int} {n : Nat} (h0 : k ≠ 1) (h1 : 0 ≤ j) (h2 : j < (n : Int)) : ((k ≠ 1 ∧ 0 ≤ j ∧ j < (n : Int)) ∧ P) ↔ P := ⟨fun q => q.2, fun q => ⟨⟨h0, h1, h2⟩, q⟩⟩
theorem zbz {k : Nat} {j z : Int} {n : Nat} (h0 : k ≠ 1) (h1 : 0 ≤ j) (h2 : j < (n : Int)) (h3 : z = 0 ∨ z = 1) : ((k ≠ 1 ∧ 0 ≤ j ∧ j < (n : Int) ∧ (z = 0 ∨ z = 1)) ∧ P) ↔ P := ⟨fun q => q.2, fun q => ⟨⟨h0, h1, h2, h3⟩, q⟩⟩
theorem zne1 {k : Nat} (h0 : k ≠ 1) : (k ≠ 1 ∧ P) ↔ P := ⟨fun q => q.2, fun q => ⟨h0, q⟩⟩
theorem zone {p : Prop} [Decidable p] : (((if p then (1 : Int) else 0) = 0 ∨ (if p then (1 : Int) else 0) = 1) ∧ P) ↔ P := by
  by_cases h : p <;> simp [h]
theorem mrgI [Decidable c] {a b : Int} : (if c then G m pc ls (zI a :: st) h ck sk Q else G m pc ls (zI b :: st) h ck sk Q) ↔ G m pc ls (zI (if c then a else b) :: st) h ck sk Q := by
  by_cases hc : c
  · rw [if_pos hc, if_pos hc]
  · rw [if_neg hc, if_neg hc]
theorem mrgQ [Decidable c] (Q : ZO → ZH → Prop) {a b : Int} : (if c then Q (.inl (some (zI a))) h else Q (.inl (some (zI b))) h) ↔ Q (.inl (some (zI (if c then a else b)))) h := by
  by_cases hc : c
  · rw [if_pos hc, if_pos hc]
  · rw [if_neg hc, if_neg hc]
theorem G_ite [Decidable c] {a b : ZV} : G m pc ls ((if c then a else b) :: st) h ck sk Q ↔ if c then G m pc ls (a :: st) h ck sk Q else G m pc ls (b :: st) h ck sk Q := by
  by_cases hc : c
  · rw [if_pos hc, if_pos hc]
  · rw [if_neg hc, if_neg hc]
theorem zem : ((¬ c ∨ c) ∧ P) ↔ P := ⟨fun q => q.2, fun q => ⟨(Classical.em c).symm, q⟩⟩
theorem zb0 {j : Int} (h1 : 0 ≤ j) : (0 ≤ j ∧ P) ↔ P := ⟨fun q => q.2, fun q => ⟨h1, q⟩⟩
theorem zb1 {j : Int} {n : Nat} (h1 : j < (n : Int)) : (j < (n : Int) ∧ P) ↔ P := ⟨fun q => q.2, fun q => ⟨h1, q⟩⟩
theorem zb01 {z : Int} (h1 : z = 0 ∨ z = 1) : ((z = 0 ∨ z = 1) ∧ P) ↔ P := ⟨fun q => q.2, fun q => ⟨h1, q⟩⟩
theorem mu_g {μ : ZU} {k k' : Nat} {i j v : Int} (h : k' ≠ k) : mu μ k i j v k' = μ k' := by
  funext p q
  exact mu_k h
theorem zisr {n : String} : ((FieldType.object n).isReference = true) ↔ True := ⟨fun _ => trivial, fun _ => rfl⟩
theorem itn [Decidable c] {P P' : Prop} : (if ¬ c then P else P') ↔ if c then P' else P := by
  by_cases h : c <;> simp [h]
theorem z10 [Decidable c] : ((if c then (1 : Int) else 0) = 0) ↔ ¬ c := by by_cases h : c <;> simp [h]
theorem z1n [Decidable c] : ((if c then (1 : Int) else 0) = 1) ↔ c := by by_cases h : c <;> simp [h]
theorem z1and [Decidable c] {p : Prop} [Decidable p] : (if c then (if p then (1 : Int) else 0) else 0) = if c ∧ p then 1 else 0 := by by_cases h : c <;> simp [h]
theorem z1or [Decidable c] {p : Prop} [Decidable p] : (if c then (1 : Int) else (if p then (1 : Int) else 0)) = if c ∨ p then 1 else 0 := by by_cases h : c <;> simp [h]
theorem z0not [Decidable c] : (if c then (0 : Int) else 1) = if ¬ c then 1 else 0 := by by_cases h : c <;> simp [h]
theorem z0and [Decidable c] {p : Prop} [Decidable p] : (if c then (0 : Int) else (if p then (1 : Int) else 0)) = if ¬ c ∧ p then 1 else 0 := by by_cases h : c <;> simp [h]
theorem zmu0 {μ : ZU} {k : Nat} {i j v a b : Int} (hk : k ≠ 0) : mu μ k i j v 0 a b = μ 0 a b := mu_k hk.symm
theorem mu_self {μ : ZU} {k : Nat} {i j : Int} : mu μ k i j (μ k i j) = μ := by
  funext k' i' j'
  unfold mu
  split
  · rename_i h
    obtain ⟨rfl, rfl, rfl⟩ := h
    rfl
  · rfl
theorem mu_s3 {μ : ZU} {k k' : Nat} {i j v i' j' w x : Int} (h : k' ≠ k) : mu (mu (mu μ k i j v) k' i' j' w) k i j x = mu (mu μ k i j x) k' i' j' w := by
  funext p q r
  unfold mu
  by_cases h1 : p = k ∧ q = i ∧ r = j
  · have h2 : ¬ (p = k' ∧ q = i' ∧ r = j') := fun z => h (z.1.symm.trans h1.1)
    rw [if_pos h1, if_neg h2, if_pos h1]
  · rw [if_neg h1, if_neg h1, if_neg h1]
theorem mu_mu {μ : ZU} {k : Nat} {i j v w : Int} : mu (mu μ k i j v) k i j w = mu μ k i j w := by
  funext k' i' j'
  unfold mu
  split <;> rfl
end ZBS
section ZLF
variable {h : ZH} {μ : ZU} {ck sk : Nat} {Q : ZO → ZH → Prop} {a b c d v w x : Int}
theorem c70 : G 70 0 [zI a, zI b, zI c] [] h ck sk Q ↔ Q (.inl (some (zI (if b ≤ a ∧ a ≤ c then 1 else 0)))) h := by
  simp (disch := first | omega | (simp (disch := decide) only [zmu0, mu_g, List.length_nil, List.length_cons]; omega)) only [g70_0, g70_1, g70_2, g70_5, g70_6, g70_7, g70_10, g70_11, g70_14, g70_15, zoA_at, gback_v, gback_n, zem, zisr, zro_at, zrl_at, mu_g, mu_at, mu_mu, mu_self, not_true, not_false_iff, zb0, zb1, zbnd, zbw, zbz, zne1, zone, mrgI, List.length_nil, List.length_cons, Nat.reduceAdd, Nat.reduceSub, Nat.reduceLeDiff, Nat.zero_le, and_true, true_and, false_and, and_false, true_or, or_true, false_or, or_false, G_ite, z10, z1n, z1and, z1or, z0not, z0and, itn, if_true, if_false, reduceIte, Int.reduceEq, Int.reduceLT, Int.reduceNeg, Nat.reduceEqDiff, ite_self]
  by_cases h1 : a < b
  · rw [if_pos h1, if_neg (by omega)]
  · by_cases h2 : c < a
    · rw [if_neg h1, if_pos h2, if_neg (by omega)]
    · rw [if_neg h1, if_neg h2, if_pos (by omega)]
theorem c6 (h1 : 0 ≤ a) (h2 : a < μ 0 0 20) (h3 : 0 ≤ b) (h4 : b < 10) : G 6 0 [zR 21 a, zI b] [] (HM μ) ck sk Q ↔ Q (.inl (some (zI (if μ 22 a b = 1 then 1 else 0)))) (HM μ) := by
  simp (disch := first | omega | (simp (disch := decide) only [zmu0, mu_g, List.length_nil, List.length_cons]; omega)) only [g6_0, g6_1, g6_4, g6_5, g6_6, g6_7, g6_10, g6_11, g6_14, g6_15, ob21, oc21, fl21_0, fl21_1, fl21_2, rd22, wr22, zoA_at, gback_v, gback_n, zem, zisr, zro_at, zrl_at, mu_g, mu_at, mu_mu, mu_self, not_true, not_false_iff, zb0, zb1, zbnd, zbw, zbz, zne1, zone, mrgI, List.length_nil, List.length_cons, Nat.reduceAdd, Nat.reduceSub, Nat.reduceLeDiff, Nat.zero_le, and_true, true_and, false_and, and_false, true_or, or_true, false_or, or_false, G_ite, z10, z1n, z1and, z1or, z0not, z0and, itn, if_true, if_false, reduceIte, Int.reduceEq, Int.reduceLT, Int.reduceNeg, Nat.reduceEqDiff, ite_self, mrgQ Q]
theorem c9 (h1 : 0 ≤ a) (h2 : a < μ 0 0 10) (h3 : 0 ≤ b) (h4 : b < 10) : G 9 0 [zR 11 a, zI b, zI v, zI w, zI x] [] (HM μ) ck sk Q ↔ Q (.inl none) (HM (mu (mu (mu μ 12 a b v) 13 a b w) 14 a b x)) := by
  simp (disch := first | omega | (simp (disch := decide) only [zmu0, mu_g, List.length_nil, List.length_cons]; omega)) only [g9_0, g9_1, g9_4, g9_5, g9_6, g9_7, g9_8, g9_11, g9_12, g9_13, g9_14, g9_15, g9_18, g9_19, g9_21, g9_22, ob11, oc11, fl11_0, fl11_1, fl11_2, rd12, wr12, rd13, wr13, rd14, wr14, zoA_at, gback_v, gback_n, zem, zisr, zro_at, zrl_at, mu_g, mu_at, mu_mu, mu_self, not_true, not_false_iff, zb0, zb1, zbnd, zbw, zbz, zne1, zone, mrgI, List.length_nil, List.length_cons, Nat.reduceAdd, Nat.reduceSub, Nat.reduceLeDiff, Nat.zero_le, and_true, true_and, false_and, and_false, true_or, or_true, false_or, or_false, G_ite, z10, z1n, z1and, z1or, z0not, z0and, itn, if_true, if_false, reduceIte, Int.reduceEq, Int.reduceLT, Int.reduceNeg, Nat.reduceEqDiff, ite_self, zmu0]
theorem c7 (h1 : 0 ≤ a) (h2 : a < μ 0 0 10) (h3 : 0 ≤ b) (h4 : b < 10) : G 7 0 [zR 11 a, zI b, zI v, zI w] [] (HM μ) ck sk Q ↔ Q (.inl none) (HM (mu (mu (mu μ 12 a b 1) 13 a b v) 14 a b w)) := by
  simp (disch := first | omega | (simp (disch := decide) only [zmu0, mu_g, List.length_nil, List.length_cons]; omega)) only [g7_0, g7_1, g7_2, g7_3, g7_4, g7_5, g7_8, ob11, oc11, fl11_0, fl11_1, fl11_2, zoA_at, gback_v, gback_n, zem, zisr, zro_at, zrl_at, mu_g, mu_at, mu_mu, mu_self, not_true, not_false_iff, zb0, zb1, zbnd, zbw, zbz, zne1, zone, mrgI, List.length_nil, List.length_cons, Nat.reduceAdd, Nat.reduceSub, Nat.reduceLeDiff, Nat.zero_le, and_true, true_and, false_and, and_false, true_or, or_true, false_or, or_false, G_ite, z10, z1n, z1and, z1or, z0not, z0and, itn, if_true, if_false, reduceIte, Int.reduceEq, Int.reduceLT, Int.reduceNeg, Nat.reduceEqDiff, ite_self, c9]
theorem c8 (h1 : 0 ≤ a) (h2 : a < μ 0 0 10) (h3 : 0 ≤ b) (h4 : b < 10) : G 8 0 [zR 11 a, zI b] [] (HM μ) ck sk Q ↔ Q (.inl none) (HM (mu (mu (mu μ 12 a b 2) 13 a b 0) 14 a b 0)) := by
  simp (disch := first | omega | (simp (disch := decide) only [zmu0, mu_g, List.length_nil, List.length_cons]; omega)) only [g8_0, g8_1, g8_2, g8_3, g8_4, g8_5, g8_8, ob11, oc11, fl11_0, fl11_1, fl11_2, zoA_at, gback_v, gback_n, zem, zisr, zro_at, zrl_at, mu_g, mu_at, mu_mu, mu_self, not_true, not_false_iff, zb0, zb1, zbnd, zbw, zbz, zne1, zone, mrgI, List.length_nil, List.length_cons, Nat.reduceAdd, Nat.reduceSub, Nat.reduceLeDiff, Nat.zero_le, and_true, true_and, false_and, and_false, true_or, or_true, false_or, or_false, G_ite, z10, z1n, z1and, z1or, z0not, z0and, itn, if_true, if_false, reduceIte, Int.reduceEq, Int.reduceLT, Int.reduceNeg, Nat.reduceEqDiff, ite_self, c9]
theorem c26 : G 26 0 [zR 8 0, zI a] [] (HM μ) ck sk Q ↔ Q (.inl (some (zI (if a < 10 then 1 else 2)))) (HM μ) := by
  simp (disch := first | omega | (simp (disch := decide) only [zmu0, mu_g, List.length_nil, List.length_cons]; omega)) only [g26_0, g26_1, g26_3, g26_6, g26_7, g26_10, g26_11, zoA_at, gback_v, gback_n, zem, zisr, zro_at, zrl_at, mu_g, mu_at, mu_mu, mu_self, not_true, not_false_iff, zb0, zb1, zbnd, zbw, zbz, zne1, zone, mrgI, List.length_nil, List.length_cons, Nat.reduceAdd, Nat.reduceSub, Nat.reduceLeDiff, Nat.zero_le, and_true, true_and, false_and, and_false, true_or, or_true, false_or, or_false, G_ite, z10, z1n, z1and, z1or, z0not, z0and, itn, if_true, if_false, reduceIte, Int.reduceEq, Int.reduceLT, Int.reduceNeg, Nat.reduceEqDiff, ite_self, mrgQ Q]
theorem c36 (h1 : 0 ≤ a) (h2 : a < μ 0 0 50) (h3 : 0 ≤ μ 50 a 3) (h4 : μ 50 a 3 ≤ 5) (h5 : 0 ≤ μ 50 a 1) (h6 : μ 50 a 1 ≤ 60) : G 36 0 [zR 50 a] [] (HM μ) ck sk Q ↔ Q (.inl (some (zI (μ 50 a 3 * (5 + μ 50 a 1))))) (HM μ) := by
  have e1 : 0 ≤ μ 50 a 3 * (5 + μ 50 a 1) := Int.mul_nonneg h3 (by omega)
  have e2 : μ 50 a 3 * (5 + μ 50 a 1) ≤ 5 * 65 := Int.mul_le_mul h4 (by omega) (by omega) (by omega)
  simp (disch := first | omega | (simp (disch := decide) only [zmu0, mu_g, List.length_nil, List.length_cons]; omega)) only [g36_0, g36_1, g36_4, g36_5, g36_6, g36_9, g36_10, g36_11, ob50, oc50, fl50_0, wo50_0, fl50_1, wo50_1, fl50_2, wo50_2, fl50_3, wo50_3, fl50_4, wo50_4, fl50_5, wo50_5, fl50_6, fl50_7, fl50_8, fl50_9, fl50_10, fl50_11, zoA_at, gback_v, gback_n, zem, zisr, zro_at, zrl_at, mu_g, mu_at, mu_mu, mu_self, not_true, not_false_iff, zb0, zb1, zbnd, zbw, zbz, zne1, zone, mrgI, List.length_nil, List.length_cons, Nat.reduceAdd, Nat.reduceSub, Nat.reduceLeDiff, Nat.zero_le, and_true, true_and, false_and, and_false, true_or, or_true, false_or, or_false, G_ite, z10, z1n, z1and, z1or, z0not, z0and, itn, if_true, if_false, reduceIte, Int.reduceEq, Int.reduceLT, Int.reduceNeg, Nat.reduceEqDiff, ite_self]
theorem c38 (h1 : 0 ≤ a) (h2 : a < μ 0 0 50) (h3 : 0 ≤ b) (h4 : b < 60) : G 38 0 [zR 50 a, zI b] [] (HM μ) ck sk Q ↔ Q (.inl (some (zI (if b = 0 ∨ ¬ μ 52 a (b - 1) = μ 52 a b then 1 else 0)))) (HM μ) := by
  by_cases h5 : b = 0
  · subst h5
    simp (disch := first | omega | (simp (disch := decide) only [zmu0, mu_g, List.length_nil, List.length_cons]; omega)) only [g38_0, g38_1, g38_4, g38_5, g38_8, g38_9, g38_10, g38_11, g38_12, g38_13, g38_16, g38_17, g38_18, g38_21, g38_22, g38_25, g38_26, ob50, oc50, fl50_0, wo50_0, fl50_1, wo50_1, fl50_2, wo50_2, fl50_3, wo50_3, fl50_4, wo50_4, fl50_5, wo50_5, fl50_6, fl50_7, fl50_8, fl50_9, fl50_10, fl50_11, rd52, wr52, zoA_at, gback_v, gback_n, zem, zisr, zro_at, zrl_at, mu_g, mu_at, mu_mu, mu_self, not_true, not_false_iff, zb0, zb1, zbnd, zbw, zbz, zne1, zone, mrgI, List.length_nil, List.length_cons, Nat.reduceAdd, Nat.reduceSub, Nat.reduceLeDiff, Nat.zero_le, and_true, true_and, false_and, and_false, true_or, or_true, false_or, or_false, G_ite, z10, z1n, z1and, z1or, z0not, z0and, itn, if_true, if_false, reduceIte, Int.reduceEq, Int.reduceLT, Int.reduceNeg, Nat.reduceEqDiff, ite_self, mrgQ Q]
  · simp (disch := first | omega | (simp (disch := decide) only [zmu0, mu_g, List.length_nil, List.length_cons]; omega)) only [g38_0, g38_1, g38_4, g38_5, g38_8, g38_9, g38_10, g38_11, g38_12, g38_13, g38_16, g38_17, g38_18, g38_21, g38_22, g38_25, g38_26, ob50, oc50, fl50_0, wo50_0, fl50_1, wo50_1, fl50_2, wo50_2, fl50_3, wo50_3, fl50_4, wo50_4, fl50_5, wo50_5, fl50_6, fl50_7, fl50_8, fl50_9, fl50_10, fl50_11, rd52, wr52, zoA_at, gback_v, gback_n, zem, zisr, zro_at, zrl_at, mu_g, mu_at, mu_mu, mu_self, not_true, not_false_iff, zb0, zb1, zbnd, zbw, zbz, zne1, zone, mrgI, List.length_nil, List.length_cons, Nat.reduceAdd, Nat.reduceSub, Nat.reduceLeDiff, Nat.zero_le, and_true, true_and, false_and, and_false, true_or, or_true, false_or, or_false, G_ite, z10, z1n, z1and, z1or, z0not, z0and, itn, if_true, if_false, reduceIte, Int.reduceEq, Int.reduceLT, Int.reduceNeg, Nat.reduceEqDiff, ite_self, mrgQ Q, h5]
theorem c39 (h1 : 0 ≤ a) (h2 : a < μ 0 0 50) (h3 : 0 ≤ b) (h4 : b < 60) (h5 : μ 50 a 1 ≤ 60) (h6 : 0 ≤ μ 50 a 1) (h7 : b < μ 50 a 1) : G 39 0 [zR 50 a, zI b] [] (HM μ) ck sk Q ↔ Q (.inl (some (zI (if b = μ 50 a 1 - 1 ∨ ¬ μ 52 a (b + 1) = μ 52 a b then 1 else 0)))) (HM μ) := by
  by_cases h8 : b = μ 50 a 1 - 1
  · simp (disch := first | omega | (simp (disch := decide) only [zmu0, mu_g, List.length_nil, List.length_cons]; omega)) only [g39_0, g39_1, g39_2, g39_5, g39_6, g39_7, g39_10, g39_11, g39_14, g39_15, g39_16, g39_17, g39_18, g39_19, g39_22, g39_23, g39_24, g39_27, g39_28, g39_31, g39_32, ob50, oc50, fl50_0, wo50_0, fl50_1, wo50_1, fl50_2, wo50_2, fl50_3, wo50_3, fl50_4, wo50_4, fl50_5, wo50_5, fl50_6, fl50_7, fl50_8, fl50_9, fl50_10, fl50_11, rd52, wr52, zoA_at, gback_v, gback_n, zem, zisr, zro_at, zrl_at, mu_g, mu_at, mu_mu, mu_self, not_true, not_false_iff, zb0, zb1, zbnd, zbw, zbz, zne1, zone, mrgI, List.length_nil, List.length_cons, Nat.reduceAdd, Nat.reduceSub, Nat.reduceLeDiff, Nat.zero_le, and_true, true_and, false_and, and_false, true_or, or_true, false_or, or_false, G_ite, z10, z1n, z1and, z1or, z0not, z0and, itn, if_true, if_false, reduceIte, Int.reduceEq, Int.reduceLT, Int.reduceNeg, Nat.reduceEqDiff, ite_self, mrgQ Q, ← h8]
  · simp (disch := first | omega | (simp (disch := decide) only [zmu0, mu_g, List.length_nil, List.length_cons]; omega)) only [g39_0, g39_1, g39_2, g39_5, g39_6, g39_7, g39_10, g39_11, g39_14, g39_15, g39_16, g39_17, g39_18, g39_19, g39_22, g39_23, g39_24, g39_27, g39_28, g39_31, g39_32, ob50, oc50, fl50_0, wo50_0, fl50_1, wo50_1, fl50_2, wo50_2, fl50_3, wo50_3, fl50_4, wo50_4, fl50_5, wo50_5, fl50_6, fl50_7, fl50_8, fl50_9, fl50_10, fl50_11, rd52, wr52, zoA_at, gback_v, gback_n, zem, zisr, zro_at, zrl_at, mu_g, mu_at, mu_mu, mu_self, not_true, not_false_iff, zb0, zb1, zbnd, zbw, zbz, zne1, zone, mrgI, List.length_nil, List.length_cons, Nat.reduceAdd, Nat.reduceSub, Nat.reduceLeDiff, Nat.zero_le, and_true, true_and, false_and, and_false, true_or, or_true, false_or, or_false, G_ite, z10, z1n, z1and, z1or, z0not, z0and, itn, if_true, if_false, reduceIte, Int.reduceEq, Int.reduceLT, Int.reduceNeg, Nat.reduceEqDiff, ite_self, mrgQ Q, h8]
end ZLF
