/-! ===== the law: style, include ===== -/
def mSt (s f : Int) (μ : ZU) : ZU := mu (mu (mu (mu μ 106 0 (6 + s) f) 106 0 4 (μ 106 0 4 + 1)) 31 0 s f) 30 0 10 (μ 30 0 10 + 1)
def mIn (x : Int) (μ : ZU) : ZU := mu (mu (mu (mu μ 106 0 5 x) 106 0 4 (μ 106 0 4 + 1)) 30 0 7 x) 30 0 10 (μ 30 0 10 + 1)
section ZPH
variable {ck sk : Nat} {Q : ZO → ZH → Prop} {μ ν κ β : ZU} {a b c d e f g h i j k l m p r s t t' v w x y z L H M R : Int} {u u1 u2 u3 u4 u5 u6 : ZV}
theorem mu_18 : mu (mu μ 106 0 18 v) 106 0 4 (μ 106 0 4) = mu μ 106 0 18 v := by
  have e : mu μ 106 0 18 v 106 0 4 = μ 106 0 4 := mu_j (by decide)
  rw [← e, mu_self]
theorem RW_g18 (h : RW μ t) (ht : t + 1 ≤ 100) : RW (mu μ 106 0 18 v) (t + 1) := RW_keep h (by omega) ht (fun q a b => mu_g (by omega)) (fun i j _ => by rw [mu_g (by decide)]) (by rw [mu_g (by decide)]; exact h.2.1.2.2.2.2.2.2.1) (by rw [mu_g (by decide)]; exact h.2.1.2.2.2.2.2.2.2) (fun q a b => mu_g (by omega)) (mu_g (by decide)) (mu_g (by decide)) (fun j a b => mu_j (by omega)) (fun b _ _ k k0 k1 => by rw [mu_g (by omega)]) (lnE_of (mu_g (by decide)) (mu_g (by decide)) h.2.2.2.2.2.2.2.2)
theorem RW_up (h : RW μ t) (ht : t + 1 ≤ 100) : RW μ (t + 1) := RW_keep h (by omega) ht (fun q a b => rfl) (fun i j _ => rfl) h.2.1.2.2.2.2.2.2.1 h.2.1.2.2.2.2.2.2.2 (fun q a b => rfl) rfl rfl (fun j a b => rfl) (fun b _ _ k k0 k1 => rfl) h.2.2.2.2.2.2.2.2
theorem RW_st (h : RW μ t) (ht : t + 1 ≤ 100) (hs : 0 ≤ s ∧ s < 4) (hf : 0 ≤ f ∧ f < 5) : RW (mSt s f μ) (t + 1) := by
  obtain ⟨d1, d2, d3, d4, d5, d6, d7, d8⟩ := id h.2.2.2.2.1
  obtain ⟨l1, l2, l3, l4, l5, l6, l7⟩ := id d5
  have n30 : ∀ j, j ≠ 10 → mSt s f μ 30 0 j = μ 30 0 j := fun j hj => by
    unfold mSt
    simp (disch := first | decide | assumption) only [mu_g, mu_j]
  have nv : mSt s f μ 30 0 10 = μ 30 0 10 + 1 := by
    unfold mSt
    rw [mu_at]
  have n31 : ∀ j, mSt s f μ 31 0 j = if j = s then f else μ 31 0 j := fun j => by
    unfold mSt
    rw [mu_g (by decide)]
    by_cases hj : j = s
    · rw [hj, mu_at, if_pos rfl]
    · rw [mu_j hj, mu_g (by decide), mu_g (by decide), if_neg hj]
  have n6 : ∀ j, j ≠ 4 → j ≠ 6 + s → mSt s f μ 106 0 j = μ 106 0 j := fun j h1 h2 => by
    unfold mSt
    rw [mu_g (by decide), mu_g (by decide), mu_j h1, mu_j h2]
  have n64 : mSt s f μ 106 0 4 = μ 106 0 4 + 1 := by
    unfold mSt
    rw [mu_g (by decide), mu_g (by decide), mu_at]
  have n6s : mSt s f μ 106 0 (6 + s) = f := by
    unfold mSt
    rw [mu_g (by decide), mu_g (by decide), mu_j (by omega), mu_at]
  have ng : ∀ q, q ≠ 30 → q ≠ 31 → q ≠ 106 → mSt s f μ q = μ q := fun q h1 h2 h3 => by
    unfold mSt
    rw [mu_g h1, mu_g h2, mu_g h3, mu_g h3]
  refine RW_doc h ht (fun q h1 h2 h3 h4 => ng q (by omega) (by omega) h4) (fun j hj => n6 j (by omega) (by omega)) (by omega) ?_
  have hh : ∀ k, lhome (mSt s f μ) k = lhome μ k := fun k => sfl_lhome (ng _ (by decide) (by decide) (by decide)) (n6 3 (by decide) (by omega))
  have hw : ∀ k, RWw μ k → RWw (mSt s f μ) k := fun k q => by
    unfold RWw at q ⊢
    rw [hh, ng 33 (by decide) (by decide) (by decide), ng 104 (by decide) (by decide) (by decide), ng 35 (by decide) (by decide) (by decide), ng 34 (by decide) (by decide) (by decide), n6 3 (by decide) (by omega)]
    exact q
  have e2 := n6 2 (by decide) (by omega)
  have e3 := n6 3 (by decide) (by omega)
  have e5 := n6 5 (by decide) (by omega)
  have e10 := n6 10 (by decide) (by omega)
  have e11 := n6 11 (by decide) (by omega)
  refine ⟨?_, by rw [n64]; omega, by rw [e5]; exact d3, fun s' s0 s1 => ?_, ⟨by rw [e2]; exact l1, by rw [e3]; exact l2, by rw [e10]; exact l3, by rw [e11]; exact l4, fun s' s0 s1 => ?_, by rw [ng 105 (by decide) (by decide) (by decide)]; exact l6, by rw [ng 104 (by decide) (by decide) (by decide)]; exact l7⟩, by rw [e3, e2, ng 105 (by decide) (by decide) (by decide), ng 32 (by decide) (by decide) (by decide)]; exact d6, by rw [e2, e3]; exact d7, fun k k0 k1 => ?_⟩
  · rw [n30 0 (by decide), n30 1 (by decide), n30 9 (by decide), n30 7 (by decide), n30 8 (by decide), nv, n64, e2, e3, e5, e10, e11]
    omega
  · rw [n31]
    by_cases q : s' = s
    · rw [if_pos q, q, n6s]
    · rw [if_neg q, n6 _ (by omega) (by omega)]
      exact d4 s' s0 s1
  · by_cases q : s' = s
    · rw [q, n6s]
      exact hf
    · rw [n6 _ (by omega) (by omega)]
      exact l5 s' s0 s1
  · rw [e2] at k1
    exact hw k (d8 k k0 k1)
theorem RW_in (h : RW μ t) (ht : t + 1 ≤ 100) (hx : 0 ≤ x ∧ x < 1024) : RW (mIn x μ) (t + 1) := by
  obtain ⟨d1, d2, d3, d4, d5, d6, d7, d8⟩ := id h.2.2.2.2.1
  obtain ⟨l1, l2, l3, l4, l5, l6, l7⟩ := id d5
  have n30 : ∀ j, j ≠ 10 → j ≠ 7 → mIn x μ 30 0 j = μ 30 0 j := fun j hj h2 => by
    unfold mIn
    simp (disch := first | decide | assumption) only [mu_g, mu_j]
  have n37 : mIn x μ 30 0 7 = x := by
    unfold mIn
    rw [mu_j (by decide), mu_at]
  have nv : mIn x μ 30 0 10 = μ 30 0 10 + 1 := by
    unfold mIn
    rw [mu_at]
  have n6 : ∀ j, j ≠ 4 → j ≠ 5 → mIn x μ 106 0 j = μ 106 0 j := fun j h1 h2 => by
    unfold mIn
    rw [mu_g (by decide), mu_g (by decide), mu_j h1, mu_j h2]
  have n64 : mIn x μ 106 0 4 = μ 106 0 4 + 1 := by
    unfold mIn
    rw [mu_g (by decide), mu_g (by decide), mu_at]
  have n65 : mIn x μ 106 0 5 = x := by
    unfold mIn
    rw [mu_g (by decide), mu_g (by decide), mu_j (by decide), mu_at]
  have ng : ∀ q, q ≠ 30 → q ≠ 106 → mIn x μ q = μ q := fun q h1 h3 => by
    unfold mIn
    rw [mu_g h1, mu_g h1, mu_g h3, mu_g h3]
  refine RW_doc h ht (fun q h1 h2 h3 h4 => ng q (by omega) h4) (fun j hj => n6 j (by omega) (by omega)) (by omega) ?_
  have hh : ∀ k, lhome (mIn x μ) k = lhome μ k := fun k => sfl_lhome (ng _ (by decide) (by decide)) (n6 3 (by decide) (by decide))
  have hw : ∀ k, RWw μ k → RWw (mIn x μ) k := fun k q => by
    unfold RWw at q ⊢
    rw [hh, ng 33 (by decide) (by decide), ng 104 (by decide) (by decide), ng 35 (by decide) (by decide), ng 34 (by decide) (by decide), n6 3 (by decide) (by decide)]
    exact q
  have e2 := n6 2 (by decide) (by decide)
  have e3 := n6 3 (by decide) (by decide)
  have e10 := n6 10 (by decide) (by decide)
  have e11 := n6 11 (by decide) (by decide)
  refine ⟨?_, by rw [n64]; omega, by rw [n65]; exact hx, fun s' s0 s1 => ?_, ⟨by rw [e2]; exact l1, by rw [e3]; exact l2, by rw [e10]; exact l3, by rw [e11]; exact l4, fun s' s0 s1 => ?_, by rw [ng 105 (by decide) (by decide)]; exact l6, by rw [ng 104 (by decide) (by decide)]; exact l7⟩, by rw [e3, e2, ng 105 (by decide) (by decide), ng 32 (by decide) (by decide)]; exact d6, by rw [e2, e3]; exact d7, fun k k0 k1 => ?_⟩
  · rw [n30 0 (by decide) (by decide), n30 1 (by decide) (by decide), n30 9 (by decide) (by decide), n37, n30 8 (by decide) (by decide), nv, n64, n65, e2, e3, e10, e11]
    omega
  · rw [ng 31 (by decide) (by decide), n6 _ (by omega) (by omega)]
    exact d4 s' s0 s1
  · rw [n6 _ (by omega) (by omega)]
    exact l5 s' s0 s1
  · rw [e2] at k1
    exact hw k (d8 k k0 k1)
theorem c110_0 (h : RW μ t) (ht : t + 1 ≤ 100) (ha : 0 ≤ a) (hb : 0 ≤ b) (hK : ∀ ν, RW ν (t + 1) → Q (.inl (some (zI 1))) (HM ν)) : G 110 0 [zR 2 0, zR 104 0, zR 105 0, zR 106 0, zI 0, zI a, zI b, u1, u2, u3, u4, u5] [] (HM μ) 20 500 Q := by
  obtain ⟨d1, d2, d3, d4, -⟩ := id h.2.2.2.2.1
  have a3 := h.2.1.2.2.1
  have h0 := h.1
  by_cases hi : a % 5 < 4 ∧ b % 6 < 5
  · obtain ⟨hs, hf⟩ := hi
    have hr := RW_st (s := a % 5) (f := b % 6) h ht ⟨by omega, hs⟩ ⟨by omega, hf⟩
    have e54 : ∀ (Q : ZO → ZH → Prop) (u u' : ZV), G 54 0 [zR 2 0, zI 0, zI (a % 5), zI (b % 6), u, u'] [] (HM (mu (mu μ 106 0 (6 + a % 5) (b % 6)) 106 0 4 (μ 106 0 4 + 1))) 2 12 Q ↔ Q (.inl (some (zI (μ 106 0 (6 + a % 5))))) (HM (mSt (a % 5) (b % 6) μ)) := fun Q u u' => by
      rw [c54 (x := 0) (by simp (disch := decide) only [mu_g]; omega) (fun _ _ => by simp (disch := decide) only [mu_g]; omega), if_pos (by simp (disch := decide) only [mu_g]; omega), if_pos ⟨⟨by omega, by omega⟩, by omega, by omega⟩]
      have e : mu (mu μ 106 0 (6 + a % 5) (b % 6)) 106 0 4 (μ 106 0 4 + 1) 31 0 (a % 5) = μ 106 0 (6 + a % 5) := by
        simp (disch := decide) only [mu_g]
        exact d4 _ (by omega) hs
      rw [e]
      have e2 : mu (mu μ 106 0 (6 + a % 5) (b % 6)) 106 0 4 (μ 106 0 4 + 1) 30 0 10 = μ 30 0 10 := by simp (disch := decide) only [mu_g]
      rw [e2]
      rfl
    simp (disch := first | omega | (simp (disch := decide) only [zmu0, mu_g, List.length_nil, List.length_cons]; omega)) only [g110_0, g110_2, g110_5, g110_7, g110_8, g110_9, g110_11, g110_13, g110_15, g110_16, g110_18, g110_20, g110_21, g110_24, g110_26, g110_27, g110_30, g110_31, g110_34, g110_35, g110_37, g110_39, g110_42, g110_43, g110_45, g110_47, g110_48, g110_49, g110_52, g110_53, g110_55, g110_56, g110_58, g110_61, g110_63, g110_65, g110_66, g110_69, g110_71, g110_73, g110_74, g110_75, g110_76, g110_77, g110_78, g110_80, g110_83, g110_84, g110_87, g110_88, g110_89, g110_90, g110_91, g110_93, g110_94, g110_96, g110_98, g110_99, g110_102, g110_104, g110_107, g110_109, g110_112, g110_115, g110_118, g110_119, g110_122, g110_123, rd106, wr106, w92_8, x92_8_0, x92_8_1, x92_8_2, g92_155, g92_327, e54, Nat.sub_zero, Int.reduceSub, Int.reduceAdd, Int.add_zero, Int.zero_add, Int.cast_ofNat_Int, Bool.false_eq_true, decide_true, decide_false, zbndI, zbwI, zbzI, zb1I, zoA_at, gback_v, gback_n, zem, zisr, zro_at, zrl_at, mu_g, mu_at, mu_mu, mu_self, not_true, not_false_iff, zb0, zb1, zbnd, zbw, zbz, zne1, zone, mrgI, List.length_nil, List.length_cons, Nat.reduceAdd, Nat.reduceSub, Nat.reduceLeDiff, Nat.zero_le, and_true, true_and, false_and, and_false, true_or, or_true, false_or, or_false, G_ite, z10, z1n, z1and, z1or, z0not, z0and, itn, if_true, if_false, reduceIte, Int.reduceEq, Int.reduceLT, Int.reduceNeg, Nat.reduceEqDiff, ite_self, hs, hf, mu_j, eq_self]
    exact hK _ hr
  · have hr := RW_g18 (v := b % 6) h ht
    have e54 : ∀ (Q : ZO → ZH → Prop) (u u' : ZV), G 54 0 [zR 2 0, zI 0, zI (a % 5), zI (b % 6), u, u'] [] (HM (mu μ 106 0 18 (b % 6))) 2 12 Q ↔ Q (.inr 0) (HM (mu μ 106 0 18 (b % 6))) := fun Q u u' => by
      rw [c54 (x := 0) (by simp (disch := decide) only [mu_g]; omega) (fun _ _ => by simp (disch := decide) only [mu_g]; omega), if_pos (by simp (disch := decide) only [mu_g]; omega), if_neg (by omega)]
    by_cases hs : a % 5 < 4
    · have hf : ¬ b % 6 < 5 := fun z => hi ⟨hs, z⟩
      simp (disch := first | omega | (simp (disch := decide) only [zmu0, mu_g, List.length_nil, List.length_cons]; omega)) only [g110_0, g110_2, g110_5, g110_7, g110_8, g110_9, g110_11, g110_13, g110_15, g110_16, g110_18, g110_20, g110_21, g110_24, g110_26, g110_27, g110_30, g110_31, g110_34, g110_35, g110_37, g110_39, g110_42, g110_43, g110_45, g110_47, g110_48, g110_49, g110_52, g110_53, g110_55, g110_56, g110_58, g110_61, g110_63, g110_65, g110_66, g110_69, g110_71, g110_73, g110_74, g110_75, g110_76, g110_77, g110_78, g110_80, g110_83, g110_84, g110_87, g110_88, g110_89, g110_90, g110_91, g110_93, g110_94, g110_96, g110_98, g110_99, g110_102, g110_104, g110_107, g110_109, g110_112, g110_115, g110_118, g110_119, g110_122, g110_123, rd106, wr106, w92_8, x92_8_0, x92_8_1, x92_8_2, g92_155, g92_327, e54, Nat.sub_zero, Int.reduceSub, Int.reduceAdd, Int.add_zero, Int.zero_add, Int.cast_ofNat_Int, Bool.false_eq_true, decide_true, decide_false, zbndI, zbwI, zbzI, zb1I, zoA_at, gback_v, gback_n, zem, zisr, zro_at, zrl_at, mu_g, mu_at, mu_mu, mu_self, not_true, not_false_iff, zb0, zb1, zbnd, zbw, zbz, zne1, zone, mrgI, List.length_nil, List.length_cons, Nat.reduceAdd, Nat.reduceSub, Nat.reduceLeDiff, Nat.zero_le, and_true, true_and, false_and, and_false, true_or, or_true, false_or, or_false, G_ite, z10, z1n, z1and, z1or, z0not, z0and, itn, if_true, if_false, reduceIte, Int.reduceEq, Int.reduceLT, Int.reduceNeg, Nat.reduceEqDiff, ite_self, hs, hf, mu_j, eq_self, mu_18]
      exact hK _ hr
    · simp (disch := first | omega | (simp (disch := decide) only [zmu0, mu_g, List.length_nil, List.length_cons]; omega)) only [g110_0, g110_2, g110_5, g110_7, g110_8, g110_9, g110_11, g110_13, g110_15, g110_16, g110_18, g110_20, g110_21, g110_24, g110_26, g110_27, g110_30, g110_31, g110_34, g110_35, g110_37, g110_39, g110_42, g110_43, g110_45, g110_47, g110_48, g110_49, g110_52, g110_53, g110_55, g110_56, g110_58, g110_61, g110_63, g110_65, g110_66, g110_69, g110_71, g110_73, g110_74, g110_75, g110_76, g110_77, g110_78, g110_80, g110_83, g110_84, g110_87, g110_88, g110_89, g110_90, g110_91, g110_93, g110_94, g110_96, g110_98, g110_99, g110_102, g110_104, g110_107, g110_109, g110_112, g110_115, g110_118, g110_119, g110_122, g110_123, rd106, wr106, w92_8, x92_8_0, x92_8_1, x92_8_2, g92_155, g92_327, e54, Nat.sub_zero, Int.reduceSub, Int.reduceAdd, Int.add_zero, Int.zero_add, Int.cast_ofNat_Int, Bool.false_eq_true, decide_true, decide_false, zbndI, zbwI, zbzI, zb1I, zoA_at, gback_v, gback_n, zem, zisr, zro_at, zrl_at, mu_g, mu_at, mu_mu, mu_self, not_true, not_false_iff, zb0, zb1, zbnd, zbw, zbz, zne1, zone, mrgI, List.length_nil, List.length_cons, Nat.reduceAdd, Nat.reduceSub, Nat.reduceLeDiff, Nat.zero_le, and_true, true_and, false_and, and_false, true_or, or_true, false_or, or_false, G_ite, z10, z1n, z1and, z1or, z0not, z0and, itn, if_true, if_false, reduceIte, Int.reduceEq, Int.reduceLT, Int.reduceNeg, Nat.reduceEqDiff, ite_self, hs, mu_j, eq_self, mu_18]
      exact hK _ hr
end ZPH
