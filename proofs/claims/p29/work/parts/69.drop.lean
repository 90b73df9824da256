/-! ===== the law: an image dropped ===== -/
def mCt (m y : Int) (μ : ZU) : ZU := mu (mu μ 103 0 (4 * m) y) 20 m 3 y
def drq (μ : ZU) (m k : Int) : Bool := decide ((μ 103 0 (4 * m + 1) = k + 1 ∨ μ 103 0 (4 * m + 2) = k + 1 ∨ μ 103 0 (4 * m + 3) = k + 1) ∧ μ 102 0 k = 1 ∧ zall (nin μ k) (4 * μ 106 0 1).toNat 0 = true)
def ltN (P : Int → Bool) : Nat → Int → ZU → ZU
  | 0, _, μ => μ
  | n + 1, k, μ => ltN P n (k + 1) (if P k = true then mu μ 102 0 k 2 else μ)
section ZPZ
variable {ck sk : Nat} {Q : ZO → ZH → Prop} {P p : Int → Bool} {μ ν κ β M Φ : ZU} {a b c d e f g h i j k l m o r s t t' v w x y z L H R W C J B K : Int} {u u1 u2 u3 u4 u5 u6 u7 u8 u9 u10 u11 : ZV}
theorem lfN_l (h1 : ν 101 = μ 101) (h3 : ∀ k, 1 ≤ k → k < 4 → ν 103 0 (4 * i + k) = μ 103 0 (4 * i + k)) : ∀ (n : Nat) (k s : Int), 1 ≤ k → k + n = 4 → lfN ν i j n k s = lfN μ i j n k s
  | 0, _, _, _, _ => rfl
  | n + 1, k, s, k0, k1 => by
    unfold lfN
    rw [h1, h3 k k0 (by omega)]
    exact lfN_l h1 h3 n (k + 1) _ (by omega) (by omega)
theorem lfv_l (h1 : ν 101 = μ 101) (h3 : ∀ k, 1 ≤ k → k < 4 → ν 103 0 (4 * i + k) = μ 103 0 (4 * i + k)) : lfv ν i j = lfv μ i j := by
  unfold lfv
  rw [lfN_l h1 h3 3 1 0 (by omega) (by omega)]
/-- an image held by more or fewer -/
theorem RW_ct (h : RW μ t) (ht : t ≤ t') (ht2 : t' ≤ 100) (hm : 0 ≤ m ∧ m < μ 0 0 20) (hy : 0 ≤ y ∧ y ≤ t') : RW (mCt m y μ) t' := by
  obtain ⟨r0, ra, rb, rc, rd, re, rf, rg, rh⟩ := h
  have g : ∀ q : Nat, q ≠ 20 → q ≠ 103 → mCt m y μ q = μ q := fun q h1 h2 => by
    unfold mCt
    rw [mu_g h1, mu_g h2]
  have n3 : ∀ j, j ≠ 4 * m → mCt m y μ 103 0 j = μ 103 0 j := fun j hj => by
    unfold mCt
    rw [mu_g (by decide), mu_j hj]
  have a3 : mCt m y μ 103 0 (4 * m) = y := by
    unfold mCt
    rw [mu_g (by decide), mu_at]
  have n20 : ∀ i j, ¬ (i = m ∧ j = 3) → mCt m y μ 20 i j = μ 20 i j := fun i j hj => by
    unfold mCt
    by_cases q : i = m
    · rw [q, mu_j (fun z => hj ⟨q, z⟩), mu_g (by decide)]
    · rw [mu_i q, mu_g (by decide)]
  have a20 : mCt m y μ 20 m 3 = y := by
    unfold mCt
    rw [mu_at]
  generalize mCt m y μ = ν at *
  have h0 : ν 0 = μ 0 := g _ (by decide) (by decide)
  have hf : ∀ i, 0 ≤ i → i < μ 0 0 20 → ∀ j, 0 ≤ j → j < 10 → lfv ν i j = lfv μ i j := fun i _ _ j _ _ => lfv_l (g _ (by decide) (by decide)) fun k k0 k1 => n3 _ (by omega)
  refine ⟨by rw [h0]; omega, ?_, RWb_of (by rw [h0]) (g _ (by decide) (by decide)) (g _ (by decide) (by decide)) (g _ (by decide) (by decide)) (g _ (by decide) (by decide)) (g _ (by decide) (by decide)) (g _ (by decide) (by decide)) rb, ⟨fun i i0 i1 => ?_, fun k k0 k1 => ?_⟩, ?_, ?_, ?_, ?_, ?_⟩
  · unfold RWa
    rw [h0, g 2 (by decide) (by decide), g 106 (by decide) (by decide)]
    exact ra
  · rw [h0] at i1
    have hi := rc.1 i i0 i1
    refine RWi_p (by rw [h0]; exact Int.le_refl _) (by rw [h0]; exact Int.le_refl _) (fun r _ => by rw [h0]) (fun l _ _ z => by rw [g 10 (by decide) (by decide)]; exact z) (fun j hj => n20 i j (fun z => hj z.2)) ?_ (fun r _ => by rw [g 26 (by decide) (by decide)]) (by rw [g 22 (by decide) (by decide)]) (by rw [g 23 (by decide) (by decide)]) (by rw [g 24 (by decide) (by decide)]) (hf i i0 i1) (fun k k0 k1 => n3 _ (by omega)) hi
    by_cases q : i = m
    · rw [q, a3, a20]
      omega
    · rw [n3 _ (by omega), n20 _ _ (by omega)]
      have := hi.1
      omega
  · rw [h0] at k0
    rw [n3 _ (by omega)]
    exact rc.2 k k0 k1
  · exact RWd_of (g _ (by decide) (by decide)) (g _ (by decide) (by decide)) (g _ (by decide) (by decide)) (g _ (by decide) (by decide)) (g _ (by decide) (by decide)) (g _ (by decide) (by decide)) (g _ (by decide) (by decide)) (g _ (by decide) (by decide)) (fun j _ _ => by rw [g 106 (by decide) (by decide)]) ht rd
  · exact RWe_of (g _ (by decide) (by decide)) (fun j _ _ => by rw [g 106 (by decide) (by decide)]) ht re
  · exact RWf_of (by rw [h0]) (by rw [h0]) (by rw [h0]; exact Int.le_refl _) (g _ (by decide) (by decide)) rf
  · exact RWg_p (by rw [h0]) (by rw [h0]; exact Int.le_refl _) (g _ (by decide) (by decide)) (fun b _ _ k k0 k1 => by rw [g k (by omega) (by omega)]) (g _ (by decide) (by decide)) (g _ (by decide) (by decide)) hf (g _ (by decide) (by decide)) (fun i _ _ => sfi_of (g _ (by decide) (by decide)) (g _ (by decide) (by decide)) (g _ (by decide) (by decide)) (g _ (by decide) (by decide)) (g _ (by decide) (by decide)) (g _ (by decide) (by decide)) (by rw [g 22 (by decide) (by decide)]) (by rw [g 23 (by decide) (by decide)]) (by rw [g 24 (by decide) (by decide)])) rg
  · exact lnE_of (g _ (by decide) (by decide)) (g _ (by decide) (by decide)) rh
theorem ltN_g {q : Nat} (h : q ≠ 102) : ∀ (n : Nat) (k : Int) (μ : ZU), ltN P n k μ q = μ q
  | 0, _, _ => rfl
  | n + 1, k, μ => by
    unfold ltN
    rw [ltN_g h n]
    split
    · rw [mu_g h]
    · rfl
theorem ltN_at : ∀ (n : Nat) (k : Int) (μ : ZU) (j : Int), ltN P n k μ 102 0 j = if (k ≤ j ∧ j < k + n) ∧ P j = true then 2 else μ 102 0 j
  | 0, k, μ, j => by
    rw [if_neg (by omega)]
    rfl
  | n + 1, k, μ, j => by
    unfold ltN
    rw [ltN_at n (k + 1) _ j]
    by_cases q : j = k
    · rw [if_neg (by omega), q]
      by_cases z : P k = true
      · rw [if_pos z, if_pos ⟨by omega, z⟩, mu_at]
      · rw [if_neg z, if_neg (fun w => z w.2)]
    · have e : (if P k = true then mu μ 102 0 k 2 else μ) 102 0 j = μ 102 0 j := by
        split
        · rw [mu_j q]
        · rfl
      rw [e]
      by_cases z : (k ≤ j ∧ j < k + (n + 1 : Nat)) ∧ P j = true
      · rw [if_pos z, if_pos ⟨by omega, z.2⟩]
      · rw [if_neg z, if_neg (fun w => z ⟨by omega, w.2⟩)]
theorem c108_d (h1 : 0 ≤ κ 106 0 1 ∧ κ 106 0 1 ≤ 12) (h0 : κ 106 0 0 ≤ 6) (hm : 0 ≤ m ∧ m < 12) (hz : κ 103 0 (4 * m) = 0) : ∀ (n : Nat) (k s : Int) (ν : ZU) (u12 : ZV), ν 103 = κ 103 → ν 106 = κ 106 → (∀ j, k ≤ j → ν 102 0 j = κ 102 0 j) → 0 ≤ k → k + n = κ 106 0 0 → 0 ≤ s → s ≤ k → (∀ u12, G 108 171 [zR 2 0, zR 101 0, zR 102 0, zR 103 0, zR 106 0, zI w, zI a, zI b, zI m, zI 1, zI (zct (drq κ m) n k s), zI (κ 106 0 0), u12, u6, u7, u8, u9, u10] [] (HM (ltN (drq κ m) n k ν)) ck sk Q) → G 108 63 [zR 2 0, zR 101 0, zR 102 0, zR 103 0, zR 106 0, zI w, zI a, zI b, zI m, zI 1, zI s, zI k, u12, u6, u7, u8, u9, u10] [] (HM ν) ck sk Q
  | 0, k, s, ν, u12, e3, e6, e2, k0, kn, s0, s1, q => by
    have hk : k = κ 106 0 0 := by omega
    have q := q u12
    have e : ltN (drq κ m) 0 k ν = ν := rfl
    have e' : zct (drq κ m) 0 k s = s := rfl
    rw [e, e', ← hk] at q
    have q2 : ¬ k < ν 106 0 0 := by rw [e6]; omega
    rw [g108_63]
    simp (disch := first | omega | (simp (disch := decide) only [zmu0, mu_g, List.length_nil, List.length_cons]; omega)) only [g108_65, g108_67, g108_68, g108_69, rd106, wr106, Nat.sub_zero, Int.reduceSub, Int.reduceAdd, Int.add_zero, Int.zero_add, Int.cast_ofNat_Int, Bool.false_eq_true, decide_true, decide_false, zbndI, zbwI, zbzI, zb1I, zoA_at, gback_v, gback_n, zem, zisr, zro_at, zrl_at, mu_g, mu_at, mu_mu, mu_self, not_true, not_false_iff, zb0, zb1, zbnd, zbw, zbz, zne1, zone, mrgI, List.length_nil, List.length_cons, Nat.reduceAdd, Nat.reduceSub, Nat.reduceLeDiff, Nat.zero_le, and_true, true_and, false_and, and_false, true_or, or_true, false_or, or_false, G_ite, z10, z1n, z1and, z1or, z0not, z0and, itn, if_true, if_false, reduceIte, Int.reduceEq, Int.reduceLT, Int.reduceNeg, Nat.reduceEqDiff, ite_self, q2]
    exact q
  | n + 1, k, s, ν, u12, e3, e6, e2, k0, kn, s0, s1, q => by
    have hk : k < ν 106 0 0 := by rw [e6]; omega
    have hz' : ν 103 0 (4 * m) = 0 := by rw [e3]; exact hz
    have ee : ∀ l, nin ν l = nin κ l := fun l => by
      funext k
      unfold nin inq
      rw [e3]
    have e107 := fun (ck sk : Nat) (Q : ZO → ZH → Prop) (u u1 : ZV) => c107 (μ := ν) (l := k) (ck := ck) (sk := sk) (Q := Q) (u := u) (u1 := u1) (by rw [e6]; exact h1) (by omega)
    rw [ee, e6] at e107
    have e2k : ν 102 0 k = κ 102 0 k := e2 k (Int.le_refl _)
    have x1 : ν 103 0 (4 * m + 1) = κ 103 0 (4 * m + 1) := by rw [e3]
    have x2 : ν 103 0 (4 * m + 2) = κ 103 0 (4 * m + 2) := by rw [e3]
    have x3 : ν 103 0 (4 * m + 3) = κ 103 0 (4 * m + 3) := by rw [e3]
    by_cases hP : drq κ m k = true
    · have eN : ltN (drq κ m) (n + 1) k ν = ltN (drq κ m) n (k + 1) (mu ν 102 0 k 2) := by
        show ltN (drq κ m) n (k + 1) (if drq κ m k = true then mu ν 102 0 k 2 else ν) = _
        rw [if_pos hP]
      rw [eN, zct_s, if_pos hP] at q
      have ih := fun u12 => c108_d h1 h0 hm hz n (k + 1) (s + 1) (mu ν 102 0 k 2) u12 (by rw [mu_g (by decide)]; exact e3) (by rw [mu_g (by decide)]; exact e6) (fun j hj => by rw [mu_j (by omega)]; exact e2 j (by omega)) (by omega) (by omega) (by omega) (by omega) q
      obtain ⟨p1, p2, p3⟩ := of_decide_eq_true hP
      rw [if_pos p3] at e107
      rw [g108_63]
      by_cases c1 : κ 103 0 (4 * m + 1) = k + 1
      · simp (disch := first | omega | (simp (disch := decide) only [zmu0, mu_g, List.length_nil, List.length_cons]; omega)) only [g108_65, g108_67, g108_68, g108_69, g108_72, g108_73, g108_74, g108_76, g108_77, g108_78, g108_81, g108_82, g108_83, g108_85, g108_86, g108_87, g108_88, g108_89, g108_91, g108_92, g108_93, g108_96, g108_97, g108_98, g108_100, g108_101, g108_102, g108_103, g108_104, g108_106, g108_107, g108_108, g108_111, g108_112, g108_113, g108_115, g108_116, g108_117, g108_118, g108_119, g108_121, g108_122, g108_123, g108_126, g108_127, g108_130, g108_131, g108_133, g108_135, g108_138, g108_139, g108_141, g108_142, g108_143, g108_146, g108_147, g108_149, g108_151, g108_154, g108_157, g108_158, g108_160, g108_161, g108_162, g108_165, g108_168, rd102, wr102, rd103, wr103, rd106, wr106, e107, x1, x2, x3, e2k, hz', Nat.sub_zero, Int.reduceSub, Int.reduceAdd, Int.add_zero, Int.zero_add, Int.cast_ofNat_Int, Bool.false_eq_true, decide_true, decide_false, zbndI, zbwI, zbzI, zb1I, zoA_at, gback_v, gback_n, zem, zisr, zro_at, zrl_at, mu_g, mu_at, mu_mu, mu_self, not_true, not_false_iff, zb0, zb1, zbnd, zbw, zbz, zne1, zone, mrgI, List.length_nil, List.length_cons, Nat.reduceAdd, Nat.reduceSub, Nat.reduceLeDiff, Nat.zero_le, and_true, true_and, false_and, and_false, true_or, or_true, false_or, or_false, G_ite, z10, z1n, z1and, z1or, z0not, z0and, itn, if_true, if_false, reduceIte, Int.reduceEq, Int.reduceLT, Int.reduceNeg, Nat.reduceEqDiff, ite_self, hk, c1, p2]
        exact ih _
      · by_cases c2 : κ 103 0 (4 * m + 2) = k + 1
        · simp (disch := first | omega | (simp (disch := decide) only [zmu0, mu_g, List.length_nil, List.length_cons]; omega)) only [g108_65, g108_67, g108_68, g108_69, g108_72, g108_73, g108_74, g108_76, g108_77, g108_78, g108_81, g108_82, g108_83, g108_85, g108_86, g108_87, g108_88, g108_89, g108_91, g108_92, g108_93, g108_96, g108_97, g108_98, g108_100, g108_101, g108_102, g108_103, g108_104, g108_106, g108_107, g108_108, g108_111, g108_112, g108_113, g108_115, g108_116, g108_117, g108_118, g108_119, g108_121, g108_122, g108_123, g108_126, g108_127, g108_130, g108_131, g108_133, g108_135, g108_138, g108_139, g108_141, g108_142, g108_143, g108_146, g108_147, g108_149, g108_151, g108_154, g108_157, g108_158, g108_160, g108_161, g108_162, g108_165, g108_168, rd102, wr102, rd103, wr103, rd106, wr106, e107, x1, x2, x3, e2k, hz', Nat.sub_zero, Int.reduceSub, Int.reduceAdd, Int.add_zero, Int.zero_add, Int.cast_ofNat_Int, Bool.false_eq_true, decide_true, decide_false, zbndI, zbwI, zbzI, zb1I, zoA_at, gback_v, gback_n, zem, zisr, zro_at, zrl_at, mu_g, mu_at, mu_mu, mu_self, not_true, not_false_iff, zb0, zb1, zbnd, zbw, zbz, zne1, zone, mrgI, List.length_nil, List.length_cons, Nat.reduceAdd, Nat.reduceSub, Nat.reduceLeDiff, Nat.zero_le, and_true, true_and, false_and, and_false, true_or, or_true, false_or, or_false, G_ite, z10, z1n, z1and, z1or, z0not, z0and, itn, if_true, if_false, reduceIte, Int.reduceEq, Int.reduceLT, Int.reduceNeg, Nat.reduceEqDiff, ite_self, hk, c1, c2, p2]
          exact ih _
        · have c3 : κ 103 0 (4 * m + 3) = k + 1 := by
            rcases p1 with z | z | z
            · exact absurd z c1
            · exact absurd z c2
            · exact z
          simp (disch := first | omega | (simp (disch := decide) only [zmu0, mu_g, List.length_nil, List.length_cons]; omega)) only [g108_65, g108_67, g108_68, g108_69, g108_72, g108_73, g108_74, g108_76, g108_77, g108_78, g108_81, g108_82, g108_83, g108_85, g108_86, g108_87, g108_88, g108_89, g108_91, g108_92, g108_93, g108_96, g108_97, g108_98, g108_100, g108_101, g108_102, g108_103, g108_104, g108_106, g108_107, g108_108, g108_111, g108_112, g108_113, g108_115, g108_116, g108_117, g108_118, g108_119, g108_121, g108_122, g108_123, g108_126, g108_127, g108_130, g108_131, g108_133, g108_135, g108_138, g108_139, g108_141, g108_142, g108_143, g108_146, g108_147, g108_149, g108_151, g108_154, g108_157, g108_158, g108_160, g108_161, g108_162, g108_165, g108_168, rd102, wr102, rd103, wr103, rd106, wr106, e107, x1, x2, x3, e2k, hz', Nat.sub_zero, Int.reduceSub, Int.reduceAdd, Int.add_zero, Int.zero_add, Int.cast_ofNat_Int, Bool.false_eq_true, decide_true, decide_false, zbndI, zbwI, zbzI, zb1I, zoA_at, gback_v, gback_n, zem, zisr, zro_at, zrl_at, mu_g, mu_at, mu_mu, mu_self, not_true, not_false_iff, zb0, zb1, zbnd, zbw, zbz, zne1, zone, mrgI, List.length_nil, List.length_cons, Nat.reduceAdd, Nat.reduceSub, Nat.reduceLeDiff, Nat.zero_le, and_true, true_and, false_and, and_false, true_or, or_true, false_or, or_false, G_ite, z10, z1n, z1and, z1or, z0not, z0and, itn, if_true, if_false, reduceIte, Int.reduceEq, Int.reduceLT, Int.reduceNeg, Nat.reduceEqDiff, ite_self, hk, c1, c2, c3, p2]
          exact ih _
    · have eN : ltN (drq κ m) (n + 1) k ν = ltN (drq κ m) n (k + 1) ν := by
        show ltN (drq κ m) n (k + 1) (if drq κ m k = true then mu ν 102 0 k 2 else ν) = _
        rw [if_neg hP]
      rw [eN, zct_s, if_neg hP] at q
      have ih := fun u12 => c108_d h1 h0 hm hz n (k + 1) s ν u12 e3 e6 (fun j hj => e2 j (by omega)) (by omega) (by omega) (by omega) (by omega) q
      have hP' := of_decide_eq_false (eq_false_of_ne_true hP)
      rw [g108_63]
      by_cases p2 : κ 102 0 k = 1
      · by_cases p3 : zall (nin κ k) (4 * κ 106 0 1).toNat 0 = true
        · have c1 : ¬ κ 103 0 (4 * m + 1) = k + 1 := fun z => hP' ⟨Or.inl z, p2, p3⟩
          have c2 : ¬ κ 103 0 (4 * m + 2) = k + 1 := fun z => hP' ⟨Or.inr (Or.inl z), p2, p3⟩
          have c3 : ¬ κ 103 0 (4 * m + 3) = k + 1 := fun z => hP' ⟨Or.inr (Or.inr z), p2, p3⟩
          simp (disch := first | omega | (simp (disch := decide) only [zmu0, mu_g, List.length_nil, List.length_cons]; omega)) only [g108_65, g108_67, g108_68, g108_69, g108_72, g108_73, g108_74, g108_76, g108_77, g108_78, g108_81, g108_82, g108_83, g108_85, g108_86, g108_87, g108_88, g108_89, g108_91, g108_92, g108_93, g108_96, g108_97, g108_98, g108_100, g108_101, g108_102, g108_103, g108_104, g108_106, g108_107, g108_108, g108_111, g108_112, g108_113, g108_115, g108_116, g108_117, g108_118, g108_119, g108_121, g108_122, g108_123, g108_126, g108_127, g108_130, g108_131, g108_133, g108_135, g108_138, g108_139, g108_141, g108_142, g108_143, g108_146, g108_147, g108_149, g108_151, g108_154, g108_157, g108_158, g108_160, g108_161, g108_162, g108_165, g108_168, rd102, wr102, rd103, wr103, rd106, wr106, e107, x1, x2, x3, e2k, hz', Nat.sub_zero, Int.reduceSub, Int.reduceAdd, Int.add_zero, Int.zero_add, Int.cast_ofNat_Int, Bool.false_eq_true, decide_true, decide_false, zbndI, zbwI, zbzI, zb1I, zoA_at, gback_v, gback_n, zem, zisr, zro_at, zrl_at, mu_g, mu_at, mu_mu, mu_self, not_true, not_false_iff, zb0, zb1, zbnd, zbw, zbz, zne1, zone, mrgI, List.length_nil, List.length_cons, Nat.reduceAdd, Nat.reduceSub, Nat.reduceLeDiff, Nat.zero_le, and_true, true_and, false_and, and_false, true_or, or_true, false_or, or_false, G_ite, z10, z1n, z1and, z1or, z0not, z0and, itn, if_true, if_false, reduceIte, Int.reduceEq, Int.reduceLT, Int.reduceNeg, Nat.reduceEqDiff, ite_self, hk, c1, c2, c3]
          exact ih _
        · rw [if_neg p3] at e107
          by_cases c1 : κ 103 0 (4 * m + 1) = k + 1
          · simp (disch := first | omega | (simp (disch := decide) only [zmu0, mu_g, List.length_nil, List.length_cons]; omega)) only [g108_65, g108_67, g108_68, g108_69, g108_72, g108_73, g108_74, g108_76, g108_77, g108_78, g108_81, g108_82, g108_83, g108_85, g108_86, g108_87, g108_88, g108_89, g108_91, g108_92, g108_93, g108_96, g108_97, g108_98, g108_100, g108_101, g108_102, g108_103, g108_104, g108_106, g108_107, g108_108, g108_111, g108_112, g108_113, g108_115, g108_116, g108_117, g108_118, g108_119, g108_121, g108_122, g108_123, g108_126, g108_127, g108_130, g108_131, g108_133, g108_135, g108_138, g108_139, g108_141, g108_142, g108_143, g108_146, g108_147, g108_149, g108_151, g108_154, g108_157, g108_158, g108_160, g108_161, g108_162, g108_165, g108_168, rd102, wr102, rd103, wr103, rd106, wr106, e107, x1, x2, x3, e2k, hz', Nat.sub_zero, Int.reduceSub, Int.reduceAdd, Int.add_zero, Int.zero_add, Int.cast_ofNat_Int, Bool.false_eq_true, decide_true, decide_false, zbndI, zbwI, zbzI, zb1I, zoA_at, gback_v, gback_n, zem, zisr, zro_at, zrl_at, mu_g, mu_at, mu_mu, mu_self, not_true, not_false_iff, zb0, zb1, zbnd, zbw, zbz, zne1, zone, mrgI, List.length_nil, List.length_cons, Nat.reduceAdd, Nat.reduceSub, Nat.reduceLeDiff, Nat.zero_le, and_true, true_and, false_and, and_false, true_or, or_true, false_or, or_false, G_ite, z10, z1n, z1and, z1or, z0not, z0and, itn, if_true, if_false, reduceIte, Int.reduceEq, Int.reduceLT, Int.reduceNeg, Nat.reduceEqDiff, ite_self, hk, c1, p2]
            exact ih _
          · by_cases c2 : κ 103 0 (4 * m + 2) = k + 1
            · simp (disch := first | omega | (simp (disch := decide) only [zmu0, mu_g, List.length_nil, List.length_cons]; omega)) only [g108_65, g108_67, g108_68, g108_69, g108_72, g108_73, g108_74, g108_76, g108_77, g108_78, g108_81, g108_82, g108_83, g108_85, g108_86, g108_87, g108_88, g108_89, g108_91, g108_92, g108_93, g108_96, g108_97, g108_98, g108_100, g108_101, g108_102, g108_103, g108_104, g108_106, g108_107, g108_108, g108_111, g108_112, g108_113, g108_115, g108_116, g108_117, g108_118, g108_119, g108_121, g108_122, g108_123, g108_126, g108_127, g108_130, g108_131, g108_133, g108_135, g108_138, g108_139, g108_141, g108_142, g108_143, g108_146, g108_147, g108_149, g108_151, g108_154, g108_157, g108_158, g108_160, g108_161, g108_162, g108_165, g108_168, rd102, wr102, rd103, wr103, rd106, wr106, e107, x1, x2, x3, e2k, hz', Nat.sub_zero, Int.reduceSub, Int.reduceAdd, Int.add_zero, Int.zero_add, Int.cast_ofNat_Int, Bool.false_eq_true, decide_true, decide_false, zbndI, zbwI, zbzI, zb1I, zoA_at, gback_v, gback_n, zem, zisr, zro_at, zrl_at, mu_g, mu_at, mu_mu, mu_self, not_true, not_false_iff, zb0, zb1, zbnd, zbw, zbz, zne1, zone, mrgI, List.length_nil, List.length_cons, Nat.reduceAdd, Nat.reduceSub, Nat.reduceLeDiff, Nat.zero_le, and_true, true_and, false_and, and_false, true_or, or_true, false_or, or_false, G_ite, z10, z1n, z1and, z1or, z0not, z0and, itn, if_true, if_false, reduceIte, Int.reduceEq, Int.reduceLT, Int.reduceNeg, Nat.reduceEqDiff, ite_self, hk, c1, c2, p2]
              exact ih _
            · by_cases c3 : κ 103 0 (4 * m + 3) = k + 1
              · simp (disch := first | omega | (simp (disch := decide) only [zmu0, mu_g, List.length_nil, List.length_cons]; omega)) only [g108_65, g108_67, g108_68, g108_69, g108_72, g108_73, g108_74, g108_76, g108_77, g108_78, g108_81, g108_82, g108_83, g108_85, g108_86, g108_87, g108_88, g108_89, g108_91, g108_92, g108_93, g108_96, g108_97, g108_98, g108_100, g108_101, g108_102, g108_103, g108_104, g108_106, g108_107, g108_108, g108_111, g108_112, g108_113, g108_115, g108_116, g108_117, g108_118, g108_119, g108_121, g108_122, g108_123, g108_126, g108_127, g108_130, g108_131, g108_133, g108_135, g108_138, g108_139, g108_141, g108_142, g108_143, g108_146, g108_147, g108_149, g108_151, g108_154, g108_157, g108_158, g108_160, g108_161, g108_162, g108_165, g108_168, rd102, wr102, rd103, wr103, rd106, wr106, e107, x1, x2, x3, e2k, hz', Nat.sub_zero, Int.reduceSub, Int.reduceAdd, Int.add_zero, Int.zero_add, Int.cast_ofNat_Int, Bool.false_eq_true, decide_true, decide_false, zbndI, zbwI, zbzI, zb1I, zoA_at, gback_v, gback_n, zem, zisr, zro_at, zrl_at, mu_g, mu_at, mu_mu, mu_self, not_true, not_false_iff, zb0, zb1, zbnd, zbw, zbz, zne1, zone, mrgI, List.length_nil, List.length_cons, Nat.reduceAdd, Nat.reduceSub, Nat.reduceLeDiff, Nat.zero_le, and_true, true_and, false_and, and_false, true_or, or_true, false_or, or_false, G_ite, z10, z1n, z1and, z1or, z0not, z0and, itn, if_true, if_false, reduceIte, Int.reduceEq, Int.reduceLT, Int.reduceNeg, Nat.reduceEqDiff, ite_self, hk, c1, c2, c3, p2]
                exact ih _
              · simp (disch := first | omega | (simp (disch := decide) only [zmu0, mu_g, List.length_nil, List.length_cons]; omega)) only [g108_65, g108_67, g108_68, g108_69, g108_72, g108_73, g108_74, g108_76, g108_77, g108_78, g108_81, g108_82, g108_83, g108_85, g108_86, g108_87, g108_88, g108_89, g108_91, g108_92, g108_93, g108_96, g108_97, g108_98, g108_100, g108_101, g108_102, g108_103, g108_104, g108_106, g108_107, g108_108, g108_111, g108_112, g108_113, g108_115, g108_116, g108_117, g108_118, g108_119, g108_121, g108_122, g108_123, g108_126, g108_127, g108_130, g108_131, g108_133, g108_135, g108_138, g108_139, g108_141, g108_142, g108_143, g108_146, g108_147, g108_149, g108_151, g108_154, g108_157, g108_158, g108_160, g108_161, g108_162, g108_165, g108_168, rd102, wr102, rd103, wr103, rd106, wr106, e107, x1, x2, x3, e2k, hz', Nat.sub_zero, Int.reduceSub, Int.reduceAdd, Int.add_zero, Int.zero_add, Int.cast_ofNat_Int, Bool.false_eq_true, decide_true, decide_false, zbndI, zbwI, zbzI, zb1I, zoA_at, gback_v, gback_n, zem, zisr, zro_at, zrl_at, mu_g, mu_at, mu_mu, mu_self, not_true, not_false_iff, zb0, zb1, zbnd, zbw, zbz, zne1, zone, mrgI, List.length_nil, List.length_cons, Nat.reduceAdd, Nat.reduceSub, Nat.reduceLeDiff, Nat.zero_le, and_true, true_and, false_and, and_false, true_or, or_true, false_or, or_false, G_ite, z10, z1n, z1and, z1or, z0not, z0and, itn, if_true, if_false, reduceIte, Int.reduceEq, Int.reduceLT, Int.reduceNeg, Nat.reduceEqDiff, ite_self, hk, c1, c2, c3]
                exact ih _
      · by_cases c1 : κ 103 0 (4 * m + 1) = k + 1
        · simp (disch := first | omega | (simp (disch := decide) only [zmu0, mu_g, List.length_nil, List.length_cons]; omega)) only [g108_65, g108_67, g108_68, g108_69, g108_72, g108_73, g108_74, g108_76, g108_77, g108_78, g108_81, g108_82, g108_83, g108_85, g108_86, g108_87, g108_88, g108_89, g108_91, g108_92, g108_93, g108_96, g108_97, g108_98, g108_100, g108_101, g108_102, g108_103, g108_104, g108_106, g108_107, g108_108, g108_111, g108_112, g108_113, g108_115, g108_116, g108_117, g108_118, g108_119, g108_121, g108_122, g108_123, g108_126, g108_127, g108_130, g108_131, g108_133, g108_135, g108_138, g108_139, g108_141, g108_142, g108_143, g108_146, g108_147, g108_149, g108_151, g108_154, g108_157, g108_158, g108_160, g108_161, g108_162, g108_165, g108_168, rd102, wr102, rd103, wr103, rd106, wr106, e107, x1, x2, x3, e2k, hz', Nat.sub_zero, Int.reduceSub, Int.reduceAdd, Int.add_zero, Int.zero_add, Int.cast_ofNat_Int, Bool.false_eq_true, decide_true, decide_false, zbndI, zbwI, zbzI, zb1I, zoA_at, gback_v, gback_n, zem, zisr, zro_at, zrl_at, mu_g, mu_at, mu_mu, mu_self, not_true, not_false_iff, zb0, zb1, zbnd, zbw, zbz, zne1, zone, mrgI, List.length_nil, List.length_cons, Nat.reduceAdd, Nat.reduceSub, Nat.reduceLeDiff, Nat.zero_le, and_true, true_and, false_and, and_false, true_or, or_true, false_or, or_false, G_ite, z10, z1n, z1and, z1or, z0not, z0and, itn, if_true, if_false, reduceIte, Int.reduceEq, Int.reduceLT, Int.reduceNeg, Nat.reduceEqDiff, ite_self, hk, c1, p2]
          exact ih _
        · by_cases c2 : κ 103 0 (4 * m + 2) = k + 1
          · simp (disch := first | omega | (simp (disch := decide) only [zmu0, mu_g, List.length_nil, List.length_cons]; omega)) only [g108_65, g108_67, g108_68, g108_69, g108_72, g108_73, g108_74, g108_76, g108_77, g108_78, g108_81, g108_82, g108_83, g108_85, g108_86, g108_87, g108_88, g108_89, g108_91, g108_92, g108_93, g108_96, g108_97, g108_98, g108_100, g108_101, g108_102, g108_103, g108_104, g108_106, g108_107, g108_108, g108_111, g108_112, g108_113, g108_115, g108_116, g108_117, g108_118, g108_119, g108_121, g108_122, g108_123, g108_126, g108_127, g108_130, g108_131, g108_133, g108_135, g108_138, g108_139, g108_141, g108_142, g108_143, g108_146, g108_147, g108_149, g108_151, g108_154, g108_157, g108_158, g108_160, g108_161, g108_162, g108_165, g108_168, rd102, wr102, rd103, wr103, rd106, wr106, e107, x1, x2, x3, e2k, hz', Nat.sub_zero, Int.reduceSub, Int.reduceAdd, Int.add_zero, Int.zero_add, Int.cast_ofNat_Int, Bool.false_eq_true, decide_true, decide_false, zbndI, zbwI, zbzI, zb1I, zoA_at, gback_v, gback_n, zem, zisr, zro_at, zrl_at, mu_g, mu_at, mu_mu, mu_self, not_true, not_false_iff, zb0, zb1, zbnd, zbw, zbz, zne1, zone, mrgI, List.length_nil, List.length_cons, Nat.reduceAdd, Nat.reduceSub, Nat.reduceLeDiff, Nat.zero_le, and_true, true_and, false_and, and_false, true_or, or_true, false_or, or_false, G_ite, z10, z1n, z1and, z1or, z0not, z0and, itn, if_true, if_false, reduceIte, Int.reduceEq, Int.reduceLT, Int.reduceNeg, Nat.reduceEqDiff, ite_self, hk, c1, c2, p2]
            exact ih _
          · by_cases c3 : κ 103 0 (4 * m + 3) = k + 1
            · simp (disch := first | omega | (simp (disch := decide) only [zmu0, mu_g, List.length_nil, List.length_cons]; omega)) only [g108_65, g108_67, g108_68, g108_69, g108_72, g108_73, g108_74, g108_76, g108_77, g108_78, g108_81, g108_82, g108_83, g108_85, g108_86, g108_87, g108_88, g108_89, g108_91, g108_92, g108_93, g108_96, g108_97, g108_98, g108_100, g108_101, g108_102, g108_103, g108_104, g108_106, g108_107, g108_108, g108_111, g108_112, g108_113, g108_115, g108_116, g108_117, g108_118, g108_119, g108_121, g108_122, g108_123, g108_126, g108_127, g108_130, g108_131, g108_133, g108_135, g108_138, g108_139, g108_141, g108_142, g108_143, g108_146, g108_147, g108_149, g108_151, g108_154, g108_157, g108_158, g108_160, g108_161, g108_162, g108_165, g108_168, rd102, wr102, rd103, wr103, rd106, wr106, e107, x1, x2, x3, e2k, hz', Nat.sub_zero, Int.reduceSub, Int.reduceAdd, Int.add_zero, Int.zero_add, Int.cast_ofNat_Int, Bool.false_eq_true, decide_true, decide_false, zbndI, zbwI, zbzI, zb1I, zoA_at, gback_v, gback_n, zem, zisr, zro_at, zrl_at, mu_g, mu_at, mu_mu, mu_self, not_true, not_false_iff, zb0, zb1, zbnd, zbw, zbz, zne1, zone, mrgI, List.length_nil, List.length_cons, Nat.reduceAdd, Nat.reduceSub, Nat.reduceLeDiff, Nat.zero_le, and_true, true_and, false_and, and_false, true_or, or_true, false_or, or_false, G_ite, z10, z1n, z1and, z1or, z0not, z0and, itn, if_true, if_false, reduceIte, Int.reduceEq, Int.reduceLT, Int.reduceNeg, Nat.reduceEqDiff, ite_self, hk, c1, c2, c3, p2]
              exact ih _
            · simp (disch := first | omega | (simp (disch := decide) only [zmu0, mu_g, List.length_nil, List.length_cons]; omega)) only [g108_65, g108_67, g108_68, g108_69, g108_72, g108_73, g108_74, g108_76, g108_77, g108_78, g108_81, g108_82, g108_83, g108_85, g108_86, g108_87, g108_88, g108_89, g108_91, g108_92, g108_93, g108_96, g108_97, g108_98, g108_100, g108_101, g108_102, g108_103, g108_104, g108_106, g108_107, g108_108, g108_111, g108_112, g108_113, g108_115, g108_116, g108_117, g108_118, g108_119, g108_121, g108_122, g108_123, g108_126, g108_127, g108_130, g108_131, g108_133, g108_135, g108_138, g108_139, g108_141, g108_142, g108_143, g108_146, g108_147, g108_149, g108_151, g108_154, g108_157, g108_158, g108_160, g108_161, g108_162, g108_165, g108_168, rd102, wr102, rd103, wr103, rd106, wr106, e107, x1, x2, x3, e2k, hz', Nat.sub_zero, Int.reduceSub, Int.reduceAdd, Int.add_zero, Int.zero_add, Int.cast_ofNat_Int, Bool.false_eq_true, decide_true, decide_false, zbndI, zbwI, zbzI, zb1I, zoA_at, gback_v, gback_n, zem, zisr, zro_at, zrl_at, mu_g, mu_at, mu_mu, mu_self, not_true, not_false_iff, zb0, zb1, zbnd, zbw, zbz, zne1, zone, mrgI, List.length_nil, List.length_cons, Nat.reduceAdd, Nat.reduceSub, Nat.reduceLeDiff, Nat.zero_le, and_true, true_and, false_and, and_false, true_or, or_true, false_or, or_false, G_ite, z10, z1n, z1and, z1or, z0not, z0and, itn, if_true, if_false, reduceIte, Int.reduceEq, Int.reduceLT, Int.reduceNeg, Nat.reduceEqDiff, ite_self, hk, c1, c2, c3]
              exact ih _
end ZPZ
