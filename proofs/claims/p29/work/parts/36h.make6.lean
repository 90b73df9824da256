/-! ===== making: jobs and builds ===== -/
abbrev zfJ (d i e x : Int) (w : ZV) : ZE := .inl (4, zupN (zupN (zupN (zupN (zupN (zfd 4) 0 (zR 30 d)) 1 (zR 20 i)) 2 (zI e)) 3 (zI x)) 4 w)
abbrev zfS (m : Int) : ZE := .inl (7, zupN (zupN (zupN (zupN (zupN (zupN (zfd 7) 6 (zR 51 m)) 7 (zR 52 m)) 8 (zR 53 m)) 9 (zR 54 m)) 10 (zR 55 m)) 11 (zR 56 m))
def HS (h : ZH) (m : Int) : ZH := zset (zset (zset (zset (zset (zset (zset h 50 m (zfS m)) 51 m a60) 52 m a60) 53 m a60) 54 m a60) 55 m a60) 56 m a60
def mJb (n d i e x b : Int) (μ : ZU) : ZU := fun k p j => if k = 0 then (if p = 0 ∧ j = 40 then n + 1 else μ k p j) else if k = 40 ∧ p = n then (if j = 0 then d else if j = 1 then i else if j = 2 then e else if j = 3 then x else if j = 4 then b else 0) else μ k p j
def mBd (n d i v : Int) (μ : ZU) : ZU := fun k p j => if k = 0 then (if p = 0 ∧ j = 41 then n + 1 else if p = 0 ∧ j = 50 then n + 2 else μ k p j) else if k = 41 ∧ p = n then (if j = 0 then n else if j = 1 then v else if j = 2 then d else if j = 3 then i else 0) else if (50 ≤ k ∧ k ≤ 56) ∧ p = n + 1 then 0 else μ k p j
section ZDH
variable {ck sk : Nat} {Q : ZO → ZH → Prop} {a b c d e i j m n p r s t v w x z : Int} {y : Int64} {u u' u'' u1 u2 u3 w' : ZV} {μ ν : ZU} {h : ZH} {f g : Nat → ZV} {k k1 k2 k3 : Nat} {i1 i2 i3 : Int}
theorem i15 (ho : h 40 n = some (.inl (4, f))) : G 15 0 [zR 40 n, zR k1 i1, zR k2 i2, zI e, zI x, zR k3 i3] [] h ck sk Q ↔ Q (.inl none) (zset h 40 n (.inl (4, zupN (zupN (zupN (zupN (zupN f 0 (zR k1 i1)) 1 (zR k2 i2)) 2 (zI e)) 3 (zI x)) 4 (zR k3 i3)))) := by
  simp (disch := first | omega | (simp (disch := decide) only [zmu0, mu_g, List.length_nil, List.length_cons]; omega)) only [g15_0, g15_1, g15_4, g15_5, g15_6, g15_9, g15_10, g15_11, g15_14, g15_15, g15_16, g15_19, g15_20, g15_22, g15_25, g15_26, g15_28, g15_31, Int.reduceSub, Int.reduceAdd, Int.add_zero, Int.zero_add, Int.cast_ofNat_Int, Bool.false_eq_true, decide_true, decide_false, zbndI, zbwI, zbzI, zb1I, zoA_at, gback_v, gback_n, zem, zisr, zro_at, zrl_at, mu_g, mu_at, mu_mu, mu_self, not_true, not_false_iff, zb0, zb1, zbnd, zbw, zbz, zne1, zone, mrgI, List.length_nil, List.length_cons, Nat.reduceAdd, Nat.reduceSub, Nat.reduceLeDiff, Nat.zero_le, and_true, true_and, false_and, and_false, true_or, or_true, false_or, or_false, G_ite, z10, z1n, z1and, z1or, z0not, z0and, itn, if_true, if_false, reduceIte, Int.reduceEq, Int.reduceLT, Int.reduceNeg, Nat.reduceEqDiff, ite_self, zGF_o ho, zGF_s, zset_zset]
theorem i0 (ho : h 41 n = some (.inl (0, f))) (hd : h 30 d = some (.inl (1, g))) (hg : g 10 = zI v) : G 0 0 [zR 41 n, zI x, zR 30 d, zR k2 i2, zR k3 i3] [] h ck sk Q ↔ Q (.inl none) (zset h 41 n (.inl (0, zupN (zupN (zupN (zupN (zupN f 0 (zI x)) 2 (zR 30 d)) 1 (zI v)) 3 (zR k2 i2)) 4 (zR k3 i3)))) := by
  simp (disch := first | omega | (simp (disch := decide) only [zmu0, mu_g, List.length_nil, List.length_cons]; omega)) only [g0_0, g0_1, g0_4, g0_5, g0_6, g0_9, g0_10, g0_11, g0_14, g0_15, g0_16, g0_19, g0_22, g0_23, g0_24, g0_27, g0_28, g0_30, g0_33, Int.reduceSub, Int.reduceAdd, Int.add_zero, Int.zero_add, Int.cast_ofNat_Int, Bool.false_eq_true, decide_true, decide_false, zbndI, zbwI, zbzI, zb1I, zoA_at, gback_v, gback_n, zem, zisr, zro_at, zrl_at, mu_g, mu_at, mu_mu, mu_self, not_true, not_false_iff, zb0, zb1, zbnd, zbw, zbz, zne1, zone, mrgI, List.length_nil, List.length_cons, Nat.reduceAdd, Nat.reduceSub, Nat.reduceLeDiff, Nat.zero_le, and_true, true_and, false_and, and_false, true_or, or_true, false_or, or_false, G_ite, z10, z1n, z1and, z1or, z0not, z0and, itn, if_true, if_false, reduceIte, Int.reduceEq, Int.reduceLT, Int.reduceNeg, Nat.reduceEqDiff, ite_self, zGF_o ho, zGF_o hd, hg, zGF_n, zGF_s, zset_zset]
theorem i18 (ho : h 8 0 = some (.inl (6, g))) (hg : g 0 = zR 50 s) (h0 : h 50 m = none) (h1 : h 51 m = none) (h2 : h 52 m = none) (h3 : h 53 m = none) (h4 : h 54 m = none) (h5 : h 55 m = none) (h6 : h 56 m = none) (q : Q (.inl (some (zR 50 s))) (zset (HS h m) 8 0 (.inl (6, zupN g 0 (zR 50 m))))) : G 18 0 [zR 8 0, u] [] h 7 372 Q := by
  simp (disch := first | omega | (simp (disch := decide) only [zmu0, mu_g, List.length_nil, List.length_cons]; omega)) only [g18_0, g18_1, g18_4, g18_5, g18_9, g18_9r, g18_10, g18_13, g18_16, g18_17, Int.reduceSub, Int.reduceAdd, Int.add_zero, Int.zero_add, Int.cast_ofNat_Int, Bool.false_eq_true, decide_true, decide_false, zbndI, zbwI, zbzI, zb1I, zoA_at, gback_v, gback_n, zem, zisr, zro_at, zrl_at, mu_g, mu_at, mu_mu, mu_self, not_true, not_false_iff, zb0, zb1, zbnd, zbw, zbz, zne1, zone, mrgI, List.length_nil, List.length_cons, Nat.reduceAdd, Nat.reduceSub, Nat.reduceLeDiff, Nat.zero_le, and_true, true_and, false_and, and_false, true_or, or_true, false_or, or_false, G_ite, z10, z1n, z1and, z1or, z0not, z0and, itn, if_true, if_false, reduceIte, Int.reduceEq, Int.reduceLT, Int.reduceNeg, Nat.reduceEqDiff, ite_self, zGF_o ho, hg]
  rw [g18_6]
  refine ⟨⟨trivial, by decide, by decide⟩, 50, m, by decide, h0, ?_⟩
  simp (disch := first | omega | (simp (disch := decide) only [zmu0, mu_g, List.length_nil, List.length_cons]; omega)) only [g18_0, g18_1, g18_4, g18_5, g18_9, g18_9r, g18_10, g18_13, g18_16, g18_17, Int.reduceSub, Int.reduceAdd, Int.add_zero, Int.zero_add, Int.cast_ofNat_Int, Bool.false_eq_true, decide_true, decide_false, zbndI, zbwI, zbzI, zb1I, zoA_at, gback_v, gback_n, zem, zisr, zro_at, zrl_at, mu_g, mu_at, mu_mu, mu_self, not_true, not_false_iff, zb0, zb1, zbnd, zbw, zbz, zne1, zone, mrgI, List.length_nil, List.length_cons, Nat.reduceAdd, Nat.reduceSub, Nat.reduceLeDiff, Nat.zero_le, and_true, true_and, false_and, and_false, true_or, or_true, false_or, or_false, G_ite, z10, z1n, z1and, z1or, z0not, z0and, itn, if_true, if_false, reduceIte, Int.reduceEq, Int.reduceLT, Int.reduceNeg, Nat.reduceEqDiff, ite_self, zGO_s]
  refine i35 zset_at (by rw [zset_k (by decide)]; exact h1) (by rw [zset_k (by decide)]; exact h2) (by rw [zset_k (by decide)]; exact h3) (by rw [zset_k (by decide)]; exact h4) (by rw [zset_k (by decide)]; exact h5) (by rw [zset_k (by decide)]; exact h6) ?_
  rw [gback_n]
  simp (disch := first | omega | (simp (disch := decide) only [zmu0, mu_g, List.length_nil, List.length_cons]; omega)) only [g18_0, g18_1, g18_4, g18_5, g18_9, g18_9r, g18_10, g18_13, g18_16, g18_17, Int.reduceSub, Int.reduceAdd, Int.add_zero, Int.zero_add, Int.cast_ofNat_Int, Bool.false_eq_true, decide_true, decide_false, zbndI, zbwI, zbzI, zb1I, zoA_at, gback_v, gback_n, zem, zisr, zro_at, zrl_at, mu_g, mu_at, mu_mu, mu_self, not_true, not_false_iff, zb0, zb1, zbnd, zbw, zbz, zne1, zone, mrgI, List.length_nil, List.length_cons, Nat.reduceAdd, Nat.reduceSub, Nat.reduceLeDiff, Nat.zero_le, and_true, true_and, false_and, and_false, true_or, or_true, false_or, or_false, G_ite, z10, z1n, z1and, z1or, z0not, z0and, itn, if_true, if_false, reduceIte, Int.reduceEq, Int.reduceLT, Int.reduceNeg, Nat.reduceEqDiff, ite_self, zGF_n, zGF_o ho, zset_zset]
  exact q
/-! a job laid down -/
theorem HM_jb (hn : μ 0 0 40 = n) (h0 : 0 ≤ n) (hw : u = if b < 0 then zN else zR 41 b) : zset (zset (zset (HM μ) 40 n (zfJ d i e x u)) 6 0 (.inr (.object (zcn 4), 40, zup (zoA 40 n) n (zR 40 n)))) 2 0 (.inl (8, zupN (zfl μ 2 0) 9 (zI (n + 1)))) = HM (mJb n d i e x b (mu μ 2 0 9 (n + 1))) := by
  have e40 : mJb n d i e x b (mu μ 2 0 9 (n + 1)) 0 0 40 = n + 1 := rfl
  have h00 : ∀ (p j : Int), ¬ (p = 0 ∧ j = 40) → mJb n d i e x b (mu μ 2 0 9 (n + 1)) 0 p j = μ 0 p j := fun p j hj => by
    show (if (0 : Nat) = 0 then (if p = 0 ∧ j = 40 then n + 1 else mu μ 2 0 9 (n + 1) 0 p j) else 0) = _
    rw [if_pos rfl, if_neg hj, mu_g (by decide)]
  have hbd : ∀ c, c ≠ 40 → zbd (mJb n d i e x b (mu μ 2 0 9 (n + 1))) c = zbd μ c := fun c hc => by
    match c with
    | 0 => rfl
    | c + 1 => exact h00 0 ((c + 1 : Nat) : Int) (by omega)
  have hg : ∀ k p j, k ≠ 0 → ¬ (k = 40 ∧ p = n) → mJb n d i e x b (mu μ 2 0 9 (n + 1)) k p j = mu μ 2 0 9 (n + 1) k p j := fun k p j h1 h2 => by
    show (if k = 0 then _ else if k = 40 ∧ p = n then _ else mu μ 2 0 9 (n + 1) k p j) = _
    rw [if_neg h1, if_neg h2]
  have v40 : ∀ j, mJb n d i e x b (mu μ 2 0 9 (n + 1)) 40 n j = if j = 0 then d else if j = 1 then i else if j = 2 then e else if j = 3 then x else if j = 4 then b else 0 := fun j => by
    show (if (40 : Nat) = 40 ∧ n = n then (if j = 0 then d else if j = 1 then i else if j = 2 then e else if j = 3 then x else if j = 4 then b else 0) else mu μ 2 0 9 (n + 1) 40 n j) = _
    rw [if_pos ⟨rfl, rfl⟩]
  have e2 : HM (mJb n d i e x b (mu μ 2 0 9 (n + 1))) 2 0 = some (.inl (8, zupN (zfl μ 2 0) 9 (zI (n + 1)))) := by
    have w2 := wo2_9 (μ := μ) (i := 0) (v := n + 1) (by omega) (by omega)
    have ef : zfl (mJb n d i e x b (mu μ 2 0 9 (n + 1))) 2 0 = zfl (mu μ 2 0 9 (n + 1)) 2 0 := by
      funext s
      unfold zfl
      split <;> first | rfl | contradiction | exact congrArg zI (hg _ _ _ (by decide) (fun z => absurd z.1 (by decide)))
    show some (Sum.inl (8, zfl (mJb n d i e x b (mu μ 2 0 9 (n + 1))) 2 0) : ZE) = _
    rw [ef]
    have e3 : HM (mu μ 2 0 9 (n + 1)) 2 0 = some (.inl (8, zfl (mu μ 2 0 9 (n + 1)) 2 0)) := rfl
    rw [← e3, ← w2]
    exact zset_at
  funext k p
  refine zset_pt e2 fun n2 => zset_pt ?_ fun n6 => zset_pt ?_ fun n40 => ?_
  · have e : HM (mJb n d i e x b (mu μ 2 0 9 (n + 1))) 6 0 = some (.inr (.object (zcn 4), 40, zoA 40 (mJb n d i e x b (mu μ 2 0 9 (n + 1)) 0 0 40))) := rfl
    rw [e, e40]
    rw [zoA_s h0]
  · have e7 : HM (mJb n d i e x b (mu μ 2 0 9 (n + 1))) 40 n = some (.inl (4, zfl (mJb n d i e x b (mu μ 2 0 9 (n + 1))) 40 n)) := if_pos ⟨h0, by show n < mJb n d i e x b (mu μ 2 0 9 (n + 1)) 0 0 40; omega⟩
    rw [e7]
    have e2 : zfl (mJb n d i e x b (mu μ 2 0 9 (n + 1))) 40 n = zupN (zupN (zupN (zupN (zupN (zfd 4) 0 (zR 30 d)) 1 (zR 20 i)) 2 (zI e)) 3 (zI x)) 4 u := by
      funext s
      match s with
      | 0 =>
        show zR 30 (mJb n d i e x b (mu μ 2 0 9 (n + 1)) 40 n 0) = _
        rw [v40]
        rfl
      | 1 =>
        show zR 20 (mJb n d i e x b (mu μ 2 0 9 (n + 1)) 40 n 1) = _
        rw [v40]
        rfl
      | 2 =>
        show zI (mJb n d i e x b (mu μ 2 0 9 (n + 1)) 40 n _) = _
        rw [v40]
        rfl
      | 3 =>
        show zI (mJb n d i e x b (mu μ 2 0 9 (n + 1)) 40 n _) = _
        rw [v40]
        rfl
      | 4 =>
        show (if mJb n d i e x b (mu μ 2 0 9 (n + 1)) 40 n 4 < 0 then zN else zR 41 (mJb n d i e x b (mu μ 2 0 9 (n + 1)) 40 n 4)) = u
        rw [v40, hw]
        rfl
      | s + 5 =>
        show zI (mJb n d i e x b (mu μ 2 0 9 (n + 1)) 40 n ((s + 5 : Nat) : Int)) = _
        rw [v40, if_neg (by omega), if_neg (by omega), if_neg (by omega), if_neg (by omega), if_neg (by omega), zupN_n (by omega), zupN_n (by omega), zupN_n (by omega), zupN_n (by omega), zupN_n (by omega)]
        rfl
    rw [e2]
  · refine HM_same (fun t m c hc => ?_) (fun c m hc => ?_) (fun c m e hc hi => ?_) (fun hk _ => ?_) (fun hk => ?_) (fun hk => ?_) (fun hk j => ?_)
    · by_cases h1 : c = 40
      · subst h1
        exact (kA_40 hc).elim
      · rw [hbd c h1]
    · by_cases h1 : m = 40
      · subst h1
        have := kO_40 hc
        show p < mJb n d i e x b (mu μ 2 0 9 (n + 1)) 0 0 40 ↔ p < μ 0 0 40
        rw [e40]
        omega
      · rw [hbd m h1]
    · by_cases h1 : e = 40
      · subst h1
        exact absurd ⟨kB_40 hc, hi⟩ n6
      · exact h00 0 _ (by omega)
    · exact h00 0 _ (by omega)
    · exact h00 2 0 (by omega)
    · refine ⟨h00 1 _ (by omega), ?_⟩
      rw [h00 0 26 (by omega)]
    · rw [hg k p j hk n40]
      by_cases h2 : k = 2
      · subst h2
        exact mu_i (fun z => n2 ⟨rfl, z⟩)
      · exact congrFun (congrFun (mu_g h2) p) j
theorem c61_t {u4 u5 u6 : ZV} (h1 : μ 2 0 9 = n) (h2 : μ 0 0 40 = n) (h0 : 0 ≤ n) (h3 : n < 40) (hw : u = if b < 0 then zN else zR 41 b) (q : Q (.inl (some (zI n))) (HM (mJb n d i e x b (mu μ 2 0 9 (n + 1))))) : G 61 95 [zR 2 0, u1, u2, u3, u4, u5, u6] [zR 40 n, zI n, zR 6 0] (zset (HM μ) 40 n (zfJ d i e x u)) ck sk Q := by
  have e1 : n + 1 - 1 = n := by omega
  rw [g61_95]
  simp (disch := first | omega | (simp (disch := decide) only [zmu0, mu_g, List.length_nil, List.length_cons]; omega)) only [zAY_n, rd6]
  refine ⟨4, by decide, ⟨_, zset_at⟩, by decide, by decide, rfl, h0, by omega, ?_⟩
  simp (disch := first | omega | (simp (disch := decide) only [zmu0, mu_g, List.length_nil, List.length_cons]; omega)) only [g61_0, g61_1, g61_4, g61_5, g61_6, g61_9, g61_11, g61_12, g61_13, g61_16, g61_18, g61_20, g61_23, g61_24, g61_27, g61_29, g61_32, g61_42, g61_43, g61_45, g61_47, g61_50, g61_53, g61_55, g61_56, g61_59, g61_60, g61_63, g61_65, g61_68, g61_69, g61_70, g61_72, g61_74, g61_77, g61_80, g61_83, g61_83r, g61_84, g61_86, g61_88, g61_89, g61_90, g61_92, g61_96, g61_97, g61_97r, g61_98, g61_101, g61_102, g61_103, g61_106, g61_107, g61_110, g61_111, g61_112, ob2, oc2, fl2_0, fl2_1, fl2_2, fl2_3, fl2_4, fl2_5, fl2_6, wo2_6, fl2_7, wo2_7, fl2_8, wo2_8, fl2_9, wo2_9, fl2_10, wo2_10, Int.reduceSub, Int.reduceAdd, Int.add_zero, Int.zero_add, Int.cast_ofNat_Int, Bool.false_eq_true, decide_true, decide_false, zbndI, zbwI, zbzI, zb1I, zoA_at, gback_v, gback_n, zem, zisr, zro_at, zrl_at, mu_g, mu_at, mu_mu, mu_self, not_true, not_false_iff, zb0, zb1, zbnd, zbw, zbz, zne1, zone, mrgI, List.length_nil, List.length_cons, Nat.reduceAdd, Nat.reduceSub, Nat.reduceLeDiff, Nat.zero_le, and_true, true_and, false_and, and_false, true_or, or_true, false_or, or_false, G_ite, z10, z1n, z1and, z1or, z0not, z0and, itn, if_true, if_false, reduceIte, Int.reduceEq, Int.reduceLT, Int.reduceNeg, Nat.reduceEqDiff, ite_self, zGF_n, zGF_s, zset_zset, h1, zupN_s, e1]
  rw [h2, HM_jb h2 h0 hw]
  exact q
end ZDH
