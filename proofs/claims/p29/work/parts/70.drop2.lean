/-! ===== the law: isImage, a drop ===== -/
section ZPA1
variable {ck sk : Nat} {Q : ZO → ZH → Prop} {P p : Int → Bool} {μ ν κ β M Φ : ZU} {a b c d e f g h i j k l m o r s t t' v w x y z L H R W C J B K : Int} {u u1 u2 u3 u4 u5 u6 u7 u8 u9 u10 u11 : ZV}
theorem drq_lgp (h : RW μ t) (hm : 0 ≤ m ∧ m < μ 0 0 20) (l0 : 0 ≤ l) (l1 : l < μ 0 0 10) : drq μ m l = lgp μ (μ 20 m 1) 0 (μ 0 1 (μ 20 m 1)).toNat l := by
  have ha1 := h.2.1.1
  have e2 := ((h.2.2.1 l l0 (by omega)).1 l1).1
  obtain ⟨i1, i2, i3, i4, i5, i6, -⟩ := h.2.2.2.1.1 m hm.1 hm.2
  have e0 := i5 0 (by omega) (by omega)
  have e1 := i5 1 (by omega) (by omega)
  have e3 := i5 2 (by omega) (by omega)
  rw [show 4 * m + 1 + 0 = 4 * m + 1 by omega] at e0
  rw [show 4 * m + 1 + 1 = 4 * m + 2 by omega] at e1
  rw [show 4 * m + 1 + 2 = 4 * m + 3 by omega] at e3
  have hi := isn_hds h l0
  unfold drq lgp
  rw [decide_eq_decide, e2, hi]
  have key : (μ 103 0 (4 * m + 1) = l + 1 ∨ μ 103 0 (4 * m + 2) = l + 1 ∨ μ 103 0 (4 * m + 3) = l + 1) ↔ ¬ zall (fun j => decide (¬ μ 26 (μ 20 m 1) j = l)) (μ 0 1 (μ 20 m 1)).toNat 0 = true := by
    rw [e0, e1, e3]
    constructor
    · intro z w
      have w' := fun j a b => of_decide_eq_true (zall_iff.mp w j a b)
      rcases z with z | z | z
      · by_cases q : 0 < μ 0 1 (μ 20 m 1)
        · rw [if_pos q] at z
          exact w' 0 (by omega) (by omega) (by omega)
        · rw [if_neg q] at z
          omega
      · by_cases q : 1 < μ 0 1 (μ 20 m 1)
        · rw [if_pos q] at z
          exact w' 1 (by omega) (by omega) (by omega)
        · rw [if_neg q] at z
          omega
      · by_cases q : 2 < μ 0 1 (μ 20 m 1)
        · rw [if_pos q] at z
          exact w' 2 (by omega) (by omega) (by omega)
        · rw [if_neg q] at z
          omega
    · intro z
      refine Classical.byContradiction fun w => z (zall_iff.mpr fun j a b => decide_eq_true fun q => w ?_)
      have hj : j = 0 ∨ j = 1 ∨ j = 2 := by omega
      rcases hj with rfl | rfl | rfl
      · left
        rw [if_pos (by omega)]
        omega
      · right; left
        rw [if_pos (by omega)]
        omega
      · right; right
        rw [if_pos (by omega)]
        omega
  rw [key]
/-- what is let go, on both sides -/
theorem RW_lg (h : RW μ t) (ht : t + 1 ≤ 100) (hm : 0 ≤ m ∧ m < μ 0 0 20) (hκ : ∀ q, q ≠ 102 → κ q = μ q) (hκ2 : ∀ j, κ 102 0 j = if (0 ≤ j ∧ j < μ 0 0 10) ∧ drq μ m j = true then 2 else μ 102 0 j) : RW (lgN (μ 20 m 1) (μ 0 1 (μ 20 m 1)).toNat 0 0 κ).1 (t + 1) ∧ (lgN (μ 20 m 1) (μ 0 1 (μ 20 m 1)).toNat 0 0 κ).2 = zct (drq μ m) (μ 0 0 10).toNat 0 0 ∧ ∀ q, q ≠ 10 → (lgN (μ 20 m 1) (μ 0 1 (μ 20 m 1)).toNat 0 0 κ).1 q = κ q := by
  have ha1 := h.2.1.1
  obtain ⟨i1, i2, i3, i4, i5, i6, -⟩ := h.2.2.2.1.1 m hm.1 hm.2
  have hdr := fun l a b => drq_lgp (l := l) h hm a b
  have hlg : ∀ l, lgp κ (μ 20 m 1) 0 (μ 0 1 (μ 20 m 1)).toNat l = lgp μ (μ 20 m 1) 0 (μ 0 1 (μ 20 m 1)).toNat l := fun l => by
    unfold lgp hds hdp
    rw [hκ 26 (by decide), hκ 10 (by decide), hκ 20 (by decide), hκ 0 (by decide)]
  obtain ⟨g1, g2, g3, g4⟩ := lgN_all (r := μ 20 m 1) (c := (μ 0 0 10).toNat) (μ 0 1 (μ 20 m 1)).toNat 0 0 κ (fun j a b => by
    rw [hκ 26 (by decide)]
    have := (i6 j a (by omega)).1
    omega)
  refine ⟨?_, ?_, g1⟩
  · refine RW_ls h ht (fun q q1 q2 => (g1 q q1).trans (hκ q q2)) (fun l j hj => by rw [g2 l j hj, hκ 10 (by decide)]) (fun l l0 l1 => ?_) (fun l l0 l1 => ?_)
    · have hb := (h.2.2.1 l l0 (by omega)).1 l1
      rw [g1 102 (by decide), g3, hlg, hκ2, hκ 10 (by decide), ← hdr l l0 l1]
      by_cases q : drq μ m l = true
      · rw [if_pos ⟨⟨l0, l1⟩, q⟩, if_pos q]
        omega
      · rw [if_neg (fun z => q z.2), if_neg q]
        exact ⟨hb.1, hb.2.1, id⟩
    · rw [g1 102 (by decide), hκ2, if_neg (by omega)]
  · rw [g4]
    exact zct_eq _ _ _ fun l a b => (hlg l).trans (hdr l (by omega) (by omega)).symm
theorem c108_1 (h : RW μ t) (ht : t + 1 ≤ 100) (ha : 0 ≤ a) (hK : ∀ ν, RW ν (t + 1) → Q (.inl (some (zI 1))) (HM ν)) : G 108 0 [zR 2 0, zR 101 0, zR 102 0, zR 103 0, zR 106 0, zI 1, zI a, zI b, u1, u2, u3, u4, u5, u6, u7, u8, u9, u10] [] (HM μ) 20 500 Q := by
  have ha1 := h.2.1.1
  have ha2 := h.2.1.2.1
  have hr := RW_up h ht
  have ht0 := h.1
  have hm := Int.emod_nonneg a (b := μ 106 0 1 + 1) (by omega)
  have hm2 := Int.emod_lt_of_pos a (b := μ 106 0 1 + 1) (by omega)
  have hI := h.imgOK
  have hT : ∀ m, 0 ≤ m → m < μ 0 0 20 → 0 ≤ μ 20 m 3 ∧ μ 20 m 3 ≤ 100000 := fun m m0 m1 => by
    have := (h.2.2.2.1.1 m m0 m1).1
    omega
  have hg0 : 0 < μ 106 0 0 := by omega
  by_cases hi : a % (μ 106 0 1 + 1) < μ 106 0 1
  · have hi2 : ¬ a % (μ 106 0 1 + 1) = μ 106 0 1 := by omega
    have hmi : a % (μ 106 0 1 + 1) < μ 0 0 20 := by omega
    have hc := (h.2.2.2.1.1 _ hm hmi).1
    generalize hgm : a % (μ 106 0 1 + 1) = m at *
    have h48 : 4 * m < 52 := by omega
    by_cases hx : 0 < μ 103 0 (4 * m)
    · have hxt : μ 103 0 (4 * m) ≤ t := by omega
      by_cases hx1 : μ 103 0 (4 * m) = 1
      · -- the last
        have hκ0 : ∀ q : Nat, q ≠ 103 → mu μ 103 0 (4 * m) 0 q = μ q := fun q hq => mu_g hq
        have hr1 := RW_ct (y := 0) h (Int.le_refl t) ht0.2.1 ⟨hm, hmi⟩ (by omega)
        have g : ∀ q : Nat, q ≠ 20 → q ≠ 103 → mCt m 0 μ q = μ q := fun q h1 h2 => by
          unfold mCt
          rw [mu_g h1, mu_g h2]
        have ed : drq (mu μ 103 0 (4 * m) 0) m = drq (mCt m 0 μ) m := by
          funext k
          unfold drq nin inq mCt
          simp (disch := decide) only [mu_g]
        have e20 : ∀ κ : ZU, κ = ltN (drq (mu μ 103 0 (4 * m) 0) m) (μ 106 0 0).toNat 0 (mu μ 103 0 (4 * m) 0) → κ 20 = μ 20 ∧ κ 0 = μ 0 ∧ κ 26 = μ 26 := fun κ hκ => by
          rw [hκ]
          exact ⟨by rw [ltN_g (by decide), mu_g (by decide)], by rw [ltN_g (by decide), mu_g (by decide)], by rw [ltN_g (by decide), mu_g (by decide)]⟩
        have a21 : mCt m 0 μ 20 m 1 = μ 20 m 1 := by
          unfold mCt
          rw [mu_j (by decide), mu_g (by decide)]
        obtain ⟨R1, R2, R3⟩ := RW_lg (m := m) (κ := mu (ltN (drq (mu μ 103 0 (4 * m) 0) m) (μ 106 0 0).toNat 0 (mu μ 103 0 (4 * m) 0)) 20 m 3 0) hr1 ht ⟨hm, by rw [g 0 (by decide) (by decide)]; exact hmi⟩ (fun q hq => by
          unfold mCt
          by_cases q20 : q = 20
          · subst q20
            funext i j
            by_cases qi : i = m
            · subst qi
              by_cases qj : j = 3
              · subst qj
                rw [mu_at, mu_at]
              · rw [mu_j qj, mu_j qj, ltN_g (by decide)]
            · rw [mu_i qi, mu_i qi, ltN_g (by decide)]
          · rw [mu_g q20, mu_g q20, ltN_g hq]) (fun j => by
          rw [mu_g (by decide), ltN_at, mu_g (by decide), ed, g 102 (by decide) (by decide), g 0 (by decide) (by decide)]
          by_cases z : (0 ≤ j ∧ j < μ 0 0 10) ∧ drq (mCt m 0 μ) m j = true
          · rw [if_pos z, if_pos ⟨by omega, z.2⟩]
          · rw [if_neg z, if_neg (fun w => z ⟨by omega, w.2⟩)])
        rw [a21, g 0 (by decide) (by decide)] at R1 R2 R3
        rw [← ed] at R2
        have hd := fun (q : ∀ u12, G 108 171 [zR 2 0, zR 101 0, zR 102 0, zR 103 0, zR 106 0, zI 1, zI a, zI b, zI m, zI 1, zI (zct (drq (mu μ 103 0 (4 * m) 0) m) (μ 106 0 0).toNat 0 0), zI (μ 106 0 0), u12, u6, u7, u8, u9, u10] [] (HM (ltN (drq (mu μ 103 0 (4 * m) 0) m) (μ 106 0 0).toNat 0 (mu μ 103 0 (4 * m) 0))) 20 500 Q) => c108_d (κ := mu μ 103 0 (4 * m) 0) (m := m) (w := 1) (a := a) (b := b) (u6 := u6) (u7 := u7) (u8 := u8) (u9 := u9) (u10 := u10) (Q := Q) (ck := 20) (sk := 500) (by rw [hκ0 106 (by decide)]; omega) (by rw [hκ0 106 (by decide)]; omega) (by omega) (mu_at _ _ _ _) (μ 106 0 0).toNat 0 0 (mu μ 103 0 (4 * m) 0) u5 rfl rfl (fun _ _ => rfl) (by omega) (by rw [hκ0 106 (by decide)]; omega) (by omega) (by omega) (by rw [hκ0 106 (by decide)]; exact q)
        simp (disch := first | omega | (simp (disch := decide) only [zmu0, mu_g, List.length_nil, List.length_cons]; omega)) only [g108_0, g108_2, g108_3, g108_6, g108_8, g108_10, g108_11, g108_12, g108_13, g108_14, g108_15, g108_17, g108_19, g108_21, g108_22, g108_23, g108_26, g108_27, g108_28, g108_30, g108_31, g108_32, g108_35, g108_36, g108_39, g108_40, g108_42, g108_43, g108_45, g108_47, g108_50, g108_51, g108_52, g108_54, g108_55, g108_56, g108_57, g108_58, g108_59, g108_60, g108_61, rd103, wr103, rd106, wr106, hgm, Nat.sub_zero, Int.reduceSub, Int.reduceAdd, Int.add_zero, Int.zero_add, Int.cast_ofNat_Int, Bool.false_eq_true, decide_true, decide_false, zbndI, zbwI, zbzI, zb1I, zoA_at, gback_v, gback_n, zem, zisr, zro_at, zrl_at, mu_g, mu_at, mu_mu, mu_self, not_true, not_false_iff, zb0, zb1, zbnd, zbw, zbz, zne1, zone, mrgI, List.length_nil, List.length_cons, Nat.reduceAdd, Nat.reduceSub, Nat.reduceLeDiff, Nat.zero_le, and_true, true_and, false_and, and_false, true_or, or_true, false_or, or_false, G_ite, z10, z1n, z1and, z1or, z0not, z0and, itn, if_true, if_false, reduceIte, Int.reduceEq, Int.reduceLT, Int.reduceNeg, Nat.reduceEqDiff, ite_self, hi, hx1]
        refine hd fun u12 => ?_
        obtain ⟨f20, f0, f26⟩ := e20 _ rfl
        have f106 : ltN (drq (mu μ 103 0 (4 * m) 0) m) (μ 106 0 0).toNat 0 (mu μ 103 0 (4 * m) 0) 106 = μ 106 := by rw [ltN_g (by decide), mu_g (by decide)]
        have e50 := fun (Q : ZO → ZH → Prop) (u : ZV) => c50 (μ := ltN (drq (mu μ 103 0 (4 * m) 0) m) (μ 106 0 0).toNat 0 (mu μ 103 0 (4 * m) 0)) (a := m) (Q := Q) (u := u) (by rw [f0]; omega) (by unfold imgOK rowOK; rw [f0, f20, f26]; exact hI) (by rw [f0, f20]; exact hT m)
        have x3 : μ 20 m 3 = 1 := by omega
        simp only [f0, f20, x3, hm, hmi, and_self, if_true, Int.lt_irrefl, if_false, show ¬ (1 : Int) = 0 by decide, show (1 : Int) - 1 = 0 by decide, R2] at e50
        have e10 : (μ 0 0 10).toNat = (μ 106 0 0).toNat := by rw [ha1.1]
        have hct := zct_b (p := drq (mu μ 103 0 (4 * m) 0) m) (μ 106 0 0).toNat 0 0
        rw [e10] at e50
        generalize ltN (drq (mu μ 103 0 (4 * m) 0) m) (μ 106 0 0).toNat 0 (mu μ 103 0 (4 * m) 0) = κ at *
        generalize zct (drq (mu μ 103 0 (4 * m) 0) m) (μ 106 0 0).toNat 0 0 = N at *
        generalize (lgN (μ 20 m 1) (μ 0 1 (μ 20 m 1)).toNat 0 0 (mu κ 20 m 3 0)).1 = Φ at *
        have f1061 : Φ 106 = μ 106 := by
          rw [R3 106 (by decide), mu_g (by decide)]
          exact f106
        simp (disch := first | omega | (simp (disch := decide) only [zmu0, mu_g, List.length_nil, List.length_cons]; omega)) only [g108_171, g108_172, g108_174, g108_176, g108_177, g108_178, g108_179, g108_182, g108_184, g108_186, g108_187, g108_188, g108_191, g108_194, g108_197, g108_199, g108_202, g108_204, g108_207, g108_210, g108_213, g108_214, g108_217, g108_218, rd103, wr103, rd106, wr106, w92_6, x92_6_0, x92_6_1, x92_6_2, g92_121, g92_327, e50, f106, f1061, Nat.sub_zero, Int.reduceSub, Int.reduceAdd, Int.add_zero, Int.zero_add, Int.cast_ofNat_Int, Bool.false_eq_true, decide_true, decide_false, zbndI, zbwI, zbzI, zb1I, zoA_at, gback_v, gback_n, zem, zisr, zro_at, zrl_at, mu_g, mu_at, mu_mu, mu_self, not_true, not_false_iff, zb0, zb1, zbnd, zbw, zbz, zne1, zone, mrgI, List.length_nil, List.length_cons, Nat.reduceAdd, Nat.reduceSub, Nat.reduceLeDiff, Nat.zero_le, and_true, true_and, false_and, and_false, true_or, or_true, false_or, or_false, G_ite, z10, z1n, z1and, z1or, z0not, z0and, itn, if_true, if_false, reduceIte, Int.reduceEq, Int.reduceLT, Int.reduceNeg, Nat.reduceEqDiff, ite_self, hi2, eq_self]
        exact hK _ R1
      · -- others hold it
        have hr1 := RW_ct (y := μ 103 0 (4 * m) - 1) h (show t ≤ t + 1 by omega) ht ⟨hm, hmi⟩ (by omega)
        have hx0 : ¬ μ 103 0 (4 * m) - 1 = 0 := by omega
        have f : ∀ q : Nat, q ≠ 103 → mu μ 103 0 (4 * m) (μ 103 0 (4 * m) - 1) q = μ q := fun q hq => mu_g hq
        have x3 : μ 20 m 3 = μ 103 0 (4 * m) := hc.1.symm
        have e50 := fun (Q : ZO → ZH → Prop) (u : ZV) => c50 (μ := mu μ 103 0 (4 * m) (μ 103 0 (4 * m) - 1)) (a := m) (Q := Q) (u := u) (by rw [f 0 (by decide)]; omega) (by unfold imgOK rowOK; rw [f 0 (by decide), f 20 (by decide), f 26 (by decide)]; exact hI) (by rw [f 0 (by decide), f 20 (by decide)]; exact hT m)
        have n0 : ¬ μ 103 0 (4 * m) = 0 := by omega
        have n1 : 1 < μ 103 0 (4 * m) := by omega
        simp only [f 0 (by decide), f 20 (by decide), x3, hm, hmi, and_self, if_true, if_pos n1, if_neg n0] at e50
        have em : mu (mu μ 103 0 (4 * m) (μ 103 0 (4 * m) - 1)) 20 m 3 (μ 103 0 (4 * m) - 1) = mCt m (μ 103 0 (4 * m) - 1) μ := rfl
        rw [em] at e50
        have f106 : mCt m (μ 103 0 (4 * m) - 1) μ 106 = μ 106 := by
          unfold mCt
          rw [mu_g (by decide), mu_g (by decide)]
        simp (disch := first | omega | (simp (disch := decide) only [zmu0, mu_g, List.length_nil, List.length_cons]; omega)) only [g108_0, g108_2, g108_3, g108_6, g108_8, g108_10, g108_11, g108_12, g108_13, g108_14, g108_15, g108_17, g108_19, g108_21, g108_22, g108_23, g108_26, g108_27, g108_28, g108_30, g108_31, g108_32, g108_35, g108_36, g108_39, g108_40, g108_42, g108_43, g108_45, g108_47, g108_50, g108_51, g108_52, g108_54, g108_55, g108_56, g108_57, g108_58, g108_59, g108_60, g108_61, g108_63, g108_65, g108_67, g108_68, g108_69, g108_72, g108_73, g108_74, g108_76, g108_77, g108_78, g108_171, g108_172, g108_174, g108_176, g108_177, g108_178, g108_179, g108_182, g108_184, g108_186, g108_187, g108_188, g108_191, g108_194, g108_197, g108_199, g108_202, g108_204, g108_207, g108_210, g108_213, g108_214, g108_217, g108_218, rd103, wr103, rd106, wr106, w92_6, x92_6_0, x92_6_1, x92_6_2, g92_121, g92_327, hgm, e50, f106, Nat.sub_zero, Int.reduceSub, Int.reduceAdd, Int.add_zero, Int.zero_add, Int.cast_ofNat_Int, Bool.false_eq_true, decide_true, decide_false, zbndI, zbwI, zbzI, zb1I, zoA_at, gback_v, gback_n, zem, zisr, zro_at, zrl_at, mu_g, mu_at, mu_mu, mu_self, not_true, not_false_iff, zb0, zb1, zbnd, zbw, zbz, zne1, zone, mrgI, List.length_nil, List.length_cons, Nat.reduceAdd, Nat.reduceSub, Nat.reduceLeDiff, Nat.zero_le, and_true, true_and, false_and, and_false, true_or, or_true, false_or, or_false, G_ite, z10, z1n, z1and, z1or, z0not, z0and, itn, if_true, if_false, reduceIte, Int.reduceEq, Int.reduceLT, Int.reduceNeg, Nat.reduceEqDiff, ite_self, hi, hi2, hx, hx0, hg0, eq_self]
        exact hK _ hr1
    · have x3 : μ 20 m 3 = 0 := by omega
      have e50 := fun (Q : ZO → ZH → Prop) (u : ZV) => c50 (μ := μ) (a := m) (Q := Q) (u := u) (by omega) hI (hT m)
      simp only [x3, hm, hmi, and_self, if_true] at e50
      simp (disch := first | omega | (simp (disch := decide) only [zmu0, mu_g, List.length_nil, List.length_cons]; omega)) only [g108_0, g108_2, g108_3, g108_6, g108_8, g108_10, g108_11, g108_12, g108_13, g108_14, g108_15, g108_17, g108_19, g108_21, g108_22, g108_23, g108_26, g108_27, g108_28, g108_30, g108_31, g108_32, g108_35, g108_36, g108_39, g108_40, g108_42, g108_43, g108_45, g108_47, g108_171, g108_172, g108_174, g108_176, g108_177, g108_178, g108_179, g108_182, g108_184, g108_186, g108_187, g108_188, g108_191, g108_194, g108_197, g108_199, g108_202, g108_204, g108_207, g108_210, g108_213, g108_214, g108_217, g108_218, rd103, wr103, rd106, wr106, w92_6, x92_6_0, x92_6_1, x92_6_2, g92_121, g92_327, hgm, e50, Nat.sub_zero, Int.reduceSub, Int.reduceAdd, Int.add_zero, Int.zero_add, Int.cast_ofNat_Int, Bool.false_eq_true, decide_true, decide_false, zbndI, zbwI, zbzI, zb1I, zoA_at, gback_v, gback_n, zem, zisr, zro_at, zrl_at, mu_g, mu_at, mu_mu, mu_self, not_true, not_false_iff, zb0, zb1, zbnd, zbw, zbz, zne1, zone, mrgI, List.length_nil, List.length_cons, Nat.reduceAdd, Nat.reduceSub, Nat.reduceLeDiff, Nat.zero_le, and_true, true_and, false_and, and_false, true_or, or_true, false_or, or_false, G_ite, z10, z1n, z1and, z1or, z0not, z0and, itn, if_true, if_false, reduceIte, Int.reduceEq, Int.reduceLT, Int.reduceNeg, Nat.reduceEqDiff, ite_self, hi, hi2, hx, eq_self]
      exact hK _ hr
  · have hi2 : a % (μ 106 0 1 + 1) = μ 106 0 1 := by omega
    have hmi : ¬ a % (μ 106 0 1 + 1) < μ 0 0 20 := by omega
    have e50 := fun (Q : ZO → ZH → Prop) (u : ZV) => c50 (μ := μ) (a := μ 106 0 1) (Q := Q) (u := u) (by omega) hI (hT _)
    have hz : ¬ (0 ≤ μ 106 0 1 ∧ μ 106 0 1 < μ 0 0 20) := by omega
    simp only [if_neg hz] at e50
    rw [hi2] at hi
    simp (disch := first | omega | (simp (disch := decide) only [zmu0, mu_g, List.length_nil, List.length_cons]; omega)) only [g108_0, g108_2, g108_3, g108_6, g108_8, g108_10, g108_11, g108_12, g108_13, g108_14, g108_15, g108_17, g108_19, g108_21, g108_22, g108_23, g108_26, g108_27, g108_28, g108_30, g108_31, g108_32, g108_35, g108_36, g108_39, g108_40, g108_42, g108_43, g108_45, g108_47, g108_171, g108_172, g108_174, g108_176, g108_177, g108_178, g108_179, g108_182, g108_184, g108_186, g108_187, g108_188, g108_191, g108_194, g108_197, g108_199, g108_202, g108_204, g108_207, g108_210, g108_213, g108_214, g108_217, g108_218, rd103, wr103, rd106, wr106, w92_6, x92_6_0, x92_6_1, x92_6_2, g92_121, g92_327, hi2, e50, Nat.sub_zero, Int.reduceSub, Int.reduceAdd, Int.add_zero, Int.zero_add, Int.cast_ofNat_Int, Bool.false_eq_true, decide_true, decide_false, zbndI, zbwI, zbzI, zb1I, zoA_at, gback_v, gback_n, zem, zisr, zro_at, zrl_at, mu_g, mu_at, mu_mu, mu_self, not_true, not_false_iff, zb0, zb1, zbnd, zbw, zbz, zne1, zone, mrgI, List.length_nil, List.length_cons, Nat.reduceAdd, Nat.reduceSub, Nat.reduceLeDiff, Nat.zero_le, and_true, true_and, false_and, and_false, true_or, or_true, false_or, or_false, G_ite, z10, z1n, z1and, z1or, z0not, z0and, itn, if_true, if_false, reduceIte, Int.reduceEq, Int.reduceLT, Int.reduceNeg, Nat.reduceEqDiff, ite_self, hi, eq_self]
    exact hK _ hr
end ZPA1
