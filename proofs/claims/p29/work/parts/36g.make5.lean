/-! ===== making: a document ===== -/
abbrev zfD (n a b : Int) : ZE := .inl (1, zupN (zupN (zupN (zupN (zupN (zupN (zupN (zfd 1) 2 (zR 31 n)) 3 (zR 32 n)) 4 (zR 33 n)) 5 (zR 34 n)) 6 (zR 35 n)) 0 (zI a)) 1 (zI b))
def HD (h : ZH) (n a b : Int) (φ : Int → Int) : ZH := zset (zset (zset (zset (zset (zset h 30 n (zfD n a b)) 31 n (.inr (.int, 4, zof φ))) 32 n (.inr (.int, 12, zof fun _ => 0))) 33 n (.inr (.int, 60, zof fun _ => 0))) 34 n (.inr (.long, 60, fun _ => zL 0))) 35 n (.inr (.int, 60, zof fun _ => 0))
def mDc (n a b : Int) (μ : ZU) : ZU := fun k i j => if k = 0 then (if i = 0 ∧ j = 30 then n + 1 else μ k i j) else if i = n then (if k = 30 then (if j = 0 then a else if j = 1 then b else 0) else if k = 31 then (if 0 ≤ j ∧ j < 4 then j else 0) else if 32 ≤ k ∧ k ≤ 35 then 0 else μ k i j) else μ k i j
section ZDG
variable {ck sk : Nat} {Q : ZO → ZH → Prop} {a b c d i j n r v w x z : Int} {y : Int64} {u u' u'' u1 u2 u3 : ZV} {μ ν : ZU} {h : ZH} {f : Nat → ZV} {φ : Int → Int} {F : (Nat → ZV) → Prop} {A : Nat → (Int → ZV) → Prop} {k : Nat}
theorem zset_ne {k' : Nat} {i' : Int} {e : ZE} (hn : ¬ (k' = k ∧ i' = i)) : zset h k i e k' i' = h k' i' := if_neg hn
theorem HD_30 : zGF (HD h n a b φ) 30 n 1 F ↔ F (zupN (zupN (zupN (zupN (zupN (zupN (zupN (zfd 1) 2 (zR 31 n)) 3 (zR 32 n)) 4 (zR 33 n)) 5 (zR 34 n)) 6 (zR 35 n)) 0 (zI a)) 1 (zI b)) := by
  unfold HD
  rw [zGF_n (by decide), zGF_n (by decide), zGF_n (by decide), zGF_n (by decide), zGF_n (by decide), zGF_s]
theorem HD_31 : zAR (HD h n a b φ) 31 n .int A ↔ A 4 (zof φ) := by
  unfold HD
  rw [zAR_n (by decide), zAR_n (by decide), zAR_n (by decide), zAR_n (by decide), zAR_s]
theorem HD_w31 {φ' : Int → Int} : zset (HD h n a b φ) 31 n (.inr (.int, 4, zof φ')) = HD h n a b φ' := by
  unfold HD
  rw [zset_comm (k := 31) (k' := 35) (by decide), zset_comm (k := 31) (k' := 34) (by decide), zset_comm (k := 31) (k' := 33) (by decide), zset_comm (k := 31) (k' := 32) (by decide), zset_zset]
def fon : Int → Int := zui (zui (zui (zui (fun _ => 0) 0 0) 1 1) 2 2) 3 3
theorem fon_at (j : Int) : fon j = if 0 ≤ j ∧ j < 4 then j else 0 := by
  unfold fon zui
  by_cases h3 : j = 3
  · rw [if_pos h3, if_pos (by omega), h3]
  · by_cases h2 : j = 2
    · rw [if_neg h3, if_pos h2, if_pos (by omega), h2]
    · by_cases h1 : j = 1
      · rw [if_neg h3, if_neg h2, if_pos h1, if_pos (by omega), h1]
      · by_cases h0 : j = 0
        · rw [if_neg h3, if_neg h2, if_neg h1, if_pos h0, if_pos (by omega), h0]
        · rw [if_neg h3, if_neg h2, if_neg h1, if_neg h0, if_neg (by omega)]
def zD0 (f : Nat → ZV) : Prop := True
theorem i3 (ho : h 30 n = some (.inl (1, zfd 1))) (h1 : h 31 n = none) (h2 : h 32 n = none) (h3 : h 33 n = none) (h4 : h 34 n = none) (h5 : h 35 n = none) (q : Q (.inl none) (HD h n a b fon)) : G 3 0 [zR 30 n, zI a, zI b, u] [] h 5 196 Q := by
  have z2 : zupN (zupN (zupN (zupN (zupN (zupN (zupN (zfd 1) 2 (zR 31 n)) 3 (zR 32 n)) 4 (zR 33 n)) 5 (zR 34 n)) 6 (zR 35 n)) 0 (zI a)) 1 (zI b) 2 = zR 31 n := rfl
  simp (disch := first | omega | (simp (disch := decide) only [zmu0, mu_g, List.length_nil, List.length_cons]; omega)) only [g3_0, g3_1, g3_4, g3_5, g3_8, g3_11, g3_12, g3_16, g3_19, g3_20, g3_24, g3_27, g3_28, g3_32, g3_35, g3_36, g3_40, g3_43, g3_44, g3_45, g3_48, g3_49, g3_50, g3_53, g3_54, g3_56, g3_57, g3_60, g3_61, g3_64, g3_65, g3_66, g3_67, g3_70, g3_73, Int.reduceSub, Int.reduceAdd, Int.add_zero, Int.zero_add, Int.cast_ofNat_Int, Bool.false_eq_true, decide_true, decide_false, zbndI, zbwI, zbzI, zb1I, zoA_at, gback_v, gback_n, zem, zisr, zro_at, zrl_at, mu_g, mu_at, mu_mu, mu_self, not_true, not_false_iff, zb0, zb1, zbnd, zbw, zbz, zne1, zone, mrgI, List.length_nil, List.length_cons, Nat.reduceAdd, Nat.reduceSub, Nat.reduceLeDiff, Nat.zero_le, and_true, true_and, false_and, and_false, true_or, or_true, false_or, or_false, G_ite, z10, z1n, z1and, z1or, z0not, z0and, itn, if_true, if_false, reduceIte, Int.reduceEq, Int.reduceLT, Int.reduceNeg, Nat.reduceEqDiff, ite_self]
  rw [g3_6]
  refine ⟨⟨⟨by decide, by decide⟩, by decide, by decide⟩, 31, n, by decide, h1, ?_⟩
  simp (disch := first | omega | (simp (disch := decide) only [zmu0, mu_g, List.length_nil, List.length_cons]; omega)) only [g3_0, g3_1, g3_4, g3_5, g3_8, g3_11, g3_12, g3_16, g3_19, g3_20, g3_24, g3_27, g3_28, g3_32, g3_35, g3_36, g3_40, g3_43, g3_44, g3_45, g3_48, g3_49, g3_50, g3_53, g3_54, g3_56, g3_57, g3_60, g3_61, g3_64, g3_65, g3_66, g3_67, g3_70, g3_73, Int.reduceSub, Int.reduceAdd, Int.add_zero, Int.zero_add, Int.cast_ofNat_Int, Bool.false_eq_true, decide_true, decide_false, zbndI, zbwI, zbzI, zb1I, zoA_at, gback_v, gback_n, zem, zisr, zro_at, zrl_at, mu_g, mu_at, mu_mu, mu_self, not_true, not_false_iff, zb0, zb1, zbnd, zbw, zbz, zne1, zone, mrgI, List.length_nil, List.length_cons, Nat.reduceAdd, Nat.reduceSub, Nat.reduceLeDiff, Nat.zero_le, and_true, true_and, false_and, and_false, true_or, or_true, false_or, or_false, G_ite, z10, z1n, z1and, z1or, z0not, z0and, itn, if_true, if_false, reduceIte, Int.reduceEq, Int.reduceLT, Int.reduceNeg, Nat.reduceEqDiff, ite_self, zGF_o ho, zGF_n, zGF_s, zset_comm, zset_zset, Int.reduceToNat]
  rw [g3_14]
  refine ⟨⟨⟨by decide, by decide⟩, by decide, by decide⟩, 32, n, by decide, by simp (disch := decide) only [zset_k]; exact h2, ?_⟩
  simp (disch := first | omega | (simp (disch := decide) only [zmu0, mu_g, List.length_nil, List.length_cons]; omega)) only [g3_0, g3_1, g3_4, g3_5, g3_8, g3_11, g3_12, g3_16, g3_19, g3_20, g3_24, g3_27, g3_28, g3_32, g3_35, g3_36, g3_40, g3_43, g3_44, g3_45, g3_48, g3_49, g3_50, g3_53, g3_54, g3_56, g3_57, g3_60, g3_61, g3_64, g3_65, g3_66, g3_67, g3_70, g3_73, Int.reduceSub, Int.reduceAdd, Int.add_zero, Int.zero_add, Int.cast_ofNat_Int, Bool.false_eq_true, decide_true, decide_false, zbndI, zbwI, zbzI, zb1I, zoA_at, gback_v, gback_n, zem, zisr, zro_at, zrl_at, mu_g, mu_at, mu_mu, mu_self, not_true, not_false_iff, zb0, zb1, zbnd, zbw, zbz, zne1, zone, mrgI, List.length_nil, List.length_cons, Nat.reduceAdd, Nat.reduceSub, Nat.reduceLeDiff, Nat.zero_le, and_true, true_and, false_and, and_false, true_or, or_true, false_or, or_false, G_ite, z10, z1n, z1and, z1or, z0not, z0and, itn, if_true, if_false, reduceIte, Int.reduceEq, Int.reduceLT, Int.reduceNeg, Nat.reduceEqDiff, ite_self, zGF_n, zGF_s, zset_comm, zset_zset, Int.reduceToNat]
  rw [g3_22]
  refine ⟨⟨⟨by decide, by decide⟩, by decide, by decide⟩, 33, n, by decide, by simp (disch := decide) only [zset_k]; exact h3, ?_⟩
  simp (disch := first | omega | (simp (disch := decide) only [zmu0, mu_g, List.length_nil, List.length_cons]; omega)) only [g3_0, g3_1, g3_4, g3_5, g3_8, g3_11, g3_12, g3_16, g3_19, g3_20, g3_24, g3_27, g3_28, g3_32, g3_35, g3_36, g3_40, g3_43, g3_44, g3_45, g3_48, g3_49, g3_50, g3_53, g3_54, g3_56, g3_57, g3_60, g3_61, g3_64, g3_65, g3_66, g3_67, g3_70, g3_73, Int.reduceSub, Int.reduceAdd, Int.add_zero, Int.zero_add, Int.cast_ofNat_Int, Bool.false_eq_true, decide_true, decide_false, zbndI, zbwI, zbzI, zb1I, zoA_at, gback_v, gback_n, zem, zisr, zro_at, zrl_at, mu_g, mu_at, mu_mu, mu_self, not_true, not_false_iff, zb0, zb1, zbnd, zbw, zbz, zne1, zone, mrgI, List.length_nil, List.length_cons, Nat.reduceAdd, Nat.reduceSub, Nat.reduceLeDiff, Nat.zero_le, and_true, true_and, false_and, and_false, true_or, or_true, false_or, or_false, G_ite, z10, z1n, z1and, z1or, z0not, z0and, itn, if_true, if_false, reduceIte, Int.reduceEq, Int.reduceLT, Int.reduceNeg, Nat.reduceEqDiff, ite_self, zGF_n, zGF_s, zset_comm, zset_zset, Int.reduceToNat]
  rw [g3_30]
  refine ⟨⟨⟨by decide, by decide⟩, by decide, by decide⟩, 34, n, by decide, by simp (disch := decide) only [zset_k]; exact h4, ?_⟩
  simp (disch := first | omega | (simp (disch := decide) only [zmu0, mu_g, List.length_nil, List.length_cons]; omega)) only [g3_0, g3_1, g3_4, g3_5, g3_8, g3_11, g3_12, g3_16, g3_19, g3_20, g3_24, g3_27, g3_28, g3_32, g3_35, g3_36, g3_40, g3_43, g3_44, g3_45, g3_48, g3_49, g3_50, g3_53, g3_54, g3_56, g3_57, g3_60, g3_61, g3_64, g3_65, g3_66, g3_67, g3_70, g3_73, Int.reduceSub, Int.reduceAdd, Int.add_zero, Int.zero_add, Int.cast_ofNat_Int, Bool.false_eq_true, decide_true, decide_false, zbndI, zbwI, zbzI, zb1I, zoA_at, gback_v, gback_n, zem, zisr, zro_at, zrl_at, mu_g, mu_at, mu_mu, mu_self, not_true, not_false_iff, zb0, zb1, zbnd, zbw, zbz, zne1, zone, mrgI, List.length_nil, List.length_cons, Nat.reduceAdd, Nat.reduceSub, Nat.reduceLeDiff, Nat.zero_le, and_true, true_and, false_and, and_false, true_or, or_true, false_or, or_false, G_ite, z10, z1n, z1and, z1or, z0not, z0and, itn, if_true, if_false, reduceIte, Int.reduceEq, Int.reduceLT, Int.reduceNeg, Nat.reduceEqDiff, ite_self, zGF_n, zGF_s, zset_comm, zset_zset, Int.reduceToNat]
  rw [g3_38]
  refine ⟨⟨⟨by decide, by decide⟩, by decide, by decide⟩, 35, n, by decide, by simp (disch := decide) only [zset_k]; exact h5, ?_⟩
  simp (disch := first | omega | (simp (disch := decide) only [zmu0, mu_g, List.length_nil, List.length_cons]; omega)) only [g3_0, g3_1, g3_4, g3_5, g3_8, g3_11, g3_12, g3_16, g3_19, g3_20, g3_24, g3_27, g3_28, g3_32, g3_35, g3_36, g3_40, g3_43, g3_44, g3_45, g3_48, g3_49, g3_50, g3_53, g3_54, g3_56, g3_57, g3_60, g3_61, g3_64, g3_65, g3_66, g3_67, g3_70, g3_73, Int.reduceSub, Int.reduceAdd, Int.add_zero, Int.zero_add, Int.cast_ofNat_Int, Bool.false_eq_true, decide_true, decide_false, zbndI, zbwI, zbzI, zb1I, zoA_at, gback_v, gback_n, zem, zisr, zro_at, zrl_at, mu_g, mu_at, mu_mu, mu_self, not_true, not_false_iff, zb0, zb1, zbnd, zbw, zbz, zne1, zone, mrgI, List.length_nil, List.length_cons, Nat.reduceAdd, Nat.reduceSub, Nat.reduceLeDiff, Nat.zero_le, and_true, true_and, false_and, and_false, true_or, or_true, false_or, or_false, G_ite, z10, z1n, z1and, z1or, z0not, z0and, itn, if_true, if_false, reduceIte, Int.reduceEq, Int.reduceLT, Int.reduceNeg, Nat.reduceEqDiff, ite_self, zGF_n, zGF_s, zset_comm, zset_zset, Int.reduceToNat]
  have e : zset (zset (zset (zset (zset (zset h 30 n (zfD n a b)) 31 n (.inr (.int, 4, fun _ => zI 0))) 32 n (.inr (.int, 12, fun _ => zI 0))) 33 n (.inr (.int, 60, fun _ => zI 0))) 34 n (.inr (.long, 60, fun _ => zL 0))) 35 n (.inr (.int, 60, fun _ => zI 0)) = HD h n a b (fun _ => 0) := rfl
  rw [e, g3_55]
  simp (disch := first | omega | (simp (disch := decide) only [zmu0, mu_g, List.length_nil, List.length_cons]; omega)) only [g3_0, g3_1, g3_4, g3_5, g3_8, g3_11, g3_12, g3_16, g3_19, g3_20, g3_24, g3_27, g3_28, g3_32, g3_35, g3_36, g3_40, g3_43, g3_44, g3_45, g3_48, g3_49, g3_50, g3_53, g3_54, g3_56, g3_57, g3_60, g3_61, g3_64, g3_65, g3_66, g3_67, g3_70, g3_73, Int.reduceSub, Int.reduceAdd, Int.add_zero, Int.zero_add, Int.cast_ofNat_Int, Bool.false_eq_true, decide_true, decide_false, zbndI, zbwI, zbzI, zb1I, zoA_at, gback_v, gback_n, zem, zisr, zro_at, zrl_at, mu_g, mu_at, mu_mu, mu_self, not_true, not_false_iff, zb0, zb1, zbnd, zbw, zbz, zne1, zone, mrgI, List.length_nil, List.length_cons, Nat.reduceAdd, Nat.reduceSub, Nat.reduceLeDiff, Nat.zero_le, and_true, true_and, false_and, and_false, true_or, or_true, false_or, or_false, G_ite, z10, z1n, z1and, z1or, z0not, z0and, itn, if_true, if_false, reduceIte, Int.reduceEq, Int.reduceLT, Int.reduceNeg, Nat.reduceEqDiff, ite_self, HD_30, HD_31, HD_w31, z2, zup_of]
  rw [g3_55]
  simp (disch := first | omega | (simp (disch := decide) only [zmu0, mu_g, List.length_nil, List.length_cons]; omega)) only [g3_0, g3_1, g3_4, g3_5, g3_8, g3_11, g3_12, g3_16, g3_19, g3_20, g3_24, g3_27, g3_28, g3_32, g3_35, g3_36, g3_40, g3_43, g3_44, g3_45, g3_48, g3_49, g3_50, g3_53, g3_54, g3_56, g3_57, g3_60, g3_61, g3_64, g3_65, g3_66, g3_67, g3_70, g3_73, Int.reduceSub, Int.reduceAdd, Int.add_zero, Int.zero_add, Int.cast_ofNat_Int, Bool.false_eq_true, decide_true, decide_false, zbndI, zbwI, zbzI, zb1I, zoA_at, gback_v, gback_n, zem, zisr, zro_at, zrl_at, mu_g, mu_at, mu_mu, mu_self, not_true, not_false_iff, zb0, zb1, zbnd, zbw, zbz, zne1, zone, mrgI, List.length_nil, List.length_cons, Nat.reduceAdd, Nat.reduceSub, Nat.reduceLeDiff, Nat.zero_le, and_true, true_and, false_and, and_false, true_or, or_true, false_or, or_false, G_ite, z10, z1n, z1and, z1or, z0not, z0and, itn, if_true, if_false, reduceIte, Int.reduceEq, Int.reduceLT, Int.reduceNeg, Nat.reduceEqDiff, ite_self, HD_30, HD_31, HD_w31, z2, zup_of]
  rw [g3_55]
  simp (disch := first | omega | (simp (disch := decide) only [zmu0, mu_g, List.length_nil, List.length_cons]; omega)) only [g3_0, g3_1, g3_4, g3_5, g3_8, g3_11, g3_12, g3_16, g3_19, g3_20, g3_24, g3_27, g3_28, g3_32, g3_35, g3_36, g3_40, g3_43, g3_44, g3_45, g3_48, g3_49, g3_50, g3_53, g3_54, g3_56, g3_57, g3_60, g3_61, g3_64, g3_65, g3_66, g3_67, g3_70, g3_73, Int.reduceSub, Int.reduceAdd, Int.add_zero, Int.zero_add, Int.cast_ofNat_Int, Bool.false_eq_true, decide_true, decide_false, zbndI, zbwI, zbzI, zb1I, zoA_at, gback_v, gback_n, zem, zisr, zro_at, zrl_at, mu_g, mu_at, mu_mu, mu_self, not_true, not_false_iff, zb0, zb1, zbnd, zbw, zbz, zne1, zone, mrgI, List.length_nil, List.length_cons, Nat.reduceAdd, Nat.reduceSub, Nat.reduceLeDiff, Nat.zero_le, and_true, true_and, false_and, and_false, true_or, or_true, false_or, or_false, G_ite, z10, z1n, z1and, z1or, z0not, z0and, itn, if_true, if_false, reduceIte, Int.reduceEq, Int.reduceLT, Int.reduceNeg, Nat.reduceEqDiff, ite_self, HD_30, HD_31, HD_w31, z2, zup_of]
  rw [g3_55]
  simp (disch := first | omega | (simp (disch := decide) only [zmu0, mu_g, List.length_nil, List.length_cons]; omega)) only [g3_0, g3_1, g3_4, g3_5, g3_8, g3_11, g3_12, g3_16, g3_19, g3_20, g3_24, g3_27, g3_28, g3_32, g3_35, g3_36, g3_40, g3_43, g3_44, g3_45, g3_48, g3_49, g3_50, g3_53, g3_54, g3_56, g3_57, g3_60, g3_61, g3_64, g3_65, g3_66, g3_67, g3_70, g3_73, Int.reduceSub, Int.reduceAdd, Int.add_zero, Int.zero_add, Int.cast_ofNat_Int, Bool.false_eq_true, decide_true, decide_false, zbndI, zbwI, zbzI, zb1I, zoA_at, gback_v, gback_n, zem, zisr, zro_at, zrl_at, mu_g, mu_at, mu_mu, mu_self, not_true, not_false_iff, zb0, zb1, zbnd, zbw, zbz, zne1, zone, mrgI, List.length_nil, List.length_cons, Nat.reduceAdd, Nat.reduceSub, Nat.reduceLeDiff, Nat.zero_le, and_true, true_and, false_and, and_false, true_or, or_true, false_or, or_false, G_ite, z10, z1n, z1and, z1or, z0not, z0and, itn, if_true, if_false, reduceIte, Int.reduceEq, Int.reduceLT, Int.reduceNeg, Nat.reduceEqDiff, ite_self, HD_30, HD_31, HD_w31, z2, zup_of]
  rw [g3_55]
  simp (disch := first | omega | (simp (disch := decide) only [zmu0, mu_g, List.length_nil, List.length_cons]; omega)) only [g3_0, g3_1, g3_4, g3_5, g3_8, g3_11, g3_12, g3_16, g3_19, g3_20, g3_24, g3_27, g3_28, g3_32, g3_35, g3_36, g3_40, g3_43, g3_44, g3_45, g3_48, g3_49, g3_50, g3_53, g3_54, g3_56, g3_57, g3_60, g3_61, g3_64, g3_65, g3_66, g3_67, g3_70, g3_73, Int.reduceSub, Int.reduceAdd, Int.add_zero, Int.zero_add, Int.cast_ofNat_Int, Bool.false_eq_true, decide_true, decide_false, zbndI, zbwI, zbzI, zb1I, zoA_at, gback_v, gback_n, zem, zisr, zro_at, zrl_at, mu_g, mu_at, mu_mu, mu_self, not_true, not_false_iff, zb0, zb1, zbnd, zbw, zbz, zne1, zone, mrgI, List.length_nil, List.length_cons, Nat.reduceAdd, Nat.reduceSub, Nat.reduceLeDiff, Nat.zero_le, and_true, true_and, false_and, and_false, true_or, or_true, false_or, or_false, G_ite, z10, z1n, z1and, z1or, z0not, z0and, itn, if_true, if_false, reduceIte, Int.reduceEq, Int.reduceLT, Int.reduceNeg, Nat.reduceEqDiff, ite_self]
  exact q
theorem HM_dc (hn : μ 0 0 30 = n) (h0 : 0 ≤ n) {e2 : ZE} (he2 : HM (mDc n a b μ) 2 0 = some e2) {O : ZE} (hO : ∀ k i, zset (HM ν) 2 0 e2 k i = HM μ k i) : zset (zset (HD (HM ν) n a b fon) 5 0 (.inr (.object (zcn 1), 6, zup (zoA 30 n) n (zR 30 n)))) 2 0 e2 = HM (mDc n a b μ) := by
  have e30 : mDc n a b μ 0 0 30 = n + 1 := rfl
  have h00 : ∀ (p j : Int), ¬ (p = 0 ∧ j = 30) → mDc n a b μ 0 p j = μ 0 p j := fun p j hj => by
    show (if (0 : Nat) = 0 then (if p = 0 ∧ j = 30 then n + 1 else μ 0 p j) else 0) = _
    rw [if_pos rfl, if_neg hj]
  have hbd : ∀ c, c ≠ 30 → zbd (mDc n a b μ) c = zbd μ c := fun c hc => by
    match c with
    | 0 => rfl
    | c + 1 => exact h00 0 ((c + 1 : Nat) : Int) (by omega)
  have hg : ∀ k i j, k ≠ 0 → i ≠ n → mDc n a b μ k i j = μ k i j := fun k i j h1 h2 => by
    show (if k = 0 then _ else if i = n then _ else μ k i j) = _
    rw [if_neg h1, if_neg h2]
  have v30 : ∀ j, mDc n a b μ 30 n j = if j = 0 then a else if j = 1 then b else 0 := fun j => by
    show (if n = n then (if j = 0 then a else if j = 1 then b else 0) else μ 30 n j) = _
    rw [if_pos rfl]
  have v31 : ∀ j, mDc n a b μ 31 n j = fon j := fun j => by
    show (if n = n then (if 0 ≤ j ∧ j < 4 then j else 0) else μ 31 n j) = _
    rw [if_pos rfl, fon_at]
  have v3 : ∀ (k : Nat) j, (k = 32 ∨ k = 33 ∨ k = 34 ∨ k = 35) → mDc n a b μ k n j = 0 := fun k j hk => by
    show (if k = 0 then _ else if n = n then (if k = 30 then _ else if k = 31 then _ else if 32 ≤ k ∧ k ≤ 35 then 0 else μ k n j) else μ k n j) = _
    rw [if_neg (by omega), if_pos rfl, if_neg (by omega), if_neg (by omega), if_pos (by omega)]
  have hn1 : n < mDc n a b μ 0 0 30 := by omega
  unfold HD
  funext k i
  refine zset_pt he2 fun n2 => zset_pt ?_ fun n5 => zset_pt ?_ fun n35 => zset_pt ?_ fun n34 => zset_pt ?_ fun n33 => zset_pt ?_ fun n32 => zset_pt ?_ fun n31 => zset_pt ?_ fun n30 => ?_
  · have e : HM (mDc n a b μ) 5 0 = some (.inr (.object (zcn 1), 6, zoA 30 (mDc n a b μ 0 0 30))) := rfl
    rw [e, e30]
    rw [zoA_s h0]
  · have e : HM (mDc n a b μ) 35 n = some (.inr (.int, 60, fun j => zI (mDc n a b μ 35 n j))) := if_pos ⟨h0, hn1⟩
    rw [e]
    simp only [v3 35 _ (by omega)]
    rfl
  · have e : HM (mDc n a b μ) 34 n = some (.inr (.long, 60, fun j => zL (Int64.ofInt (mDc n a b μ 34 n j)))) := if_pos ⟨h0, hn1⟩
    rw [e]
    simp only [v3 34 _ (by omega)]
    rfl
  · have e : HM (mDc n a b μ) 33 n = some (.inr (.int, 60, fun j => zI (mDc n a b μ 33 n j))) := if_pos ⟨h0, hn1⟩
    rw [e]
    simp only [v3 33 _ (by omega)]
    rfl
  · have e : HM (mDc n a b μ) 32 n = some (.inr (.int, 12, fun j => zI (mDc n a b μ 32 n j))) := if_pos ⟨h0, hn1⟩
    rw [e]
    simp only [v3 32 _ (by omega)]
    rfl
  · have e : HM (mDc n a b μ) 31 n = some (.inr (.int, 4, fun j => zI (mDc n a b μ 31 n j))) := if_pos ⟨h0, hn1⟩
    rw [e]
    simp only [v31]
    rfl
  · have e : HM (mDc n a b μ) 30 n = some (.inl (1, zfl (mDc n a b μ) 30 n)) := if_pos ⟨h0, hn1⟩
    rw [e]
    have e2 : zfl (mDc n a b μ) 30 n = zupN (zupN (zupN (zupN (zupN (zupN (zupN (zfd 1) 2 (zR 31 n)) 3 (zR 32 n)) 4 (zR 33 n)) 5 (zR 34 n)) 6 (zR 35 n)) 0 (zI a)) 1 (zI b) := by
      funext s
      match s with
      | 0 =>
        show zI (mDc n a b μ 30 n _) = _
        rw [v30]
        rfl
      | 1 =>
        show zI (mDc n a b μ 30 n _) = _
        rw [v30]
        rfl
      | 2 => rfl
      | 3 => rfl
      | 4 => rfl
      | 5 => rfl
      | 6 => rfl
      | s + 7 =>
        show zI (mDc n a b μ 30 n ((s + 7 : Nat) : Int)) = _
        rw [v30, if_neg (by omega), if_neg (by omega), zupN_n (by omega), zupN_n (by omega), zupN_n (by omega), zupN_n (by omega), zupN_n (by omega), zupN_n (by omega), zupN_n (by omega)]
        match s with
        | 0 => rfl
        | 1 => rfl
        | 2 => rfl
        | 3 => rfl
        | s + 4 => rfl
    rw [e2]
  · have e9 := hO k i
    rw [zset_ne n2] at e9
    rw [e9]
    refine HM_same (fun t m c hc => ?_) (fun c m hc => ?_) (fun c m e hc hi => ?_) (fun hk _ => ?_) (fun hk => ?_) (fun hk => ?_) (fun hk j => ?_)
    · by_cases h1 : c = 30
      · subst h1
        have := kA_30 hc
        show i < mDc n a b μ 0 0 30 ↔ i < μ 0 0 30
        rw [e30]
        omega
      · rw [hbd c h1]
    · by_cases h1 : m = 30
      · subst h1
        have := kO_30 hc
        show i < mDc n a b μ 0 0 30 ↔ i < μ 0 0 30
        rw [e30]
        omega
      · rw [hbd m h1]
    · by_cases h1 : e = 30
      · subst h1
        exact absurd ⟨kB_30 hc, hi⟩ n5
      · exact h00 0 _ (by omega)
    · exact h00 0 _ (by omega)
    · exact h00 2 0 (by omega)
    · refine ⟨h00 1 _ (by omega), ?_⟩
      rw [h00 0 26 (by omega)]
    · by_cases hi : i = n
      · subst hi
        show (if k = 0 then _ else if i = i then (if k = 30 then _ else if k = 31 then _ else if 32 ≤ k ∧ k ≤ 35 then _ else μ k i j) else _) = _
        rw [if_neg hk, if_pos rfl, if_neg (fun z => n30 ⟨z, rfl⟩), if_neg (fun z => n31 ⟨z, rfl⟩), if_neg (by
          intro z
          have : k = 32 ∨ k = 33 ∨ k = 34 ∨ k = 35 := by omega
          rcases this with q | q | q | q
          · exact n32 ⟨q, rfl⟩
          · exact n33 ⟨q, rfl⟩
          · exact n34 ⟨q, rfl⟩
          · exact n35 ⟨q, rfl⟩)]
      · exact hg k i j hk hi
theorem c53_x (h : ¬ ((20 ≤ a ∧ a ≤ 200) ∧ 3 ≤ b ∧ b ≤ 12)) : G 53 0 [zR 2 0, zI a, zI b] [] (HM μ) 6 207 Q ↔ Q (.inr 0) (HM μ) := by
  by_cases h1 : 20 ≤ a ∧ a ≤ 200
  · by_cases h2 : 3 ≤ b ∧ b ≤ 12
    · exact absurd ⟨h1, h2⟩ h
    · simp (disch := first | omega | (simp (disch := decide) only [zmu0, mu_g, List.length_nil, List.length_cons]; omega)) only [g53_0, g53_1, g53_3, g53_6, g53_9, g53_12, g53_13, g53_14, g53_16, g53_19, g53_22, g53_32, g53_33, g53_36, g53_38, g53_41, g53_51, g53_52, g53_55, g53_56, g53_62, g53_62r, g53_63, g53_64, g53_65, g53_69, g53_70, g53_70r, g53_71, g53_74, g53_75, g53_76, g53_79, g53_80, g53_83, g53_84, g53_85, ob2, oc2, fl2_0, fl2_1, fl2_2, fl2_3, fl2_4, fl2_5, fl2_6, wo2_6, fl2_7, wo2_7, fl2_8, wo2_8, fl2_9, wo2_9, fl2_10, wo2_10, Int.reduceSub, Int.reduceAdd, Int.add_zero, Int.zero_add, Int.cast_ofNat_Int, Bool.false_eq_true, decide_true, decide_false, zbndI, zbwI, zbzI, zb1I, zoA_at, gback_v, gback_n, zem, zisr, zro_at, zrl_at, mu_g, mu_at, mu_mu, mu_self, not_true, not_false_iff, zb0, zb1, zbnd, zbw, zbz, zne1, zone, mrgI, List.length_nil, List.length_cons, Nat.reduceAdd, Nat.reduceSub, Nat.reduceLeDiff, Nat.zero_le, and_true, true_and, false_and, and_false, true_or, or_true, false_or, or_false, G_ite, z10, z1n, z1and, z1or, z0not, z0and, itn, if_true, if_false, reduceIte, Int.reduceEq, Int.reduceLT, Int.reduceNeg, Nat.reduceEqDiff, ite_self, c70, h1, h2]
  · simp (disch := first | omega | (simp (disch := decide) only [zmu0, mu_g, List.length_nil, List.length_cons]; omega)) only [g53_0, g53_1, g53_3, g53_6, g53_9, g53_12, g53_13, g53_14, g53_16, g53_19, g53_22, g53_32, g53_33, g53_36, g53_38, g53_41, g53_51, g53_52, g53_55, g53_56, g53_62, g53_62r, g53_63, g53_64, g53_65, g53_69, g53_70, g53_70r, g53_71, g53_74, g53_75, g53_76, g53_79, g53_80, g53_83, g53_84, g53_85, ob2, oc2, fl2_0, fl2_1, fl2_2, fl2_3, fl2_4, fl2_5, fl2_6, wo2_6, fl2_7, wo2_7, fl2_8, wo2_8, fl2_9, wo2_9, fl2_10, wo2_10, Int.reduceSub, Int.reduceAdd, Int.add_zero, Int.zero_add, Int.cast_ofNat_Int, Bool.false_eq_true, decide_true, decide_false, zbndI, zbwI, zbzI, zb1I, zoA_at, gback_v, gback_n, zem, zisr, zro_at, zrl_at, mu_g, mu_at, mu_mu, mu_self, not_true, not_false_iff, zb0, zb1, zbnd, zbw, zbz, zne1, zone, mrgI, List.length_nil, List.length_cons, Nat.reduceAdd, Nat.reduceSub, Nat.reduceLeDiff, Nat.zero_le, and_true, true_and, false_and, and_false, true_or, or_true, false_or, or_false, G_ite, z10, z1n, z1and, z1or, z0not, z0and, itn, if_true, if_false, reduceIte, Int.reduceEq, Int.reduceLT, Int.reduceNeg, Nat.reduceEqDiff, ite_self, c70, h1]
theorem c53_y (h1 : 20 ≤ a ∧ a ≤ 200) (h2 : 3 ≤ b ∧ b ≤ 12) (h3 : ¬ μ 2 0 8 < 6) : G 53 0 [zR 2 0, zI a, zI b] [] (HM μ) 6 207 Q ↔ Q (.inr 2) (HM μ) := by
  simp (disch := first | omega | (simp (disch := decide) only [zmu0, mu_g, List.length_nil, List.length_cons]; omega)) only [g53_0, g53_1, g53_3, g53_6, g53_9, g53_12, g53_13, g53_14, g53_16, g53_19, g53_22, g53_32, g53_33, g53_36, g53_38, g53_41, g53_51, g53_52, g53_55, g53_56, g53_62, g53_62r, g53_63, g53_64, g53_65, g53_69, g53_70, g53_70r, g53_71, g53_74, g53_75, g53_76, g53_79, g53_80, g53_83, g53_84, g53_85, ob2, oc2, fl2_0, fl2_1, fl2_2, fl2_3, fl2_4, fl2_5, fl2_6, wo2_6, fl2_7, wo2_7, fl2_8, wo2_8, fl2_9, wo2_9, fl2_10, wo2_10, Int.reduceSub, Int.reduceAdd, Int.add_zero, Int.zero_add, Int.cast_ofNat_Int, Bool.false_eq_true, decide_true, decide_false, zbndI, zbwI, zbzI, zb1I, zoA_at, gback_v, gback_n, zem, zisr, zro_at, zrl_at, mu_g, mu_at, mu_mu, mu_self, not_true, not_false_iff, zb0, zb1, zbnd, zbw, zbz, zne1, zone, mrgI, List.length_nil, List.length_cons, Nat.reduceAdd, Nat.reduceSub, Nat.reduceLeDiff, Nat.zero_le, and_true, true_and, false_and, and_false, true_or, or_true, false_or, or_false, G_ite, z10, z1n, z1and, z1or, z0not, z0and, itn, if_true, if_false, reduceIte, Int.reduceEq, Int.reduceLT, Int.reduceNeg, Nat.reduceEqDiff, ite_self, c70, h1, h2, h3]
theorem c53 (h1 : 20 ≤ a ∧ a ≤ 200) (h2 : 3 ≤ b ∧ b ≤ 12) (hn : μ 2 0 8 = n) (hn2 : μ 0 0 30 = n) (h0 : 0 ≤ n) (h6 : n < 6) (q : Q (.inl (some (zI n))) (HM (mDc n a b (mu μ 2 0 8 (n + 1))))) : G 53 0 [zR 2 0, zI a, zI b] [] (HM μ) 6 207 Q := by
  have e1 : n + 1 - 1 = n := by omega
  simp (disch := first | omega | (simp (disch := decide) only [zmu0, mu_g, List.length_nil, List.length_cons]; omega)) only [g53_0, g53_1, g53_3, g53_6, g53_9, g53_12, g53_13, g53_14, g53_16, g53_19, g53_22, g53_32, g53_33, g53_36, g53_38, g53_41, g53_51, g53_52, g53_55, g53_56, g53_62, g53_62r, g53_63, g53_64, g53_65, g53_69, g53_70, g53_70r, g53_71, g53_74, g53_75, g53_76, g53_79, g53_80, g53_83, g53_84, g53_85, ob2, oc2, fl2_0, fl2_1, fl2_2, fl2_3, fl2_4, fl2_5, fl2_6, wo2_6, fl2_7, wo2_7, fl2_8, wo2_8, fl2_9, wo2_9, fl2_10, wo2_10, Int.reduceSub, Int.reduceAdd, Int.add_zero, Int.zero_add, Int.cast_ofNat_Int, Bool.false_eq_true, decide_true, decide_false, zbndI, zbwI, zbzI, zb1I, zoA_at, gback_v, gback_n, zem, zisr, zro_at, zrl_at, mu_g, mu_at, mu_mu, mu_self, not_true, not_false_iff, zb0, zb1, zbnd, zbw, zbz, zne1, zone, mrgI, List.length_nil, List.length_cons, Nat.reduceAdd, Nat.reduceSub, Nat.reduceLeDiff, Nat.zero_le, and_true, true_and, false_and, and_false, true_or, or_true, false_or, or_false, G_ite, z10, z1n, z1and, z1or, z0not, z0and, itn, if_true, if_false, reduceIte, Int.reduceEq, Int.reduceLT, Int.reduceNeg, Nat.reduceEqDiff, ite_self, c70, h1, h2, hn, h6]
  rw [g53_59]
  refine ⟨⟨trivial, by decide, by decide⟩, 30, n, by decide, no30 (by omega), ?_⟩
  simp (disch := first | omega | (simp (disch := decide) only [zmu0, mu_g, List.length_nil, List.length_cons]; omega)) only [g53_0, g53_1, g53_3, g53_6, g53_9, g53_12, g53_13, g53_14, g53_16, g53_19, g53_22, g53_32, g53_33, g53_36, g53_38, g53_41, g53_51, g53_52, g53_55, g53_56, g53_62, g53_62r, g53_63, g53_64, g53_65, g53_69, g53_70, g53_70r, g53_71, g53_74, g53_75, g53_76, g53_79, g53_80, g53_83, g53_84, g53_85, Int.reduceSub, Int.reduceAdd, Int.add_zero, Int.zero_add, Int.cast_ofNat_Int, Bool.false_eq_true, decide_true, decide_false, zbndI, zbwI, zbzI, zb1I, zoA_at, gback_v, gback_n, zem, zisr, zro_at, zrl_at, mu_g, mu_at, mu_mu, mu_self, not_true, not_false_iff, zb0, zb1, zbnd, zbw, zbz, zne1, zone, mrgI, List.length_nil, List.length_cons, Nat.reduceAdd, Nat.reduceSub, Nat.reduceLeDiff, Nat.zero_le, and_true, true_and, false_and, and_false, true_or, or_true, false_or, or_false, G_ite, z10, z1n, z1and, z1or, z0not, z0and, itn, if_true, if_false, reduceIte, Int.reduceEq, Int.reduceLT, Int.reduceNeg, Nat.reduceEqDiff, ite_self, zGO_s]
  refine i3 zset_at (by rw [zset_k (by decide)]; exact no31 (by omega)) (by rw [zset_k (by decide)]; exact no32 (by omega)) (by rw [zset_k (by decide)]; exact no33 (by omega)) (by rw [zset_k (by decide)]; exact no34 (by omega)) (by rw [zset_k (by decide)]; exact no35 (by omega)) ?_
  rw [gback_n, g53_68]
  have eH : HD (zset (HM μ) 30 n (.inl (1, zfd 1))) n a b fon = HD (HM μ) n a b fon := by
    unfold HD
    rw [zset_zset]
  rw [eH]
  have yAY : ∀ (B : FieldType → Nat → (Int → ZV) → Prop), zAY (HD (HM μ) n a b fon) 5 0 B ↔ zAY (HM μ) 5 0 B := fun B => by
    unfold HD
    rw [zAY_n (by decide), zAY_n (by decide), zAY_n (by decide), zAY_n (by decide), zAY_n (by decide), zAY_n (by decide)]
  have yGF : ∀ (F : (Nat → ZV) → Prop), zGF (HD (HM μ) n a b fon) 2 0 8 F ↔ zGF (HM μ) 2 0 8 F := fun F => by
    unfold HD
    rw [zGF_n (by decide), zGF_n (by decide), zGF_n (by decide), zGF_n (by decide), zGF_n (by decide), zGF_n (by decide)]
  simp (disch := first | omega | (simp (disch := decide) only [zmu0, mu_g, List.length_nil, List.length_cons]; omega)) only [yAY, rd5]
  refine ⟨1, by decide, ?_, by decide, by decide, rfl, h0, by omega, ?_⟩
  · unfold HD
    exact ⟨_, by simp (disch := decide) only [zset_k]; exact zset_at⟩
  simp (disch := first | omega | (simp (disch := decide) only [zmu0, mu_g, List.length_nil, List.length_cons]; omega)) only [g53_0, g53_1, g53_3, g53_6, g53_9, g53_12, g53_13, g53_14, g53_16, g53_19, g53_22, g53_32, g53_33, g53_36, g53_38, g53_41, g53_51, g53_52, g53_55, g53_56, g53_62, g53_62r, g53_63, g53_64, g53_65, g53_69, g53_70, g53_70r, g53_71, g53_74, g53_75, g53_76, g53_79, g53_80, g53_83, g53_84, g53_85, ob2, oc2, fl2_0, fl2_1, fl2_2, fl2_3, fl2_4, fl2_5, fl2_6, wo2_6, fl2_7, wo2_7, fl2_8, wo2_8, fl2_9, wo2_9, fl2_10, wo2_10, Int.reduceSub, Int.reduceAdd, Int.add_zero, Int.zero_add, Int.cast_ofNat_Int, Bool.false_eq_true, decide_true, decide_false, zbndI, zbwI, zbzI, zb1I, zoA_at, gback_v, gback_n, zem, zisr, zro_at, zrl_at, mu_g, mu_at, mu_mu, mu_self, not_true, not_false_iff, zb0, zb1, zbnd, zbw, zbz, zne1, zone, mrgI, List.length_nil, List.length_cons, Nat.reduceAdd, Nat.reduceSub, Nat.reduceLeDiff, Nat.zero_le, and_true, true_and, false_and, and_false, true_or, or_true, false_or, or_false, G_ite, z10, z1n, z1and, z1or, z0not, z0and, itn, if_true, if_false, reduceIte, Int.reduceEq, Int.reduceLT, Int.reduceNeg, Nat.reduceEqDiff, ite_self, zGF_n, zGF_s, yGF, zset_zset, hn, zupN_s, e1]
  have e2 := wo2_8 (μ := μ) (i := 0) (v := n + 1) (by omega) (by omega)
  have eD := HM_dc (μ := mu μ 2 0 8 (n + 1)) (ν := μ) (n := n) (a := a) (b := b) (e2 := .inl (8, zupN (zfl μ 2 0) 8 (zI (n + 1)))) (O := a10) hn2 h0 (by
    have : HM (mDc n a b (mu μ 2 0 8 (n + 1))) 2 0 = HM (mu μ 2 0 8 (n + 1)) 2 0 := by
      have ez : ∀ j, mDc n a b (mu μ 2 0 8 (n + 1)) 2 0 j = mu μ 2 0 8 (n + 1) 2 0 j := fun j => by
        show (if (2 : Nat) = 0 then _ else if (0 : Int) = n then (if (2 : Nat) = 30 then _ else if (2 : Nat) = 31 then _ else if 32 ≤ 2 ∧ 2 ≤ 35 then 0 else mu μ 2 0 8 (n + 1) 2 0 j) else mu μ 2 0 8 (n + 1) 2 0 j) = _
        rw [if_neg (by decide)]
        split
        · rw [if_neg (by decide), if_neg (by decide), if_neg (by decide)]
        · rfl
      show some (Sum.inl (8, zfl (mDc n a b (mu μ 2 0 8 (n + 1))) 2 0) : ZE) = some (Sum.inl (8, zfl (mu μ 2 0 8 (n + 1)) 2 0))
      have ef : zfl (mDc n a b (mu μ 2 0 8 (n + 1))) 2 0 = zfl (mu μ 2 0 8 (n + 1)) 2 0 := by
        funext s
        unfold zfl
        split <;> first | rfl | contradiction | exact congrArg zI (ez _)
      rw [ef]
    rw [this, ← e2]
    exact zset_at) (fun k i => by rw [e2])
  rw [← eD] at q
  rw [hn2]
  exact q
end ZDG
