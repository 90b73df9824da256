/-! ===== making: PressBox and the reference ===== -/
section ZDK
variable {ck sk : Nat} {Q : ZO → ZH → Prop} {i j n : Int} {u u' : ZV} {μ ν : ZU} {h X : ZH} {f g : Nat → ZV}
theorem zset_s3 {k k' : Nat} {i i' : Int} {e e' e'' : ZE} (hk : k ≠ k') : zset (zset (zset h k i e) k' i' e') k i e'' = zset (zset h k' i' e') k i e'' := by
  funext p q
  unfold zset
  by_cases h1 : p = k ∧ q = i
  · rw [if_pos h1, if_pos h1]
  · rw [if_neg h1, if_neg h1, if_neg h1]
def HMd (h : ZH) : ZH := zset (zset (zset (zset (zset (zset (zset (zset (zset (zset (zset (zset (h) 101 0 (.inr (.long, 60, fun _ => zL 0))) 102 0 (.inr (.int, 7, fun _ => zI 0))) 103 0 (.inr (.int, 52, fun _ => zI 0))) 104 0 (.inr (.long, 40, fun _ => zL 0))) 105 0 (.inr (.int, 11, fun _ => zI 0))) 106 0 (.inr (.int, 19, fun _ => zI 0))) 107 0 (.inr (.int, 5, fun _ => zI 0))) 108 0 (.inr (.int, 41, fun _ => zI 0))) 109 0 (.inr (.int, 41, fun _ => zI 0))) 110 0 (.inr (.int, 40, fun _ => zI 0))) 111 0 (.inr (.int, 6, fun _ => zI 0))) 112 0 (.inr (.long, 60, fun _ => zL 0))
def HPr (h : ZH) : ZH := zset (zset (zset (zset (zset (zset (HS h 0) 61 0 a60) 62 0 a60) 63 0 a60) 64 0 (.inr (.int, 61, fun _ => zI 0))) 65 0 a60) 66 0 (.inr (.int, 12, fun _ => zI 0))
def obP : Nat → ZV := zupN (zupN (zupN (zupN (zupN (zupN (zupN (zfd 6) 0 (zR 50 0)) 1 (zR 61 0)) 2 (zR 62 0)) 3 (zR 63 0)) 4 (zR 64 0)) 5 (zR 65 0)) 6 (zR 66 0)
theorem i17 (hf : ∀ k, 50 ≤ k → k ≤ 66 → h k 0 = none) (q : Q (.inl none) (zset (HPr (zset h 8 0 (.inl (6, zfd 6)))) 8 0 (.inl (6, obP)))) : G 17 0 [zR 8 0] [] (zset h 8 0 (.inl (6, zfd 6))) 13 685 Q := by
  have f1 : ∀ k, 50 ≤ k → k ≤ 66 → zset h 8 0 (.inl (6, zfd 6)) k 0 = none := fun k h1 h2 => by rw [zset_k (by omega)]; exact hf k h1 h2
  simp (disch := first | omega | (simp (disch := decide) only [zmu0, mu_g, List.length_nil, List.length_cons]; omega)) only [g17_0, g17_1, g17_4, g17_8, g17_8r, g17_9, g17_12, g17_15, g17_16, g17_20, g17_23, g17_24, g17_28, g17_31, g17_32, g17_36, g17_39, g17_40, g17_44, g17_47, g17_48, g17_52, g17_55, g17_56, g17_60, g17_63, Nat.sub_zero, Int.reduceSub, Int.reduceAdd, Int.add_zero, Int.zero_add, Int.cast_ofNat_Int, Bool.false_eq_true, decide_true, decide_false, zbndI, zbwI, zbzI, zb1I, zoA_at, gback_v, gback_n, zem, zisr, zro_at, zrl_at, mu_g, mu_at, mu_mu, mu_self, not_true, not_false_iff, zb0, zb1, zbnd, zbw, zbz, zne1, zone, mrgI, List.length_nil, List.length_cons, Nat.reduceAdd, Nat.reduceSub, Nat.reduceLeDiff, Nat.zero_le, and_true, true_and, false_and, and_false, true_or, or_true, false_or, or_false, G_ite, z10, z1n, z1and, z1or, z0not, z0and, itn, if_true, if_false, reduceIte, Int.reduceEq, Int.reduceLT, Int.reduceNeg, Nat.reduceEqDiff, ite_self]
  rw [g17_5]
  refine ⟨⟨trivial, by decide, by decide⟩, 50, 0, by decide, f1 50 (by decide) (by decide), ?_⟩
  simp (disch := first | omega | (simp (disch := decide) only [zmu0, mu_g, List.length_nil, List.length_cons]; omega)) only [g17_0, g17_1, g17_4, g17_8, g17_8r, g17_9, g17_12, g17_15, g17_16, g17_20, g17_23, g17_24, g17_28, g17_31, g17_32, g17_36, g17_39, g17_40, g17_44, g17_47, g17_48, g17_52, g17_55, g17_56, g17_60, g17_63, Nat.sub_zero, Int.reduceSub, Int.reduceAdd, Int.add_zero, Int.zero_add, Int.cast_ofNat_Int, Bool.false_eq_true, decide_true, decide_false, zbndI, zbwI, zbzI, zb1I, zoA_at, gback_v, gback_n, zem, zisr, zro_at, zrl_at, mu_g, mu_at, mu_mu, mu_self, not_true, not_false_iff, zb0, zb1, zbnd, zbw, zbz, zne1, zone, mrgI, List.length_nil, List.length_cons, Nat.reduceAdd, Nat.reduceSub, Nat.reduceLeDiff, Nat.zero_le, and_true, true_and, false_and, and_false, true_or, or_true, false_or, or_false, G_ite, z10, z1n, z1and, z1or, z0not, z0and, itn, if_true, if_false, reduceIte, Int.reduceEq, Int.reduceLT, Int.reduceNeg, Nat.reduceEqDiff, ite_self, zGO_s]
  refine i35 zset_at (by rw [zset_k (by decide)]; exact f1 51 (by decide) (by decide)) (by rw [zset_k (by decide)]; exact f1 52 (by decide) (by decide)) (by rw [zset_k (by decide)]; exact f1 53 (by decide) (by decide)) (by rw [zset_k (by decide)]; exact f1 54 (by decide) (by decide)) (by rw [zset_k (by decide)]; exact f1 55 (by decide) (by decide)) (by rw [zset_k (by decide)]; exact f1 56 (by decide) (by decide)) ?_
  rw [gback_n, zset_zset]
  have eS : zset (zset (zset (zset (zset (zset (zset (zset h 8 0 (.inl (6, zfd 6))) 50 0 (zfS 0)) 51 0 a60) 52 0 a60) 53 0 a60) 54 0 a60) 55 0 a60) 56 0 a60 = HS (zset h 8 0 (.inl (6, zfd 6))) 0 := rfl
  rw [eS]
  have g8 : HS (zset h 8 0 (.inl (6, zfd 6))) 0 8 0 = some (.inl (6, zfd 6)) := by
    unfold HS
    simp (disch := decide) only [zset_k]
    exact zset_at
  have gS : ∀ k, 57 ≤ k → k ≤ 66 → HS (zset h 8 0 (.inl (6, zfd 6))) 0 k 0 = none := fun k h1 h2 => by
    unfold HS
    rw [zset_k (by omega), zset_k (by omega), zset_k (by omega), zset_k (by omega), zset_k (by omega), zset_k (by omega), zset_k (by omega)]
    exact f1 k (by omega) h2
  generalize hH : HS (zset h 8 0 (.inl (6, zfd 6))) 0 = H at *
  simp (disch := first | omega | (simp (disch := decide) only [zmu0, mu_g, List.length_nil, List.length_cons]; omega)) only [g17_0, g17_1, g17_4, g17_8, g17_8r, g17_9, g17_12, g17_15, g17_16, g17_20, g17_23, g17_24, g17_28, g17_31, g17_32, g17_36, g17_39, g17_40, g17_44, g17_47, g17_48, g17_52, g17_55, g17_56, g17_60, g17_63, Nat.sub_zero, Int.reduceSub, Int.reduceAdd, Int.add_zero, Int.zero_add, Int.cast_ofNat_Int, Bool.false_eq_true, decide_true, decide_false, zbndI, zbwI, zbzI, zb1I, zoA_at, gback_v, gback_n, zem, zisr, zro_at, zrl_at, mu_g, mu_at, mu_mu, mu_self, not_true, not_false_iff, zb0, zb1, zbnd, zbw, zbz, zne1, zone, mrgI, List.length_nil, List.length_cons, Nat.reduceAdd, Nat.reduceSub, Nat.reduceLeDiff, Nat.zero_le, and_true, true_and, false_and, and_false, true_or, or_true, false_or, or_false, G_ite, z10, z1n, z1and, z1or, z0not, z0and, itn, if_true, if_false, reduceIte, Int.reduceEq, Int.reduceLT, Int.reduceNeg, Nat.reduceEqDiff, ite_self, zGF_o g8]
  rw [g17_18]
  refine ⟨⟨⟨by decide, by decide⟩, by decide, by decide⟩, 61, 0, by decide, by simp (disch := decide) only [zset_k]; exact gS 61 (by decide) (by decide), ?_⟩
  simp (disch := first | omega | (simp (disch := decide) only [zmu0, mu_g, List.length_nil, List.length_cons]; omega)) only [g17_0, g17_1, g17_4, g17_8, g17_8r, g17_9, g17_12, g17_15, g17_16, g17_20, g17_23, g17_24, g17_28, g17_31, g17_32, g17_36, g17_39, g17_40, g17_44, g17_47, g17_48, g17_52, g17_55, g17_56, g17_60, g17_63, Nat.sub_zero, Int.reduceSub, Int.reduceAdd, Int.add_zero, Int.zero_add, Int.cast_ofNat_Int, Bool.false_eq_true, decide_true, decide_false, zbndI, zbwI, zbzI, zb1I, zoA_at, gback_v, gback_n, zem, zisr, zro_at, zrl_at, mu_g, mu_at, mu_mu, mu_self, not_true, not_false_iff, zb0, zb1, zbnd, zbw, zbz, zne1, zone, mrgI, List.length_nil, List.length_cons, Nat.reduceAdd, Nat.reduceSub, Nat.reduceLeDiff, Nat.zero_le, and_true, true_and, false_and, and_false, true_or, or_true, false_or, or_false, G_ite, z10, z1n, z1and, z1or, z0not, z0and, itn, if_true, if_false, reduceIte, Int.reduceEq, Int.reduceLT, Int.reduceNeg, Nat.reduceEqDiff, ite_self, zGF_n, zGF_s, zset_s3, Int.reduceToNat]
  rw [g17_26]
  refine ⟨⟨⟨by decide, by decide⟩, by decide, by decide⟩, 62, 0, by decide, by simp (disch := decide) only [zset_k]; exact gS 62 (by decide) (by decide), ?_⟩
  simp (disch := first | omega | (simp (disch := decide) only [zmu0, mu_g, List.length_nil, List.length_cons]; omega)) only [g17_0, g17_1, g17_4, g17_8, g17_8r, g17_9, g17_12, g17_15, g17_16, g17_20, g17_23, g17_24, g17_28, g17_31, g17_32, g17_36, g17_39, g17_40, g17_44, g17_47, g17_48, g17_52, g17_55, g17_56, g17_60, g17_63, Nat.sub_zero, Int.reduceSub, Int.reduceAdd, Int.add_zero, Int.zero_add, Int.cast_ofNat_Int, Bool.false_eq_true, decide_true, decide_false, zbndI, zbwI, zbzI, zb1I, zoA_at, gback_v, gback_n, zem, zisr, zro_at, zrl_at, mu_g, mu_at, mu_mu, mu_self, not_true, not_false_iff, zb0, zb1, zbnd, zbw, zbz, zne1, zone, mrgI, List.length_nil, List.length_cons, Nat.reduceAdd, Nat.reduceSub, Nat.reduceLeDiff, Nat.zero_le, and_true, true_and, false_and, and_false, true_or, or_true, false_or, or_false, G_ite, z10, z1n, z1and, z1or, z0not, z0and, itn, if_true, if_false, reduceIte, Int.reduceEq, Int.reduceLT, Int.reduceNeg, Nat.reduceEqDiff, ite_self, zGF_n, zGF_s, zset_s3, Int.reduceToNat]
  rw [g17_34]
  refine ⟨⟨⟨by decide, by decide⟩, by decide, by decide⟩, 63, 0, by decide, by simp (disch := decide) only [zset_k]; exact gS 63 (by decide) (by decide), ?_⟩
  simp (disch := first | omega | (simp (disch := decide) only [zmu0, mu_g, List.length_nil, List.length_cons]; omega)) only [g17_0, g17_1, g17_4, g17_8, g17_8r, g17_9, g17_12, g17_15, g17_16, g17_20, g17_23, g17_24, g17_28, g17_31, g17_32, g17_36, g17_39, g17_40, g17_44, g17_47, g17_48, g17_52, g17_55, g17_56, g17_60, g17_63, Nat.sub_zero, Int.reduceSub, Int.reduceAdd, Int.add_zero, Int.zero_add, Int.cast_ofNat_Int, Bool.false_eq_true, decide_true, decide_false, zbndI, zbwI, zbzI, zb1I, zoA_at, gback_v, gback_n, zem, zisr, zro_at, zrl_at, mu_g, mu_at, mu_mu, mu_self, not_true, not_false_iff, zb0, zb1, zbnd, zbw, zbz, zne1, zone, mrgI, List.length_nil, List.length_cons, Nat.reduceAdd, Nat.reduceSub, Nat.reduceLeDiff, Nat.zero_le, and_true, true_and, false_and, and_false, true_or, or_true, false_or, or_false, G_ite, z10, z1n, z1and, z1or, z0not, z0and, itn, if_true, if_false, reduceIte, Int.reduceEq, Int.reduceLT, Int.reduceNeg, Nat.reduceEqDiff, ite_self, zGF_n, zGF_s, zset_s3, Int.reduceToNat]
  rw [g17_42]
  refine ⟨⟨⟨by decide, by decide⟩, by decide, by decide⟩, 64, 0, by decide, by simp (disch := decide) only [zset_k]; exact gS 64 (by decide) (by decide), ?_⟩
  simp (disch := first | omega | (simp (disch := decide) only [zmu0, mu_g, List.length_nil, List.length_cons]; omega)) only [g17_0, g17_1, g17_4, g17_8, g17_8r, g17_9, g17_12, g17_15, g17_16, g17_20, g17_23, g17_24, g17_28, g17_31, g17_32, g17_36, g17_39, g17_40, g17_44, g17_47, g17_48, g17_52, g17_55, g17_56, g17_60, g17_63, Nat.sub_zero, Int.reduceSub, Int.reduceAdd, Int.add_zero, Int.zero_add, Int.cast_ofNat_Int, Bool.false_eq_true, decide_true, decide_false, zbndI, zbwI, zbzI, zb1I, zoA_at, gback_v, gback_n, zem, zisr, zro_at, zrl_at, mu_g, mu_at, mu_mu, mu_self, not_true, not_false_iff, zb0, zb1, zbnd, zbw, zbz, zne1, zone, mrgI, List.length_nil, List.length_cons, Nat.reduceAdd, Nat.reduceSub, Nat.reduceLeDiff, Nat.zero_le, and_true, true_and, false_and, and_false, true_or, or_true, false_or, or_false, G_ite, z10, z1n, z1and, z1or, z0not, z0and, itn, if_true, if_false, reduceIte, Int.reduceEq, Int.reduceLT, Int.reduceNeg, Nat.reduceEqDiff, ite_self, zGF_n, zGF_s, zset_s3, Int.reduceToNat]
  rw [g17_50]
  refine ⟨⟨⟨by decide, by decide⟩, by decide, by decide⟩, 65, 0, by decide, by simp (disch := decide) only [zset_k]; exact gS 65 (by decide) (by decide), ?_⟩
  simp (disch := first | omega | (simp (disch := decide) only [zmu0, mu_g, List.length_nil, List.length_cons]; omega)) only [g17_0, g17_1, g17_4, g17_8, g17_8r, g17_9, g17_12, g17_15, g17_16, g17_20, g17_23, g17_24, g17_28, g17_31, g17_32, g17_36, g17_39, g17_40, g17_44, g17_47, g17_48, g17_52, g17_55, g17_56, g17_60, g17_63, Nat.sub_zero, Int.reduceSub, Int.reduceAdd, Int.add_zero, Int.zero_add, Int.cast_ofNat_Int, Bool.false_eq_true, decide_true, decide_false, zbndI, zbwI, zbzI, zb1I, zoA_at, gback_v, gback_n, zem, zisr, zro_at, zrl_at, mu_g, mu_at, mu_mu, mu_self, not_true, not_false_iff, zb0, zb1, zbnd, zbw, zbz, zne1, zone, mrgI, List.length_nil, List.length_cons, Nat.reduceAdd, Nat.reduceSub, Nat.reduceLeDiff, Nat.zero_le, and_true, true_and, false_and, and_false, true_or, or_true, false_or, or_false, G_ite, z10, z1n, z1and, z1or, z0not, z0and, itn, if_true, if_false, reduceIte, Int.reduceEq, Int.reduceLT, Int.reduceNeg, Nat.reduceEqDiff, ite_self, zGF_n, zGF_s, zset_s3, Int.reduceToNat]
  rw [g17_58]
  refine ⟨⟨⟨by decide, by decide⟩, by decide, by decide⟩, 66, 0, by decide, by simp (disch := decide) only [zset_k]; exact gS 66 (by decide) (by decide), ?_⟩
  simp (disch := first | omega | (simp (disch := decide) only [zmu0, mu_g, List.length_nil, List.length_cons]; omega)) only [g17_0, g17_1, g17_4, g17_8, g17_8r, g17_9, g17_12, g17_15, g17_16, g17_20, g17_23, g17_24, g17_28, g17_31, g17_32, g17_36, g17_39, g17_40, g17_44, g17_47, g17_48, g17_52, g17_55, g17_56, g17_60, g17_63, Nat.sub_zero, Int.reduceSub, Int.reduceAdd, Int.add_zero, Int.zero_add, Int.cast_ofNat_Int, Bool.false_eq_true, decide_true, decide_false, zbndI, zbwI, zbzI, zb1I, zoA_at, gback_v, gback_n, zem, zisr, zro_at, zrl_at, mu_g, mu_at, mu_mu, mu_self, not_true, not_false_iff, zb0, zb1, zbnd, zbw, zbz, zne1, zone, mrgI, List.length_nil, List.length_cons, Nat.reduceAdd, Nat.reduceSub, Nat.reduceLeDiff, Nat.zero_le, and_true, true_and, false_and, and_false, true_or, or_true, false_or, or_false, G_ite, z10, z1n, z1and, z1or, z0not, z0and, itn, if_true, if_false, reduceIte, Int.reduceEq, Int.reduceLT, Int.reduceNeg, Nat.reduceEqDiff, ite_self, zGF_n, zGF_s, zset_s3, Int.reduceToNat]
  unfold HPr at q
  rw [hH] at q
  exact q
abbrev oar (c m : Nat) : ZE := .inr (.object (zcn c), m, fun _ => zN)
def obB5 : Nat → ZV := zupN (zupN (zupN (zupN (zupN (zfd 8) 0 (zR 3 0)) 1 (zR 4 0)) 2 (zR 5 0)) 3 (zR 6 0)) 4 (zR 7 0)
def obB : Nat → ZV := zupN (zupN (zupN (zupN (zupN (zupN (zfd 8) 0 (zR 3 0)) 1 (zR 4 0)) 2 (zR 5 0)) 3 (zR 6 0)) 4 (zR 7 0)) 5 (zR 8 0)
def HBx (h : ZH) : ZH := zset (HPr (zset (zset (zset (zset (zset (zset (zset h 3 0 (oar 5 24)) 4 0 (oar 3 12)) 5 0 (oar 1 6)) 6 0 (oar 4 40)) 7 0 (.inr (.int, 4, fun _ => zI 0))) 2 0 (.inl (8, obB5))) 8 0 (.inl (6, zfd 6)))) 8 0 (.inl (6, obP))
theorem HPr_GF {k c : Nat} {F : (Nat → ZV) → Prop} (hk : k < 50) : zGF (HPr h) k i c F ↔ zGF h k i c F := by
  unfold HPr HS
  rw [zGF_n (by omega), zGF_n (by omega), zGF_n (by omega), zGF_n (by omega), zGF_n (by omega), zGF_n (by omega), zGF_n (by omega), zGF_n (by omega), zGF_n (by omega), zGF_n (by omega), zGF_n (by omega), zGF_n (by omega), zGF_n (by omega)]
theorem i43 (hf : ∀ k, 3 ≤ k → k ≤ 66 → h k 0 = none) (q : Q (.inl none) (zset (HBx h) 2 0 (.inl (8, obB)))) : G 43 0 [zR 2 0] [] (zset h 2 0 (.inl (8, zfd 8))) 19 778 Q := by
  simp (disch := first | omega | (simp (disch := decide) only [zmu0, mu_g, List.length_nil, List.length_cons]; omega)) only [g43_0, g43_1, g43_4, g43_5, g43_10, g43_13, g43_14, g43_19, g43_22, g43_23, g43_28, g43_31, g43_32, g43_37, g43_40, g43_41, g43_44, g43_47, g43_51, g43_51r, g43_55, g43_58, Nat.sub_zero, Int.reduceSub, Int.reduceAdd, Int.add_zero, Int.zero_add, Int.cast_ofNat_Int, Bool.false_eq_true, decide_true, decide_false, zbndI, zbwI, zbzI, zb1I, zoA_at, gback_v, gback_n, zem, zisr, zro_at, zrl_at, mu_g, mu_at, mu_mu, mu_self, not_true, not_false_iff, zb0, zb1, zbnd, zbw, zbz, zne1, zone, mrgI, List.length_nil, List.length_cons, Nat.reduceAdd, Nat.reduceSub, Nat.reduceLeDiff, Nat.zero_le, and_true, true_and, false_and, and_false, true_or, or_true, false_or, or_false, G_ite, z10, z1n, z1and, z1or, z0not, z0and, itn, if_true, if_false, reduceIte, Int.reduceEq, Int.reduceLT, Int.reduceNeg, Nat.reduceEqDiff, ite_self]
  rw [g43_7]
  refine ⟨⟨⟨by decide, by decide⟩, by decide, by decide⟩, 3, 0, by decide, by simp (disch := decide) only [zset_k]; exact hf 3 (by decide) (by decide), ?_⟩
  simp (disch := first | omega | (simp (disch := decide) only [zmu0, mu_g, List.length_nil, List.length_cons]; omega)) only [g43_0, g43_1, g43_4, g43_5, g43_10, g43_13, g43_14, g43_19, g43_22, g43_23, g43_28, g43_31, g43_32, g43_37, g43_40, g43_41, g43_44, g43_47, g43_51, g43_51r, g43_55, g43_58, Nat.sub_zero, Int.reduceSub, Int.reduceAdd, Int.add_zero, Int.zero_add, Int.cast_ofNat_Int, Bool.false_eq_true, decide_true, decide_false, zbndI, zbwI, zbzI, zb1I, zoA_at, gback_v, gback_n, zem, zisr, zro_at, zrl_at, mu_g, mu_at, mu_mu, mu_self, not_true, not_false_iff, zb0, zb1, zbnd, zbw, zbz, zne1, zone, mrgI, List.length_nil, List.length_cons, Nat.reduceAdd, Nat.reduceSub, Nat.reduceLeDiff, Nat.zero_le, and_true, true_and, false_and, and_false, true_or, or_true, false_or, or_false, G_ite, z10, z1n, z1and, z1or, z0not, z0and, itn, if_true, if_false, reduceIte, Int.reduceEq, Int.reduceLT, Int.reduceNeg, Nat.reduceEqDiff, ite_self, zGF_n, zGF_s, zset_s3, Int.reduceToNat]
  rw [g43_16]
  refine ⟨⟨⟨by decide, by decide⟩, by decide, by decide⟩, 4, 0, by decide, by simp (disch := decide) only [zset_k]; exact hf 4 (by decide) (by decide), ?_⟩
  simp (disch := first | omega | (simp (disch := decide) only [zmu0, mu_g, List.length_nil, List.length_cons]; omega)) only [g43_0, g43_1, g43_4, g43_5, g43_10, g43_13, g43_14, g43_19, g43_22, g43_23, g43_28, g43_31, g43_32, g43_37, g43_40, g43_41, g43_44, g43_47, g43_51, g43_51r, g43_55, g43_58, Nat.sub_zero, Int.reduceSub, Int.reduceAdd, Int.add_zero, Int.zero_add, Int.cast_ofNat_Int, Bool.false_eq_true, decide_true, decide_false, zbndI, zbwI, zbzI, zb1I, zoA_at, gback_v, gback_n, zem, zisr, zro_at, zrl_at, mu_g, mu_at, mu_mu, mu_self, not_true, not_false_iff, zb0, zb1, zbnd, zbw, zbz, zne1, zone, mrgI, List.length_nil, List.length_cons, Nat.reduceAdd, Nat.reduceSub, Nat.reduceLeDiff, Nat.zero_le, and_true, true_and, false_and, and_false, true_or, or_true, false_or, or_false, G_ite, z10, z1n, z1and, z1or, z0not, z0and, itn, if_true, if_false, reduceIte, Int.reduceEq, Int.reduceLT, Int.reduceNeg, Nat.reduceEqDiff, ite_self, zGF_n, zGF_s, zset_s3, Int.reduceToNat]
  rw [g43_25]
  refine ⟨⟨⟨by decide, by decide⟩, by decide, by decide⟩, 5, 0, by decide, by simp (disch := decide) only [zset_k]; exact hf 5 (by decide) (by decide), ?_⟩
  simp (disch := first | omega | (simp (disch := decide) only [zmu0, mu_g, List.length_nil, List.length_cons]; omega)) only [g43_0, g43_1, g43_4, g43_5, g43_10, g43_13, g43_14, g43_19, g43_22, g43_23, g43_28, g43_31, g43_32, g43_37, g43_40, g43_41, g43_44, g43_47, g43_51, g43_51r, g43_55, g43_58, Nat.sub_zero, Int.reduceSub, Int.reduceAdd, Int.add_zero, Int.zero_add, Int.cast_ofNat_Int, Bool.false_eq_true, decide_true, decide_false, zbndI, zbwI, zbzI, zb1I, zoA_at, gback_v, gback_n, zem, zisr, zro_at, zrl_at, mu_g, mu_at, mu_mu, mu_self, not_true, not_false_iff, zb0, zb1, zbnd, zbw, zbz, zne1, zone, mrgI, List.length_nil, List.length_cons, Nat.reduceAdd, Nat.reduceSub, Nat.reduceLeDiff, Nat.zero_le, and_true, true_and, false_and, and_false, true_or, or_true, false_or, or_false, G_ite, z10, z1n, z1and, z1or, z0not, z0and, itn, if_true, if_false, reduceIte, Int.reduceEq, Int.reduceLT, Int.reduceNeg, Nat.reduceEqDiff, ite_self, zGF_n, zGF_s, zset_s3, Int.reduceToNat]
  rw [g43_34]
  refine ⟨⟨⟨by decide, by decide⟩, by decide, by decide⟩, 6, 0, by decide, by simp (disch := decide) only [zset_k]; exact hf 6 (by decide) (by decide), ?_⟩
  simp (disch := first | omega | (simp (disch := decide) only [zmu0, mu_g, List.length_nil, List.length_cons]; omega)) only [g43_0, g43_1, g43_4, g43_5, g43_10, g43_13, g43_14, g43_19, g43_22, g43_23, g43_28, g43_31, g43_32, g43_37, g43_40, g43_41, g43_44, g43_47, g43_51, g43_51r, g43_55, g43_58, Nat.sub_zero, Int.reduceSub, Int.reduceAdd, Int.add_zero, Int.zero_add, Int.cast_ofNat_Int, Bool.false_eq_true, decide_true, decide_false, zbndI, zbwI, zbzI, zb1I, zoA_at, gback_v, gback_n, zem, zisr, zro_at, zrl_at, mu_g, mu_at, mu_mu, mu_self, not_true, not_false_iff, zb0, zb1, zbnd, zbw, zbz, zne1, zone, mrgI, List.length_nil, List.length_cons, Nat.reduceAdd, Nat.reduceSub, Nat.reduceLeDiff, Nat.zero_le, and_true, true_and, false_and, and_false, true_or, or_true, false_or, or_false, G_ite, z10, z1n, z1and, z1or, z0not, z0and, itn, if_true, if_false, reduceIte, Int.reduceEq, Int.reduceLT, Int.reduceNeg, Nat.reduceEqDiff, ite_self, zGF_n, zGF_s, zset_s3, Int.reduceToNat]
  rw [g43_42]
  refine ⟨⟨⟨by decide, by decide⟩, by decide, by decide⟩, 7, 0, by decide, by simp (disch := decide) only [zset_k]; exact hf 7 (by decide) (by decide), ?_⟩
  simp (disch := first | omega | (simp (disch := decide) only [zmu0, mu_g, List.length_nil, List.length_cons]; omega)) only [g43_0, g43_1, g43_4, g43_5, g43_10, g43_13, g43_14, g43_19, g43_22, g43_23, g43_28, g43_31, g43_32, g43_37, g43_40, g43_41, g43_44, g43_47, g43_51, g43_51r, g43_55, g43_58, Nat.sub_zero, Int.reduceSub, Int.reduceAdd, Int.add_zero, Int.zero_add, Int.cast_ofNat_Int, Bool.false_eq_true, decide_true, decide_false, zbndI, zbwI, zbzI, zb1I, zoA_at, gback_v, gback_n, zem, zisr, zro_at, zrl_at, mu_g, mu_at, mu_mu, mu_self, not_true, not_false_iff, zb0, zb1, zbnd, zbw, zbz, zne1, zone, mrgI, List.length_nil, List.length_cons, Nat.reduceAdd, Nat.reduceSub, Nat.reduceLeDiff, Nat.zero_le, and_true, true_and, false_and, and_false, true_or, or_true, false_or, or_false, G_ite, z10, z1n, z1and, z1or, z0not, z0and, itn, if_true, if_false, reduceIte, Int.reduceEq, Int.reduceLT, Int.reduceNeg, Nat.reduceEqDiff, ite_self, zGF_n, zGF_s, zset_s3, Int.reduceToNat]
  rw [g43_48]
  refine ⟨⟨trivial, by decide, by decide⟩, 8, 0, by decide, by simp (disch := decide) only [zset_k]; exact hf 8 (by decide) (by decide), ?_⟩
  rw [g43_51r, g43_52]
  refine ⟨⟨by decide, by decide, by simp only [List.length_cons, List.length_nil]; omega, zGO_s.mpr trivial⟩, ?_⟩
  refine i17 (fun k h1 h2 => by
    rw [zset_k (by omega), zset_k (by omega), zset_k (by omega), zset_k (by omega), zset_k (by omega), zset_k (by omega)]
    exact hf k (by omega) h2) ?_
  rw [gback_n, g43_55, zGF_n (by decide), HPr_GF (by decide), zGF_n (by decide), zGF_s]
  refine ⟨by decide, ?_⟩
  rw [g43_58]
  exact q
def mI (L : Nat) (xs : Nat → Int32) : ZU := fun k p j => if k = 0 then (if p = 0 ∧ j = 50 then 1 else if p = 2 ∧ j = 0 then (L : Int) else 0) else if k = 1 then (xs j.toNat).toInt else 0
theorem zbdI {L : Nat} {xs : Nat → Int32} {c : Nat} {p : Int} (h0 : 0 ≤ p) (h1 : p < zbd (mI L xs) c) : p = 0 ∧ (c = 0 ∨ c = 50) := by
  match c with
  | 0 => exact ⟨by have h2 : p < 1 := h1; omega, Or.inl rfl⟩
  | c + 1 =>
    have h2 : p < (if (0 : Nat) = 0 then (if (0 : Int) = 0 ∧ ((c + 1 : Nat) : Int) = 50 then 1 else if (0 : Int) = 2 ∧ ((c + 1 : Nat) : Int) = 0 then (L : Int) else 0) else 0) := h1
    rw [if_pos rfl] at h2
    by_cases h3 : ((c + 1 : Nat) : Int) = 50
    · rw [if_pos ⟨rfl, h3⟩] at h2
      omega
    · rw [if_neg (fun z => h3 z.2), if_neg (fun z => absurd z.1 (by decide))] at h2
      omega
theorem HM_a {μ : ZU} {k : Nat} {t : FieldType} {n : Nat} {c : Nat} {i : Int} (h : zkl zKA k = some (t, n, c)) (hb : 0 ≤ i ∧ i < zbd μ c) : HM μ k i = some (.inr (t, n, fun j => zel t (μ k i j))) := by
  unfold HM
  rw [h]
  exact if_pos hb
theorem HM_o {μ : ZU} {k n c : Nat} {i : Int} (h : zkl zKO k = some (c, n)) (hb : 0 ≤ i ∧ i < zbd μ n) (ha : zkl zKA k = none := by rfl) : HM μ k i = some (.inl (c, zfl μ k i)) := by
  unfold HM
  rw [ha, h]
  exact if_pos hb
theorem HM_st {L : Nat} {xs : Nat → Int32} : HMd (zset (HBx (zSC L xs)) 2 0 (.inl (8, obB))) = HM (mI L xs) := by
  have e7 : HM (mI L xs) 7 0 = some (.inr (.int, 4, fun _ => zI 0)) := HM_a rfl ⟨by decide, by show (0 : Int) < 1; decide⟩
  have e51 : HM (mI L xs) 51 0 = some (.inr (.int, 60, fun _ => zI 0)) := HM_a rfl ⟨by decide, by show (0 : Int) < 1; decide⟩
  have e52 : HM (mI L xs) 52 0 = some (.inr (.int, 60, fun _ => zI 0)) := HM_a rfl ⟨by decide, by show (0 : Int) < 1; decide⟩
  have e53 : HM (mI L xs) 53 0 = some (.inr (.int, 60, fun _ => zI 0)) := HM_a rfl ⟨by decide, by show (0 : Int) < 1; decide⟩
  have e54 : HM (mI L xs) 54 0 = some (.inr (.int, 60, fun _ => zI 0)) := HM_a rfl ⟨by decide, by show (0 : Int) < 1; decide⟩
  have e55 : HM (mI L xs) 55 0 = some (.inr (.int, 60, fun _ => zI 0)) := HM_a rfl ⟨by decide, by show (0 : Int) < 1; decide⟩
  have e56 : HM (mI L xs) 56 0 = some (.inr (.int, 60, fun _ => zI 0)) := HM_a rfl ⟨by decide, by show (0 : Int) < 1; decide⟩
  have e61 : HM (mI L xs) 61 0 = some (.inr (.int, 60, fun _ => zI 0)) := HM_a rfl ⟨by decide, by show (0 : Int) < 1; decide⟩
  have e62 : HM (mI L xs) 62 0 = some (.inr (.int, 60, fun _ => zI 0)) := HM_a rfl ⟨by decide, by show (0 : Int) < 1; decide⟩
  have e63 : HM (mI L xs) 63 0 = some (.inr (.int, 60, fun _ => zI 0)) := HM_a rfl ⟨by decide, by show (0 : Int) < 1; decide⟩
  have e64 : HM (mI L xs) 64 0 = some (.inr (.int, 61, fun _ => zI 0)) := HM_a rfl ⟨by decide, by show (0 : Int) < 1; decide⟩
  have e65 : HM (mI L xs) 65 0 = some (.inr (.int, 60, fun _ => zI 0)) := HM_a rfl ⟨by decide, by show (0 : Int) < 1; decide⟩
  have e66 : HM (mI L xs) 66 0 = some (.inr (.int, 12, fun _ => zI 0)) := HM_a rfl ⟨by decide, by show (0 : Int) < 1; decide⟩
  have e101 : HM (mI L xs) 101 0 = some (.inr (.long, 60, fun _ => zL 0)) := HM_a rfl ⟨by decide, by show (0 : Int) < 1; decide⟩
  have e102 : HM (mI L xs) 102 0 = some (.inr (.int, 7, fun _ => zI 0)) := HM_a rfl ⟨by decide, by show (0 : Int) < 1; decide⟩
  have e103 : HM (mI L xs) 103 0 = some (.inr (.int, 52, fun _ => zI 0)) := HM_a rfl ⟨by decide, by show (0 : Int) < 1; decide⟩
  have e104 : HM (mI L xs) 104 0 = some (.inr (.long, 40, fun _ => zL 0)) := HM_a rfl ⟨by decide, by show (0 : Int) < 1; decide⟩
  have e105 : HM (mI L xs) 105 0 = some (.inr (.int, 11, fun _ => zI 0)) := HM_a rfl ⟨by decide, by show (0 : Int) < 1; decide⟩
  have e106 : HM (mI L xs) 106 0 = some (.inr (.int, 19, fun _ => zI 0)) := HM_a rfl ⟨by decide, by show (0 : Int) < 1; decide⟩
  have e107 : HM (mI L xs) 107 0 = some (.inr (.int, 5, fun _ => zI 0)) := HM_a rfl ⟨by decide, by show (0 : Int) < 1; decide⟩
  have e108 : HM (mI L xs) 108 0 = some (.inr (.int, 41, fun _ => zI 0)) := HM_a rfl ⟨by decide, by show (0 : Int) < 1; decide⟩
  have e109 : HM (mI L xs) 109 0 = some (.inr (.int, 41, fun _ => zI 0)) := HM_a rfl ⟨by decide, by show (0 : Int) < 1; decide⟩
  have e110 : HM (mI L xs) 110 0 = some (.inr (.int, 40, fun _ => zI 0)) := HM_a rfl ⟨by decide, by show (0 : Int) < 1; decide⟩
  have e111 : HM (mI L xs) 111 0 = some (.inr (.int, 6, fun _ => zI 0)) := HM_a rfl ⟨by decide, by show (0 : Int) < 1; decide⟩
  have e112 : HM (mI L xs) 112 0 = some (.inr (.long, 60, fun _ => zL 0)) := HM_a rfl ⟨by decide, by show (0 : Int) < 1; decide⟩
  have e3 : HM (mI L xs) 3 0 = some (oar 5 24) := by
    have e : HM (mI L xs) 3 0 = some (.inr (.object (zcn 5), 24, zoA 10 0)) := rfl
    rw [e, zoA_0]
  have e4 : HM (mI L xs) 4 0 = some (oar 3 12) := by
    have e : HM (mI L xs) 4 0 = some (.inr (.object (zcn 3), 12, zoA 20 0)) := rfl
    rw [e, zoA_0]
  have e5 : HM (mI L xs) 5 0 = some (oar 1 6) := by
    have e : HM (mI L xs) 5 0 = some (.inr (.object (zcn 1), 6, zoA 30 0)) := rfl
    rw [e, zoA_0]
  have e6 : HM (mI L xs) 6 0 = some (oar 4 40) := by
    have e : HM (mI L xs) 6 0 = some (.inr (.object (zcn 4), 40, zoA 40 0)) := rfl
    rw [e, zoA_0]
  have e2 : HM (mI L xs) 2 0 = some (.inl (8, obB)) := by
    have e : HM (mI L xs) 2 0 = some (.inl (8, zfl (mI L xs) 2 0)) := HM_o rfl ⟨by decide, by show (0 : Int) < 1; decide⟩
    rw [e]
    have e2 : zfl (mI L xs) 2 0 = obB := by
      funext s
      match s with
      | 0 => rfl
      | 1 => rfl
      | 2 => rfl
      | 3 => rfl
      | 4 => rfl
      | 5 => rfl
      | 6 => rfl
      | 7 => rfl
      | 8 => rfl
      | 9 => rfl
      | 10 => rfl
      | s + 11 =>
        unfold obB
        rw [zupN_n (by omega), zupN_n (by omega), zupN_n (by omega), zupN_n (by omega), zupN_n (by omega), zupN_n (by omega)]
        rfl
    rw [e2]
  have e8 : HM (mI L xs) 8 0 = some (.inl (6, obP)) := by
    have e : HM (mI L xs) 8 0 = some (.inl (6, zfl (mI L xs) 8 0)) := HM_o rfl ⟨by decide, by show (0 : Int) < 1; decide⟩
    rw [e]
    have e2 : zfl (mI L xs) 8 0 = obP := by
      funext s
      match s with
      | 0 => rfl
      | 1 => rfl
      | 2 => rfl
      | 3 => rfl
      | 4 => rfl
      | 5 => rfl
      | 6 => rfl
      | s + 7 =>
        unfold obP
        rw [zupN_n (by omega), zupN_n (by omega), zupN_n (by omega), zupN_n (by omega), zupN_n (by omega), zupN_n (by omega), zupN_n (by omega)]
        rfl
    rw [e2]
  have e50 : HM (mI L xs) 50 0 = some (.inl (7, zupN (zupN (zupN (zupN (zupN (zupN (zfd 7) 6 (zR 51 0)) 7 (zR 52 0)) 8 (zR 53 0)) 9 (zR 54 0)) 10 (zR 55 0)) 11 (zR 56 0))) := by
    have e : HM (mI L xs) 50 0 = some (.inl (7, zfl (mI L xs) 50 0)) := HM_o rfl ⟨by decide, by show (0 : Int) < 1; decide⟩
    rw [e]
    have e2 : zfl (mI L xs) 50 0 = zupN (zupN (zupN (zupN (zupN (zupN (zfd 7) 6 (zR 51 0)) 7 (zR 52 0)) 8 (zR 53 0)) 9 (zR 54 0)) 10 (zR 55 0)) 11 (zR 56 0) := by
      funext s
      match s with
      | 0 => rfl
      | 1 => rfl
      | 2 => rfl
      | 3 => rfl
      | 4 => rfl
      | 5 => rfl
      | 6 => rfl
      | 7 => rfl
      | 8 => rfl
      | 9 => rfl
      | 10 => rfl
      | 11 => rfl
      | s + 12 =>
        rw [zupN_n (by omega), zupN_n (by omega), zupN_n (by omega), zupN_n (by omega), zupN_n (by omega), zupN_n (by omega)]
        rfl
    rw [e2]
  have hz : ∀ k (p : Int), ¬ (k = 1 ∧ p = 0) → zSC L xs k p = none := fun k p hk => if_neg hk
  unfold HMd HBx HPr HS
  funext k p
  refine zset_pt e112 fun n112 => zset_pt e111 fun n111 => zset_pt e110 fun n110 => zset_pt e109 fun n109 => zset_pt e108 fun n108 => zset_pt e107 fun n107 => zset_pt e106 fun n106 => zset_pt e105 fun n105 => zset_pt e104 fun n104 => zset_pt e103 fun n103 => zset_pt e102 fun n102 => zset_pt e101 fun n101 => zset_pt e2 fun n2 => zset_pt e8 fun n8 => zset_pt e66 fun n66 => zset_pt e65 fun n65 => zset_pt e64 fun n64 => zset_pt e63 fun n63 => zset_pt e62 fun n62 => zset_pt e61 fun n61 => zset_pt e56 fun n56 => zset_pt e55 fun n55 => zset_pt e54 fun n54 => zset_pt e53 fun n53 => zset_pt e52 fun n52 => zset_pt e51 fun n51 => zset_pt e50 fun n50 => (zset_ne n8).trans ((zset_ne n2).trans (zset_pt e7 fun n7 => zset_pt e6 fun n6 => zset_pt e5 fun n5 => zset_pt e4 fun n4 => zset_pt e3 fun n3 => ?_))
  by_cases h1 : k = 1 ∧ p = 0
  · obtain ⟨rfl, rfl⟩ := h1
    rfl
  · rw [hz k p h1]
    symm
    unfold HM
    split
    · rename_i t m c hc
      refine if_neg fun z => ?_
      obtain ⟨rfl, h3⟩ := zbdI z.1 z.2
      have hm := (show ∀ x ∈ zKA, (x.2.2.2 = 0 ∨ x.2.2.2 = 50) → x.1 ∈ [7, 51, 52, 53, 54, 55, 56, 61, 62, 63, 64, 65, 66, 101, 102, 103, 104, 105, 106, 107, 108, 109, 110, 111, 112] by decide) _ (zkl_mem hc) h3
      simp only [List.mem_cons, List.not_mem_nil, or_false] at hm
      omega
    · split
      · rename_i c m hc
        refine if_neg fun z => ?_
        obtain ⟨rfl, h3⟩ := zbdI z.1 z.2
        have hm := (show ∀ x ∈ zKO, (x.2.2 = 0 ∨ x.2.2 = 50) → x.1 ∈ [2, 8, 50] by decide) _ (zkl_mem hc) h3
        simp only [List.mem_cons, List.not_mem_nil, or_false] at hm
        omega
      · split
        · rename_i c m e hc
          refine if_neg fun z => ?_
          have hm := (show ∀ x ∈ zKB, x.1 ∈ [3, 4, 5, 6] by decide) _ (zkl_mem hc)
          simp only [List.mem_cons, List.not_mem_nil, or_false] at hm
          omega
        · split
          · exact if_neg fun z => h1 ⟨rfl, by omega⟩
          · exact if_neg fun z => by have h2 : p < 0 := z.2; omega
          · rfl
end ZDK
