/-! ===== making: an image ===== -/
def zui (φ : Int → Int) (b v : Int) : Int → Int := fun j => if j = b then v else φ j
def zof (φ : Int → Int) : Int → ZV := fun j => zI (φ j)
abbrev ZTF : Type := (Int → Int) × (Int → Int) × (Int → Int)
def z3u (φ : ZTF) (b v w x : Int) : ZTF := (zui φ.1 b v, zui φ.2.1 b w, zui φ.2.2 b x)
def ov1 (μ : ZU) (b i : Int) (φ : ZTF) : ZTF := if μ 12 b i = 1 then z3u φ i 1 (μ 13 b i) (μ 14 b i) else if μ 12 b i = 2 then z3u φ i 0 0 0 else φ
def ovN (μ : ZU) (b : Int) : Nat → Int → ZTF → ZTF
  | 0, _, φ => φ
  | n + 1, i, φ => ovN μ b n (i + 1) (ov1 μ b i φ)
def stk (μ : ZU) (r : Int) : Nat → Int → ZTF → ZTF
  | 0, _, φ => φ
  | n + 1, k, φ => stk μ r n (k + 1) (ovN μ (μ 26 r k) 10 0 φ)
abbrev zfF (n : Int) : ZE := .inl (2, zupN (zupN (zupN (zfd 2) 0 (zR 22 n)) 1 (zR 23 n)) 2 (zR 24 n))
def HI (μ : ZU) (n : Int) (O : ZE) (φ : ZTF) : ZH := zset (zset (zset (zset (zset (HM μ) 20 n O) 21 n (zfF n)) 22 n (.inr (.int, 10, zof φ.1))) 23 n (.inr (.int, 10, zof φ.2.1))) 24 n (.inr (.int, 10, zof φ.2.2))
def z30 : ZTF := (fun _ => 0, fun _ => 0, fun _ => 0)
section ZDE
variable {ck sk : Nat} {Q : ZO → ZH → Prop} {a b c d i j n r v w x z : Int} {y : Int64} {u u' u'' u1 u2 u3 : ZV} {μ ν : ZU} {f : Nat → ZV} {O : ZE} {φ : ZTF} {A : Nat → (Int → ZV) → Prop} {B : FieldType → Nat → (Int → ZV) → Prop} {F : (Nat → ZV) → Prop} {k : Nat} {t : FieldType}
theorem zof_at {φ : Int → Int} : zof φ j = zI (φ j) := rfl
theorem zup_of {φ : Int → Int} : zup (zof φ) b (zI v) = zof (zui φ b v) := by
  funext j
  unfold zup zof zui
  by_cases h : j = b
  · rw [if_pos h, if_pos h]
  · rw [if_neg h, if_neg h]
theorem HI_GF (h : k ≠ 20 ∧ k ≠ 21 ∧ k ≠ 22 ∧ k ≠ 23 ∧ k ≠ 24) {c : Nat} : zGF (HI μ n O φ) k i c F ↔ zGF (HM μ) k i c F := by
  unfold HI
  rw [zGF_n h.2.2.2.2, zGF_n h.2.2.2.1, zGF_n h.2.2.1, zGF_n h.2.1, zGF_n h.1]
theorem HI_AR (h : k ≠ 20 ∧ k ≠ 21 ∧ k ≠ 22 ∧ k ≠ 23 ∧ k ≠ 24) : zAR (HI μ n O φ) k i t A ↔ zAR (HM μ) k i t A := by
  unfold HI
  rw [zAR_n h.2.2.2.2, zAR_n h.2.2.2.1, zAR_n h.2.2.1, zAR_n h.2.1, zAR_n h.1]
theorem HI_AY (h : k ≠ 20 ∧ k ≠ 21 ∧ k ≠ 22 ∧ k ≠ 23 ∧ k ≠ 24) : zAY (HI μ n O φ) k i B ↔ zAY (HM μ) k i B := by
  unfold HI
  rw [zAY_n h.2.2.2.2, zAY_n h.2.2.2.1, zAY_n h.2.2.1, zAY_n h.2.1, zAY_n h.1]
theorem HI_GO (h : k ≠ 20 ∧ k ≠ 21 ∧ k ≠ 22 ∧ k ≠ 23 ∧ k ≠ 24) {c : Nat} : zGO (HI μ n O φ) k i c ↔ zGO (HM μ) k i c := by
  unfold HI
  rw [zGO_n h.2.2.2.2, zGO_n h.2.2.2.1, zGO_n h.2.2.1, zGO_n h.2.1, zGO_n h.1]
theorem HI_21 : zGF (HI μ n O φ) 21 n 2 F ↔ F (zupN (zupN (zupN (zfd 2) 0 (zR 22 n)) 1 (zR 23 n)) 2 (zR 24 n)) := by
  unfold HI
  rw [zGF_n (by decide), zGF_n (by decide), zGF_n (by decide), zGF_s]
theorem HI_o21 : zGO (HI μ n O φ) 21 n 2 ↔ True := by
  unfold HI
  rw [zGO_n (by decide), zGO_n (by decide), zGO_n (by decide), zGO_s]
theorem HI_22 : zAR (HI μ n O φ) 22 n .int A ↔ A 10 (zof φ.1) := by
  unfold HI
  rw [zAR_n (by decide), zAR_n (by decide), zAR_s]
theorem HI_23 : zAR (HI μ n O φ) 23 n .int A ↔ A 10 (zof φ.2.1) := by
  unfold HI
  rw [zAR_n (by decide), zAR_s]
theorem HI_24 : zAR (HI μ n O φ) 24 n .int A ↔ A 10 (zof φ.2.2) := by
  unfold HI
  rw [zAR_s]
theorem HI_w22 {g : Int → Int} : zset (HI μ n O φ) 22 n (.inr (.int, 10, zof g)) = HI μ n O (g, φ.2) := by
  unfold HI
  rw [zset_comm (k := 22) (k' := 24) (by decide), zset_comm (k := 22) (k' := 23) (by decide), zset_zset]
theorem HI_w23 {g : Int → Int} : zset (HI μ n O φ) 23 n (.inr (.int, 10, zof g)) = HI μ n O (φ.1, g, φ.2.2) := by
  unfold HI
  rw [zset_comm (k := 23) (k' := 24) (by decide), zset_zset]
theorem HI_w24 {g : Int → Int} : zset (HI μ n O φ) 24 n (.inr (.int, 10, zof g)) = HI μ n O (φ.1, φ.2.1, g) := by
  unfold HI
  rw [zset_zset]
theorem z2_0 : zupN (zupN (zupN f 0 u) 1 u') 2 u'' 0 = u := rfl
theorem z2_1 : zupN (zupN (zupN f 0 u) 1 u') 2 u'' 1 = u' := rfl
theorem z2_2 : zupN (zupN (zupN f 0 u) 1 u') 2 u'' 2 = u'' := rfl
theorem o9 (h3 : 0 ≤ b) (h4 : b < 10) : G 9 0 [zR 21 n, zI b, zI v, zI w, zI x] [] (HI μ n O φ) ck sk Q ↔ Q (.inl none) (HI μ n O (z3u φ b v w x)) := by
  simp (disch := first | omega | (simp (disch := decide) only [zmu0, mu_g, List.length_nil, List.length_cons]; omega)) only [g9_0, g9_1, g9_4, g9_5, g9_6, g9_7, g9_8, g9_11, g9_12, g9_13, g9_14, g9_15, g9_18, g9_19, g9_21, g9_22, Int.reduceSub, Int.reduceAdd, Int.add_zero, Int.zero_add, Int.cast_ofNat_Int, Bool.false_eq_true, decide_true, decide_false, zbndI, zbwI, zbzI, zb1I, zoA_at, gback_v, gback_n, zem, zisr, zro_at, zrl_at, mu_g, mu_at, mu_mu, mu_self, not_true, not_false_iff, zb0, zb1, zbnd, zbw, zbz, zne1, zone, mrgI, List.length_nil, List.length_cons, Nat.reduceAdd, Nat.reduceSub, Nat.reduceLeDiff, Nat.zero_le, and_true, true_and, false_and, and_false, true_or, or_true, false_or, or_false, G_ite, z10, z1n, z1and, z1or, z0not, z0and, itn, if_true, if_false, reduceIte, Int.reduceEq, Int.reduceLT, Int.reduceNeg, Nat.reduceEqDiff, ite_self, HI_21, HI_22, HI_23, HI_24, HI_w22, HI_w23, HI_w24, z2_0, z2_1, z2_2, zup_of]
  rfl
theorem o7 (h3 : 0 ≤ b) (h4 : b < 10) : G 7 0 [zR 21 n, zI b, zI v, zI w] [] (HI μ n O φ) ck sk Q ↔ Q (.inl none) (HI μ n O (z3u φ b 1 v w)) := by
  simp (disch := first | omega | (simp (disch := decide) only [zmu0, mu_g, List.length_nil, List.length_cons]; omega)) only [g7_0, g7_1, g7_2, g7_3, g7_4, g7_5, g7_8, Int.reduceSub, Int.reduceAdd, Int.add_zero, Int.zero_add, Int.cast_ofNat_Int, Bool.false_eq_true, decide_true, decide_false, zbndI, zbwI, zbzI, zb1I, zoA_at, gback_v, gback_n, zem, zisr, zro_at, zrl_at, mu_g, mu_at, mu_mu, mu_self, not_true, not_false_iff, zb0, zb1, zbnd, zbw, zbz, zne1, zone, mrgI, List.length_nil, List.length_cons, Nat.reduceAdd, Nat.reduceSub, Nat.reduceLeDiff, Nat.zero_le, and_true, true_and, false_and, and_false, true_or, or_true, false_or, or_false, G_ite, z10, z1n, z1and, z1or, z0not, z0and, itn, if_true, if_false, reduceIte, Int.reduceEq, Int.reduceLT, Int.reduceNeg, Nat.reduceEqDiff, ite_self, HI_o21, o9]
theorem o10_l (hb : 0 ≤ b) (hb2 : b < μ 0 0 10) : ∀ (m : Nat) (i : Int) (φ : ZTF), 0 ≤ i → i + m = 10 → (G 10 2 [zR 21 n, zR 11 b, zI i] [] (HI μ n O φ) ck sk Q ↔ Q (.inl none) (HI μ n O (ovN μ b m i φ)))
  | 0, i, φ, h0, hi => by
    have h1 : ¬ i < 10 := by omega
    rw [g10_2]
    simp (disch := first | omega | (simp (disch := decide) only [zmu0, mu_g, List.length_nil, List.length_cons]; omega)) only [g10_0, g10_1, g10_3, g10_5, g10_8, g10_9, g10_12, g10_13, g10_14, g10_15, g10_18, g10_19, g10_20, g10_21, g10_24, g10_25, g10_26, g10_27, g10_30, g10_31, g10_32, g10_35, g10_38, g10_39, g10_42, g10_43, g10_44, g10_45, g10_48, g10_49, g10_50, g10_51, g10_52, g10_53, g10_56, g10_59, g10_62, Int.reduceSub, Int.reduceAdd, Int.add_zero, Int.zero_add, Int.cast_ofNat_Int, Bool.false_eq_true, decide_true, decide_false, zbndI, zbwI, zbzI, zb1I, zoA_at, gback_v, gback_n, zem, zisr, zro_at, zrl_at, mu_g, mu_at, mu_mu, mu_self, not_true, not_false_iff, zb0, zb1, zbnd, zbw, zbz, zne1, zone, mrgI, List.length_nil, List.length_cons, Nat.reduceAdd, Nat.reduceSub, Nat.reduceLeDiff, Nat.zero_le, and_true, true_and, false_and, and_false, true_or, or_true, false_or, or_false, G_ite, z10, z1n, z1and, z1or, z0not, z0and, itn, if_true, if_false, reduceIte, Int.reduceEq, Int.reduceLT, Int.reduceNeg, Nat.reduceEqDiff, ite_self, h1, ovN]
  | m + 1, i, φ, h0, hi => by
    have h1 : i < 10 := by omega
    have ih := o10_l hb hb2 m (i + 1) (ov1 μ b i φ) (by omega) (by omega)
    rw [g10_2]
    unfold ovN
    rw [← ih]
    unfold ov1
    by_cases h2 : μ 12 b i = 1
    · simp (disch := first | omega | (simp (disch := decide) only [zmu0, mu_g, List.length_nil, List.length_cons]; omega)) only [g10_0, g10_1, g10_3, g10_5, g10_8, g10_9, g10_12, g10_13, g10_14, g10_15, g10_18, g10_19, g10_20, g10_21, g10_24, g10_25, g10_26, g10_27, g10_30, g10_31, g10_32, g10_35, g10_38, g10_39, g10_42, g10_43, g10_44, g10_45, g10_48, g10_49, g10_50, g10_51, g10_52, g10_53, g10_56, g10_59, g10_62, ob11, oc11, fl11_0, fl11_1, fl11_2, rd12, wr12, rd13, wr13, rd14, wr14, Int.reduceSub, Int.reduceAdd, Int.add_zero, Int.zero_add, Int.cast_ofNat_Int, Bool.false_eq_true, decide_true, decide_false, zbndI, zbwI, zbzI, zb1I, zoA_at, gback_v, gback_n, zem, zisr, zro_at, zrl_at, mu_g, mu_at, mu_mu, mu_self, not_true, not_false_iff, zb0, zb1, zbnd, zbw, zbz, zne1, zone, mrgI, List.length_nil, List.length_cons, Nat.reduceAdd, Nat.reduceSub, Nat.reduceLeDiff, Nat.zero_le, and_true, true_and, false_and, and_false, true_or, or_true, false_or, or_false, G_ite, z10, z1n, z1and, z1or, z0not, z0and, itn, if_true, if_false, reduceIte, Int.reduceEq, Int.reduceLT, Int.reduceNeg, Nat.reduceEqDiff, ite_self, HI_GF, HI_AR, HI_o21, h1, h2, o7]
    · by_cases h3 : μ 12 b i = 2
      · simp (disch := first | omega | (simp (disch := decide) only [zmu0, mu_g, List.length_nil, List.length_cons]; omega)) only [g10_0, g10_1, g10_3, g10_5, g10_8, g10_9, g10_12, g10_13, g10_14, g10_15, g10_18, g10_19, g10_20, g10_21, g10_24, g10_25, g10_26, g10_27, g10_30, g10_31, g10_32, g10_35, g10_38, g10_39, g10_42, g10_43, g10_44, g10_45, g10_48, g10_49, g10_50, g10_51, g10_52, g10_53, g10_56, g10_59, g10_62, ob11, oc11, fl11_0, fl11_1, fl11_2, rd12, wr12, rd13, wr13, rd14, wr14, Int.reduceSub, Int.reduceAdd, Int.add_zero, Int.zero_add, Int.cast_ofNat_Int, Bool.false_eq_true, decide_true, decide_false, zbndI, zbwI, zbzI, zb1I, zoA_at, gback_v, gback_n, zem, zisr, zro_at, zrl_at, mu_g, mu_at, mu_mu, mu_self, not_true, not_false_iff, zb0, zb1, zbnd, zbw, zbz, zne1, zone, mrgI, List.length_nil, List.length_cons, Nat.reduceAdd, Nat.reduceSub, Nat.reduceLeDiff, Nat.zero_le, and_true, true_and, false_and, and_false, true_or, or_true, false_or, or_false, G_ite, z10, z1n, z1and, z1or, z0not, z0and, itn, if_true, if_false, reduceIte, Int.reduceEq, Int.reduceLT, Int.reduceNeg, Nat.reduceEqDiff, ite_self, HI_GF, HI_AR, HI_o21, h1, h2, h3, o9]
      · simp (disch := first | omega | (simp (disch := decide) only [zmu0, mu_g, List.length_nil, List.length_cons]; omega)) only [g10_0, g10_1, g10_3, g10_5, g10_8, g10_9, g10_12, g10_13, g10_14, g10_15, g10_18, g10_19, g10_20, g10_21, g10_24, g10_25, g10_26, g10_27, g10_30, g10_31, g10_32, g10_35, g10_38, g10_39, g10_42, g10_43, g10_44, g10_45, g10_48, g10_49, g10_50, g10_51, g10_52, g10_53, g10_56, g10_59, g10_62, ob11, oc11, fl11_0, fl11_1, fl11_2, rd12, wr12, rd13, wr13, rd14, wr14, Int.reduceSub, Int.reduceAdd, Int.add_zero, Int.zero_add, Int.cast_ofNat_Int, Bool.false_eq_true, decide_true, decide_false, zbndI, zbwI, zbzI, zb1I, zoA_at, gback_v, gback_n, zem, zisr, zro_at, zrl_at, mu_g, mu_at, mu_mu, mu_self, not_true, not_false_iff, zb0, zb1, zbnd, zbw, zbz, zne1, zone, mrgI, List.length_nil, List.length_cons, Nat.reduceAdd, Nat.reduceSub, Nat.reduceLeDiff, Nat.zero_le, and_true, true_and, false_and, and_false, true_or, or_true, false_or, or_false, G_ite, z10, z1n, z1and, z1or, z0not, z0and, itn, if_true, if_false, reduceIte, Int.reduceEq, Int.reduceLT, Int.reduceNeg, Nat.reduceEqDiff, ite_self, HI_GF, HI_AR, HI_o21, h1, h2, h3]
theorem o112 (hc : μ 0 0 10 ≤ 24) (h1 : 0 ≤ a) (h2 : a < μ 0 0 10) : G 112 0 [zR 2 0, zI a, u] [] (HI μ n O φ) ck sk Q ↔ Q (.inl (some (zR 10 a))) (HI μ n O φ) := by
  have h3 : a ≤ 23 := by omega
  simp (disch := first | omega | (simp (disch := decide) only [zmu0, mu_g, List.length_nil, List.length_cons]; omega)) only [g112_0, g112_1, g112_2, g112_4, g112_7, g112_10, g112_11, g112_14, g112_15, g112_16, g112_19, g112_20, g112_21, g112_22, g112_25, g112_36, g112_37, ob2, oc2, fl2_0, fl2_1, fl2_2, fl2_3, fl2_4, fl2_5, fl2_6, wo2_6, fl2_7, wo2_7, fl2_8, wo2_8, fl2_9, wo2_9, fl2_10, wo2_10, rd3, HI_GF, HI_AY, c70, Int.reduceSub, Int.reduceAdd, Int.add_zero, Int.zero_add, Int.cast_ofNat_Int, Bool.false_eq_true, decide_true, decide_false, zbndI, zbwI, zbzI, zb1I, zoA_at, gback_v, gback_n, zem, zisr, zro_at, zrl_at, mu_g, mu_at, mu_mu, mu_self, not_true, not_false_iff, zb0, zb1, zbnd, zbw, zbz, zne1, zone, mrgI, List.length_nil, List.length_cons, Nat.reduceAdd, Nat.reduceSub, Nat.reduceLeDiff, Nat.zero_le, and_true, true_and, false_and, and_false, true_or, or_true, false_or, or_false, G_ite, z10, z1n, z1and, z1or, z0not, z0and, itn, if_true, if_false, reduceIte, Int.reduceEq, Int.reduceLT, Int.reduceNeg, Nat.reduceEqDiff, ite_self, h1, h2, h3]
theorem o86_l (hc : μ 0 0 10 ≤ 24) (hr : rowOK μ r) : ∀ (m : Nat) (k : Int) (φ : ZTF), 0 ≤ k → k + m = μ 0 1 r → (G 86 10 [zR 2 0, zR 26 r, zR 21 n, zI k] [] (HI μ n O φ) ck sk Q ↔ Q (.inl (some (zR 21 n))) (HI μ n O (stk μ r m k φ)))
  | 0, k, φ, h0, hi => by
    obtain ⟨⟨r1, r2⟩, ⟨r3, r4⟩, r5⟩ := hr
    have h1 : ¬ k < ((μ 0 1 r).toNat : Int) := by omega
    rw [g86_10]
    simp (disch := first | omega | (simp (disch := decide) only [zmu0, mu_g, List.length_nil, List.length_cons]; omega)) only [g86_3, g86_3r, g86_4, g86_7, g86_8, g86_9, g86_11, g86_12, g86_13, g86_16, g86_17, g86_18, g86_19, g86_20, g86_21, g86_24, g86_27, g86_30, g86_33, g86_36, g86_37, rd26, ln26, Int.reduceSub, Int.reduceAdd, Int.add_zero, Int.zero_add, Int.cast_ofNat_Int, Bool.false_eq_true, decide_true, decide_false, zbndI, zbwI, zbzI, zb1I, zoA_at, gback_v, gback_n, zem, zisr, zro_at, zrl_at, mu_g, mu_at, mu_mu, mu_self, not_true, not_false_iff, zb0, zb1, zbnd, zbw, zbz, zne1, zone, mrgI, List.length_nil, List.length_cons, Nat.reduceAdd, Nat.reduceSub, Nat.reduceLeDiff, Nat.zero_le, and_true, true_and, false_and, and_false, true_or, or_true, false_or, or_false, G_ite, z10, z1n, z1and, z1or, z0not, z0and, itn, if_true, if_false, reduceIte, Int.reduceEq, Int.reduceLT, Int.reduceNeg, Nat.reduceEqDiff, ite_self, HI_AY, h1, stk]
  | m + 1, k, φ, h0, hi => by
    have ih := o86_l hc hr m (k + 1) (ovN μ (μ 26 r k) 10 0 φ) (by omega) (by omega)
    obtain ⟨⟨r1, r2⟩, ⟨r3, r4⟩, r5⟩ := hr
    have h1 : k < ((μ 0 1 r).toNat : Int) := by omega
    have h5 := r5 k h0 (by omega)
    have e := fun (ck sk : Nat) (Q : ZO → ZH → Prop) => o10_l (n := n) (O := O) (ck := ck) (sk := sk) (Q := Q) h5.1 h5.2 10 0 φ (by omega) (by omega)
    rw [g86_10]
    unfold stk
    simp (disch := first | omega | (simp (disch := decide) only [zmu0, mu_g, List.length_nil, List.length_cons]; omega)) only [g86_3, g86_3r, g86_4, g86_7, g86_8, g86_9, g86_11, g86_12, g86_13, g86_16, g86_17, g86_18, g86_19, g86_20, g86_21, g86_24, g86_27, g86_30, g86_33, g86_36, g86_37, ob2, oc2, fl2_0, fl2_1, fl2_2, fl2_3, fl2_4, fl2_5, fl2_6, wo2_6, fl2_7, wo2_7, fl2_8, wo2_8, fl2_9, wo2_9, fl2_10, wo2_10, ob10, oc10, fl10_0, fl10_1, wo10_1, rd26, ln26, Int.reduceSub, Int.reduceAdd, Int.add_zero, Int.zero_add, Int.cast_ofNat_Int, Bool.false_eq_true, decide_true, decide_false, zbndI, zbwI, zbzI, zb1I, zoA_at, gback_v, gback_n, zem, zisr, zro_at, zrl_at, mu_g, mu_at, mu_mu, mu_self, not_true, not_false_iff, zb0, zb1, zbnd, zbw, zbz, zne1, zone, mrgI, List.length_nil, List.length_cons, Nat.reduceAdd, Nat.reduceSub, Nat.reduceLeDiff, Nat.zero_le, and_true, true_and, false_and, and_false, true_or, or_true, false_or, or_false, G_ite, z10, z1n, z1and, z1or, z0not, z0and, itn, if_true, if_false, reduceIte, Int.reduceEq, Int.reduceLT, Int.reduceNeg, Nat.reduceEqDiff, ite_self, HI_AY, HI_AR, HI_GF, HI_GO, HI_o21, h1, o112 hc h5.1 h5.2, g10_0, g10_1, e, ih]
theorem o86 (hc : μ 0 0 10 ≤ 24) (hr : rowOK μ r) (hn : n = μ 0 0 20) (q : Q (.inl (some (zR 21 n))) (HI μ n O (stk μ r (μ 0 1 r).toNat 0 z30))) : G 86 0 [zR 2 0, zR 26 r, u, u'] [] (zset (HM μ) 20 n O) 4 33 Q := by
  rw [g86_0]
  refine ⟨⟨trivial, by decide, by decide⟩, 21, n, by decide, by rw [zset_k (by decide)]; exact no21 (by omega), ?_⟩
  simp (disch := first | omega | (simp (disch := decide) only [zmu0, mu_g, List.length_nil, List.length_cons]; omega)) only [g86_3, g86_3r, g86_4, g86_7, g86_8, g86_9, g86_11, g86_12, g86_13, g86_16, g86_17, g86_18, g86_19, g86_20, g86_21, g86_24, g86_27, g86_30, g86_33, g86_36, g86_37, Int.reduceSub, Int.reduceAdd, Int.add_zero, Int.zero_add, Int.cast_ofNat_Int, Bool.false_eq_true, decide_true, decide_false, zbndI, zbwI, zbzI, zb1I, zoA_at, gback_v, gback_n, zem, zisr, zro_at, zrl_at, mu_g, mu_at, mu_mu, mu_self, not_true, not_false_iff, zb0, zb1, zbnd, zbw, zbz, zne1, zone, mrgI, List.length_nil, List.length_cons, Nat.reduceAdd, Nat.reduceSub, Nat.reduceLeDiff, Nat.zero_le, and_true, true_and, false_and, and_false, true_or, or_true, false_or, or_false, G_ite, z10, z1n, z1and, z1or, z0not, z0and, itn, if_true, if_false, reduceIte, Int.reduceEq, Int.reduceLT, Int.reduceNeg, Nat.reduceEqDiff, ite_self, zGO_s]
  refine i5_21 zset_at (by rw [zset_k (by decide), zset_k (by decide)]; exact no22 (by omega)) (by rw [zset_k (by decide), zset_k (by decide)]; exact no23 (by omega)) (by rw [zset_k (by decide), zset_k (by decide)]; exact no24 (by omega)) ?_
  rw [gback_n]
  have el := (o86_l (n := n) (O := O) (ck := 0) (sk := 0) (Q := Q) hc hr (μ 0 1 r).toNat 0 z30 (by omega) (by have := hr.2.1.1; omega)).mpr q
  have eH : zset (zset (zset (zset (zset (HM μ) 20 n O) 21 n (zfF n)) 22 n a10) 23 n a10) 24 n a10 = HI μ n O z30 := rfl
  simp (disch := first | omega | (simp (disch := decide) only [zmu0, mu_g, List.length_nil, List.length_cons]; omega)) only [g86_3, g86_3r, g86_4, g86_7, g86_8, g86_9, g86_11, g86_12, g86_13, g86_16, g86_17, g86_18, g86_19, g86_20, g86_21, g86_24, g86_27, g86_30, g86_33, g86_36, g86_37, Int.reduceSub, Int.reduceAdd, Int.add_zero, Int.zero_add, Int.cast_ofNat_Int, Bool.false_eq_true, decide_true, decide_false, zbndI, zbwI, zbzI, zb1I, zoA_at, gback_v, gback_n, zem, zisr, zro_at, zrl_at, mu_g, mu_at, mu_mu, mu_self, not_true, not_false_iff, zb0, zb1, zbnd, zbw, zbz, zne1, zone, mrgI, List.length_nil, List.length_cons, Nat.reduceAdd, Nat.reduceSub, Nat.reduceLeDiff, Nat.zero_le, and_true, true_and, false_and, and_false, true_or, or_true, false_or, or_false, G_ite, z10, z1n, z1and, z1or, z0not, z0and, itn, if_true, if_false, reduceIte, Int.reduceEq, Int.reduceLT, Int.reduceNeg, Nat.reduceEqDiff, ite_self, zset_zset]
  rw [eH]
  exact el
end ZDE
