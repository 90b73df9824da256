/-! ===== loops of the class: codes, files ===== -/
def zwh (p : Int → Bool) : Nat → Int → Int
  | 0, i => i
  | n + 1, i => if p i = true then zwh p n (i + 1) else i
def zall (p : Int → Bool) : Nat → Int → Bool
  | 0, _ => true
  | n + 1, i => if p i = true then zall p n (i + 1) else false
theorem zall_iff {p : Int → Bool} : ∀ {n : Nat} {i : Int}, zall p n i = true ↔ ∀ j, i ≤ j → j < i + n → p j = true
  | 0, i => ⟨fun _ j h1 h2 => by omega, fun _ => rfl⟩
  | n + 1, i => by
    unfold zall
    by_cases h : p i = true
    · rw [if_pos h, zall_iff]
      constructor
      · intro q j h1 h2
        by_cases e : j = i
        · rw [e]; exact h
        · exact q j (by omega) (by omega)
      · intro q j h1 h2
        exact q j (by omega) (by omega)
    · rw [if_neg h]
      exact ⟨(fun z => by cases z), fun q => absurd (q i (by omega) (by omega)) h⟩
theorem zwh_ge {p : Int → Bool} : ∀ {n : Nat} {i : Int}, i ≤ zwh p n i ∧ zwh p n i ≤ i + n
  | 0, i => by unfold zwh; omega
  | n + 1, i => by
    unfold zwh
    have := zwh_ge (p := p) (n := n) (i := i + 1)
    split <;> omega
/-- a code of eight bits, as the class reads it -/
def kcd (x : Int64) (i : Int) : Int := zand (zl2i (zlushr x (8 * i))) 255
def klen (x : Int64) : Int := zwh (fun i => decide (¬ kcd x i = 0)) 8 0
section ZL1
variable {h : ZH} {μ : ZU} {ck sk : Nat} {Q : ZO → ZH → Prop} {a b c d s v w : Int} {x : Int64} {u : ZV}
theorem c79 (h1 : 0 ≤ a) (h2 : a < 8) : G 79 0 [zL x, zJ, zI a] [] h ck sk Q ↔ Q (.inl (some (zI (kcd x a)))) h := by
  simp (disch := first | omega | (simp (disch := decide) only [zmu0, mu_g, List.length_nil, List.length_cons]; omega)) only [g79_0, g79_1, g79_3, g79_4, g79_5, g79_6, g79_7, g79_10, g79_11, zoA_at, gback_v, gback_n, zem, zisr, zro_at, zrl_at, mu_g, mu_at, mu_mu, mu_self, not_true, not_false_iff, zb0, zb1, zbnd, zbw, zbz, zne1, zone, mrgI, List.length_nil, List.length_cons, Nat.reduceAdd, Nat.reduceSub, Nat.reduceLeDiff, Nat.zero_le, and_true, true_and, false_and, and_false, true_or, or_true, false_or, or_false, G_ite, z10, z1n, z1and, z1or, z0not, z0and, itn, if_true, if_false, reduceIte, Int.reduceEq, Int.reduceLT, Int.reduceNeg, Nat.reduceEqDiff, ite_self, kcd]
theorem c80_l : ∀ (n : Nat) (i : Int), 0 ≤ i → i + n = 8 → (G 80 2 [zL x, zJ, zI i] [] h ck sk Q ↔ Q (.inl (some (zI (zwh (fun i => decide (¬ kcd x i = 0)) n i)))) h)
  | 0, i, h0, hi => by
    have h1 : ¬ i < 8 := by omega
    rw [g80_2]
    simp (disch := first | omega | (simp (disch := decide) only [zmu0, mu_g, List.length_nil, List.length_cons]; omega)) only [g80_0, g80_1, g80_3, g80_5, g80_8, g80_9, g80_10, g80_13, g80_16, g80_19, g80_22, g80_23, zoA_at, gback_v, gback_n, zem, zisr, zro_at, zrl_at, mu_g, mu_at, mu_mu, mu_self, not_true, not_false_iff, zb0, zb1, zbnd, zbw, zbz, zne1, zone, mrgI, List.length_nil, List.length_cons, Nat.reduceAdd, Nat.reduceSub, Nat.reduceLeDiff, Nat.zero_le, and_true, true_and, false_and, and_false, true_or, or_true, false_or, or_false, G_ite, z10, z1n, z1and, z1or, z0not, z0and, itn, if_true, if_false, reduceIte, Int.reduceEq, Int.reduceLT, Int.reduceNeg, Nat.reduceEqDiff, ite_self, h1, zwh]
  | n + 1, i, h0, hi => by
    have h1 : i < 8 := by omega
    have ih := c80_l n (i + 1) (by omega) (by omega)
    rw [g80_2]
    simp (disch := first | omega | (simp (disch := decide) only [zmu0, mu_g, List.length_nil, List.length_cons]; omega)) only [g80_0, g80_1, g80_3, g80_5, g80_8, g80_9, g80_10, g80_13, g80_16, g80_19, g80_22, g80_23, zoA_at, gback_v, gback_n, zem, zisr, zro_at, zrl_at, mu_g, mu_at, mu_mu, mu_self, not_true, not_false_iff, zb0, zb1, zbnd, zbw, zbz, zne1, zone, mrgI, List.length_nil, List.length_cons, Nat.reduceAdd, Nat.reduceSub, Nat.reduceLeDiff, Nat.zero_le, and_true, true_and, false_and, and_false, true_or, or_true, false_or, or_false, G_ite, z10, z1n, z1and, z1or, z0not, z0and, itn, if_true, if_false, reduceIte, Int.reduceEq, Int.reduceLT, Int.reduceNeg, Nat.reduceEqDiff, ite_self, h1, c79, ih, zwh]
    by_cases h2 : kcd x i = 0 <;> simp [h2]
theorem c80 {u : ZV} : G 80 0 [zL x, zJ, u] [] h ck sk Q ↔ Q (.inl (some (zI (klen x)))) h := by
  simp (disch := first | omega | (simp (disch := decide) only [zmu0, mu_g, List.length_nil, List.length_cons]; omega)) only [g80_0, g80_1, c80_l 8 0 (by omega) (by omega)]
  rfl
theorem c81_l {l : Int} (hl : 0 ≤ l ∧ l ≤ 8) : ∀ (n : Nat) (i : Int), 0 ≤ i → i + n = 8 → (G 81 21 [zL x, zJ, zI a, zI b, zI l, zI i] [] h ck sk Q ↔ Q (.inl (some (zI (if zall (fun i => decide (¬ (if i < l then a else 0) < kcd x i)) n i = true then 1 else 0)))) h)
  | 0, i, h0, hi => by
    have h1 : ¬ i < 8 := by omega
    rw [g81_21]
    simp (disch := first | omega | (simp (disch := decide) only [zmu0, mu_g, List.length_nil, List.length_cons]; omega)) only [g81_0, g81_1, g81_4, g81_6, g81_8, g81_9, g81_10, g81_13, g81_16, g81_17, g81_18, g81_19, g81_23, g81_25, g81_28, g81_29, g81_31, g81_34, g81_36, g81_38, g81_41, g81_42, g81_45, g81_46, g81_49, g81_50, g81_51, g81_54, g81_57, g81_58, zoA_at, gback_v, gback_n, zem, zisr, zro_at, zrl_at, mu_g, mu_at, mu_mu, mu_self, not_true, not_false_iff, zb0, zb1, zbnd, zbw, zbz, zne1, zone, mrgI, List.length_nil, List.length_cons, Nat.reduceAdd, Nat.reduceSub, Nat.reduceLeDiff, Nat.zero_le, and_true, true_and, false_and, and_false, true_or, or_true, false_or, or_false, G_ite, z10, z1n, z1and, z1or, z0not, z0and, itn, if_true, if_false, reduceIte, Int.reduceEq, Int.reduceLT, Int.reduceNeg, Nat.reduceEqDiff, ite_self, h1, zall]
  | n + 1, i, h0, hi => by
    have h1 : i < 8 := by omega
    have ih := c81_l hl n (i + 1) (by omega) (by omega)
    rw [g81_21]
    simp (disch := first | omega | (simp (disch := decide) only [zmu0, mu_g, List.length_nil, List.length_cons]; omega)) only [g81_0, g81_1, g81_4, g81_6, g81_8, g81_9, g81_10, g81_13, g81_16, g81_17, g81_18, g81_19, g81_23, g81_25, g81_28, g81_29, g81_31, g81_34, g81_36, g81_38, g81_41, g81_42, g81_45, g81_49, g81_50, g81_51, g81_54, g81_57, g81_58, zoA_at, gback_v, gback_n, zem, zisr, zro_at, zrl_at, mu_g, mu_at, mu_mu, mu_self, not_true, not_false_iff, zb0, zb1, zbnd, zbw, zbz, zne1, zone, mrgI, List.length_nil, List.length_cons, Nat.reduceAdd, Nat.reduceSub, Nat.reduceLeDiff, Nat.zero_le, and_true, true_and, false_and, and_false, true_or, or_true, false_or, or_false, G_ite, z10, z1n, z1and, z1or, z0not, z0and, itn, if_true, if_false, reduceIte, Int.reduceEq, Int.reduceLT, Int.reduceNeg, Nat.reduceEqDiff, ite_self, h1, c79]
    simp (disch := first | omega | (simp (disch := decide) only [zmu0, mu_g, List.length_nil, List.length_cons]; omega)) only [g81_0, g81_1, g81_4, g81_6, g81_8, g81_9, g81_10, g81_13, g81_16, g81_17, g81_18, g81_19, g81_23, g81_25, g81_28, g81_29, g81_31, g81_34, g81_36, g81_38, g81_41, g81_42, g81_45, g81_46, g81_49, g81_50, g81_51, g81_54, g81_57, g81_58, zoA_at, gback_v, gback_n, zem, zisr, zro_at, zrl_at, mu_g, mu_at, mu_mu, mu_self, not_true, not_false_iff, zb0, zb1, zbnd, zbw, zbz, zne1, zone, mrgI, List.length_nil, List.length_cons, Nat.reduceAdd, Nat.reduceSub, Nat.reduceLeDiff, Nat.zero_le, and_true, true_and, false_and, and_false, true_or, or_true, false_or, or_false, G_ite, z10, z1n, z1and, z1or, z0not, z0and, itn, if_true, if_false, reduceIte, Int.reduceEq, Int.reduceLT, Int.reduceNeg, Nat.reduceEqDiff, ite_self, ih, zall]
    by_cases h2 : (if i < l then a else 0) < kcd x i <;> simp [h2]
def kall (x : Int64) (a b : Int) : Prop := (1 ≤ klen x ∧ klen x ≤ b) ∧ zall (fun i => decide (¬ (if i < klen x then a else 0) < kcd x i)) 8 0 = true
theorem klen_in : 0 ≤ klen x ∧ klen x ≤ 8 := zwh_ge
theorem c81 {u v : ZV} : G 81 0 [zL x, zJ, zI a, zI b, u, v] [] h ck sk Q ↔ Q (.inl (some (zI (@ite _ (kall x a b) (Classical.propDecidable _) 1 0)))) h := by
  have hk := klen_in (x := x)
  simp (disch := first | omega | (simp (disch := decide) only [zmu0, mu_g, List.length_nil, List.length_cons]; omega)) only [g81_0, g81_1, g81_4, g81_6, g81_8, g81_9, g81_10, g81_13, g81_16, g81_17, g81_18, g81_19, g81_23, g81_25, g81_28, g81_29, g81_31, g81_34, g81_36, g81_38, g81_41, g81_42, g81_45, g81_46, g81_49, g81_50, g81_51, g81_54, g81_57, g81_58, zoA_at, gback_v, gback_n, zem, zisr, zro_at, zrl_at, mu_g, mu_at, mu_mu, mu_self, not_true, not_false_iff, zb0, zb1, zbnd, zbw, zbz, zne1, zone, mrgI, List.length_nil, List.length_cons, Nat.reduceAdd, Nat.reduceSub, Nat.reduceLeDiff, Nat.zero_le, and_true, true_and, false_and, and_false, true_or, or_true, false_or, or_false, G_ite, z10, z1n, z1and, z1or, z0not, z0and, itn, if_true, if_false, reduceIte, Int.reduceEq, Int.reduceLT, Int.reduceNeg, Nat.reduceEqDiff, ite_self, c80, c70, c81_l hk 8 0 (by omega) (by omega)]
  unfold kall
  by_cases h1 : 1 ≤ klen x ∧ klen x ≤ b <;> simp [h1]
def ksm (μ : ZU) (k : Nat) (a b s i : Int) : Bool := decide ((μ k a i = μ k b i ∧ μ (k + 1) a i = μ (k + 1) b i ∧ μ (k + 2) a i = μ (k + 2) b i) ∨ zand (zshr s i) 1 = 0)
theorem c12i_l (ha : 0 ≤ a) (ha2 : a < μ 0 0 20) (hb : 0 ≤ b) (hb2 : b < μ 0 0 20) : ∀ (n : Nat) (i : Int) (u : ZV), 0 ≤ i → i + n = 10 → (G 12 2 [zR 21 a, zR 21 b, zI s, zI i, u] [] (HM μ) ck sk Q ↔ Q (.inl (some (zI (if zall (ksm μ 22 a b s) n i = true then 1 else 0)))) (HM μ))
  | 0, i, u, h0, hi => by
    have h1 : ¬ i < 10 := by omega
    rw [g12_2]
    simp (disch := first | omega | (simp (disch := decide) only [zmu0, mu_g, List.length_nil, List.length_cons]; omega)) only [g12_0, g12_1, g12_3, g12_5, g12_8, g12_9, g12_12, g12_13, g12_14, g12_15, g12_18, g12_19, g12_20, g12_23, g12_24, g12_27, g12_28, g12_29, g12_30, g12_33, g12_34, g12_35, g12_38, g12_39, g12_42, g12_43, g12_44, g12_45, g12_48, g12_49, g12_50, g12_53, g12_54, g12_57, g12_58, g12_60, g12_62, g12_65, g12_66, g12_67, g12_68, g12_69, g12_70, g12_73, g12_74, g12_75, g12_78, g12_81, g12_82, zoA_at, gback_v, gback_n, zem, zisr, zro_at, zrl_at, mu_g, mu_at, mu_mu, mu_self, not_true, not_false_iff, zb0, zb1, zbnd, zbw, zbz, zne1, zone, mrgI, List.length_nil, List.length_cons, Nat.reduceAdd, Nat.reduceSub, Nat.reduceLeDiff, Nat.zero_le, and_true, true_and, false_and, and_false, true_or, or_true, false_or, or_false, G_ite, z10, z1n, z1and, z1or, z0not, z0and, itn, if_true, if_false, reduceIte, Int.reduceEq, Int.reduceLT, Int.reduceNeg, Nat.reduceEqDiff, ite_self, h1, zall]
  | n + 1, i, u, h0, hi => by
    have h1 : i < 10 := by omega
    have ih := fun u => c12i_l ha ha2 hb hb2 n (i + 1) u (by omega) (by omega)
    rw [g12_2]
    simp (disch := first | omega | (simp (disch := decide) only [zmu0, mu_g, List.length_nil, List.length_cons]; omega)) only [g12_0, g12_1, g12_3, g12_5, g12_8, g12_9, g12_12, g12_13, g12_14, g12_15, g12_18, g12_19, g12_20, g12_23, g12_24, g12_27, g12_28, g12_29, g12_30, g12_33, g12_34, g12_35, g12_38, g12_39, g12_42, g12_43, g12_44, g12_45, g12_48, g12_49, g12_50, g12_53, g12_54, g12_57, g12_60, g12_62, g12_65, g12_66, g12_67, g12_68, g12_69, g12_70, g12_73, g12_74, g12_75, g12_78, g12_81, g12_82, ob21, oc21, fl21_0, fl21_1, fl21_2, rd22, wr22, rd23, wr23, rd24, wr24, zoA_at, gback_v, gback_n, zem, zisr, zro_at, zrl_at, mu_g, mu_at, mu_mu, mu_self, not_true, not_false_iff, zb0, zb1, zbnd, zbw, zbz, zne1, zone, mrgI, List.length_nil, List.length_cons, Nat.reduceAdd, Nat.reduceSub, Nat.reduceLeDiff, Nat.zero_le, and_true, true_and, false_and, and_false, true_or, or_true, false_or, or_false, G_ite, z10, z1n, z1and, z1or, z0not, z0and, itn, if_true, if_false, reduceIte, Int.reduceEq, Int.reduceLT, Int.reduceNeg, Nat.reduceEqDiff, ite_self, h1]
    simp (disch := first | omega | (simp (disch := decide) only [zmu0, mu_g, List.length_nil, List.length_cons]; omega)) only [g12_0, g12_1, g12_3, g12_5, g12_8, g12_9, g12_12, g12_13, g12_14, g12_15, g12_18, g12_19, g12_20, g12_23, g12_24, g12_27, g12_28, g12_29, g12_30, g12_33, g12_34, g12_35, g12_38, g12_39, g12_42, g12_43, g12_44, g12_45, g12_48, g12_49, g12_50, g12_53, g12_54, g12_57, g12_58, g12_60, g12_62, g12_65, g12_66, g12_67, g12_68, g12_69, g12_70, g12_73, g12_74, g12_75, g12_78, g12_81, g12_82, zoA_at, gback_v, gback_n, zem, zisr, zro_at, zrl_at, mu_g, mu_at, mu_mu, mu_self, not_true, not_false_iff, zb0, zb1, zbnd, zbw, zbz, zne1, zone, mrgI, List.length_nil, List.length_cons, Nat.reduceAdd, Nat.reduceSub, Nat.reduceLeDiff, Nat.zero_le, and_true, true_and, false_and, and_false, true_or, or_true, false_or, or_false, G_ite, z10, z1n, z1and, z1or, z0not, z0and, itn, if_true, if_false, reduceIte, Int.reduceEq, Int.reduceLT, Int.reduceNeg, Nat.reduceEqDiff, ite_self, ih, zall, ksm]
    by_cases h2 : μ 22 a i = μ 22 b i <;> by_cases h3 : μ 23 a i = μ 23 b i <;> by_cases h4 : μ 24 a i = μ 24 b i <;> by_cases h5 : zand (zshr s i) 1 = 0 <;> simp [h2, h3, h4, h5]
end ZL1
