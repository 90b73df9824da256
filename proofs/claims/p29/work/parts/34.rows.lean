/-! ===== the class: rows of layers ===== -/
section ZBI
variable {P : Prop} {j z n : Int} {k : Nat}
theorem zbndI (h1 : 0 ≤ j) (h2 : j < n) : ((0 ≤ j ∧ j < n) ∧ P) ↔ P := ⟨fun q => q.2, fun q => ⟨⟨h1, h2⟩, q⟩⟩
theorem zbwI (h0 : k ≠ 1) (h1 : 0 ≤ j) (h2 : j < n) : ((k ≠ 1 ∧ 0 ≤ j ∧ j < n) ∧ P) ↔ P := ⟨fun q => q.2, fun q => ⟨⟨h0, h1, h2⟩, q⟩⟩
theorem zbzI (h0 : k ≠ 1) (h1 : 0 ≤ j) (h2 : j < n) (h3 : z = 0 ∨ z = 1) : ((k ≠ 1 ∧ 0 ≤ j ∧ j < n ∧ (z = 0 ∨ z = 1)) ∧ P) ↔ P := ⟨fun q => q.2, fun q => ⟨⟨h0, h1, h2, h3⟩, q⟩⟩
theorem zb1I (h1 : j < n) : (j < n ∧ P) ↔ P := ⟨fun q => q.2, fun q => ⟨h1, q⟩⟩
end ZBI
/-- the first that fits, -1 without one; how many fit -/
def zff (p : Int → Bool) : Nat → Int → Int
  | 0, _ => -1
  | n + 1, i => if p i = true then i else zff p n (i + 1)
def zct (p : Int → Bool) : Nat → Int → Int → Int
  | 0, _, s => s
  | n + 1, i, s => zct p n (i + 1) (if p i = true then s + 1 else s)
def lal (μ : ZU) (a b : Int) : Bool := zall (ksm μ 12 a b 1023) 10 0
def rowOK (μ : ZU) (r : Int) : Prop := (0 ≤ r ∧ r < μ 0 0 26) ∧ (0 ≤ μ 0 1 r ∧ μ 0 1 r ≤ 8) ∧ ∀ j, 0 ≤ j → j < μ 0 1 r → 0 ≤ μ 26 r j ∧ μ 26 r j < μ 0 0 10
def imgOK (μ : ZU) : Prop := (0 ≤ μ 0 0 20 ∧ μ 0 0 20 ≤ 12) ∧ ∀ i, 0 ≤ i → i < μ 0 0 20 → rowOK μ (μ 20 i 1)
def rls (μ : ZU) (r s j : Int) : Bool := lal μ (μ 26 r j) (μ 26 s j)
def ral (μ : ZU) (r s : Int) : Bool := decide (μ 0 1 r = μ 0 1 s ∧ zall (rls μ r s) (μ 0 1 r).toNat 0 = true)
def hap (μ : ZU) (r i : Int) : Bool := decide (i < μ 0 0 20 ∧ 0 < μ 20 i 3 ∧ ral μ (μ 20 i 1) r = true)
def hdp (μ : ZU) (a i : Int) : Bool := decide (i < μ 0 0 20 ∧ 0 < μ 20 i 3 ∧ ¬ zall (fun j => decide (¬ μ 26 (μ 20 i 1) j = a)) (μ 0 1 (μ 20 i 1)).toNat 0 = true)
def hds (μ : ZU) (a : Int) : Int := zct (hdp μ a) 12 0 0
def lg1 (r : Int) (k : Int) (μ : ZU) : ZU := if μ 10 (μ 26 r k) 1 = 1 ∧ hds μ (μ 26 r k) = 0 then mu μ 10 (μ 26 r k) 1 2 else μ
def lgN (r : Int) : Nat → Int → Int → ZU → ZU × Int
  | 0, _, s, μ => (μ, s)
  | n + 1, k, s, μ => if μ 10 (μ 26 r k) 1 = 1 ∧ hds μ (μ 26 r k) = 0 then lgN r n (k + 1) (s + 1) (mu μ 10 (μ 26 r k) 1 2) else lgN r n (k + 1) s μ
def slp (μ : ZU) (a i : Int) : Bool := decide (i < μ 0 0 10 ∧ ¬ i = a ∧ μ 10 i 1 = 1 ∧ lal μ i a = true)
section ZLH
variable {ck sk : Nat} {Q : ZO → ZH → Prop} {a b c d e r s x : Int} {u u' u'' : ZV} {μ : ZU}
theorem zct_b {p : Int → Bool} : ∀ (n : Nat) (i s : Int), s ≤ zct p n i s ∧ zct p n i s ≤ s + n
  | 0, i, s => by unfold zct; omega
  | n + 1, i, s => by
    have := zct_b (p := p) n (i + 1) (if p i = true then s + 1 else s)
    unfold zct
    split at this <;> split <;> first | omega | contradiction
theorem zff_b {p : Int → Bool} : ∀ (n : Nat) (i : Int), zff p n i = -1 ∨ (i ≤ zff p n i ∧ zff p n i < i + n ∧ p (zff p n i) = true)
  | 0, i => Or.inl rfl
  | n + 1, i => by
    unfold zff
    by_cases h : p i = true
    · rw [if_pos h]; exact Or.inr ⟨by omega, by omega, h⟩
    · rw [if_neg h]
      rcases zff_b (p := p) n (i + 1) with q | ⟨q1, q2, q3⟩
      · exact Or.inl q
      · exact Or.inr ⟨by omega, by omega, q3⟩
theorem c112 (hc : μ 0 0 10 ≤ 24) (h1 : 0 ≤ a) (h2 : a < μ 0 0 10) : G 112 0 [zR 2 0, zI a, u] [] (HM μ) ck sk Q ↔ Q (.inl (some (zR 10 a))) (HM μ) := by
  have h3 : a ≤ 23 := by omega
  simp (disch := first | omega | (simp (disch := decide) only [zmu0, mu_g, List.length_nil, List.length_cons]; omega)) only [g112_0, g112_1, g112_2, g112_4, g112_7, g112_10, g112_11, g112_14, g112_15, g112_16, g112_19, g112_20, g112_21, g112_22, g112_25, g112_36, g112_37, ob2, oc2, fl2_0, fl2_1, fl2_2, fl2_3, fl2_4, fl2_5, fl2_6, wo2_6, fl2_7, wo2_7, fl2_8, wo2_8, fl2_9, wo2_9, fl2_10, wo2_10, rd3, c70, Int.cast_ofNat_Int, Bool.false_eq_true, decide_true, decide_false, zbndI, zbwI, zbzI, zb1I, zoA_at, gback_v, gback_n, zem, zisr, zro_at, zrl_at, mu_g, mu_at, mu_mu, mu_self, not_true, not_false_iff, zb0, zb1, zbnd, zbw, zbz, zne1, zone, mrgI, List.length_nil, List.length_cons, Nat.reduceAdd, Nat.reduceSub, Nat.reduceLeDiff, Nat.zero_le, and_true, true_and, false_and, and_false, true_or, or_true, false_or, or_false, G_ite, z10, z1n, z1and, z1or, z0not, z0and, itn, if_true, if_false, reduceIte, Int.reduceEq, Int.reduceLT, Int.reduceNeg, Nat.reduceEqDiff, ite_self, h1, h2, h3]
theorem c83_l (hc : μ 0 0 10 ≤ 24) (hr : rowOK μ r) : ∀ (n : Nat) (i : Int), 0 ≤ i → i + n = μ 0 1 r → (G 83 2 [zR 2 0, zR 26 r, zI i] [] (HM μ) 1 6 Q ↔ if zall (fun j => decide (μ 10 (μ 26 r j) 1 = 1)) n i = true then Q (.inl none) (HM μ) else Q (.inr 2) (HM μ))
  | 0, i, h0, hi => by
    obtain ⟨⟨r1, r2⟩, ⟨r3, r4⟩, r5⟩ := hr
    have h1 : ¬ i < ((μ 0 1 r).toNat : Int) := by omega
    rw [g83_2]
    simp (disch := first | omega | (simp (disch := decide) only [zmu0, mu_g, List.length_nil, List.length_cons]; omega)) only [g83_0, g83_1, g83_3, g83_4, g83_5, g83_8, g83_9, g83_10, g83_11, g83_12, g83_15, g83_18, g83_19, g83_22, g83_33, g83_36, g83_39, ob2, oc2, fl2_0, fl2_1, fl2_2, fl2_3, fl2_4, fl2_5, fl2_6, wo2_6, fl2_7, wo2_7, fl2_8, wo2_8, fl2_9, wo2_9, fl2_10, wo2_10, rd26, ln26, Int.cast_ofNat_Int, Bool.false_eq_true, decide_true, decide_false, zbndI, zbwI, zbzI, zb1I, zoA_at, gback_v, gback_n, zem, zisr, zro_at, zrl_at, mu_g, mu_at, mu_mu, mu_self, not_true, not_false_iff, zb0, zb1, zbnd, zbw, zbz, zne1, zone, mrgI, List.length_nil, List.length_cons, Nat.reduceAdd, Nat.reduceSub, Nat.reduceLeDiff, Nat.zero_le, and_true, true_and, false_and, and_false, true_or, or_true, false_or, or_false, G_ite, z10, z1n, z1and, z1or, z0not, z0and, itn, if_true, if_false, reduceIte, Int.reduceEq, Int.reduceLT, Int.reduceNeg, Nat.reduceEqDiff, ite_self, h1, zall]
  | n + 1, i, h0, hi => by
    have ih := c83_l hc hr n (i + 1) (by omega) (by omega)
    obtain ⟨⟨r1, r2⟩, ⟨r3, r4⟩, r5⟩ := hr
    have h1 : i < ((μ 0 1 r).toNat : Int) := by omega
    have h5 := r5 i h0 (by omega)
    rw [g83_2]
    simp (disch := first | omega | (simp (disch := decide) only [zmu0, mu_g, List.length_nil, List.length_cons]; omega)) only [g83_0, g83_1, g83_3, g83_4, g83_5, g83_8, g83_9, g83_10, g83_11, g83_12, g83_15, g83_18, g83_19, g83_22, g83_33, g83_36, g83_39, ob2, oc2, fl2_0, fl2_1, fl2_2, fl2_3, fl2_4, fl2_5, fl2_6, wo2_6, fl2_7, wo2_7, fl2_8, wo2_8, fl2_9, wo2_9, fl2_10, wo2_10, ob10, oc10, fl10_0, fl10_1, wo10_1, rd26, ln26, Int.cast_ofNat_Int, Bool.false_eq_true, decide_true, decide_false, zbndI, zbwI, zbzI, zb1I, zoA_at, gback_v, gback_n, zem, zisr, zro_at, zrl_at, mu_g, mu_at, mu_mu, mu_self, not_true, not_false_iff, zb0, zb1, zbnd, zbw, zbz, zne1, zone, mrgI, List.length_nil, List.length_cons, Nat.reduceAdd, Nat.reduceSub, Nat.reduceLeDiff, Nat.zero_le, and_true, true_and, false_and, and_false, true_or, or_true, false_or, or_false, G_ite, z10, z1n, z1and, z1or, z0not, z0and, itn, if_true, if_false, reduceIte, Int.reduceEq, Int.reduceLT, Int.reduceNeg, Nat.reduceEqDiff, ite_self, h1, c112 hc h5.1 h5.2, ih, zall]
    by_cases h2 : μ 10 (μ 26 r i) 1 = 1 <;> simp [h2]
theorem c83 (hc : μ 0 0 10 ≤ 24) (hr : rowOK μ r) : G 83 0 [zR 2 0, zR 26 r, u] [] (HM μ) 1 6 Q ↔ if zall (fun j => decide (μ 10 (μ 26 r j) 1 = 1)) (μ 0 1 r).toNat 0 = true then Q (.inl none) (HM μ) else Q (.inr 2) (HM μ) := by
  simp only [g83_0, g83_1]
  exact c83_l hc hr _ 0 (by omega) (by have := hr.2.1.1; omega)
theorem c85_l (hc : μ 0 0 10 ≤ 24) (hr : rowOK μ r) (hs : rowOK μ s) (he : μ 0 1 r = μ 0 1 s) : ∀ (n : Nat) (i : Int), 0 ≤ i → i + n = μ 0 1 r → (G 85 11 [zR 2 0, zR 26 r, zR 26 s, zI i] [] (HM μ) ck sk Q ↔ Q (.inl (some (zI (if zall (rls μ r s) n i = true then 1 else 0)))) (HM μ))
  | 0, i, h0, hi => by
    obtain ⟨⟨r1, r2⟩, ⟨r3, r4⟩, r5⟩ := hr
    have h1 : ¬ i < ((μ 0 1 r).toNat : Int) := by omega
    rw [g85_11]
    simp (disch := first | omega | (simp (disch := decide) only [zmu0, mu_g, List.length_nil, List.length_cons]; omega)) only [g85_0, g85_1, g85_2, g85_3, g85_4, g85_7, g85_8, g85_9, g85_10, g85_12, g85_13, g85_14, g85_17, g85_18, g85_19, g85_20, g85_21, g85_24, g85_27, g85_28, g85_29, g85_30, g85_31, g85_34, g85_37, g85_40, g85_43, g85_44, g85_45, g85_48, g85_51, g85_52, ob2, oc2, fl2_0, fl2_1, fl2_2, fl2_3, fl2_4, fl2_5, fl2_6, wo2_6, fl2_7, wo2_7, fl2_8, wo2_8, fl2_9, wo2_9, fl2_10, wo2_10, rd26, ln26, Int.cast_ofNat_Int, Bool.false_eq_true, decide_true, decide_false, zbndI, zbwI, zbzI, zb1I, zoA_at, gback_v, gback_n, zem, zisr, zro_at, zrl_at, mu_g, mu_at, mu_mu, mu_self, not_true, not_false_iff, zb0, zb1, zbnd, zbw, zbz, zne1, zone, mrgI, List.length_nil, List.length_cons, Nat.reduceAdd, Nat.reduceSub, Nat.reduceLeDiff, Nat.zero_le, and_true, true_and, false_and, and_false, true_or, or_true, false_or, or_false, G_ite, z10, z1n, z1and, z1or, z0not, z0and, itn, if_true, if_false, reduceIte, Int.reduceEq, Int.reduceLT, Int.reduceNeg, Nat.reduceEqDiff, ite_self, h1, zall]
  | n + 1, i, h0, hi => by
    have ih := c85_l hc hr hs he n (i + 1) (by omega) (by omega)
    obtain ⟨⟨r1, r2⟩, ⟨r3, r4⟩, r5⟩ := hr
    obtain ⟨⟨s1, s2⟩, ⟨s3, s4⟩, s5⟩ := hs
    have h1 : i < ((μ 0 1 r).toNat : Int) := by omega
    have h5 := r5 i h0 (by omega)
    have h6 := s5 i h0 (by omega)
    rw [g85_11]
    unfold zall
    simp (disch := first | omega | (simp (disch := decide) only [zmu0, mu_g, List.length_nil, List.length_cons]; omega)) only [g85_0, g85_1, g85_2, g85_3, g85_4, g85_7, g85_8, g85_9, g85_10, g85_12, g85_13, g85_14, g85_17, g85_18, g85_19, g85_20, g85_21, g85_24, g85_27, g85_28, g85_29, g85_30, g85_31, g85_34, g85_37, g85_40, g85_43, g85_44, g85_45, g85_48, g85_51, g85_52, ob2, oc2, fl2_0, fl2_1, fl2_2, fl2_3, fl2_4, fl2_5, fl2_6, wo2_6, fl2_7, wo2_7, fl2_8, wo2_8, fl2_9, wo2_9, fl2_10, wo2_10, ob10, oc10, fl10_0, fl10_1, wo10_1, ob11, oc11, fl11_0, fl11_1, fl11_2, rd26, ln26, Int.cast_ofNat_Int, Bool.false_eq_true, decide_true, decide_false, zbndI, zbwI, zbzI, zb1I, zoA_at, gback_v, gback_n, zem, zisr, zro_at, zrl_at, mu_g, mu_at, mu_mu, mu_self, not_true, not_false_iff, zb0, zb1, zbnd, zbw, zbz, zne1, zone, mrgI, List.length_nil, List.length_cons, Nat.reduceAdd, Nat.reduceSub, Nat.reduceLeDiff, Nat.zero_le, and_true, true_and, false_and, and_false, true_or, or_true, false_or, or_false, G_ite, z10, z1n, z1and, z1or, z0not, z0and, itn, if_true, if_false, reduceIte, Int.reduceEq, Int.reduceLT, Int.reduceNeg, Nat.reduceEqDiff, ite_self, h1, c112 hc h5.1 h5.2, c112 hc h6.1 h6.2, c11_11 h5.1 h5.2 h6.1 h6.2, ih]
    have e : rls μ r s i = zall (ksm μ 12 (μ 26 r i) (μ 26 s i) 1023) 10 0 := rfl
    rw [e]
    by_cases h2 : zall (ksm μ 12 (μ 26 r i) (μ 26 s i) 1023) 10 0 = true <;> simp [h2]
theorem c85 (hc : μ 0 0 10 ≤ 24) (hr : rowOK μ r) (hs : rowOK μ s) : G 85 0 [zR 2 0, zR 26 r, zR 26 s, u] [] (HM μ) ck sk Q ↔ Q (.inl (some (zI (if ral μ r s = true then 1 else 0)))) (HM μ) := by
  have el := fun he => c85_l (ck := ck) (sk := sk) (Q := Q) hc hr hs he (μ 0 1 r).toNat 0 (by omega) (by have := hr.2.1.1; omega)
  obtain ⟨⟨r1, r2⟩, ⟨r3, r4⟩, r5⟩ := hr
  obtain ⟨⟨s1, s2⟩, ⟨s3, s4⟩, s5⟩ := hs
  by_cases he : μ 0 1 r = μ 0 1 s
  · have h1 : ((μ 0 1 r).toNat : Int) = (μ 0 1 s).toNat := by omega
    simp (disch := first | omega | (simp (disch := decide) only [zmu0, mu_g, List.length_nil, List.length_cons]; omega)) only [g85_0, g85_1, g85_2, g85_3, g85_4, g85_7, g85_8, g85_9, g85_10, g85_12, g85_13, g85_14, g85_17, g85_18, g85_19, g85_20, g85_21, g85_24, g85_27, g85_28, g85_29, g85_30, g85_31, g85_34, g85_37, g85_40, g85_43, g85_44, g85_45, g85_48, g85_51, g85_52, ob2, oc2, fl2_0, fl2_1, fl2_2, fl2_3, fl2_4, fl2_5, fl2_6, wo2_6, fl2_7, wo2_7, fl2_8, wo2_8, fl2_9, wo2_9, fl2_10, wo2_10, rd26, ln26, Int.cast_ofNat_Int, Bool.false_eq_true, decide_true, decide_false, zbndI, zbwI, zbzI, zb1I, zoA_at, gback_v, gback_n, zem, zisr, zro_at, zrl_at, mu_g, mu_at, mu_mu, mu_self, not_true, not_false_iff, zb0, zb1, zbnd, zbw, zbz, zne1, zone, mrgI, List.length_nil, List.length_cons, Nat.reduceAdd, Nat.reduceSub, Nat.reduceLeDiff, Nat.zero_le, and_true, true_and, false_and, and_false, true_or, or_true, false_or, or_false, G_ite, z10, z1n, z1and, z1or, z0not, z0and, itn, if_true, if_false, reduceIte, Int.reduceEq, Int.reduceLT, Int.reduceNeg, Nat.reduceEqDiff, ite_self, h1, el he]
    unfold ral
    simp only [he, true_and, decide_eq_true_eq]
  · have h1 : ¬ ((μ 0 1 r).toNat : Int) = (μ 0 1 s).toNat := by omega
    simp (disch := first | omega | (simp (disch := decide) only [zmu0, mu_g, List.length_nil, List.length_cons]; omega)) only [g85_0, g85_1, g85_2, g85_3, g85_4, g85_7, g85_8, g85_9, g85_10, g85_12, g85_13, g85_14, g85_17, g85_18, g85_19, g85_20, g85_21, g85_24, g85_27, g85_28, g85_29, g85_30, g85_31, g85_34, g85_37, g85_40, g85_43, g85_44, g85_45, g85_48, g85_51, g85_52, ob2, oc2, fl2_0, fl2_1, fl2_2, fl2_3, fl2_4, fl2_5, fl2_6, wo2_6, fl2_7, wo2_7, fl2_8, wo2_8, fl2_9, wo2_9, fl2_10, wo2_10, rd26, ln26, Int.cast_ofNat_Int, Bool.false_eq_true, decide_true, decide_false, zbndI, zbwI, zbzI, zb1I, zoA_at, gback_v, gback_n, zem, zisr, zro_at, zrl_at, mu_g, mu_at, mu_mu, mu_self, not_true, not_false_iff, zb0, zb1, zbnd, zbw, zbz, zne1, zone, mrgI, List.length_nil, List.length_cons, Nat.reduceAdd, Nat.reduceSub, Nat.reduceLeDiff, Nat.zero_le, and_true, true_and, false_and, and_false, true_or, or_true, false_or, or_false, G_ite, z10, z1n, z1and, z1or, z0not, z0and, itn, if_true, if_false, reduceIte, Int.reduceEq, Int.reduceLT, Int.reduceNeg, Nat.reduceEqDiff, ite_self, h1]
    unfold ral
    simp only [he, false_and, decide_false, Bool.false_eq_true, if_false]
theorem c84_l (hc : μ 0 0 10 ≤ 24) (hI : imgOK μ) (hr : rowOK μ r) : ∀ (n : Nat) (i : Int) (u : ZV), 0 ≤ i → i + n = 12 → (G 84 2 [zR 2 0, zR 26 r, zI i, u] [] (HM μ) ck sk Q ↔ if zff (hap μ r) n i = -1 then Q (.inl (some zN)) (HM μ) else Q (.inl (some (zR 20 (zff (hap μ r) n i)))) (HM μ))
  | 0, i, u, h0, hi => by
    have h1 : ¬ i < 12 := by omega
    rw [g84_2]
    simp (disch := first | omega | (simp (disch := decide) only [zmu0, mu_g, List.length_nil, List.length_cons]; omega)) only [g84_0, g84_1, g84_3, g84_4, g84_7, g84_8, g84_11, g84_12, g84_15, g84_16, g84_17, g84_18, g84_19, g84_22, g84_23, g84_26, g84_29, g84_30, g84_31, g84_34, g84_35, g84_38, g84_41, g84_42, g84_43, g84_46, g84_49, g84_50, ob2, oc2, fl2_0, fl2_1, fl2_2, fl2_3, fl2_4, fl2_5, fl2_6, wo2_6, fl2_7, wo2_7, fl2_8, wo2_8, fl2_9, wo2_9, fl2_10, wo2_10, rd4, Int.cast_ofNat_Int, Bool.false_eq_true, decide_true, decide_false, zbndI, zbwI, zbzI, zb1I, zoA_at, gback_v, gback_n, zem, zisr, zro_at, zrl_at, mu_g, mu_at, mu_mu, mu_self, not_true, not_false_iff, zb0, zb1, zbnd, zbw, zbz, zne1, zone, mrgI, List.length_nil, List.length_cons, Nat.reduceAdd, Nat.reduceSub, Nat.reduceLeDiff, Nat.zero_le, and_true, true_and, false_and, and_false, true_or, or_true, false_or, or_false, G_ite, z10, z1n, z1and, z1or, z0not, z0and, itn, if_true, if_false, reduceIte, Int.reduceEq, Int.reduceLT, Int.reduceNeg, Nat.reduceEqDiff, ite_self, h1, zff]
  | n + 1, i, u, h0, hi => by
    have h1 : i < 12 := by omega
    have ih := fun u => c84_l hc hI hr n (i + 1) u (by omega) (by omega)
    have hne : ¬ i = -1 := by omega
    rw [g84_2]
    unfold zff
    by_cases h2 : i < μ 0 0 20
    · by_cases h3 : 0 < μ 20 i 3
      · have h3' : ¬ μ 20 i 3 ≤ 0 := by omega
        have e := fun (ck sk : Nat) (Q : ZO → ZH → Prop) (u : ZV) => c85 (u := u) (ck := ck) (sk := sk) (Q := Q) hc (hI.2 i h0 h2) hr
        by_cases h4 : ral μ (μ 20 i 1) r = true
        · have h5 : hap μ r i = true := by unfold hap; simp only [h2, h3, h4, and_self, decide_true]
          simp (disch := first | omega | (simp (disch := decide) only [zmu0, mu_g, List.length_nil, List.length_cons]; omega)) only [g84_0, g84_1, g84_3, g84_4, g84_7, g84_8, g84_11, g84_12, g84_15, g84_16, g84_17, g84_18, g84_19, g84_22, g84_23, g84_26, g84_29, g84_30, g84_31, g84_34, g84_35, g84_38, g84_41, g84_42, g84_43, g84_46, g84_49, g84_50, ob2, oc2, fl2_0, fl2_1, fl2_2, fl2_3, fl2_4, fl2_5, fl2_6, wo2_6, fl2_7, wo2_7, fl2_8, wo2_8, fl2_9, wo2_9, fl2_10, wo2_10, rd4, ob20, oc20, fl20_0, wo20_0, fl20_1, fl20_2, fl20_3, wo20_3, Int.cast_ofNat_Int, Bool.false_eq_true, decide_true, decide_false, zbndI, zbwI, zbzI, zb1I, zoA_at, gback_v, gback_n, zem, zisr, zro_at, zrl_at, mu_g, mu_at, mu_mu, mu_self, not_true, not_false_iff, zb0, zb1, zbnd, zbw, zbz, zne1, zone, mrgI, List.length_nil, List.length_cons, Nat.reduceAdd, Nat.reduceSub, Nat.reduceLeDiff, Nat.zero_le, and_true, true_and, false_and, and_false, true_or, or_true, false_or, or_false, G_ite, z10, z1n, z1and, z1or, z0not, z0and, itn, if_true, if_false, reduceIte, Int.reduceEq, Int.reduceLT, Int.reduceNeg, Nat.reduceEqDiff, ite_self, h1, h2, h3, h3', e, h4, h5, hne]
        · have h5 : ¬ hap μ r i = true := by unfold hap; simp only [h2, h3, h4, and_false, decide_false, not_false_iff, Bool.false_eq_true]
          simp (disch := first | omega | (simp (disch := decide) only [zmu0, mu_g, List.length_nil, List.length_cons]; omega)) only [g84_0, g84_1, g84_3, g84_4, g84_7, g84_8, g84_11, g84_12, g84_15, g84_16, g84_17, g84_18, g84_19, g84_22, g84_23, g84_26, g84_29, g84_30, g84_31, g84_34, g84_35, g84_38, g84_41, g84_42, g84_43, g84_46, g84_49, g84_50, ob2, oc2, fl2_0, fl2_1, fl2_2, fl2_3, fl2_4, fl2_5, fl2_6, wo2_6, fl2_7, wo2_7, fl2_8, wo2_8, fl2_9, wo2_9, fl2_10, wo2_10, rd4, ob20, oc20, fl20_0, wo20_0, fl20_1, fl20_2, fl20_3, wo20_3, Int.cast_ofNat_Int, Bool.false_eq_true, decide_true, decide_false, zbndI, zbwI, zbzI, zb1I, zoA_at, gback_v, gback_n, zem, zisr, zro_at, zrl_at, mu_g, mu_at, mu_mu, mu_self, not_true, not_false_iff, zb0, zb1, zbnd, zbw, zbz, zne1, zone, mrgI, List.length_nil, List.length_cons, Nat.reduceAdd, Nat.reduceSub, Nat.reduceLeDiff, Nat.zero_le, and_true, true_and, false_and, and_false, true_or, or_true, false_or, or_false, G_ite, z10, z1n, z1and, z1or, z0not, z0and, itn, if_true, if_false, reduceIte, Int.reduceEq, Int.reduceLT, Int.reduceNeg, Nat.reduceEqDiff, ite_self, h1, h2, h3, h3', e, h4, h5, ih]
      · have h3' : μ 20 i 3 ≤ 0 := by omega
        have h5 : ¬ hap μ r i = true := by unfold hap; simp only [h3, false_and, and_false, decide_false, not_false_iff, Bool.false_eq_true]
        simp (disch := first | omega | (simp (disch := decide) only [zmu0, mu_g, List.length_nil, List.length_cons]; omega)) only [g84_0, g84_1, g84_3, g84_4, g84_7, g84_8, g84_11, g84_12, g84_15, g84_16, g84_17, g84_18, g84_19, g84_22, g84_23, g84_26, g84_29, g84_30, g84_31, g84_34, g84_35, g84_38, g84_41, g84_42, g84_43, g84_46, g84_49, g84_50, ob2, oc2, fl2_0, fl2_1, fl2_2, fl2_3, fl2_4, fl2_5, fl2_6, wo2_6, fl2_7, wo2_7, fl2_8, wo2_8, fl2_9, wo2_9, fl2_10, wo2_10, rd4, ob20, oc20, fl20_0, wo20_0, fl20_1, fl20_2, fl20_3, wo20_3, Int.cast_ofNat_Int, Bool.false_eq_true, decide_true, decide_false, zbndI, zbwI, zbzI, zb1I, zoA_at, gback_v, gback_n, zem, zisr, zro_at, zrl_at, mu_g, mu_at, mu_mu, mu_self, not_true, not_false_iff, zb0, zb1, zbnd, zbw, zbz, zne1, zone, mrgI, List.length_nil, List.length_cons, Nat.reduceAdd, Nat.reduceSub, Nat.reduceLeDiff, Nat.zero_le, and_true, true_and, false_and, and_false, true_or, or_true, false_or, or_false, G_ite, z10, z1n, z1and, z1or, z0not, z0and, itn, if_true, if_false, reduceIte, Int.reduceEq, Int.reduceLT, Int.reduceNeg, Nat.reduceEqDiff, ite_self, h1, h2, h3, h3', h5, ih]
    · have h5 : ¬ hap μ r i = true := by unfold hap; simp only [h2, false_and, decide_false, not_false_iff, Bool.false_eq_true]
      simp (disch := first | omega | (simp (disch := decide) only [zmu0, mu_g, List.length_nil, List.length_cons]; omega)) only [g84_0, g84_1, g84_3, g84_4, g84_7, g84_8, g84_11, g84_12, g84_15, g84_16, g84_17, g84_18, g84_19, g84_22, g84_23, g84_26, g84_29, g84_30, g84_31, g84_34, g84_35, g84_38, g84_41, g84_42, g84_43, g84_46, g84_49, g84_50, ob2, oc2, fl2_0, fl2_1, fl2_2, fl2_3, fl2_4, fl2_5, fl2_6, wo2_6, fl2_7, wo2_7, fl2_8, wo2_8, fl2_9, wo2_9, fl2_10, wo2_10, rd4, ob20, oc20, fl20_0, wo20_0, fl20_1, fl20_2, fl20_3, wo20_3, Int.cast_ofNat_Int, Bool.false_eq_true, decide_true, decide_false, zbndI, zbwI, zbzI, zb1I, zoA_at, gback_v, gback_n, zem, zisr, zro_at, zrl_at, mu_g, mu_at, mu_mu, mu_self, not_true, not_false_iff, zb0, zb1, zbnd, zbw, zbz, zne1, zone, mrgI, List.length_nil, List.length_cons, Nat.reduceAdd, Nat.reduceSub, Nat.reduceLeDiff, Nat.zero_le, and_true, true_and, false_and, and_false, true_or, or_true, false_or, or_false, G_ite, z10, z1n, z1and, z1or, z0not, z0and, itn, if_true, if_false, reduceIte, Int.reduceEq, Int.reduceLT, Int.reduceNeg, Nat.reduceEqDiff, ite_self, h1, h2, h5, ih]
theorem c84 (hc : μ 0 0 10 ≤ 24) (hI : imgOK μ) (hr : rowOK μ r) : G 84 0 [zR 2 0, zR 26 r, u, u'] [] (HM μ) ck sk Q ↔ if zff (hap μ r) 12 0 = -1 then Q (.inl (some zN)) (HM μ) else Q (.inl (some (zR 20 (zff (hap μ r) 12 0)))) (HM μ) := by
  simp only [g84_0, g84_1]
  exact c84_l hc hI hr 12 0 u' (by omega) (by omega)
theorem c87_l (hI : imgOK μ) : ∀ (n : Nat) (i s : Int) (u : ZV), 0 ≤ i → i + n = 12 → 0 ≤ s → s ≤ i → (G 87 4 [zR 2 0, zI b, zI s, zI i, u] [] (HM μ) ck sk Q ↔ Q (.inl (some (zI (zct (hdp μ b) n i s)))) (HM μ))
  | 0, i, s, u, h0, hi, hs, hs2 => by
    have h1 : ¬ i < 12 := by omega
    rw [g87_4]
    simp (disch := first | omega | (simp (disch := decide) only [zmu0, mu_g, List.length_nil, List.length_cons]; omega)) only [g87_0, g87_1, g87_2, g87_3, g87_5, g87_6, g87_9, g87_10, g87_13, g87_14, g87_17, g87_18, g87_19, g87_21, g87_23, g87_26, g87_28, g87_31, g87_34, g87_36, g87_37, g87_40, g87_43, g87_46, g87_49, g87_52, g87_53, ob2, oc2, fl2_0, fl2_1, fl2_2, fl2_3, fl2_4, fl2_5, fl2_6, wo2_6, fl2_7, wo2_7, fl2_8, wo2_8, fl2_9, wo2_9, fl2_10, wo2_10, rd4, Int.cast_ofNat_Int, Bool.false_eq_true, decide_true, decide_false, zbndI, zbwI, zbzI, zb1I, zoA_at, gback_v, gback_n, zem, zisr, zro_at, zrl_at, mu_g, mu_at, mu_mu, mu_self, not_true, not_false_iff, zb0, zb1, zbnd, zbw, zbz, zne1, zone, mrgI, List.length_nil, List.length_cons, Nat.reduceAdd, Nat.reduceSub, Nat.reduceLeDiff, Nat.zero_le, and_true, true_and, false_and, and_false, true_or, or_true, false_or, or_false, G_ite, z10, z1n, z1and, z1or, z0not, z0and, itn, if_true, if_false, reduceIte, Int.reduceEq, Int.reduceLT, Int.reduceNeg, Nat.reduceEqDiff, ite_self, h1, zct]
  | n + 1, i, s, u, h0, hi, hs, hs2 => by
    have h1 : i < 12 := by omega
    have ih1 := fun u => c87_l hI n (i + 1) s u (by omega) (by omega) (by omega) (by omega)
    have ih2 := fun u => c87_l hI n (i + 1) (s + 1) u (by omega) (by omega) (by omega) (by omega)
    rw [g87_4]
    unfold zct
    by_cases h2 : i < μ 0 0 20
    · by_cases h3 : 0 < μ 20 i 3
      · have h3' : ¬ μ 20 i 3 ≤ 0 := by omega
        obtain ⟨⟨r1, r2⟩, ⟨r3, r4⟩, r5⟩ := hI.2 i h0 h2
        have e := fun (ck sk : Nat) (Q : ZO → ZH → Prop) (u : ZV) => c14 (μ := μ) (a := i) (b := b) (u := u) (ck := ck) (sk := sk) (Q := Q) h0 h2 r1 r2 r3 r4
        by_cases h4 : zall (fun j => decide (¬ μ 26 (μ 20 i 1) j = b)) (μ 0 1 (μ 20 i 1)).toNat 0 = true
        · have h5 : ¬ hdp μ b i = true := by unfold hdp; simp only [h4, not_true, and_false, decide_false, not_false_iff, Bool.false_eq_true]
          simp (disch := first | omega | (simp (disch := decide) only [zmu0, mu_g, List.length_nil, List.length_cons]; omega)) only [g87_0, g87_1, g87_2, g87_3, g87_5, g87_6, g87_9, g87_10, g87_13, g87_14, g87_17, g87_18, g87_19, g87_21, g87_23, g87_26, g87_28, g87_31, g87_34, g87_36, g87_37, g87_40, g87_43, g87_46, g87_49, g87_52, g87_53, ob2, oc2, fl2_0, fl2_1, fl2_2, fl2_3, fl2_4, fl2_5, fl2_6, wo2_6, fl2_7, wo2_7, fl2_8, wo2_8, fl2_9, wo2_9, fl2_10, wo2_10, rd4, ob20, oc20, fl20_0, wo20_0, fl20_1, fl20_2, fl20_3, wo20_3, Int.cast_ofNat_Int, Bool.false_eq_true, decide_true, decide_false, zbndI, zbwI, zbzI, zb1I, zoA_at, gback_v, gback_n, zem, zisr, zro_at, zrl_at, mu_g, mu_at, mu_mu, mu_self, not_true, not_false_iff, zb0, zb1, zbnd, zbw, zbz, zne1, zone, mrgI, List.length_nil, List.length_cons, Nat.reduceAdd, Nat.reduceSub, Nat.reduceLeDiff, Nat.zero_le, and_true, true_and, false_and, and_false, true_or, or_true, false_or, or_false, G_ite, z10, z1n, z1and, z1or, z0not, z0and, itn, if_true, if_false, reduceIte, Int.reduceEq, Int.reduceLT, Int.reduceNeg, Nat.reduceEqDiff, ite_self, h1, h2, h3, h3', e, h4, h5, ih1]
        · have h5 : hdp μ b i = true := decide_eq_true ⟨h2, h3, h4⟩
          simp (disch := first | omega | (simp (disch := decide) only [zmu0, mu_g, List.length_nil, List.length_cons]; omega)) only [g87_0, g87_1, g87_2, g87_3, g87_5, g87_6, g87_9, g87_10, g87_13, g87_14, g87_17, g87_18, g87_19, g87_21, g87_23, g87_26, g87_28, g87_31, g87_34, g87_36, g87_37, g87_40, g87_43, g87_46, g87_49, g87_52, g87_53, ob2, oc2, fl2_0, fl2_1, fl2_2, fl2_3, fl2_4, fl2_5, fl2_6, wo2_6, fl2_7, wo2_7, fl2_8, wo2_8, fl2_9, wo2_9, fl2_10, wo2_10, rd4, ob20, oc20, fl20_0, wo20_0, fl20_1, fl20_2, fl20_3, wo20_3, Int.cast_ofNat_Int, Bool.false_eq_true, decide_true, decide_false, zbndI, zbwI, zbzI, zb1I, zoA_at, gback_v, gback_n, zem, zisr, zro_at, zrl_at, mu_g, mu_at, mu_mu, mu_self, not_true, not_false_iff, zb0, zb1, zbnd, zbw, zbz, zne1, zone, mrgI, List.length_nil, List.length_cons, Nat.reduceAdd, Nat.reduceSub, Nat.reduceLeDiff, Nat.zero_le, and_true, true_and, false_and, and_false, true_or, or_true, false_or, or_false, G_ite, z10, z1n, z1and, z1or, z0not, z0and, itn, if_true, if_false, reduceIte, Int.reduceEq, Int.reduceLT, Int.reduceNeg, Nat.reduceEqDiff, ite_self, h1, h2, h3, h3', e, h4, h5, ih2]
      · have h3' : μ 20 i 3 ≤ 0 := by omega
        have h5 : ¬ hdp μ b i = true := by unfold hdp; simp only [h3, false_and, and_false, decide_false, not_false_iff, Bool.false_eq_true]
        simp (disch := first | omega | (simp (disch := decide) only [zmu0, mu_g, List.length_nil, List.length_cons]; omega)) only [g87_0, g87_1, g87_2, g87_3, g87_5, g87_6, g87_9, g87_10, g87_13, g87_14, g87_17, g87_18, g87_19, g87_21, g87_23, g87_26, g87_28, g87_31, g87_34, g87_36, g87_37, g87_40, g87_43, g87_46, g87_49, g87_52, g87_53, ob2, oc2, fl2_0, fl2_1, fl2_2, fl2_3, fl2_4, fl2_5, fl2_6, wo2_6, fl2_7, wo2_7, fl2_8, wo2_8, fl2_9, wo2_9, fl2_10, wo2_10, rd4, ob20, oc20, fl20_0, wo20_0, fl20_1, fl20_2, fl20_3, wo20_3, Int.cast_ofNat_Int, Bool.false_eq_true, decide_true, decide_false, zbndI, zbwI, zbzI, zb1I, zoA_at, gback_v, gback_n, zem, zisr, zro_at, zrl_at, mu_g, mu_at, mu_mu, mu_self, not_true, not_false_iff, zb0, zb1, zbnd, zbw, zbz, zne1, zone, mrgI, List.length_nil, List.length_cons, Nat.reduceAdd, Nat.reduceSub, Nat.reduceLeDiff, Nat.zero_le, and_true, true_and, false_and, and_false, true_or, or_true, false_or, or_false, G_ite, z10, z1n, z1and, z1or, z0not, z0and, itn, if_true, if_false, reduceIte, Int.reduceEq, Int.reduceLT, Int.reduceNeg, Nat.reduceEqDiff, ite_self, h1, h2, h3, h3', h5, ih1]
    · have h5 : ¬ hdp μ b i = true := by unfold hdp; simp only [h2, false_and, decide_false, not_false_iff, Bool.false_eq_true]
      simp (disch := first | omega | (simp (disch := decide) only [zmu0, mu_g, List.length_nil, List.length_cons]; omega)) only [g87_0, g87_1, g87_2, g87_3, g87_5, g87_6, g87_9, g87_10, g87_13, g87_14, g87_17, g87_18, g87_19, g87_21, g87_23, g87_26, g87_28, g87_31, g87_34, g87_36, g87_37, g87_40, g87_43, g87_46, g87_49, g87_52, g87_53, ob2, oc2, fl2_0, fl2_1, fl2_2, fl2_3, fl2_4, fl2_5, fl2_6, wo2_6, fl2_7, wo2_7, fl2_8, wo2_8, fl2_9, wo2_9, fl2_10, wo2_10, rd4, ob20, oc20, fl20_0, wo20_0, fl20_1, fl20_2, fl20_3, wo20_3, Int.cast_ofNat_Int, Bool.false_eq_true, decide_true, decide_false, zbndI, zbwI, zbzI, zb1I, zoA_at, gback_v, gback_n, zem, zisr, zro_at, zrl_at, mu_g, mu_at, mu_mu, mu_self, not_true, not_false_iff, zb0, zb1, zbnd, zbw, zbz, zne1, zone, mrgI, List.length_nil, List.length_cons, Nat.reduceAdd, Nat.reduceSub, Nat.reduceLeDiff, Nat.zero_le, and_true, true_and, false_and, and_false, true_or, or_true, false_or, or_false, G_ite, z10, z1n, z1and, z1or, z0not, z0and, itn, if_true, if_false, reduceIte, Int.reduceEq, Int.reduceLT, Int.reduceNeg, Nat.reduceEqDiff, ite_self, h1, h2, h5, ih1]
theorem c87 (hI : imgOK μ) : G 87 0 [zR 2 0, zI b, u, u', u''] [] (HM μ) ck sk Q ↔ Q (.inl (some (zI (hds μ b)))) (HM μ) := by
  simp only [g87_0, g87_1, g87_2, g87_3]
  exact c87_l hI 12 0 0 u'' (by omega) (by omega) (by omega) (by omega)
theorem rowOK.of {ν : ZU} (h0 : ν 0 = μ 0) (h1 : ν 26 = μ 26) (h : rowOK μ r) : rowOK ν r := by
  unfold rowOK at *
  rw [h0, h1]
  exact h
theorem imgOK.of {ν : ZU} (h0 : ν 0 = μ 0) (h1 : ν 26 = μ 26) (h2 : ν 20 = μ 20) (h : imgOK μ) : imgOK ν := by
  unfold imgOK at *
  rw [h0, h2]
  exact ⟨h.1, fun i a1 a2 => (h.2 i a1 a2).of h0 h1⟩
theorem c88_l : ∀ (n : Nat) (i s : Int) (u : ZV) (μ : ZU), μ 0 0 10 ≤ 24 → imgOK μ → rowOK μ r → 0 ≤ i → i + n = μ 0 1 r → 0 ≤ s → s ≤ i → (G 88 4 [zR 2 0, zR 26 r, zI s, zI i, u] [] (HM μ) ck sk Q ↔ Q (.inl (some (zI (lgN r n i s μ).2))) (HM (lgN r n i s μ).1))
  | 0, i, s, u, μ, hc, hI, hr, h0, hi, hs, hs2 => by
    obtain ⟨⟨r1, r2⟩, ⟨r3, r4⟩, r5⟩ := hr
    have h1 : ¬ i < ((μ 0 1 r).toNat : Int) := by omega
    rw [g88_4]
    simp (disch := first | omega | (simp (disch := decide) only [zmu0, mu_g, List.length_nil, List.length_cons]; omega)) only [g88_0, g88_1, g88_2, g88_3, g88_5, g88_6, g88_7, g88_10, g88_11, g88_12, g88_13, g88_14, g88_17, g88_19, g88_21, g88_24, g88_25, g88_28, g88_29, g88_30, g88_31, g88_32, g88_35, g88_38, g88_40, g88_41, g88_44, g88_47, g88_50, g88_53, g88_54, ob2, oc2, fl2_0, fl2_1, fl2_2, fl2_3, fl2_4, fl2_5, fl2_6, wo2_6, fl2_7, wo2_7, fl2_8, wo2_8, fl2_9, wo2_9, fl2_10, wo2_10, rd26, ln26, Int.cast_ofNat_Int, Bool.false_eq_true, decide_true, decide_false, zbndI, zbwI, zbzI, zb1I, zoA_at, gback_v, gback_n, zem, zisr, zro_at, zrl_at, mu_g, mu_at, mu_mu, mu_self, not_true, not_false_iff, zb0, zb1, zbnd, zbw, zbz, zne1, zone, mrgI, List.length_nil, List.length_cons, Nat.reduceAdd, Nat.reduceSub, Nat.reduceLeDiff, Nat.zero_le, and_true, true_and, false_and, and_false, true_or, or_true, false_or, or_false, G_ite, z10, z1n, z1and, z1or, z0not, z0and, itn, if_true, if_false, reduceIte, Int.reduceEq, Int.reduceLT, Int.reduceNeg, Nat.reduceEqDiff, ite_self, h1, lgN]
  | n + 1, i, s, u, μ, hc, hI, hr, h0, hi, hs, hs2 => by
    have hr' := hr
    obtain ⟨⟨r1, r2⟩, ⟨r3, r4⟩, r5⟩ := hr
    have h1 : i < ((μ 0 1 r).toNat : Int) := by omega
    have h5 := r5 i h0 (by omega)
    have ih1 := fun u => c88_l n (i + 1) s u μ hc hI hr' (by omega) (by omega) (by omega) (by omega)
    have ih2 := fun u => c88_l n (i + 1) (s + 1) u (mu μ 10 (μ 26 r i) 1 2) hc (hI.of (mu_g (by decide)) (mu_g (by decide)) (mu_g (by decide))) (hr'.of (mu_g (by decide)) (mu_g (by decide))) (by omega) (by rw [mu_g (by decide)]; omega) (by omega) (by omega)
    have e := fun (ck sk : Nat) (Q : ZO → ZH → Prop) (u u' u'' : ZV) => c87 (μ := μ) (b := μ 26 r i) (ck := ck) (sk := sk) (Q := Q) (u := u) (u' := u') (u'' := u'') hI
    rw [g88_4]
    unfold lgN
    by_cases h2 : μ 10 (μ 26 r i) 1 = 1
    · by_cases h3 : hds μ (μ 26 r i) = 0
      · simp (disch := first | omega | (simp (disch := decide) only [zmu0, mu_g, List.length_nil, List.length_cons]; omega)) only [g88_0, g88_1, g88_2, g88_3, g88_5, g88_6, g88_7, g88_10, g88_11, g88_12, g88_13, g88_14, g88_17, g88_19, g88_21, g88_24, g88_25, g88_28, g88_29, g88_30, g88_31, g88_32, g88_35, g88_38, g88_40, g88_41, g88_44, g88_47, g88_50, g88_53, g88_54, ob2, oc2, fl2_0, fl2_1, fl2_2, fl2_3, fl2_4, fl2_5, fl2_6, wo2_6, fl2_7, wo2_7, fl2_8, wo2_8, fl2_9, wo2_9, fl2_10, wo2_10, ob10, oc10, fl10_0, fl10_1, wo10_1, rd26, ln26, Int.cast_ofNat_Int, Bool.false_eq_true, decide_true, decide_false, zbndI, zbwI, zbzI, zb1I, zoA_at, gback_v, gback_n, zem, zisr, zro_at, zrl_at, mu_g, mu_at, mu_mu, mu_self, not_true, not_false_iff, zb0, zb1, zbnd, zbw, zbz, zne1, zone, mrgI, List.length_nil, List.length_cons, Nat.reduceAdd, Nat.reduceSub, Nat.reduceLeDiff, Nat.zero_le, and_true, true_and, false_and, and_false, true_or, or_true, false_or, or_false, G_ite, z10, z1n, z1and, z1or, z0not, z0and, itn, if_true, if_false, reduceIte, Int.reduceEq, Int.reduceLT, Int.reduceNeg, Nat.reduceEqDiff, ite_self, h1, h2, h3, c112 hc h5.1 h5.2, e, ih2]
      · simp (disch := first | omega | (simp (disch := decide) only [zmu0, mu_g, List.length_nil, List.length_cons]; omega)) only [g88_0, g88_1, g88_2, g88_3, g88_5, g88_6, g88_7, g88_10, g88_11, g88_12, g88_13, g88_14, g88_17, g88_19, g88_21, g88_24, g88_25, g88_28, g88_29, g88_30, g88_31, g88_32, g88_35, g88_38, g88_40, g88_41, g88_44, g88_47, g88_50, g88_53, g88_54, ob2, oc2, fl2_0, fl2_1, fl2_2, fl2_3, fl2_4, fl2_5, fl2_6, wo2_6, fl2_7, wo2_7, fl2_8, wo2_8, fl2_9, wo2_9, fl2_10, wo2_10, ob10, oc10, fl10_0, fl10_1, wo10_1, rd26, ln26, Int.cast_ofNat_Int, Bool.false_eq_true, decide_true, decide_false, zbndI, zbwI, zbzI, zb1I, zoA_at, gback_v, gback_n, zem, zisr, zro_at, zrl_at, mu_g, mu_at, mu_mu, mu_self, not_true, not_false_iff, zb0, zb1, zbnd, zbw, zbz, zne1, zone, mrgI, List.length_nil, List.length_cons, Nat.reduceAdd, Nat.reduceSub, Nat.reduceLeDiff, Nat.zero_le, and_true, true_and, false_and, and_false, true_or, or_true, false_or, or_false, G_ite, z10, z1n, z1and, z1or, z0not, z0and, itn, if_true, if_false, reduceIte, Int.reduceEq, Int.reduceLT, Int.reduceNeg, Nat.reduceEqDiff, ite_self, h1, h2, h3, c112 hc h5.1 h5.2, e, ih1]
    · simp (disch := first | omega | (simp (disch := decide) only [zmu0, mu_g, List.length_nil, List.length_cons]; omega)) only [g88_0, g88_1, g88_2, g88_3, g88_5, g88_6, g88_7, g88_10, g88_11, g88_12, g88_13, g88_14, g88_17, g88_19, g88_21, g88_24, g88_25, g88_28, g88_29, g88_30, g88_31, g88_32, g88_35, g88_38, g88_40, g88_41, g88_44, g88_47, g88_50, g88_53, g88_54, ob2, oc2, fl2_0, fl2_1, fl2_2, fl2_3, fl2_4, fl2_5, fl2_6, wo2_6, fl2_7, wo2_7, fl2_8, wo2_8, fl2_9, wo2_9, fl2_10, wo2_10, ob10, oc10, fl10_0, fl10_1, wo10_1, rd26, ln26, Int.cast_ofNat_Int, Bool.false_eq_true, decide_true, decide_false, zbndI, zbwI, zbzI, zb1I, zoA_at, gback_v, gback_n, zem, zisr, zro_at, zrl_at, mu_g, mu_at, mu_mu, mu_self, not_true, not_false_iff, zb0, zb1, zbnd, zbw, zbz, zne1, zone, mrgI, List.length_nil, List.length_cons, Nat.reduceAdd, Nat.reduceSub, Nat.reduceLeDiff, Nat.zero_le, and_true, true_and, false_and, and_false, true_or, or_true, false_or, or_false, G_ite, z10, z1n, z1and, z1or, z0not, z0and, itn, if_true, if_false, reduceIte, Int.reduceEq, Int.reduceLT, Int.reduceNeg, Nat.reduceEqDiff, ite_self, h1, h2, c112 hc h5.1 h5.2, ih1]
theorem c88 (hc : μ 0 0 10 ≤ 24) (hI : imgOK μ) (hr : rowOK μ r) : G 88 0 [zR 2 0, zR 26 r, u, u', u''] [] (HM μ) ck sk Q ↔ Q (.inl (some (zI (lgN r (μ 0 1 r).toNat 0 0 μ).2))) (HM (lgN r (μ 0 1 r).toNat 0 0 μ).1) := by
  simp only [g88_0, g88_1, g88_2, g88_3]
  exact c88_l _ 0 0 u'' μ hc hI hr (by omega) (by have := hr.2.1.1; omega) (by omega) (by omega)
end ZLH
