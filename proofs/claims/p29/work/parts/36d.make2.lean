/-! ===== making: layer, rows ===== -/
section ZDD
variable {ck sk : Nat} {Q : ZO → ZH → Prop} {a b c d i j n r v w x z : Int} {y : Int64} {u u' u'' u1 u2 u3 : ZV} {μ ν : ZU} {h : ZH} {f : Nat → ZV}
theorem no10 (h : ¬ i < μ 0 0 10) : HM μ 10 i = none := if_neg (fun z => h z.2)
theorem no11 (h : ¬ i < μ 0 0 10) : HM μ 11 i = none := if_neg (fun z => h z.2)
theorem no12 (h : ¬ i < μ 0 0 10) : HM μ 12 i = none := if_neg (fun z => h z.2)
theorem no13 (h : ¬ i < μ 0 0 10) : HM μ 13 i = none := if_neg (fun z => h z.2)
theorem no14 (h : ¬ i < μ 0 0 10) : HM μ 14 i = none := if_neg (fun z => h z.2)
theorem no20 (h : ¬ i < μ 0 0 20) : HM μ 20 i = none := if_neg (fun z => h z.2)
theorem no21 (h : ¬ i < μ 0 0 20) : HM μ 21 i = none := if_neg (fun z => h z.2)
theorem no22 (h : ¬ i < μ 0 0 20) : HM μ 22 i = none := if_neg (fun z => h z.2)
theorem no23 (h : ¬ i < μ 0 0 20) : HM μ 23 i = none := if_neg (fun z => h z.2)
theorem no24 (h : ¬ i < μ 0 0 20) : HM μ 24 i = none := if_neg (fun z => h z.2)
theorem no30 (h : ¬ i < μ 0 0 30) : HM μ 30 i = none := if_neg (fun z => h z.2)
theorem no31 (h : ¬ i < μ 0 0 30) : HM μ 31 i = none := if_neg (fun z => h z.2)
theorem no32 (h : ¬ i < μ 0 0 30) : HM μ 32 i = none := if_neg (fun z => h z.2)
theorem no33 (h : ¬ i < μ 0 0 30) : HM μ 33 i = none := if_neg (fun z => h z.2)
theorem no34 (h : ¬ i < μ 0 0 30) : HM μ 34 i = none := if_neg (fun z => h z.2)
theorem no35 (h : ¬ i < μ 0 0 30) : HM μ 35 i = none := if_neg (fun z => h z.2)
theorem no40 (h : ¬ i < μ 0 0 40) : HM μ 40 i = none := if_neg (fun z => h z.2)
theorem no41 (h : ¬ i < μ 0 0 41) : HM μ 41 i = none := if_neg (fun z => h z.2)
theorem no50 (h : ¬ i < μ 0 0 50) : HM μ 50 i = none := if_neg (fun z => h z.2)
theorem no51 (h : ¬ i < μ 0 0 50) : HM μ 51 i = none := if_neg (fun z => h z.2)
theorem no52 (h : ¬ i < μ 0 0 50) : HM μ 52 i = none := if_neg (fun z => h z.2)
theorem no53 (h : ¬ i < μ 0 0 50) : HM μ 53 i = none := if_neg (fun z => h z.2)
theorem no54 (h : ¬ i < μ 0 0 50) : HM μ 54 i = none := if_neg (fun z => h z.2)
theorem no55 (h : ¬ i < μ 0 0 50) : HM μ 55 i = none := if_neg (fun z => h z.2)
theorem no56 (h : ¬ i < μ 0 0 50) : HM μ 56 i = none := if_neg (fun z => h z.2)
theorem no26 (h : ¬ i < μ 0 0 26) : HM μ 26 i = none := if_neg (fun z => h z.2)
theorem c44_x (h : ¬ μ 2 0 6 < 24) : G 44 0 [zR 2 0] [] (HM μ) 5 35 Q ↔ Q (.inr 2) (HM μ) := by
  simp (disch := first | omega | (simp (disch := decide) only [zmu0, mu_g, List.length_nil, List.length_cons]; omega)) only [g44_0, g44_1, g44_4, g44_6, g44_9, g44_19, g44_20, g44_23, g44_24, g44_30, g44_30r, g44_31, g44_35, g44_36, g44_36r, g44_37, g44_40, g44_41, g44_42, g44_45, g44_46, g44_49, g44_50, g44_51, ob2, oc2, fl2_0, fl2_1, fl2_2, fl2_3, fl2_4, fl2_5, fl2_6, wo2_6, fl2_7, wo2_7, fl2_8, wo2_8, fl2_9, wo2_9, fl2_10, wo2_10, Int.reduceSub, Int.reduceAdd, Int.add_zero, Int.zero_add, Int.cast_ofNat_Int, Bool.false_eq_true, decide_true, decide_false, zbndI, zbwI, zbzI, zb1I, zoA_at, gback_v, gback_n, zem, zisr, zro_at, zrl_at, mu_g, mu_at, mu_mu, mu_self, not_true, not_false_iff, zb0, zb1, zbnd, zbw, zbz, zne1, zone, mrgI, List.length_nil, List.length_cons, Nat.reduceAdd, Nat.reduceSub, Nat.reduceLeDiff, Nat.zero_le, and_true, true_and, false_and, and_false, true_or, or_true, false_or, or_false, G_ite, z10, z1n, z1and, z1or, z0not, z0and, itn, if_true, if_false, reduceIte, Int.reduceEq, Int.reduceLT, Int.reduceNeg, Nat.reduceEqDiff, ite_self, h]
theorem c44 (h1 : μ 2 0 6 = n) (h2 : μ 0 0 10 = n) (h3 : 0 ≤ n) (h4 : n < 24) (q : Q (.inl (some (zI n))) (HM (mLy n (mu μ 2 0 6 (n + 1))))) : G 44 0 [zR 2 0] [] (HM μ) 5 35 Q := by
  have e1 : n + 1 - 1 = n := by omega
  simp (disch := first | omega | (simp (disch := decide) only [zmu0, mu_g, List.length_nil, List.length_cons]; omega)) only [g44_0, g44_1, g44_4, g44_6, g44_9, g44_19, g44_20, g44_23, g44_24, g44_30, g44_30r, g44_31, g44_35, g44_36, g44_36r, g44_37, g44_40, g44_41, g44_42, g44_45, g44_46, g44_49, g44_50, g44_51, ob2, oc2, fl2_0, fl2_1, fl2_2, fl2_3, fl2_4, fl2_5, fl2_6, wo2_6, fl2_7, wo2_7, fl2_8, wo2_8, fl2_9, wo2_9, fl2_10, wo2_10, Int.reduceSub, Int.reduceAdd, Int.add_zero, Int.zero_add, Int.cast_ofNat_Int, Bool.false_eq_true, decide_true, decide_false, zbndI, zbwI, zbzI, zb1I, zoA_at, gback_v, gback_n, zem, zisr, zro_at, zrl_at, mu_g, mu_at, mu_mu, mu_self, not_true, not_false_iff, zb0, zb1, zbnd, zbw, zbz, zne1, zone, mrgI, List.length_nil, List.length_cons, Nat.reduceAdd, Nat.reduceSub, Nat.reduceLeDiff, Nat.zero_le, and_true, true_and, false_and, and_false, true_or, or_true, false_or, or_false, G_ite, z10, z1n, z1and, z1or, z0not, z0and, itn, if_true, if_false, reduceIte, Int.reduceEq, Int.reduceLT, Int.reduceNeg, Nat.reduceEqDiff, ite_self, h1, h4]
  rw [g44_27]
  refine ⟨⟨trivial, by decide, by decide⟩, 10, n, by decide, no10 (by omega), ?_⟩
  simp (disch := first | omega | (simp (disch := decide) only [zmu0, mu_g, List.length_nil, List.length_cons]; omega)) only [g44_0, g44_1, g44_4, g44_6, g44_9, g44_19, g44_20, g44_23, g44_24, g44_30, g44_30r, g44_31, g44_35, g44_36, g44_36r, g44_37, g44_40, g44_41, g44_42, g44_45, g44_46, g44_49, g44_50, g44_51, Int.reduceSub, Int.reduceAdd, Int.add_zero, Int.zero_add, Int.cast_ofNat_Int, Bool.false_eq_true, decide_true, decide_false, zbndI, zbwI, zbzI, zb1I, zoA_at, gback_v, gback_n, zem, zisr, zro_at, zrl_at, mu_g, mu_at, mu_mu, mu_self, not_true, not_false_iff, zb0, zb1, zbnd, zbw, zbz, zne1, zone, mrgI, List.length_nil, List.length_cons, Nat.reduceAdd, Nat.reduceSub, Nat.reduceLeDiff, Nat.zero_le, and_true, true_and, false_and, and_false, true_or, or_true, false_or, or_false, G_ite, z10, z1n, z1and, z1or, z0not, z0and, itn, if_true, if_false, reduceIte, Int.reduceEq, Int.reduceLT, Int.reduceNeg, Nat.reduceEqDiff, ite_self, zGO_s]
  refine i16 zset_at (by rw [zset_k (by decide)]; exact no11 (by omega)) (by rw [zset_k (by decide)]; exact no12 (by omega)) (by rw [zset_k (by decide)]; exact no13 (by omega)) (by rw [zset_k (by decide)]; exact no14 (by omega)) ?_
  rw [gback_n, g44_34]
  simp (disch := first | omega | (simp (disch := decide) only [zmu0, mu_g, List.length_nil, List.length_cons]; omega)) only [zAY_n, rd3, zset_zset]
  refine ⟨5, by decide, ⟨_, by simp (disch := decide) only [zset_k]; exact zset_at⟩, by decide, by decide, rfl, h3, by omega, ?_⟩
  simp (disch := first | omega | (simp (disch := decide) only [zmu0, mu_g, List.length_nil, List.length_cons]; omega)) only [g44_0, g44_1, g44_4, g44_6, g44_9, g44_19, g44_20, g44_23, g44_24, g44_30, g44_30r, g44_31, g44_35, g44_36, g44_36r, g44_37, g44_40, g44_41, g44_42, g44_45, g44_46, g44_49, g44_50, g44_51, ob2, oc2, fl2_0, fl2_1, fl2_2, fl2_3, fl2_4, fl2_5, fl2_6, wo2_6, fl2_7, wo2_7, fl2_8, wo2_8, fl2_9, wo2_9, fl2_10, wo2_10, Int.reduceSub, Int.reduceAdd, Int.add_zero, Int.zero_add, Int.cast_ofNat_Int, Bool.false_eq_true, decide_true, decide_false, zbndI, zbwI, zbzI, zb1I, zoA_at, gback_v, gback_n, zem, zisr, zro_at, zrl_at, mu_g, mu_at, mu_mu, mu_self, not_true, not_false_iff, zb0, zb1, zbnd, zbw, zbz, zne1, zone, mrgI, List.length_nil, List.length_cons, Nat.reduceAdd, Nat.reduceSub, Nat.reduceLeDiff, Nat.zero_le, and_true, true_and, false_and, and_false, true_or, or_true, false_or, or_false, G_ite, z10, z1n, z1and, z1or, z0not, z0and, itn, if_true, if_false, reduceIte, Int.reduceEq, Int.reduceLT, Int.reduceNeg, Nat.reduceEqDiff, ite_self, zGF_n, zset_comm, h1, e1]
  have e := HM_ly (μ := mu μ 2 0 6 (n + 1)) (n := n) h2 h3
  rw [← e] at q
  have e3 : mu μ 2 0 6 (n + 1) 0 0 10 = n := h2
  rw [h2]
  exact q
/-! a row of layers -/
def mRw (r m : Int) (y : Int64) (μ : ZU) : ZU := fun k i j => if k = 0 then (if i = 0 ∧ j = 26 then r + 1 else if i = 1 ∧ j = r then m else μ k i j) else if k = 26 ∧ i = r then (if 0 ≤ j ∧ j < m then kcd y j - 1 else 0) else μ k i j
def rwz (y : Int64) (m : Int) : Nat → Int → (Int → ZV) → (Int → ZV)
  | 0, _, g => g
  | n + 1, i, g => rwz y m n (i + 1) (zup g i (zI (kcd y i - 1)))
theorem rwz_at {y : Int64} {m : Int} : ∀ (n : Nat) (i : Int) (g : Int → ZV) (j : Int), rwz y m n i g j = if i ≤ j ∧ j < i + n then zI (kcd y j - 1) else g j
  | 0, i, g, j => by
    rw [if_neg (by omega)]
    rfl
  | n + 1, i, g, j => by
    unfold rwz
    rw [rwz_at n]
    by_cases h1 : i + 1 ≤ j ∧ j < i + 1 + n
    · rw [if_pos h1, if_pos (by omega)]
    · rw [if_neg h1]
      unfold zup
      by_cases h2 : j = i
      · rw [if_pos h2, if_pos (by omega), h2]
      · rw [if_neg h2, if_neg (by omega)]
theorem c82_l {h : ZH} {m : Int} (hm0 : 0 ≤ m) (hm : m ≤ 8) : ∀ (n : Nat) (i : Int) (g : Int → ZV), 0 ≤ i → i + n = m → (G 82 34 [zR 2 0, zL y, zJ, zR 26 r, zI i] [] (zset h 26 r (.inr (.int, m.toNat, g))) ck sk Q ↔ Q (.inl (some (zR 26 r))) (zset h 26 r (.inr (.int, m.toNat, rwz y m n i g))))
  | 0, i, g, h0, hi => by
    have h1 : ¬ i < (m.toNat : Int) := by omega
    rw [g82_34]
    simp (disch := first | omega | (simp (disch := decide) only [zmu0, mu_g, List.length_nil, List.length_cons]; omega)) only [g82_0, g82_1, g82_2, g82_5, g82_7, g82_10, g82_13, g82_24, g82_25, g82_28, g82_30, g82_31, g82_32, g82_36, g82_37, g82_38, g82_41, g82_42, g82_44, g82_45, g82_47, g82_50, g82_51, g82_52, g82_53, g82_56, g82_59, g82_60, Int.reduceSub, Int.reduceAdd, Int.add_zero, Int.zero_add, Int.cast_ofNat_Int, Bool.false_eq_true, decide_true, decide_false, zbndI, zbwI, zbzI, zb1I, zoA_at, gback_v, gback_n, zem, zisr, zro_at, zrl_at, mu_g, mu_at, mu_mu, mu_self, not_true, not_false_iff, zb0, zb1, zbnd, zbw, zbz, zne1, zone, mrgI, List.length_nil, List.length_cons, Nat.reduceAdd, Nat.reduceSub, Nat.reduceLeDiff, Nat.zero_le, and_true, true_and, false_and, and_false, true_or, or_true, false_or, or_false, G_ite, z10, z1n, z1and, z1or, z0not, z0and, itn, if_true, if_false, reduceIte, Int.reduceEq, Int.reduceLT, Int.reduceNeg, Nat.reduceEqDiff, ite_self, zAY_s, h1, rwz]
  | n + 1, i, g, h0, hi => by
    have h1 : i < (m.toNat : Int) := by omega
    have hk := kcd_b (y := y) (i := i)
    have ih := c82_l (h := h) hm0 hm n (i + 1) (zup g i (zI (kcd y i - 1))) (by omega) (by omega)
    rw [g82_34]
    unfold rwz
    simp (disch := first | omega | (simp (disch := decide) only [zmu0, mu_g, List.length_nil, List.length_cons]; omega)) only [g82_0, g82_1, g82_2, g82_5, g82_7, g82_10, g82_13, g82_24, g82_25, g82_28, g82_30, g82_31, g82_32, g82_36, g82_37, g82_38, g82_41, g82_42, g82_44, g82_45, g82_47, g82_50, g82_51, g82_52, g82_53, g82_56, g82_59, g82_60, Int.reduceSub, Int.reduceAdd, Int.add_zero, Int.zero_add, Int.cast_ofNat_Int, Bool.false_eq_true, decide_true, decide_false, zbndI, zbwI, zbzI, zb1I, zoA_at, gback_v, gback_n, zem, zisr, zro_at, zrl_at, mu_g, mu_at, mu_mu, mu_self, not_true, not_false_iff, zb0, zb1, zbnd, zbw, zbz, zne1, zone, mrgI, List.length_nil, List.length_cons, Nat.reduceAdd, Nat.reduceSub, Nat.reduceLeDiff, Nat.zero_le, and_true, true_and, false_and, and_false, true_or, or_true, false_or, or_false, G_ite, z10, z1n, z1and, z1or, z0not, z0and, itn, if_true, if_false, reduceIte, Int.reduceEq, Int.reduceLT, Int.reduceNeg, Nat.reduceEqDiff, ite_self, zAY_s, zAR_s, zset_zset, h1, c79, ih]
theorem HM_rw {m : Int} (hr : μ 0 0 26 = r) (h0 : 0 ≤ r) (hm0 : 0 ≤ m) : zset (HM μ) 26 r (.inr (.int, m.toNat, rwz y m m.toNat 0 (fun _ => zI 0))) = HM (mRw r m y μ) := by
  have e26 : mRw r m y μ 0 0 26 = r + 1 := rfl
  have e1r : mRw r m y μ 0 1 r = m := by
    show (if (0 : Nat) = 0 then (if (1 : Int) = 0 ∧ r = 26 then r + 1 else if (1 : Int) = 1 ∧ r = r then m else μ 0 1 r) else _) = m
    rw [if_pos rfl, if_neg (fun z => absurd z.1 (by decide)), if_pos ⟨rfl, rfl⟩]
  have h00 : ∀ (j : Int), j ≠ 26 → mRw r m y μ 0 0 j = μ 0 0 j := fun j hj => by
    show (if (0 : Nat) = 0 then (if (0 : Int) = 0 ∧ j = 26 then r + 1 else if (0 : Int) = 1 ∧ j = r then m else μ 0 0 j) else _) = _
    rw [if_pos rfl, if_neg (fun z => hj z.2), if_neg (fun z => absurd z.1 (by decide))]
  have hbd : ∀ c, c ≠ 26 → zbd (mRw r m y μ) c = zbd μ c := fun c hc => by
    match c with
    | 0 => rfl
    | c + 1 => exact h00 ((c + 1 : Nat) : Int) (by omega)
  funext k i
  refine zset_pt ?_ fun n26 => ?_
  · have e : HM (mRw r m y μ) 26 r = some (.inr (.int, (mRw r m y μ 0 1 r).toNat, fun j => zI (mRw r m y μ 26 r j))) := if_pos ⟨h0, by rw [e26]; omega⟩
    rw [e, e1r]
    have e2 : (fun j => zI (mRw r m y μ 26 r j)) = rwz y m m.toNat 0 (fun _ => zI 0) := by
      funext j
      rw [rwz_at]
      show zI (if (26 : Nat) = 0 then _ else if (26 : Nat) = 26 ∧ r = r then (if 0 ≤ j ∧ j < m then kcd y j - 1 else 0) else _) = _
      rw [if_neg (by decide), if_pos ⟨rfl, rfl⟩]
      by_cases hj : 0 ≤ j ∧ j < m
      · rw [if_pos hj, if_pos (by omega)]
      · rw [if_neg hj, if_neg (by omega)]
    rw [e2]
  · refine HM_same (fun t m' c hc => ?_) (fun c m' hc => ?_) (fun c m' e hc hi => ?_) (fun hk _ => ?_) (fun hk => ?_) (fun hk => ?_) (fun hk j => ?_)
    · by_cases h1 : c = 26
      · subst h1
        exact (kA_26 hc).elim
      · rw [hbd c h1]
    · by_cases h1 : m' = 26
      · subst h1
        exact (kO_26 hc).elim
      · rw [hbd m' h1]
    · by_cases h1 : e = 26
      · subst h1
        exact (kB_26 hc).elim
      · exact h00 _ (by omega)
    · exact h00 _ (by decide)
    · show (if (0 : Nat) = 0 then (if (2 : Int) = 0 ∧ (0 : Int) = 26 then r + 1 else if (2 : Int) = 1 ∧ (0 : Int) = r then m else μ 0 2 0) else _) = _
      rw [if_pos rfl, if_neg (fun z => absurd z.1 (by decide)), if_neg (fun z => absurd z.1 (by decide))]
    · have hi : i ≠ r := fun z => n26 ⟨hk, z⟩
      refine ⟨?_, ?_⟩
      · show (if (0 : Nat) = 0 then (if (1 : Int) = 0 ∧ i = 26 then r + 1 else if (1 : Int) = 1 ∧ i = r then m else μ 0 1 i) else _) = _
        rw [if_pos rfl, if_neg (fun z => absurd z.1 (by decide)), if_neg (fun z => hi z.2)]
      · rw [e26, hr]
        omega
    · show (if k = 0 then _ else if k = 26 ∧ i = r then _ else μ k i j) = μ k i j
      rw [if_neg hk, if_neg n26]
theorem c82_x (h : ¬ kall y (μ 2 0 6) 6) : G 82 0 [zR 2 0, zL y, zJ, u1, u2] [] (HM μ) 1 8 Q ↔ Q (.inr 0) (HM μ) := by
  simp (disch := first | omega | (simp (disch := decide) only [zmu0, mu_g, List.length_nil, List.length_cons]; omega)) only [g82_0, g82_1, g82_2, g82_5, g82_7, g82_10, g82_13, g82_24, g82_25, g82_30, g82_31, g82_32, g82_36, g82_37, g82_38, g82_41, g82_42, g82_44, g82_45, g82_47, g82_50, g82_51, g82_52, g82_53, g82_56, g82_59, g82_60, ob2, oc2, fl2_0, fl2_1, fl2_2, fl2_3, fl2_4, fl2_5, fl2_6, wo2_6, fl2_7, wo2_7, fl2_8, wo2_8, fl2_9, wo2_9, fl2_10, wo2_10, Int.reduceSub, Int.reduceAdd, Int.add_zero, Int.zero_add, Int.cast_ofNat_Int, Bool.false_eq_true, decide_true, decide_false, zbndI, zbwI, zbzI, zb1I, zoA_at, gback_v, gback_n, zem, zisr, zro_at, zrl_at, mu_g, mu_at, mu_mu, mu_self, not_true, not_false_iff, zb0, zb1, zbnd, zbw, zbz, zne1, zone, mrgI, List.length_nil, List.length_cons, Nat.reduceAdd, Nat.reduceSub, Nat.reduceLeDiff, Nat.zero_le, and_true, true_and, false_and, and_false, true_or, or_true, false_or, or_false, G_ite, z10, z1n, z1and, z1or, z0not, z0and, itn, if_true, if_false, reduceIte, Int.reduceEq, Int.reduceLT, Int.reduceNeg, Nat.reduceEqDiff, ite_self, c81, h]
theorem c82 (h : kall y (μ 2 0 6) 6) (hr : μ 0 0 26 = r) (h0 : 0 ≤ r) (q : Q (.inl (some (zR 26 r))) (HM (mRw r (klen y) y μ))) : G 82 0 [zR 2 0, zL y, zJ, u1, u2] [] (HM μ) 1 8 Q := by
  have hk := klen_in (x := y)
  have el := c82_l (h := HM μ) (r := r) (y := y) (ck := 0) (sk := 8 - (klen y).toNat) (Q := Q) hk.1 hk.2 (klen y).toNat 0 (fun _ => zI 0) (by omega) (by omega)
  simp (disch := first | omega | (simp (disch := decide) only [zmu0, mu_g, List.length_nil, List.length_cons]; omega)) only [g82_0, g82_1, g82_2, g82_5, g82_7, g82_10, g82_13, g82_24, g82_25, g82_30, g82_31, g82_32, g82_36, g82_37, g82_38, g82_41, g82_42, g82_44, g82_45, g82_47, g82_50, g82_51, g82_52, g82_53, g82_56, g82_59, g82_60, ob2, oc2, fl2_0, fl2_1, fl2_2, fl2_3, fl2_4, fl2_5, fl2_6, wo2_6, fl2_7, wo2_7, fl2_8, wo2_8, fl2_9, wo2_9, fl2_10, wo2_10, Int.reduceSub, Int.reduceAdd, Int.add_zero, Int.zero_add, Int.cast_ofNat_Int, Bool.false_eq_true, decide_true, decide_false, zbndI, zbwI, zbzI, zb1I, zoA_at, gback_v, gback_n, zem, zisr, zro_at, zrl_at, mu_g, mu_at, mu_mu, mu_self, not_true, not_false_iff, zb0, zb1, zbnd, zbw, zbz, zne1, zone, mrgI, List.length_nil, List.length_cons, Nat.reduceAdd, Nat.reduceSub, Nat.reduceLeDiff, Nat.zero_le, and_true, true_and, false_and, and_false, true_or, or_true, false_or, or_false, G_ite, z10, z1n, z1and, z1or, z0not, z0and, itn, if_true, if_false, reduceIte, Int.reduceEq, Int.reduceLT, Int.reduceNeg, Nat.reduceEqDiff, ite_self, c80, c81, h]
  rw [g82_28]
  refine ⟨⟨⟨by omega, by omega⟩, by decide, by omega⟩, 26, r, by decide, no26 (by omega), ?_⟩
  simp (disch := first | omega | (simp (disch := decide) only [zmu0, mu_g, List.length_nil, List.length_cons]; omega)) only [g82_0, g82_1, g82_2, g82_5, g82_7, g82_10, g82_13, g82_24, g82_25, g82_30, g82_31, g82_32, g82_36, g82_37, g82_38, g82_41, g82_42, g82_44, g82_45, g82_47, g82_50, g82_51, g82_52, g82_53, g82_56, g82_59, g82_60, Int.reduceSub, Int.reduceAdd, Int.add_zero, Int.zero_add, Int.cast_ofNat_Int, Bool.false_eq_true, decide_true, decide_false, zbndI, zbwI, zbzI, zb1I, zoA_at, gback_v, gback_n, zem, zisr, zro_at, zrl_at, mu_g, mu_at, mu_mu, mu_self, not_true, not_false_iff, zb0, zb1, zbnd, zbw, zbz, zne1, zone, mrgI, List.length_nil, List.length_cons, Nat.reduceAdd, Nat.reduceSub, Nat.reduceLeDiff, Nat.zero_le, and_true, true_and, false_and, and_false, true_or, or_true, false_or, or_false, G_ite, z10, z1n, z1and, z1or, z0not, z0and, itn, if_true, if_false, reduceIte, Int.reduceEq, Int.reduceLT, Int.reduceNeg, Nat.reduceEqDiff, ite_self, el]
  rw [HM_rw hr h0 hk.1]
  exact q
end ZDD
