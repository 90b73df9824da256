/-! ===== making: image ===== -/
def mIm (n r : Int) (φ : ZTF) (μ : ZU) : ZU := fun k i j => if k = 0 then (if i = 0 ∧ j = 20 then n + 1 else μ k i j) else if i = n then (if k = 20 then (if j = 0 then n else if j = 1 then r else if j = 3 then 1 else 0) else if k = 21 then 0 else if k = 22 then φ.1 j else if k = 23 then φ.2.1 j else if k = 24 then φ.2.2 j else μ k i j) else μ k i j
abbrev zfI (n r : Int) : ZE := .inl (3, zupN (zupN (zupN (zupN (zfd 3) 3 (zI 1)) 0 (zI n)) 1 (zR 26 r)) 2 (zR 21 n))
section ZDF
variable {ck sk : Nat} {Q : ZO → ZH → Prop} {a b c d i j n r v w x z : Int} {y : Int64} {u u' u'' u1 u2 u3 : ZV} {μ ν : ZU} {f : Nat → ZV} {O O' : ZE} {φ : ZTF} {F : (Nat → ZV) → Prop} {k : Nat}
theorem HI_20 {c : Nat} : zGF (HI μ n (.inl (c, f)) φ) 20 n c F ↔ F f := by
  unfold HI
  rw [zGF_n (by decide), zGF_n (by decide), zGF_n (by decide), zGF_n (by decide), zGF_s]
theorem HI_o20 {c : Nat} : zGO (HI μ n (.inl (c, f)) φ) 20 n c ↔ True := by
  unfold HI
  rw [zGO_n (by decide), zGO_n (by decide), zGO_n (by decide), zGO_n (by decide), zGO_s]
theorem HI_w20 : zset (HI μ n O φ) 20 n O' = HI μ n O' φ := by
  unfold HI
  rw [zset_comm (k := 20) (k' := 24) (by decide), zset_comm (k := 20) (k' := 23) (by decide), zset_comm (k := 20) (k' := 22) (by decide), zset_comm (k := 20) (k' := 21) (by decide), zset_zset]
theorem HI_w2 : zset (HI μ n O φ) 2 0 (.inl (8, zupN (zfl μ 2 0) 7 (zI v))) = HI (mu μ 2 0 7 v) n O φ := by
  unfold HI
  rw [zset_comm (k := 2) (k' := 24) (by decide), zset_comm (k := 2) (k' := 23) (by decide), zset_comm (k := 2) (k' := 22) (by decide), zset_comm (k := 2) (k' := 21) (by decide), zset_comm (k := 2) (k' := 20) (by decide), wo2_7 (by omega) (by omega)]
theorem HM_im (hn : μ 0 0 20 = n) (h0 : 0 ≤ n) : zset (HI μ n (zfI n r) φ) 4 0 (.inr (.object (zcn 3), 12, zup (zoA 20 n) n (zR 20 n))) = HM (mIm n r φ μ) := by
  have e20 : mIm n r φ μ 0 0 20 = n + 1 := rfl
  have h00 : ∀ (a j : Int), ¬ (a = 0 ∧ j = 20) → mIm n r φ μ 0 a j = μ 0 a j := fun a j hj => by
    show (if (0 : Nat) = 0 then (if a = 0 ∧ j = 20 then n + 1 else μ 0 a j) else 0) = _
    rw [if_pos rfl, if_neg hj]
  have hbd : ∀ c, c ≠ 20 → zbd (mIm n r φ μ) c = zbd μ c := fun c hc => by
    match c with
    | 0 => rfl
    | c + 1 => exact h00 0 ((c + 1 : Nat) : Int) (by omega)
  have hg : ∀ k i j, k ≠ 0 → i ≠ n → mIm n r φ μ k i j = μ k i j := fun k i j h1 h2 => by
    show (if k = 0 then _ else if i = n then _ else μ k i j) = _
    rw [if_neg h1, if_neg h2]
  have arr : ∀ (k : Nat) (g : Int → Int), (k = 22 ∨ k = 23 ∨ k = 24) → (∀ j, mIm n r φ μ k n j = g j) → HM (mIm n r φ μ) k n = some (.inr (.int, 10, zof g)) := fun k g hk hgj => by
    have e : zkl zKA k = some (.int, 10, 20) := by
      rcases hk with rfl | rfl | rfl <;> rfl
    unfold HM
    rw [e]
    show (if 0 ≤ n ∧ n < mIm n r φ μ 0 0 20 then _ else none) = _
    rw [if_pos ⟨h0, by omega⟩]
    have e2 : (fun j => zel FieldType.int (mIm n r φ μ k n j)) = zof g := by
      funext j
      rw [hgj]
      rfl
    rw [e2]
  have v22 : ∀ j, mIm n r φ μ 22 n j = φ.1 j := fun j => by
    show (if n = n then φ.1 j else μ 22 n j) = _
    rw [if_pos rfl]
  have v23 : ∀ j, mIm n r φ μ 23 n j = φ.2.1 j := fun j => by
    show (if n = n then φ.2.1 j else μ 23 n j) = _
    rw [if_pos rfl]
  have v24 : ∀ j, mIm n r φ μ 24 n j = φ.2.2 j := fun j => by
    show (if n = n then φ.2.2 j else μ 24 n j) = _
    rw [if_pos rfl]
  have v21 : ∀ j, mIm n r φ μ 21 n j = 0 := fun j => by
    show (if n = n then 0 else μ 21 n j) = _
    rw [if_pos rfl]
  have v20 : ∀ j, mIm n r φ μ 20 n j = if j = 0 then n else if j = 1 then r else if j = 3 then 1 else 0 := fun j => by
    show (if n = n then (if j = 0 then n else if j = 1 then r else if j = 3 then 1 else 0) else μ 20 n j) = _
    rw [if_pos rfl]
  unfold HI
  funext k i
  refine zset_pt ?_ fun n4 => zset_pt (arr 24 _ (by omega) v24) fun n24 => zset_pt (arr 23 _ (by omega) v23) fun n23 => zset_pt (arr 22 _ (by omega) v22) fun n22 => zset_pt ?_ fun n21 => zset_pt ?_ fun n20 => ?_
  · have e : HM (mIm n r φ μ) 4 0 = some (.inr (.object (zcn 3), 12, zoA 20 (mIm n r φ μ 0 0 20))) := rfl
    rw [e, e20]
    rw [zoA_s h0]
  · have e : HM (mIm n r φ μ) 21 n = some (.inl (2, zfl (mIm n r φ μ) 21 n)) := if_pos ⟨h0, by show n < mIm n r φ μ 0 0 20; omega⟩
    rw [e]
    have e2 : zfl (mIm n r φ μ) 21 n = zupN (zupN (zupN (zfd 2) 0 (zR 22 n)) 1 (zR 23 n)) 2 (zR 24 n) := by
      funext s
      match s with
      | 0 => rfl
      | 1 => rfl
      | 2 => rfl
      | s + 3 =>
        show zI (mIm n r φ μ 21 n _) = _
        rw [v21, zupN_n (by omega), zupN_n (by omega), zupN_n (by omega)]
        rfl
    rw [e2]
  · have e : HM (mIm n r φ μ) 20 n = some (.inl (3, zfl (mIm n r φ μ) 20 n)) := if_pos ⟨h0, by show n < mIm n r φ μ 0 0 20; omega⟩
    rw [e]
    have e2 : zfl (mIm n r φ μ) 20 n = zupN (zupN (zupN (zupN (zfd 3) 3 (zI 1)) 0 (zI n)) 1 (zR 26 r)) 2 (zR 21 n) := by
      funext s
      match s with
      | 0 =>
        show zI (mIm n r φ μ 20 n _) = _
        rw [v20]
        rfl
      | 1 =>
        show zR 26 (mIm n r φ μ 20 n 1) = _
        rw [v20]
        rfl
      | 2 => rfl
      | 3 =>
        show zI (mIm n r φ μ 20 n _) = _
        rw [v20]
        rfl
      | s + 4 =>
        show zI (mIm n r φ μ 20 n ((s + 4 : Nat) : Int)) = _
        rw [v20, if_neg (by omega), if_neg (by omega), if_neg (by omega), zupN_n (by omega), zupN_n (by omega), zupN_n (by omega), zupN_n (by omega)]
        rfl
    rw [e2]
  · refine HM_same (fun t m c hc => ?_) (fun c m hc => ?_) (fun c m e hc hi => ?_) (fun hk _ => ?_) (fun hk => ?_) (fun hk => ?_) (fun hk j => ?_)
    · by_cases h1 : c = 20
      · subst h1
        have := kA_20 hc
        show i < mIm n r φ μ 0 0 20 ↔ i < μ 0 0 20
        rw [e20]
        omega
      · rw [hbd c h1]
    · by_cases h1 : m = 20
      · subst h1
        have := kO_20 hc
        show i < mIm n r φ μ 0 0 20 ↔ i < μ 0 0 20
        rw [e20]
        omega
      · rw [hbd m h1]
    · by_cases h1 : e = 20
      · subst h1
        exact absurd ⟨kB_20 hc, hi⟩ n4
      · exact h00 0 _ (by omega)
    · exact h00 0 _ (by omega)
    · exact h00 2 0 (by omega)
    · refine ⟨h00 1 _ (by omega), ?_⟩
      rw [h00 0 26 (by omega)]
    · by_cases hi : i = n
      · subst hi
        show (if k = 0 then _ else if i = i then (if k = 20 then _ else if k = 21 then _ else if k = 22 then _ else if k = 23 then _ else if k = 24 then _ else μ k i j) else _) = _
        rw [if_neg hk, if_pos rfl, if_neg (fun z => n20 ⟨z, rfl⟩), if_neg (fun z => n21 ⟨z, rfl⟩), if_neg (fun z => n22 ⟨z, rfl⟩), if_neg (fun z => n23 ⟨z, rfl⟩), if_neg (fun z => n24 ⟨z, rfl⟩)]
      · exact hg k i j hk hi
theorem c49_1 (h : ¬ kall y (μ 2 0 6) 6) : G 49 0 [zR 2 0, zL y, zJ, u1, u2] [] (HM μ) 7 51 Q ↔ Q (.inr 0) (HM μ) := by
  simp (disch := first | omega | (simp (disch := decide) only [zmu0, mu_g, List.length_nil, List.length_cons]; omega)) only [g49_0, g49_1, g49_2, g49_5, g49_6, g49_7, g49_8, g49_11, g49_12, g49_13, g49_16, g49_18, g49_20, g49_23, g49_25, g49_25r, g49_26, g49_29, g49_30, g49_31, g49_34, g49_36, g49_39, g49_40, g49_41, g49_44, g49_46, g49_49, g49_59, g49_60, g49_63, g49_64, g49_70, g49_70r, g49_71, g49_72, g49_75, g49_76, g49_77, g49_85, g49_86, g49_86r, g49_87, g49_90, g49_91, g49_92, g49_95, g49_96, g49_99, g49_100, g49_101, ob2, oc2, fl2_0, fl2_1, fl2_2, fl2_3, fl2_4, fl2_5, fl2_6, wo2_6, fl2_7, wo2_7, fl2_8, wo2_8, fl2_9, wo2_9, fl2_10, wo2_10, Int.reduceSub, Int.reduceAdd, Int.add_zero, Int.zero_add, Int.cast_ofNat_Int, Bool.false_eq_true, decide_true, decide_false, zbndI, zbwI, zbzI, zb1I, zoA_at, gback_v, gback_n, zem, zisr, zro_at, zrl_at, mu_g, mu_at, mu_mu, mu_self, not_true, not_false_iff, zb0, zb1, zbnd, zbw, zbz, zne1, zone, mrgI, List.length_nil, List.length_cons, Nat.reduceAdd, Nat.reduceSub, Nat.reduceLeDiff, Nat.zero_le, and_true, true_and, false_and, and_false, true_or, or_true, false_or, or_false, G_ite, z10, z1n, z1and, z1or, z0not, z0and, itn, if_true, if_false, reduceIte, Int.reduceEq, Int.reduceLT, Int.reduceNeg, Nat.reduceEqDiff, ite_self, c82_x h, ge49]
abbrev m49 (y : Int64) (μ : ZU) : ZU := mRw (μ 0 0 26) (klen y) y μ
def sl49 (y : Int64) (μ : ZU) : Bool := zall (fun j => decide (m49 y μ 10 (m49 y μ 26 (μ 0 0 26) j) 1 = 1)) (m49 y μ 0 1 (μ 0 0 26)).toNat 0
theorem c49_2 (h : kall y (μ 2 0 6) 6) (h0 : 0 ≤ μ 0 0 26) (hc : μ 0 0 10 ≤ 24) (hr : rowOK (m49 y μ) (μ 0 0 26)) (hs : ¬ sl49 y μ = true) (q : Q (.inr 2) (HM (m49 y μ))) : G 49 0 [zR 2 0, zL y, zJ, u1, u2] [] (HM μ) 7 51 Q := by
  have hc' : m49 y μ 0 0 10 ≤ 24 := hc
  have hs' := hs
  unfold sl49 at hs'
  simp (disch := first | omega | (simp (disch := decide) only [zmu0, mu_g, List.length_nil, List.length_cons]; omega)) only [g49_0, g49_1, g49_2, g49_5, g49_6, g49_7, g49_8, g49_11, g49_12, g49_13, g49_16, g49_18, g49_20, g49_23, g49_25, g49_25r, g49_26, g49_29, g49_30, g49_31, g49_34, g49_36, g49_39, g49_40, g49_41, g49_44, g49_46, g49_49, g49_59, g49_60, g49_63, g49_64, g49_70, g49_70r, g49_71, g49_72, g49_75, g49_76, g49_77, g49_85, g49_86, g49_86r, g49_87, g49_90, g49_91, g49_92, g49_95, g49_96, g49_99, g49_100, g49_101, ob2, oc2, fl2_0, fl2_1, fl2_2, fl2_3, fl2_4, fl2_5, fl2_6, wo2_6, fl2_7, wo2_7, fl2_8, wo2_8, fl2_9, wo2_9, fl2_10, wo2_10, Int.reduceSub, Int.reduceAdd, Int.add_zero, Int.zero_add, Int.cast_ofNat_Int, Bool.false_eq_true, decide_true, decide_false, zbndI, zbwI, zbzI, zb1I, zoA_at, gback_v, gback_n, zem, zisr, zro_at, zrl_at, mu_g, mu_at, mu_mu, mu_self, not_true, not_false_iff, zb0, zb1, zbnd, zbw, zbz, zne1, zone, mrgI, List.length_nil, List.length_cons, Nat.reduceAdd, Nat.reduceSub, Nat.reduceLeDiff, Nat.zero_le, and_true, true_and, false_and, and_false, true_or, or_true, false_or, or_false, G_ite, z10, z1n, z1and, z1or, z0not, z0and, itn, if_true, if_false, reduceIte, Int.reduceEq, Int.reduceLT, Int.reduceNeg, Nat.reduceEqDiff, ite_self, ge49]
  refine c82 h rfl h0 ?_
  rw [gback_v]
  simp (disch := first | omega | (simp (disch := decide) only [zmu0, mu_g, List.length_nil, List.length_cons]; omega)) only [g49_0, g49_1, g49_2, g49_5, g49_6, g49_7, g49_8, g49_11, g49_12, g49_13, g49_16, g49_18, g49_20, g49_23, g49_25, g49_25r, g49_26, g49_29, g49_30, g49_31, g49_34, g49_36, g49_39, g49_40, g49_41, g49_44, g49_46, g49_49, g49_59, g49_60, g49_63, g49_64, g49_70, g49_70r, g49_71, g49_72, g49_75, g49_76, g49_77, g49_85, g49_86, g49_86r, g49_87, g49_90, g49_91, g49_92, g49_95, g49_96, g49_99, g49_100, g49_101, ob2, oc2, fl2_0, fl2_1, fl2_2, fl2_3, fl2_4, fl2_5, fl2_6, wo2_6, fl2_7, wo2_7, fl2_8, wo2_8, fl2_9, wo2_9, fl2_10, wo2_10, Int.reduceSub, Int.reduceAdd, Int.add_zero, Int.zero_add, Int.cast_ofNat_Int, Bool.false_eq_true, decide_true, decide_false, zbndI, zbwI, zbzI, zb1I, zoA_at, gback_v, gback_n, zem, zisr, zro_at, zrl_at, mu_g, mu_at, mu_mu, mu_self, not_true, not_false_iff, zb0, zb1, zbnd, zbw, zbz, zne1, zone, mrgI, List.length_nil, List.length_cons, Nat.reduceAdd, Nat.reduceSub, Nat.reduceLeDiff, Nat.zero_le, and_true, true_and, false_and, and_false, true_or, or_true, false_or, or_false, G_ite, z10, z1n, z1and, z1or, z0not, z0and, itn, if_true, if_false, reduceIte, Int.reduceEq, Int.reduceLT, Int.reduceNeg, Nat.reduceEqDiff, ite_self, ge49, c83 hc' hr, hs']
  exact q
theorem c49_3 (h : kall y (μ 2 0 6) 6) (h0 : 0 ≤ μ 0 0 26) (hc : μ 0 0 10 ≤ 24) (hr : rowOK (m49 y μ) (μ 0 0 26)) (hI : imgOK (m49 y μ)) (hs : sl49 y μ = true) (hf : ¬ zff (hap (m49 y μ) (μ 0 0 26)) 12 0 = -1) (ht : ∀ i, 0 ≤ i → i < μ 0 0 20 → 0 ≤ μ 20 i 3 ∧ μ 20 i 3 ≤ 100000)
    (q : Q (.inl (some (zI (μ 20 (zff (hap (m49 y μ) (μ 0 0 26)) 12 0) 0)))) (HM (mu (m49 y μ) 20 (zff (hap (m49 y μ) (μ 0 0 26)) 12 0) 3 (μ 20 (zff (hap (m49 y μ) (μ 0 0 26)) 12 0) 3 + 1)))) : G 49 0 [zR 2 0, zL y, zJ, u1, u2] [] (HM μ) 7 51 Q := by
  have hc' : m49 y μ 0 0 10 ≤ 24 := hc
  have hs' := hs
  unfold sl49 at hs'
  have hb := zff_b (p := hap (m49 y μ) (μ 0 0 26)) 12 0
  have e84 := fun (ck sk : Nat) (Q : ZO → ZH → Prop) (u u' : ZV) => c84 (u := u) (u' := u') (ck := ck) (sk := sk) (Q := Q) hc' hI hr
  generalize zff (hap (m49 y μ) (μ 0 0 26)) 12 0 = p at *
  have hp : 0 ≤ p ∧ p < μ 0 0 20 := by
    rcases hb with z | ⟨z1, z2, z3⟩
    · exact absurd z hf
    · exact ⟨z1, (of_decide_eq_true z3).1⟩
  have hT := ht p hp.1 hp.2
  have g20 : m49 y μ 20 = μ 20 := rfl
  have g0 : m49 y μ 0 0 20 = μ 0 0 20 := rfl
  have n1 : (0 : Int) ≠ 3 := by decide
  have hp2 : p < m49 y μ 0 0 20 := hp.2
  have hp1 := hp.1
  simp (disch := first | omega | (simp (disch := decide) only [zmu0, mu_g, List.length_nil, List.length_cons]; omega)) only [g49_0, g49_1, g49_2, g49_5, g49_6, g49_7, g49_8, g49_11, g49_12, g49_13, g49_16, g49_18, g49_20, g49_23, g49_25, g49_25r, g49_26, g49_29, g49_30, g49_31, g49_34, g49_36, g49_39, g49_40, g49_41, g49_44, g49_46, g49_49, g49_59, g49_60, g49_63, g49_64, g49_70, g49_70r, g49_71, g49_72, g49_75, g49_76, g49_77, g49_85, g49_86, g49_86r, g49_87, g49_90, g49_91, g49_92, g49_95, g49_96, g49_99, g49_100, g49_101, ob2, oc2, fl2_0, fl2_1, fl2_2, fl2_3, fl2_4, fl2_5, fl2_6, wo2_6, fl2_7, wo2_7, fl2_8, wo2_8, fl2_9, wo2_9, fl2_10, wo2_10, Int.reduceSub, Int.reduceAdd, Int.add_zero, Int.zero_add, Int.cast_ofNat_Int, Bool.false_eq_true, decide_true, decide_false, zbndI, zbwI, zbzI, zb1I, zoA_at, gback_v, gback_n, zem, zisr, zro_at, zrl_at, mu_g, mu_at, mu_mu, mu_self, not_true, not_false_iff, zb0, zb1, zbnd, zbw, zbz, zne1, zone, mrgI, List.length_nil, List.length_cons, Nat.reduceAdd, Nat.reduceSub, Nat.reduceLeDiff, Nat.zero_le, and_true, true_and, false_and, and_false, true_or, or_true, false_or, or_false, G_ite, z10, z1n, z1and, z1or, z0not, z0and, itn, if_true, if_false, reduceIte, Int.reduceEq, Int.reduceLT, Int.reduceNeg, Nat.reduceEqDiff, ite_self, ge49]
  refine c82 h rfl h0 ?_
  rw [gback_v]
  simp (disch := first | omega | (simp (disch := decide) only [zmu0, mu_g, List.length_nil, List.length_cons]; omega)) only [g49_0, g49_1, g49_2, g49_5, g49_6, g49_7, g49_8, g49_11, g49_12, g49_13, g49_16, g49_18, g49_20, g49_23, g49_25, g49_25r, g49_26, g49_29, g49_30, g49_31, g49_34, g49_36, g49_39, g49_40, g49_41, g49_44, g49_46, g49_49, g49_59, g49_60, g49_63, g49_64, g49_70, g49_70r, g49_71, g49_72, g49_75, g49_76, g49_77, g49_85, g49_86, g49_86r, g49_87, g49_90, g49_91, g49_92, g49_95, g49_96, g49_99, g49_100, g49_101, ob2, oc2, fl2_0, fl2_1, fl2_2, fl2_3, fl2_4, fl2_5, fl2_6, wo2_6, fl2_7, wo2_7, fl2_8, wo2_8, fl2_9, wo2_9, fl2_10, wo2_10, ob20, oc20, fl20_0, wo20_0, fl20_1, fl20_2, fl20_3, wo20_3, Int.reduceSub, Int.reduceAdd, Int.add_zero, Int.zero_add, Int.cast_ofNat_Int, Bool.false_eq_true, decide_true, decide_false, zbndI, zbwI, zbzI, zb1I, zoA_at, gback_v, gback_n, zem, zisr, zro_at, zrl_at, mu_g, mu_at, mu_mu, mu_self, not_true, not_false_iff, zb0, zb1, zbnd, zbw, zbz, zne1, zone, mrgI, List.length_nil, List.length_cons, Nat.reduceAdd, Nat.reduceSub, Nat.reduceLeDiff, Nat.zero_le, and_true, true_and, false_and, and_false, true_or, or_true, false_or, or_false, G_ite, z10, z1n, z1and, z1or, z0not, z0and, itn, if_true, if_false, reduceIte, Int.reduceEq, Int.reduceLT, Int.reduceNeg, Nat.reduceEqDiff, ite_self, ge49, c83 hc' hr, hs', e84, hf, g20, mu_j n1]
  exact q
theorem c49_4 (h : kall y (μ 2 0 6) 6) (h0 : 0 ≤ μ 0 0 26) (hc : μ 0 0 10 ≤ 24) (hr : rowOK (m49 y μ) (μ 0 0 26)) (hI : imgOK (m49 y μ)) (hs : sl49 y μ = true) (hf : zff (hap (m49 y μ) (μ 0 0 26)) 12 0 = -1) (hn : ¬ μ 2 0 7 < 12) (q : Q (.inr 2) (HM (m49 y μ))) : G 49 0 [zR 2 0, zL y, zJ, u1, u2] [] (HM μ) 7 51 Q := by
  have hc' : m49 y μ 0 0 10 ≤ 24 := hc
  have hs' := hs
  unfold sl49 at hs'
  have e84 := fun (ck sk : Nat) (Q : ZO → ZH → Prop) (u u' : ZV) => c84 (u := u) (u' := u') (ck := ck) (sk := sk) (Q := Q) hc' hI hr
  have g2 : m49 y μ 2 = μ 2 := rfl
  simp (disch := first | omega | (simp (disch := decide) only [zmu0, mu_g, List.length_nil, List.length_cons]; omega)) only [g49_0, g49_1, g49_2, g49_5, g49_6, g49_7, g49_8, g49_11, g49_12, g49_13, g49_16, g49_18, g49_20, g49_23, g49_25, g49_25r, g49_26, g49_29, g49_30, g49_31, g49_34, g49_36, g49_39, g49_40, g49_41, g49_44, g49_46, g49_49, g49_59, g49_60, g49_63, g49_64, g49_70, g49_70r, g49_71, g49_72, g49_75, g49_76, g49_77, g49_85, g49_86, g49_86r, g49_87, g49_90, g49_91, g49_92, g49_95, g49_96, g49_99, g49_100, g49_101, ob2, oc2, fl2_0, fl2_1, fl2_2, fl2_3, fl2_4, fl2_5, fl2_6, wo2_6, fl2_7, wo2_7, fl2_8, wo2_8, fl2_9, wo2_9, fl2_10, wo2_10, Int.reduceSub, Int.reduceAdd, Int.add_zero, Int.zero_add, Int.cast_ofNat_Int, Bool.false_eq_true, decide_true, decide_false, zbndI, zbwI, zbzI, zb1I, zoA_at, gback_v, gback_n, zem, zisr, zro_at, zrl_at, mu_g, mu_at, mu_mu, mu_self, not_true, not_false_iff, zb0, zb1, zbnd, zbw, zbz, zne1, zone, mrgI, List.length_nil, List.length_cons, Nat.reduceAdd, Nat.reduceSub, Nat.reduceLeDiff, Nat.zero_le, and_true, true_and, false_and, and_false, true_or, or_true, false_or, or_false, G_ite, z10, z1n, z1and, z1or, z0not, z0and, itn, if_true, if_false, reduceIte, Int.reduceEq, Int.reduceLT, Int.reduceNeg, Nat.reduceEqDiff, ite_self, ge49]
  refine c82 h rfl h0 ?_
  rw [gback_v]
  simp (disch := first | omega | (simp (disch := decide) only [zmu0, mu_g, List.length_nil, List.length_cons]; omega)) only [g49_0, g49_1, g49_2, g49_5, g49_6, g49_7, g49_8, g49_11, g49_12, g49_13, g49_16, g49_18, g49_20, g49_23, g49_25, g49_25r, g49_26, g49_29, g49_30, g49_31, g49_34, g49_36, g49_39, g49_40, g49_41, g49_44, g49_46, g49_49, g49_59, g49_60, g49_63, g49_64, g49_70, g49_70r, g49_71, g49_72, g49_75, g49_76, g49_77, g49_85, g49_86, g49_86r, g49_87, g49_90, g49_91, g49_92, g49_95, g49_96, g49_99, g49_100, g49_101, ob2, oc2, fl2_0, fl2_1, fl2_2, fl2_3, fl2_4, fl2_5, fl2_6, wo2_6, fl2_7, wo2_7, fl2_8, wo2_8, fl2_9, wo2_9, fl2_10, wo2_10, Int.reduceSub, Int.reduceAdd, Int.add_zero, Int.zero_add, Int.cast_ofNat_Int, Bool.false_eq_true, decide_true, decide_false, zbndI, zbwI, zbzI, zb1I, zoA_at, gback_v, gback_n, zem, zisr, zro_at, zrl_at, mu_g, mu_at, mu_mu, mu_self, not_true, not_false_iff, zb0, zb1, zbnd, zbw, zbz, zne1, zone, mrgI, List.length_nil, List.length_cons, Nat.reduceAdd, Nat.reduceSub, Nat.reduceLeDiff, Nat.zero_le, and_true, true_and, false_and, and_false, true_or, or_true, false_or, or_false, G_ite, z10, z1n, z1and, z1or, z0not, z0and, itn, if_true, if_false, reduceIte, Int.reduceEq, Int.reduceLT, Int.reduceNeg, Nat.reduceEqDiff, ite_self, ge49, c83 hc' hr, hs', e84, hf, g2, hn]
  exact q
theorem c49_5 (h : kall y (μ 2 0 6) 6) (h0 : 0 ≤ μ 0 0 26) (hc : μ 0 0 10 ≤ 24) (hr : rowOK (m49 y μ) (μ 0 0 26)) (hI : imgOK (m49 y μ)) (hs : sl49 y μ = true) (hf : zff (hap (m49 y μ) (μ 0 0 26)) 12 0 = -1) (hn : μ 2 0 7 = n) (hn2 : μ 0 0 20 = n) (hn0 : 0 ≤ n) (hn3 : n < 12)
    (q : Q (.inl (some (zI n))) (HM (mIm n (μ 0 0 26) (stk (m49 y μ) (μ 0 0 26) (m49 y μ 0 1 (μ 0 0 26)).toNat 0 z30) (mu (m49 y μ) 2 0 7 (n + 1))))) : G 49 0 [zR 2 0, zL y, zJ, u1, u2] [] (HM μ) 7 51 Q := by
  have hc' : m49 y μ 0 0 10 ≤ 24 := hc
  have hs' := hs
  unfold sl49 at hs'
  have e84 := fun (ck sk : Nat) (Q : ZO → ZH → Prop) (u u' : ZV) => c84 (u := u) (u' := u') (ck := ck) (sk := sk) (Q := Q) hc' hI hr
  have g2 : m49 y μ 2 = μ 2 := rfl
  have g20 : m49 y μ 0 0 20 = n := hn2
  have e1 : n + 1 - 1 = n := by omega
  simp (disch := first | omega | (simp (disch := decide) only [zmu0, mu_g, List.length_nil, List.length_cons]; omega)) only [g49_0, g49_1, g49_2, g49_5, g49_6, g49_7, g49_8, g49_11, g49_12, g49_13, g49_16, g49_18, g49_20, g49_23, g49_25, g49_25r, g49_26, g49_29, g49_30, g49_31, g49_34, g49_36, g49_39, g49_40, g49_41, g49_44, g49_46, g49_49, g49_59, g49_60, g49_63, g49_64, g49_70, g49_70r, g49_71, g49_72, g49_75, g49_76, g49_77, g49_85, g49_86, g49_86r, g49_87, g49_90, g49_91, g49_92, g49_95, g49_96, g49_99, g49_100, g49_101, ob2, oc2, fl2_0, fl2_1, fl2_2, fl2_3, fl2_4, fl2_5, fl2_6, wo2_6, fl2_7, wo2_7, fl2_8, wo2_8, fl2_9, wo2_9, fl2_10, wo2_10, Int.reduceSub, Int.reduceAdd, Int.add_zero, Int.zero_add, Int.cast_ofNat_Int, Bool.false_eq_true, decide_true, decide_false, zbndI, zbwI, zbzI, zb1I, zoA_at, gback_v, gback_n, zem, zisr, zro_at, zrl_at, mu_g, mu_at, mu_mu, mu_self, not_true, not_false_iff, zb0, zb1, zbnd, zbw, zbz, zne1, zone, mrgI, List.length_nil, List.length_cons, Nat.reduceAdd, Nat.reduceSub, Nat.reduceLeDiff, Nat.zero_le, and_true, true_and, false_and, and_false, true_or, or_true, false_or, or_false, G_ite, z10, z1n, z1and, z1or, z0not, z0and, itn, if_true, if_false, reduceIte, Int.reduceEq, Int.reduceLT, Int.reduceNeg, Nat.reduceEqDiff, ite_self, ge49]
  refine c82 h rfl h0 ?_
  rw [gback_v]
  simp (disch := first | omega | (simp (disch := decide) only [zmu0, mu_g, List.length_nil, List.length_cons]; omega)) only [g49_0, g49_1, g49_2, g49_5, g49_6, g49_7, g49_8, g49_11, g49_12, g49_13, g49_16, g49_18, g49_20, g49_23, g49_25, g49_25r, g49_26, g49_29, g49_30, g49_31, g49_34, g49_36, g49_39, g49_40, g49_41, g49_44, g49_46, g49_49, g49_59, g49_60, g49_63, g49_64, g49_70, g49_70r, g49_71, g49_72, g49_75, g49_76, g49_77, g49_85, g49_86, g49_86r, g49_87, g49_90, g49_91, g49_92, g49_95, g49_96, g49_99, g49_100, g49_101, ob2, oc2, fl2_0, fl2_1, fl2_2, fl2_3, fl2_4, fl2_5, fl2_6, wo2_6, fl2_7, wo2_7, fl2_8, wo2_8, fl2_9, wo2_9, fl2_10, wo2_10, Int.reduceSub, Int.reduceAdd, Int.add_zero, Int.zero_add, Int.cast_ofNat_Int, Bool.false_eq_true, decide_true, decide_false, zbndI, zbwI, zbzI, zb1I, zoA_at, gback_v, gback_n, zem, zisr, zro_at, zrl_at, mu_g, mu_at, mu_mu, mu_self, not_true, not_false_iff, zb0, zb1, zbnd, zbw, zbz, zne1, zone, mrgI, List.length_nil, List.length_cons, Nat.reduceAdd, Nat.reduceSub, Nat.reduceLeDiff, Nat.zero_le, and_true, true_and, false_and, and_false, true_or, or_true, false_or, or_false, G_ite, z10, z1n, z1and, z1or, z0not, z0and, itn, if_true, if_false, reduceIte, Int.reduceEq, Int.reduceLT, Int.reduceNeg, Nat.reduceEqDiff, ite_self, ge49, c83 hc' hr, hs', e84, hf, g2, hn, hn3]
  rw [g49_67]
  refine ⟨⟨trivial, by decide, by decide⟩, 20, n, by decide, no20 (by omega), ?_⟩
  simp (disch := first | omega | (simp (disch := decide) only [zmu0, mu_g, List.length_nil, List.length_cons]; omega)) only [g49_0, g49_1, g49_2, g49_5, g49_6, g49_7, g49_8, g49_11, g49_12, g49_13, g49_16, g49_18, g49_20, g49_23, g49_25, g49_25r, g49_26, g49_29, g49_30, g49_31, g49_34, g49_36, g49_39, g49_40, g49_41, g49_44, g49_46, g49_49, g49_59, g49_60, g49_63, g49_64, g49_70, g49_70r, g49_71, g49_72, g49_75, g49_76, g49_77, g49_85, g49_86, g49_86r, g49_87, g49_90, g49_91, g49_92, g49_95, g49_96, g49_99, g49_100, g49_101, ob2, oc2, fl2_0, fl2_1, fl2_2, fl2_3, fl2_4, fl2_5, fl2_6, wo2_6, fl2_7, wo2_7, fl2_8, wo2_8, fl2_9, wo2_9, fl2_10, wo2_10, Int.reduceSub, Int.reduceAdd, Int.add_zero, Int.zero_add, Int.cast_ofNat_Int, Bool.false_eq_true, decide_true, decide_false, zbndI, zbwI, zbzI, zb1I, zoA_at, gback_v, gback_n, zem, zisr, zro_at, zrl_at, mu_g, mu_at, mu_mu, mu_self, not_true, not_false_iff, zb0, zb1, zbnd, zbw, zbz, zne1, zone, mrgI, List.length_nil, List.length_cons, Nat.reduceAdd, Nat.reduceSub, Nat.reduceLeDiff, Nat.zero_le, and_true, true_and, false_and, and_false, true_or, or_true, false_or, or_false, G_ite, z10, z1n, z1and, z1or, z0not, z0and, itn, if_true, if_false, reduceIte, Int.reduceEq, Int.reduceLT, Int.reduceNeg, Nat.reduceEqDiff, ite_self, zGF_n, g2, hn]
  refine (g49_78 ⟨by simp only [List.length_cons, List.length_nil]; omega, ?_⟩).mpr ⟨⟨by decide, by decide, by rw [zGO_n (by decide), oc2 (by omega) (by omega)]; trivial⟩, ?_⟩
  · exact ⟨trivial, trivial, trivial, trivial, trivial, trivial, trivial⟩
  refine o86 hc' hr g20.symm ?_
  rw [gback_v, g49_81]
  refine ⟨⟨by simp only [List.length_cons, List.length_nil]; omega, HI_o20.mpr trivial⟩, ?_⟩
  simp (disch := first | omega | (simp (disch := decide) only [zmu0, mu_g, List.length_nil, List.length_cons]; omega)) only [g13_0, g13_1, g13_4, g13_5, g13_6, g13_9, g13_10, g13_11, g13_14, g13_15, g13_16, g13_19, g13_20, g13_21, g13_24, Int.reduceSub, Int.reduceAdd, Int.add_zero, Int.zero_add, Int.cast_ofNat_Int, Bool.false_eq_true, decide_true, decide_false, zbndI, zbwI, zbzI, zb1I, zoA_at, gback_v, gback_n, zem, zisr, zro_at, zrl_at, mu_g, mu_at, mu_mu, mu_self, not_true, not_false_iff, zb0, zb1, zbnd, zbw, zbz, zne1, zone, mrgI, List.length_nil, List.length_cons, Nat.reduceAdd, Nat.reduceSub, Nat.reduceLeDiff, Nat.zero_le, and_true, true_and, false_and, and_false, true_or, or_true, false_or, or_false, G_ite, z10, z1n, z1and, z1or, z0not, z0and, itn, if_true, if_false, reduceIte, Int.reduceEq, Int.reduceLT, Int.reduceNeg, Nat.reduceEqDiff, ite_self, HI_20, HI_w20]
  rw [g49_84]
  simp (disch := first | omega | (simp (disch := decide) only [zmu0, mu_g, List.length_nil, List.length_cons]; omega)) only [HI_AY, rd4]
  refine ⟨3, by decide, ?_, by decide, by decide, rfl, hn0, by omega, ?_⟩
  · unfold HI
    exact ⟨_, by simp (disch := decide) only [zset_k]; exact zset_at⟩
  have e := HM_im (μ := mu (m49 y μ) 2 0 7 (n + 1)) (n := n) (r := μ 0 0 26) (φ := stk (m49 y μ) (μ 0 0 26) (m49 y μ 0 1 (μ 0 0 26)).toNat 0 z30) g20 hn0
  rw [← e, ← HI_w2] at q
  rw [g20]
  simp (disch := first | omega | (simp (disch := decide) only [zmu0, mu_g, List.length_nil, List.length_cons]; omega)) only [g49_0, g49_1, g49_2, g49_5, g49_6, g49_7, g49_8, g49_11, g49_12, g49_13, g49_16, g49_18, g49_20, g49_23, g49_25, g49_25r, g49_26, g49_29, g49_30, g49_31, g49_34, g49_36, g49_39, g49_40, g49_41, g49_44, g49_46, g49_49, g49_59, g49_60, g49_63, g49_64, g49_70, g49_70r, g49_71, g49_72, g49_75, g49_76, g49_77, g49_85, g49_86, g49_86r, g49_87, g49_90, g49_91, g49_92, g49_95, g49_96, g49_99, g49_100, g49_101, ob2, oc2, fl2_0, fl2_1, fl2_2, fl2_3, fl2_4, fl2_5, fl2_6, wo2_6, fl2_7, wo2_7, fl2_8, wo2_8, fl2_9, wo2_9, fl2_10, wo2_10, Int.reduceSub, Int.reduceAdd, Int.add_zero, Int.zero_add, Int.cast_ofNat_Int, Bool.false_eq_true, decide_true, decide_false, zbndI, zbwI, zbzI, zb1I, zoA_at, gback_v, gback_n, zem, zisr, zro_at, zrl_at, mu_g, mu_at, mu_mu, mu_self, not_true, not_false_iff, zb0, zb1, zbnd, zbw, zbz, zne1, zone, mrgI, List.length_nil, List.length_cons, Nat.reduceAdd, Nat.reduceSub, Nat.reduceLeDiff, Nat.zero_le, and_true, true_and, false_and, and_false, true_or, or_true, false_or, or_false, G_ite, z10, z1n, z1and, z1or, z0not, z0and, itn, if_true, if_false, reduceIte, Int.reduceEq, Int.reduceLT, Int.reduceNeg, Nat.reduceEqDiff, ite_self, zGF_n, zGF_s, HI_GF, zset_zset, g2, hn, zupN_s, e1]
  rw [zset_comm (k := 2) (k' := 4) (by decide)]
  exact q
end ZDF
