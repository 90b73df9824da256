/-! ===== making: a build; a job run ===== -/
abbrev zfB (n d i v : Int) : ZE := .inl (0, zupN (zupN (zupN (zupN (zupN (zfd 0) 0 (zI n)) 2 (zR 30 d)) 1 (zI v)) 3 (zR 21 i)) 4 (zR 50 n))
section ZDI
variable {ck sk : Nat} {Q : ZO → ZH → Prop} {a b c d e i j m n p r s t v w x z : Int} {y : Int64} {u u' u'' u1 u2 u3 w' : ZV} {μ ν : ZU} {h : ZH} {f g : Nat → ZV} {k k1 k2 k3 : Nat} {i1 i2 i3 : Int}
theorem HM_bd (hn : μ 0 0 41 = n) (hn2 : μ 0 0 50 = n + 1) (h0 : 0 ≤ n) : zset (zset (zset (HS (zset (HM μ) 41 n (.inl (0, zfd 0))) (n + 1)) 8 0 (.inl (6, zupN (zfl μ 8 0) 0 (zR 50 (n + 1))))) 41 n (zfB n d i v)) 2 0 (.inl (8, zupN (zfl μ 2 0) 10 (zI (n + 1)))) = HM (mBd n d i v (mu μ 2 0 10 (n + 1))) := by
  have e41 : mBd n d i v (mu μ 2 0 10 (n + 1)) 0 0 41 = n + 1 := rfl
  have e50 : mBd n d i v (mu μ 2 0 10 (n + 1)) 0 0 50 = n + 2 := rfl
  have h00 : ∀ (p j : Int), ¬ (p = 0 ∧ (j = 41 ∨ j = 50)) → mBd n d i v (mu μ 2 0 10 (n + 1)) 0 p j = μ 0 p j := fun p j hj => by
    show (if (0 : Nat) = 0 then (if p = 0 ∧ j = 41 then n + 1 else if p = 0 ∧ j = 50 then n + 2 else mu μ 2 0 10 (n + 1) 0 p j) else 0) = _
    rw [if_pos rfl, if_neg (fun z => hj ⟨z.1, Or.inl z.2⟩), if_neg (fun z => hj ⟨z.1, Or.inr z.2⟩), mu_g (by decide)]
  have hbd : ∀ c, c ≠ 41 → c ≠ 50 → zbd (mBd n d i v (mu μ 2 0 10 (n + 1))) c = zbd μ c := fun c hc hc2 => by
    match c with
    | 0 => rfl
    | c + 1 => exact h00 0 ((c + 1 : Nat) : Int) (by omega)
  have hg : ∀ k p j, k ≠ 0 → ¬ (k = 41 ∧ p = n) → ¬ ((50 ≤ k ∧ k ≤ 56) ∧ p = n + 1) → mBd n d i v (mu μ 2 0 10 (n + 1)) k p j = mu μ 2 0 10 (n + 1) k p j := fun k p j h1 h2 h3 => by
    show (if k = 0 then _ else if k = 41 ∧ p = n then _ else if (50 ≤ k ∧ k ≤ 56) ∧ p = n + 1 then 0 else mu μ 2 0 10 (n + 1) k p j) = _
    rw [if_neg h1, if_neg h2, if_neg h3]
  have v41 : ∀ j, mBd n d i v (mu μ 2 0 10 (n + 1)) 41 n j = if j = 0 then n else if j = 1 then v else if j = 2 then d else if j = 3 then i else 0 := fun j => by
    show (if (41 : Nat) = 41 ∧ n = n then (if j = 0 then n else if j = 1 then v else if j = 2 then d else if j = 3 then i else 0) else _) = _
    rw [if_pos ⟨rfl, rfl⟩]
  have v50 : ∀ (k : Nat) j, 50 ≤ k → k ≤ 56 → mBd n d i v (mu μ 2 0 10 (n + 1)) k (n + 1) j = 0 := fun k j h1 h2 => by
    show (if k = 0 then _ else if k = 41 ∧ n + 1 = n then _ else if (50 ≤ k ∧ k ≤ 56) ∧ n + 1 = n + 1 then 0 else mu μ 2 0 10 (n + 1) k (n + 1) j) = _
    rw [if_neg (by omega), if_neg (by omega), if_pos ⟨⟨h1, h2⟩, rfl⟩]
  have hn41 : n < mBd n d i v (mu μ 2 0 10 (n + 1)) 0 0 41 := by omega
  have hn50 : n + 1 < mBd n d i v (mu μ 2 0 10 (n + 1)) 0 0 50 := by omega
  have e2 : HM (mBd n d i v (mu μ 2 0 10 (n + 1))) 2 0 = some (.inl (8, zupN (zfl μ 2 0) 10 (zI (n + 1)))) := by
    have w2 := wo2_10 (μ := μ) (i := 0) (v := n + 1) (by omega) (by omega)
    have ef : zfl (mBd n d i v (mu μ 2 0 10 (n + 1))) 2 0 = zfl (mu μ 2 0 10 (n + 1)) 2 0 := by
      funext s
      unfold zfl
      split <;> first | rfl | contradiction | exact congrArg zI (hg _ _ _ (by decide) (fun z => absurd z.1 (by decide)) (fun z => absurd z.1.1 (by decide)))
    show some (Sum.inl (8, zfl (mBd n d i v (mu μ 2 0 10 (n + 1))) 2 0) : ZE) = _
    rw [ef]
    have e3 : HM (mu μ 2 0 10 (n + 1)) 2 0 = some (.inl (8, zfl (mu μ 2 0 10 (n + 1)) 2 0)) := rfl
    rw [← e3, ← w2]
    exact zset_at
  have arr : ∀ k : Nat, 51 ≤ k → k ≤ 56 → HM (mBd n d i v (mu μ 2 0 10 (n + 1))) k (n + 1) = some a60 := fun k h1 h2 => by
    have e : zkl zKA k = some (.int, 60, 50) := by
      have : k = 51 ∨ k = 52 ∨ k = 53 ∨ k = 54 ∨ k = 55 ∨ k = 56 := by omega
      rcases this with rfl | rfl | rfl | rfl | rfl | rfl <;> rfl
    unfold HM
    rw [e]
    show (if 0 ≤ n + 1 ∧ n + 1 < mBd n d i v (mu μ 2 0 10 (n + 1)) 0 0 50 then _ else none) = _
    rw [if_pos ⟨by omega, hn50⟩]
    have e2 : (fun j => zel FieldType.int (mBd n d i v (mu μ 2 0 10 (n + 1)) k (n + 1) j)) = fun _ => zI 0 := by
      funext j
      rw [v50 k j (by omega) h2]
      rfl
    rw [e2]
  unfold HS
  funext k p
  refine zset_pt e2 fun n2 => zset_pt ?_ fun n41 => zset_pt ?_ fun n8 => zset_pt (arr 56 (by omega) (by omega)) fun n56 => zset_pt (arr 55 (by omega) (by omega)) fun n55 => zset_pt (arr 54 (by omega) (by omega)) fun n54 => zset_pt (arr 53 (by omega) (by omega)) fun n53 => zset_pt (arr 52 (by omega) (by omega)) fun n52 => zset_pt (arr 51 (by omega) (by omega)) fun n51 => zset_pt ?_ fun n50 => (zset_ne n41).trans ?_
  · have e : HM (mBd n d i v (mu μ 2 0 10 (n + 1))) 41 n = some (.inl (0, zfl (mBd n d i v (mu μ 2 0 10 (n + 1))) 41 n)) := if_pos ⟨h0, hn41⟩
    rw [e]
    have e2 : zfl (mBd n d i v (mu μ 2 0 10 (n + 1))) 41 n = zupN (zupN (zupN (zupN (zupN (zfd 0) 0 (zI n)) 2 (zR 30 d)) 1 (zI v)) 3 (zR 21 i)) 4 (zR 50 n) := by
      funext s
      match s with
      | 0 =>
        show zI (mBd n d i v (mu μ 2 0 10 (n + 1)) 41 n _) = _
        rw [v41]
        rfl
      | 1 =>
        show zI (mBd n d i v (mu μ 2 0 10 (n + 1)) 41 n _) = _
        rw [v41]
        rfl
      | 2 =>
        show zR 30 (mBd n d i v (mu μ 2 0 10 (n + 1)) 41 n 2) = _
        rw [v41]
        rfl
      | 3 =>
        show zR 21 (mBd n d i v (mu μ 2 0 10 (n + 1)) 41 n 3) = _
        rw [v41]
        rfl
      | 4 => rfl
      | s + 5 =>
        show zI (mBd n d i v (mu μ 2 0 10 (n + 1)) 41 n ((s + 5 : Nat) : Int)) = _
        rw [v41, if_neg (by omega), if_neg (by omega), if_neg (by omega), if_neg (by omega), zupN_n (by omega), zupN_n (by omega), zupN_n (by omega), zupN_n (by omega), zupN_n (by omega)]
        rfl
    rw [e2]
  · have e : HM (mBd n d i v (mu μ 2 0 10 (n + 1))) 8 0 = some (.inl (6, zfl (mBd n d i v (mu μ 2 0 10 (n + 1))) 8 0)) := rfl
    rw [e]
    have e2 : zfl (mBd n d i v (mu μ 2 0 10 (n + 1))) 8 0 = zupN (zfl μ 8 0) 0 (zR 50 (n + 1)) := by
      funext s
      match s with
      | 0 =>
        show zR 50 (mBd n d i v (mu μ 2 0 10 (n + 1)) 0 0 50 - 1) = _
        rw [e50, show n + 2 - 1 = n + 1 by omega]
        rfl
      | 1 => rfl
      | 2 => rfl
      | 3 => rfl
      | 4 => rfl
      | 5 => rfl
      | 6 => rfl
      | s + 7 =>
        rw [zupN_n (by omega)]
        show zI (mBd n d i v (mu μ 2 0 10 (n + 1)) 8 0 _) = zI (μ 8 0 _)
        rw [hg 8 _ _ (by decide) (fun z => absurd z.1 (by decide)) (fun z => absurd z.1.1 (by decide)), mu_g (by decide)]
    rw [e2]
  · have e : HM (mBd n d i v (mu μ 2 0 10 (n + 1))) 50 (n + 1) = some (.inl (7, zfl (mBd n d i v (mu μ 2 0 10 (n + 1))) 50 (n + 1))) := if_pos ⟨by omega, hn50⟩
    rw [e]
    have e2 : zfl (mBd n d i v (mu μ 2 0 10 (n + 1))) 50 (n + 1) = zupN (zupN (zupN (zupN (zupN (zupN (zfd 7) 6 (zR 51 (n + 1))) 7 (zR 52 (n + 1))) 8 (zR 53 (n + 1))) 9 (zR 54 (n + 1))) 10 (zR 55 (n + 1))) 11 (zR 56 (n + 1)) := by
      funext s
      match s with
      | 0 => show zI (mBd n d i v (mu μ 2 0 10 (n + 1)) 50 (n + 1) _) = _; rw [v50 50 _ (by omega) (by omega)]; rfl
      | 1 => show zI (mBd n d i v (mu μ 2 0 10 (n + 1)) 50 (n + 1) _) = _; rw [v50 50 _ (by omega) (by omega)]; rfl
      | 2 => show zI (mBd n d i v (mu μ 2 0 10 (n + 1)) 50 (n + 1) _) = _; rw [v50 50 _ (by omega) (by omega)]; rfl
      | 3 => show zI (mBd n d i v (mu μ 2 0 10 (n + 1)) 50 (n + 1) _) = _; rw [v50 50 _ (by omega) (by omega)]; rfl
      | 4 => show zI (mBd n d i v (mu μ 2 0 10 (n + 1)) 50 (n + 1) _) = _; rw [v50 50 _ (by omega) (by omega)]; rfl
      | 5 => show zI (mBd n d i v (mu μ 2 0 10 (n + 1)) 50 (n + 1) _) = _; rw [v50 50 _ (by omega) (by omega)]; rfl
      | 6 => rfl
      | 7 => rfl
      | 8 => rfl
      | 9 => rfl
      | 10 => rfl
      | 11 => rfl
      | s + 12 =>
        show zI (mBd n d i v (mu μ 2 0 10 (n + 1)) 50 (n + 1) _) = _
        rw [v50 50 _ (by omega) (by omega), zupN_n (by omega), zupN_n (by omega), zupN_n (by omega), zupN_n (by omega), zupN_n (by omega), zupN_n (by omega)]
        rfl
    rw [e2]
  · refine HM_same (fun t m c hc => ?_) (fun c m hc => ?_) (fun c m e hc hi => ?_) (fun hk hi => ?_) (fun hk => ?_) (fun hk => ?_) (fun hk j => ?_)
    · by_cases h1 : c = 41
      · subst h1
        exact (kA_41 hc).elim
      · by_cases h2 : c = 50
        · subst h2
          have := kA_50 hc
          show p < mBd n d i v (mu μ 2 0 10 (n + 1)) 0 0 50 ↔ p < μ 0 0 50
          rw [e50]
          have : k = 51 ∨ k = 52 ∨ k = 53 ∨ k = 54 ∨ k = 55 ∨ k = 56 := by omega
          omega
        · rw [hbd c h1 h2]
    · by_cases h1 : m = 41
      · subst h1
        have := kO_41 hc
        show p < mBd n d i v (mu μ 2 0 10 (n + 1)) 0 0 41 ↔ p < μ 0 0 41
        rw [e41]
        omega
      · by_cases h2 : m = 50
        · subst h2
          have := kO_50 hc
          show p < mBd n d i v (mu μ 2 0 10 (n + 1)) 0 0 50 ↔ p < μ 0 0 50
          rw [e50]
          omega
        · rw [hbd m h1 h2]
    · by_cases h1 : e = 41
      · subst h1
        exact (kB_41 hc).elim
      · by_cases h2 : e = 50
        · subst h2
          exact (kB_50 hc).elim
        · exact h00 0 _ (by omega)
    · exact absurd ⟨hk, hi⟩ n8
    · exact h00 2 0 (by omega)
    · refine ⟨h00 1 _ (by omega), ?_⟩
      rw [h00 0 26 (by omega)]
    · have n5x : ¬ ((50 ≤ k ∧ k ≤ 56) ∧ p = n + 1) := fun z => by
        have : k = 50 ∨ k = 51 ∨ k = 52 ∨ k = 53 ∨ k = 54 ∨ k = 55 ∨ k = 56 := by omega
        omega
      rw [hg k p j hk n41 n5x]
      by_cases h2 : k = 2
      · subst h2
        exact mu_i (fun z => n2 ⟨rfl, z⟩)
      · exact congrFun (congrFun (mu_g h2) p) j
/-! the class works a job -/
theorem c90_S (hc0 : 0 ≤ μ 0 0 50 - 1) (hd : 0 ≤ d) (hd2 : d < μ 0 0 30) (hi : 0 ≤ i) (hi2 : i < μ 0 0 20) (hD : dcOK μ t) (hF : flOK μ i) (ha : 0 ≤ a ∧ a ≤ 3) (hn : μ 0 0 40 = n) (hx : μ 7 0 a < stt (μ 0 0 50 - 1) d i μ 50 (μ 0 0 50 - 1) 3 * (5 + stt (μ 0 0 50 - 1) d i μ 50 (μ 0 0 50 - 1) 1)) (q : Q (.inl (some (zR 40 n))) (zset (HM (mu (stt (μ 0 0 50 - 1) d i μ) 7 0 a 0)) 40 n (zfJ d i 2 (μ 7 0 a) zN))) : G 90 0 [zR 2 0, zI a, zR 30 d, zR 20 i, u, u'] [] (HM μ) 9 382 Q := by
  have e := fun (ck sk : Nat) (Q : ZO → ZH → Prop) (u : ZV) => c19d (μ := μ) (c := μ 0 0 50 - 1) (ck := ck) (sk := sk) (Q := Q) (u := u) rfl hc0 hi hi2 hd hd2 hD hF
  have g0 : stt (μ 0 0 50 - 1) d i μ 0 = μ 0 := stt_g (by omega)
  have g7 : stt (μ 0 0 50 - 1) d i μ 7 = μ 7 := stt_g (by omega)
  have g20 : stt (μ 0 0 50 - 1) d i μ 20 = μ 20 := stt_g (by omega)
  have hL := (stt_L (c := μ 0 0 50 - 1) (b := i) rfl hc0 hd hd2 hD hF).1
  have h3 := stt_3 (c := μ 0 0 50 - 1) (d := d) (b := i) (μ := μ)
  have e36 := fun (ck sk : Nat) (Q : ZO → ZH → Prop) => c36 (μ := stt (μ 0 0 50 - 1) d i μ) (a := μ 0 0 50 - 1) (ck := ck) (sk := sk) (Q := Q) hc0 (by rw [g0]; omega) (by omega) h3.2 hL.1 hL.2
  have h9 : μ 0 0 50 - 1 < stt (μ 0 0 50 - 1) d i μ 0 0 50 := by rw [g0]; omega
  generalize hxx : stt (μ 0 0 50 - 1) d i μ 50 (μ 0 0 50 - 1) 3 * (5 + stt (μ 0 0 50 - 1) d i μ 50 (μ 0 0 50 - 1) 1) = xx at *
  have hx2 : ¬ xx ≤ μ 7 0 a := by omega
  simp (disch := first | omega | (simp (disch := decide) only [zmu0, mu_g, List.length_nil, List.length_cons]; omega)) only [g90_0, g90_1, g90_4, g90_5, g90_6, g90_9, g90_12, g90_13, g90_16, g90_19, g90_22, g90_24, g90_26, g90_27, g90_30, g90_31, g90_32, g90_35, g90_36, g90_39, g90_40, g90_41, g90_43, g90_44, g90_47, g90_48, g90_49, g90_53, g90_53r, g90_54, g90_55, g90_56, g90_57, g90_59, g90_63, g90_64, g90_65, g90_68, g90_69, g90_70, g90_71, g90_73, g90_74, g90_78, g90_78r, g90_79, g90_80, g90_83, g90_84, g90_85, g90_88, g90_89, g90_98, g90_100, g90_101, g90_101r, g90_102, g90_105, g90_106, g90_107, g90_113, g90_113r, g90_114, g90_115, g90_116, g90_117, g90_119, g90_124, ob2, oc2, fl2_0, fl2_1, fl2_2, fl2_3, fl2_4, fl2_5, fl2_6, wo2_6, fl2_7, wo2_7, fl2_8, wo2_8, fl2_9, wo2_9, fl2_10, wo2_10, rd7, wr7, ob8, oc8, fl8_0, fl8_1, fl8_2, fl8_3, fl8_4, fl8_5, fl8_6, ob20, oc20, fl20_0, wo20_0, fl20_1, fl20_2, fl20_3, wo20_3, ob50, oc50, fl50_0, wo50_0, fl50_1, wo50_1, fl50_2, wo50_2, fl50_3, wo50_3, fl50_4, wo50_4, fl50_5, wo50_5, fl50_6, fl50_7, fl50_8, fl50_9, fl50_10, fl50_11, Int.reduceSub, Int.reduceAdd, Int.add_zero, Int.zero_add, Int.cast_ofNat_Int, Bool.false_eq_true, decide_true, decide_false, zbndI, zbwI, zbzI, zb1I, zoA_at, gback_v, gback_n, zem, zisr, zro_at, zrl_at, mu_g, mu_at, mu_mu, mu_self, not_true, not_false_iff, zb0, zb1, zbnd, zbw, zbz, zne1, zone, mrgI, List.length_nil, List.length_cons, Nat.reduceAdd, Nat.reduceSub, Nat.reduceLeDiff, Nat.zero_le, and_true, true_and, false_and, and_false, true_or, or_true, false_or, or_false, G_ite, z10, z1n, z1and, z1or, z0not, z0and, itn, if_true, if_false, reduceIte, Int.reduceEq, Int.reduceLT, Int.reduceNeg, Nat.reduceEqDiff, ite_self, e, e36, g0, g7, h9, hx, hx2]
  rw [g90_50]
  refine ⟨⟨trivial, by decide, by decide⟩, 40, n, by decide, no40 (by rw [mu_g (by decide), g0]; omega), ?_⟩
  simp (disch := first | omega | (simp (disch := decide) only [zmu0, mu_g, List.length_nil, List.length_cons]; omega)) only [g90_0, g90_1, g90_4, g90_5, g90_6, g90_9, g90_12, g90_13, g90_16, g90_19, g90_22, g90_24, g90_26, g90_27, g90_30, g90_31, g90_32, g90_35, g90_36, g90_39, g90_40, g90_41, g90_43, g90_44, g90_47, g90_48, g90_49, g90_53, g90_53r, g90_54, g90_55, g90_56, g90_57, g90_59, g90_63, g90_64, g90_65, g90_68, g90_69, g90_70, g90_71, g90_73, g90_74, g90_78, g90_78r, g90_79, g90_80, g90_83, g90_84, g90_85, g90_88, g90_89, g90_98, g90_100, g90_101, g90_101r, g90_102, g90_105, g90_106, g90_107, g90_113, g90_113r, g90_114, g90_115, g90_116, g90_117, g90_119, g90_124, Int.reduceSub, Int.reduceAdd, Int.add_zero, Int.zero_add, Int.cast_ofNat_Int, Bool.false_eq_true, decide_true, decide_false, zbndI, zbwI, zbzI, zb1I, zoA_at, gback_v, gback_n, zem, zisr, zro_at, zrl_at, mu_g, mu_at, mu_mu, mu_self, not_true, not_false_iff, zb0, zb1, zbnd, zbw, zbz, zne1, zone, mrgI, List.length_nil, List.length_cons, Nat.reduceAdd, Nat.reduceSub, Nat.reduceLeDiff, Nat.zero_le, and_true, true_and, false_and, and_false, true_or, or_true, false_or, or_false, G_ite, z10, z1n, z1and, z1or, z0not, z0and, itn, if_true, if_false, reduceIte, Int.reduceEq, Int.reduceLT, Int.reduceNeg, Nat.reduceEqDiff, ite_self]
  rw [g90_60]
  refine ⟨⟨by simp only [List.length_cons, List.length_nil]; omega, zGO_s.mpr trivial⟩, ?_⟩
  rw [i15 zset_at, gback_n]
  simp (disch := first | omega | (simp (disch := decide) only [zmu0, mu_g, List.length_nil, List.length_cons]; omega)) only [g90_0, g90_1, g90_4, g90_5, g90_6, g90_9, g90_12, g90_13, g90_16, g90_19, g90_22, g90_24, g90_26, g90_27, g90_30, g90_31, g90_32, g90_35, g90_36, g90_39, g90_40, g90_41, g90_43, g90_44, g90_47, g90_48, g90_49, g90_53, g90_53r, g90_54, g90_55, g90_56, g90_57, g90_59, g90_63, g90_64, g90_65, g90_68, g90_69, g90_70, g90_71, g90_73, g90_74, g90_78, g90_78r, g90_79, g90_80, g90_83, g90_84, g90_85, g90_88, g90_89, g90_98, g90_100, g90_101, g90_101r, g90_102, g90_105, g90_106, g90_107, g90_113, g90_113r, g90_114, g90_115, g90_116, g90_117, g90_119, g90_124, Int.reduceSub, Int.reduceAdd, Int.add_zero, Int.zero_add, Int.cast_ofNat_Int, Bool.false_eq_true, decide_true, decide_false, zbndI, zbwI, zbzI, zb1I, zoA_at, gback_v, gback_n, zem, zisr, zro_at, zrl_at, mu_g, mu_at, mu_mu, mu_self, not_true, not_false_iff, zb0, zb1, zbnd, zbw, zbz, zne1, zone, mrgI, List.length_nil, List.length_cons, Nat.reduceAdd, Nat.reduceSub, Nat.reduceLeDiff, Nat.zero_le, and_true, true_and, false_and, and_false, true_or, or_true, false_or, or_false, G_ite, z10, z1n, z1and, z1or, z0not, z0and, itn, if_true, if_false, reduceIte, Int.reduceEq, Int.reduceLT, Int.reduceNeg, Nat.reduceEqDiff, ite_self, zset_zset]
  exact q
theorem c90_R (hc0 : 0 ≤ μ 0 0 50 - 1) (hd : 0 ≤ d) (hd2 : d < μ 0 0 30) (hi : 0 ≤ i) (hi2 : i < μ 0 0 20) (hD : dcOK μ t) (hF : flOK μ i) (ha : 0 ≤ a ∧ a ≤ 3) (hp : 0 ≤ μ 7 0 a ∧ μ 7 0 a ≤ 1000000) (hn : μ 0 0 40 = n) (hm : μ 0 0 41 = m) (hm2 : μ 2 0 10 = m) (hm0 : 0 ≤ m ∧ m ≤ 1000) (hm5 : μ 0 0 50 = m + 1) (hx : ¬ μ 7 0 a < stt (μ 0 0 50 - 1) d i μ 50 (μ 0 0 50 - 1) 3 * (5 + stt (μ 0 0 50 - 1) d i μ 50 (μ 0 0 50 - 1) 1)) (q : Q (.inl (some (zR 40 n))) (zset (HM (mBd m d i (μ 30 d 10) (mu (mu (stt (μ 0 0 50 - 1) d i μ) 7 0 a (μ 7 0 a - stt (μ 0 0 50 - 1) d i μ 50 (μ 0 0 50 - 1) 3 * (5 + stt (μ 0 0 50 - 1) d i μ 50 (μ 0 0 50 - 1) 1))) 2 0 10 (m + 1)))) 40 n (zfJ d i 0 (stt (μ 0 0 50 - 1) d i μ 50 (μ 0 0 50 - 1) 3 * (5 + stt (μ 0 0 50 - 1) d i μ 50 (μ 0 0 50 - 1) 1)) (zR 41 m)))) : G 90 0 [zR 2 0, zI a, zR 30 d, zR 20 i, u, u'] [] (HM μ) 9 382 Q := by
  have e := fun (ck sk : Nat) (Q : ZO → ZH → Prop) (u : ZV) => c19d (μ := μ) (c := μ 0 0 50 - 1) (ck := ck) (sk := sk) (Q := Q) (u := u) rfl hc0 hi hi2 hd hd2 hD hF
  have g0 : stt (μ 0 0 50 - 1) d i μ 0 = μ 0 := stt_g (by omega)
  have g2 : stt (μ 0 0 50 - 1) d i μ 2 = μ 2 := stt_g (by omega)
  have g7 : stt (μ 0 0 50 - 1) d i μ 7 = μ 7 := stt_g (by omega)
  have g20 : stt (μ 0 0 50 - 1) d i μ 20 = μ 20 := stt_g (by omega)
  have g30 : stt (μ 0 0 50 - 1) d i μ 30 = μ 30 := stt_g (by omega)
  have hL := (stt_L (c := μ 0 0 50 - 1) (b := i) rfl hc0 hd hd2 hD hF).1
  have h3 := stt_3 (c := μ 0 0 50 - 1) (d := d) (b := i) (μ := μ)
  have e36 := fun (ck sk : Nat) (Q : ZO → ZH → Prop) => c36 (μ := stt (μ 0 0 50 - 1) d i μ) (a := μ 0 0 50 - 1) (ck := ck) (sk := sk) (Q := Q) hc0 (by rw [g0]; omega) (by omega) h3.2 hL.1 hL.2
  have h9 : μ 0 0 50 - 1 < stt (μ 0 0 50 - 1) d i μ 0 0 50 := by rw [g0]; omega
  have x1 : 0 ≤ stt (μ 0 0 50 - 1) d i μ 50 (μ 0 0 50 - 1) 3 * (5 + stt (μ 0 0 50 - 1) d i μ 50 (μ 0 0 50 - 1) 1) := Int.mul_nonneg (by omega) (by omega)
  generalize hxx : stt (μ 0 0 50 - 1) d i μ 50 (μ 0 0 50 - 1) 3 * (5 + stt (μ 0 0 50 - 1) d i μ 50 (μ 0 0 50 - 1) 1) = xx at *
  have hx2 : xx ≤ μ 7 0 a := by omega
  have hi20 : i < mu (stt (μ 0 0 50 - 1) d i μ) 7 0 a (μ 7 0 a - xx) 0 0 20 := by rw [mu_g (by decide), g0]; exact hi2
  generalize hM : stt (μ 0 0 50 - 1) d i μ = M at *
  simp (disch := first | omega | (simp (disch := decide) only [zmu0, mu_g, List.length_nil, List.length_cons]; omega)) only [g90_0, g90_1, g90_4, g90_5, g90_6, g90_9, g90_12, g90_13, g90_16, g90_19, g90_22, g90_24, g90_26, g90_27, g90_30, g90_31, g90_32, g90_35, g90_36, g90_39, g90_40, g90_41, g90_43, g90_44, g90_47, g90_48, g90_49, g90_53, g90_53r, g90_54, g90_55, g90_56, g90_57, g90_59, g90_63, g90_64, g90_65, g90_68, g90_69, g90_70, g90_71, g90_73, g90_74, g90_78, g90_78r, g90_79, g90_80, g90_83, g90_84, g90_85, g90_88, g90_89, g90_98, g90_100, g90_101, g90_101r, g90_102, g90_105, g90_106, g90_107, g90_113, g90_113r, g90_114, g90_115, g90_116, g90_117, g90_119, g90_124, ob2, oc2, fl2_0, fl2_1, fl2_2, fl2_3, fl2_4, fl2_5, fl2_6, wo2_6, fl2_7, wo2_7, fl2_8, wo2_8, fl2_9, wo2_9, fl2_10, wo2_10, rd7, wr7, ob8, oc8, fl8_0, fl8_1, fl8_2, fl8_3, fl8_4, fl8_5, fl8_6, ob20, oc20, fl20_0, wo20_0, fl20_1, fl20_2, fl20_3, wo20_3, ob50, oc50, fl50_0, wo50_0, fl50_1, wo50_1, fl50_2, wo50_2, fl50_3, wo50_3, fl50_4, wo50_4, fl50_5, wo50_5, fl50_6, fl50_7, fl50_8, fl50_9, fl50_10, fl50_11, Int.reduceSub, Int.reduceAdd, Int.add_zero, Int.zero_add, Int.cast_ofNat_Int, Bool.false_eq_true, decide_true, decide_false, zbndI, zbwI, zbzI, zb1I, zoA_at, gback_v, gback_n, zem, zisr, zro_at, zrl_at, mu_g, mu_at, mu_mu, mu_self, not_true, not_false_iff, zb0, zb1, zbnd, zbw, zbz, zne1, zone, mrgI, List.length_nil, List.length_cons, Nat.reduceAdd, Nat.reduceSub, Nat.reduceLeDiff, Nat.zero_le, and_true, true_and, false_and, and_false, true_or, or_true, false_or, or_false, G_ite, z10, z1n, z1and, z1or, z0not, z0and, itn, if_true, if_false, reduceIte, Int.reduceEq, Int.reduceLT, Int.reduceNeg, Nat.reduceEqDiff, ite_self, e, e36, g0, g7, h9, hx, hx2]
  rw [g90_75]
  refine ⟨⟨trivial, by decide, by decide⟩, 41, m, by decide, no41 (by rw [mu_g (by decide), g0]; omega), ?_⟩
  simp (disch := first | omega | (simp (disch := decide) only [zmu0, mu_g, List.length_nil, List.length_cons]; omega)) only [g90_0, g90_1, g90_4, g90_5, g90_6, g90_9, g90_12, g90_13, g90_16, g90_19, g90_22, g90_24, g90_26, g90_27, g90_30, g90_31, g90_32, g90_35, g90_36, g90_39, g90_40, g90_41, g90_43, g90_44, g90_47, g90_48, g90_49, g90_53, g90_53r, g90_54, g90_55, g90_56, g90_57, g90_59, g90_63, g90_64, g90_65, g90_68, g90_69, g90_70, g90_71, g90_73, g90_74, g90_78, g90_78r, g90_79, g90_80, g90_83, g90_84, g90_85, g90_88, g90_89, g90_98, g90_100, g90_101, g90_101r, g90_102, g90_105, g90_106, g90_107, g90_113, g90_113r, g90_114, g90_115, g90_116, g90_117, g90_119, g90_124, ob2, oc2, fl2_0, fl2_1, fl2_2, fl2_3, fl2_4, fl2_5, fl2_6, wo2_6, fl2_7, wo2_7, fl2_8, wo2_8, fl2_9, wo2_9, fl2_10, wo2_10, ob20, oc20, fl20_0, wo20_0, fl20_1, fl20_2, fl20_3, wo20_3, Int.reduceSub, Int.reduceAdd, Int.add_zero, Int.zero_add, Int.cast_ofNat_Int, Bool.false_eq_true, decide_true, decide_false, zbndI, zbwI, zbzI, zb1I, zoA_at, gback_v, gback_n, zem, zisr, zro_at, zrl_at, mu_g, mu_at, mu_mu, mu_self, not_true, not_false_iff, zb0, zb1, zbnd, zbw, zbz, zne1, zone, mrgI, List.length_nil, List.length_cons, Nat.reduceAdd, Nat.reduceSub, Nat.reduceLeDiff, Nat.zero_le, and_true, true_and, false_and, and_false, true_or, or_true, false_or, or_false, G_ite, z10, z1n, z1and, z1or, z0not, z0and, itn, if_true, if_false, reduceIte, Int.reduceEq, Int.reduceLT, Int.reduceNeg, Nat.reduceEqDiff, ite_self, zGF_n, g2, hm2, hi20]
  refine (g90_92 ⟨by simp only [List.length_cons, List.length_nil]; omega, ?_⟩).mpr ⟨⟨by decide, by decide, by rw [zGO_n (by decide), oc8 (by omega) (by omega)]; trivial⟩, ?_⟩
  · exact ⟨trivial, trivial, trivial, trivial, trivial, trivial⟩
  have eMM : ∀ k, k ≠ 7 → mu M 7 0 a (μ 7 0 a - xx) k = M k := fun k hk => mu_g hk
  have e50 : ∀ (k : Nat), HM (mu M 7 0 a (μ 7 0 a - xx)) k (m + 1) = none → zset (HM (mu M 7 0 a (μ 7 0 a - xx))) 41 m (.inl (0, zfd 0)) k (m + 1) = none := fun k hk => by
    rw [zset_ne (fun z => by omega)]
    exact hk
  have hcnt : ¬ m + 1 < mu M 7 0 a (μ 7 0 a - xx) 0 0 50 := by rw [eMM 0 (by decide), g0]; omega
  refine i18 (s := m) (m := m + 1) (g := zfl (mu M 7 0 a (μ 7 0 a - xx)) 8 0) (by rw [zset_k (by decide)]; rfl) (by
    show zR 50 (mu M 7 0 a (μ 7 0 a - xx) 0 0 50 - 1) = _
    rw [eMM 0 (by decide), g0, hm5, show m + 1 - 1 = m by omega]) (e50 50 (no50 hcnt)) (e50 51 (no51 hcnt)) (e50 52 (no52 hcnt)) (e50 53 (no53 hcnt)) (e50 54 (no54 hcnt)) (e50 55 (no55 hcnt)) (e50 56 (no56 hcnt)) ?_
  rw [gback_v, g90_95]
  have k41 : zset (HS (zset (HM (mu M 7 0 a (μ 7 0 a - xx))) 41 m (.inl (0, zfd 0))) (m + 1)) 8 0 (.inl (6, zupN (zfl (mu M 7 0 a (μ 7 0 a - xx)) 8 0) 0 (zR 50 (m + 1)))) 41 m = some (.inl (0, zfd 0)) := by
    unfold HS
    simp (disch := decide) only [zset_k]
    exact zset_at
  have k30 : zset (HS (zset (HM (mu M 7 0 a (μ 7 0 a - xx))) 41 m (.inl (0, zfd 0))) (m + 1)) 8 0 (.inl (6, zupN (zfl (mu M 7 0 a (μ 7 0 a - xx)) 8 0) 0 (zR 50 (m + 1)))) 30 d = some (.inl (1, zfl (mu M 7 0 a (μ 7 0 a - xx)) 30 d)) := by
    unfold HS
    simp (disch := decide) only [zset_k]
    exact if_pos ⟨hd, by show d < mu M 7 0 a (μ 7 0 a - xx) 0 0 30; rw [eMM 0 (by decide), g0]; exact hd2⟩
  refine ⟨⟨by simp only [List.length_cons, List.length_nil]; omega, zGO_o k41 |>.mpr trivial⟩, ?_⟩
  rw [i0 k41 k30 (v := μ 30 d 10) (by
    show zI (mu M 7 0 a (μ 7 0 a - xx) 30 d 10) = _
    rw [eMM 30 (by decide), g30]), gback_n]
  have yGF : ∀ (F : (Nat → ZV) → Prop), zGF (HS (zset (HM (mu M 7 0 a (μ 7 0 a - xx))) 41 m (.inl (0, zfd 0))) (m + 1)) 2 0 8 F ↔ zGF (HM (mu M 7 0 a (μ 7 0 a - xx))) 2 0 8 F := fun F => by
    unfold HS
    rw [zGF_n (by decide), zGF_n (by decide), zGF_n (by decide), zGF_n (by decide), zGF_n (by decide), zGF_n (by decide), zGF_n (by decide), zGF_n (by decide)]
  simp (disch := first | omega | (simp (disch := decide) only [zmu0, mu_g, List.length_nil, List.length_cons]; omega)) only [g90_0, g90_1, g90_4, g90_5, g90_6, g90_9, g90_12, g90_13, g90_16, g90_19, g90_22, g90_24, g90_26, g90_27, g90_30, g90_31, g90_32, g90_35, g90_36, g90_39, g90_40, g90_41, g90_43, g90_44, g90_47, g90_48, g90_49, g90_53, g90_53r, g90_54, g90_55, g90_56, g90_57, g90_59, g90_63, g90_64, g90_65, g90_68, g90_69, g90_70, g90_71, g90_73, g90_74, g90_78, g90_78r, g90_79, g90_80, g90_83, g90_84, g90_85, g90_88, g90_89, g90_98, g90_100, g90_101, g90_101r, g90_102, g90_105, g90_106, g90_107, g90_113, g90_113r, g90_114, g90_115, g90_116, g90_117, g90_119, g90_124, ob2, oc2, fl2_0, fl2_1, fl2_2, fl2_3, fl2_4, fl2_5, fl2_6, wo2_6, fl2_7, wo2_7, fl2_8, wo2_8, fl2_9, wo2_9, fl2_10, wo2_10, Int.reduceSub, Int.reduceAdd, Int.add_zero, Int.zero_add, Int.cast_ofNat_Int, Bool.false_eq_true, decide_true, decide_false, zbndI, zbwI, zbzI, zb1I, zoA_at, gback_v, gback_n, zem, zisr, zro_at, zrl_at, mu_g, mu_at, mu_mu, mu_self, not_true, not_false_iff, zb0, zb1, zbnd, zbw, zbz, zne1, zone, mrgI, List.length_nil, List.length_cons, Nat.reduceAdd, Nat.reduceSub, Nat.reduceLeDiff, Nat.zero_le, and_true, true_and, false_and, and_false, true_or, or_true, false_or, or_false, G_ite, z10, z1n, z1and, z1or, z0not, z0and, itn, if_true, if_false, reduceIte, Int.reduceEq, Int.reduceLT, Int.reduceNeg, Nat.reduceEqDiff, ite_self, zGF_n, yGF, g2, hm2]
  have eB := HM_bd (μ := mu M 7 0 a (μ 7 0 a - xx)) (n := m) (d := d) (i := i) (v := μ 30 d 10) (by rw [eMM 0 (by decide), g0]; exact hm) (by rw [eMM 0 (by decide), g0]; exact hm5) hm0.1
  rw [eB, g90_110]
  refine ⟨⟨trivial, by decide, by decide⟩, 40, n, by decide, no40 (by
    show ¬ n < (if (0 : Nat) = 0 then (if (0 : Int) = 0 ∧ (40 : Int) = 41 then m + 1 else if (0 : Int) = 0 ∧ (40 : Int) = 50 then m + 2 else mu (mu M 7 0 a (μ 7 0 a - xx)) 2 0 10 (m + 1) 0 0 40) else 0)
    rw [if_pos rfl, if_neg (by omega), if_neg (by omega), mu_g (by decide), eMM 0 (by decide), g0]
    omega), ?_⟩
  simp (disch := first | omega | (simp (disch := decide) only [zmu0, mu_g, List.length_nil, List.length_cons]; omega)) only [g90_0, g90_1, g90_4, g90_5, g90_6, g90_9, g90_12, g90_13, g90_16, g90_19, g90_22, g90_24, g90_26, g90_27, g90_30, g90_31, g90_32, g90_35, g90_36, g90_39, g90_40, g90_41, g90_43, g90_44, g90_47, g90_48, g90_49, g90_53, g90_53r, g90_54, g90_55, g90_56, g90_57, g90_59, g90_63, g90_64, g90_65, g90_68, g90_69, g90_70, g90_71, g90_73, g90_74, g90_78, g90_78r, g90_79, g90_80, g90_83, g90_84, g90_85, g90_88, g90_89, g90_98, g90_100, g90_101, g90_101r, g90_102, g90_105, g90_106, g90_107, g90_113, g90_113r, g90_114, g90_115, g90_116, g90_117, g90_119, g90_124, Int.reduceSub, Int.reduceAdd, Int.add_zero, Int.zero_add, Int.cast_ofNat_Int, Bool.false_eq_true, decide_true, decide_false, zbndI, zbwI, zbzI, zb1I, zoA_at, gback_v, gback_n, zem, zisr, zro_at, zrl_at, mu_g, mu_at, mu_mu, mu_self, not_true, not_false_iff, zb0, zb1, zbnd, zbw, zbz, zne1, zone, mrgI, List.length_nil, List.length_cons, Nat.reduceAdd, Nat.reduceSub, Nat.reduceLeDiff, Nat.zero_le, and_true, true_and, false_and, and_false, true_or, or_true, false_or, or_false, G_ite, z10, z1n, z1and, z1or, z0not, z0and, itn, if_true, if_false, reduceIte, Int.reduceEq, Int.reduceLT, Int.reduceNeg, Nat.reduceEqDiff, ite_self]
  rw [g90_121]
  refine ⟨⟨by simp only [List.length_cons, List.length_nil]; omega, zGO_s.mpr trivial⟩, ?_⟩
  rw [i15 zset_at, gback_n]
  simp (disch := first | omega | (simp (disch := decide) only [zmu0, mu_g, List.length_nil, List.length_cons]; omega)) only [g90_0, g90_1, g90_4, g90_5, g90_6, g90_9, g90_12, g90_13, g90_16, g90_19, g90_22, g90_24, g90_26, g90_27, g90_30, g90_31, g90_32, g90_35, g90_36, g90_39, g90_40, g90_41, g90_43, g90_44, g90_47, g90_48, g90_49, g90_53, g90_53r, g90_54, g90_55, g90_56, g90_57, g90_59, g90_63, g90_64, g90_65, g90_68, g90_69, g90_70, g90_71, g90_73, g90_74, g90_78, g90_78r, g90_79, g90_80, g90_83, g90_84, g90_85, g90_88, g90_89, g90_98, g90_100, g90_101, g90_101r, g90_102, g90_105, g90_106, g90_107, g90_113, g90_113r, g90_114, g90_115, g90_116, g90_117, g90_119, g90_124, Int.reduceSub, Int.reduceAdd, Int.add_zero, Int.zero_add, Int.cast_ofNat_Int, Bool.false_eq_true, decide_true, decide_false, zbndI, zbwI, zbzI, zb1I, zoA_at, gback_v, gback_n, zem, zisr, zro_at, zrl_at, mu_g, mu_at, mu_mu, mu_self, not_true, not_false_iff, zb0, zb1, zbnd, zbw, zbz, zne1, zone, mrgI, List.length_nil, List.length_cons, Nat.reduceAdd, Nat.reduceSub, Nat.reduceLeDiff, Nat.zero_le, and_true, true_and, false_and, and_false, true_or, or_true, false_or, or_false, G_ite, z10, z1n, z1and, z1or, z0not, z0and, itn, if_true, if_false, reduceIte, Int.reduceEq, Int.reduceLT, Int.reduceNeg, Nat.reduceEqDiff, ite_self, zset_zset]
  exact q
end ZDI
