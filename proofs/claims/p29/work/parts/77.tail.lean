/-! ===== the law: what it asks after each command ===== -/
section ZPH1
variable {ck sk : Nat} {Q : ZO → ZH → Prop} {μ ν κ M Φ : ZU} {a b c d e f g i j k l m n o p r s t t' v w x z D R S T : Int} {u u14 u15 u16 u17 u18 u19 u20 u21 u22 u23 u24 : ZV}
theorem c111_V (h : RW μ t) (hk : 0 ≤ k ∧ k < 100) (hck : 1 ≤ ck) (hsk : 6 ≤ sk) (q : G 111 260 [zR 1 0, zR 2 0, zR 101 0, zR 102 0, zR 103 0, zR 104 0, zR 105 0, zR 106 0, zR 107 0, zR 108 0, zR 109 0, zR 110 0, zR 111 0, zR 112 0, zI 1, zI (k + 1), u16, u17, u18, u19, u20, u21, u22, u23, u24] [] (HM μ) (ck - 1) (sk - 6) Q) : G 111 1016 [zR 1 0, zR 2 0, zR 101 0, zR 102 0, zR 103 0, zR 104 0, zR 105 0, zR 106 0, zR 107 0, zR 108 0, zR 109 0, zR 110 0, zR 111 0, zR 112 0, zI 1, zI k, u16, u17, u18, u19, u20, u21, u22, u23, u24] [] (HM μ) ck sk Q := by
  have a3 := h.2.1.2.2.1
  have hd := h.2.2.2.2.1.1.2.2.2.2.2
  have e59 : ∀ (Q : ZO → ZH → Prop), G 59 0 [zR 2 0, zI 0] [] (HM μ) 1 6 Q ↔ Q (.inl (some (zI (μ 106 0 4)))) (HM μ) := fun Q => by
    rw [c59 (by omega), if_pos (by omega), hd]
  rw [g111_1016]
  simp (disch := first | omega | (simp (disch := decide) only [zmu0, mu_g, List.length_nil, List.length_cons]; omega)) only [g111_1018, g111_1021, g111_1022, g111_1023, g111_1026, g111_1028, g111_1029, g111_1030, g111_1033, g111_1034, g111_1037, g111_1038, g111_1040, g111_1043, ob2, oc2, fl2_0, fl2_1, fl2_2, fl2_3, fl2_4, fl2_5, fl2_6, wo2_6, fl2_7, wo2_7, fl2_8, wo2_8, fl2_9, wo2_9, fl2_10, wo2_10, rd106, wr106, e59, Nat.sub_zero, Int.reduceSub, Int.reduceAdd, Int.add_zero, Int.zero_add, Int.cast_ofNat_Int, Bool.false_eq_true, decide_true, decide_false, zbndI, zbwI, zbzI, zb1I, zoA_at, gback_v, gback_n, zem, zisr, zro_at, zrl_at, mu_g, mu_at, mu_mu, mu_self, not_true, not_false_iff, zb0, zb1, zbnd, zbw, zbz, zne1, zone, mrgI, List.length_nil, List.length_cons, Nat.reduceAdd, Nat.reduceSub, Nat.reduceLeDiff, Nat.zero_le, and_true, true_and, false_and, and_false, true_or, or_true, false_or, or_false, G_ite, z10, z1n, z1and, z1or, z0not, z0and, itn, if_true, if_false, reduceIte, Int.reduceEq, Int.reduceLT, Int.reduceNeg, Nat.reduceEqDiff, ite_self, hck, hsk, eq_self]
  exact q
theorem c111_f (h : RW μ t) (hi : 0 ≤ i ∧ i < μ 0 0 20) (hx : 0 ≤ x ∧ x < 10) (hb : b = 0 ∨ b = 1) : G 52 0 [zR 2 0, zI i, zI x, zI b, u] [] (HM μ) 2 12 Q ↔ if μ 20 i 3 = 0 then Q (.inr 2) (HM μ) else Q (.inl (some (zI (if 0 < lfv μ i x then (if b = 0 then (lfv μ i x - 1) % 32 else (lfv μ i x - 1) / 32) else -1)))) (HM μ) := by
  have ha2 := h.2.1.2.1
  have he := (h.2.2.2.1.1 i hi.1 hi.2).2.2.2.2.2.2 x hx.1 hx.2
  rw [c52 (by omega), if_pos hi, if_pos (by omega)]
  have e : (if μ 22 i x = 1 then (if b = 0 then μ 23 i x else μ 24 i x) else -1) = if 0 < lfv μ i x then (if b = 0 then (lfv μ i x - 1) % 32 else (lfv μ i x - 1) / 32) else -1 := by
    unfold enc2 at he
    rcases he with ⟨e1, e2, e3, e4⟩ | ⟨e1, e2, e3, e4, e5, e6⟩
    · rw [if_neg (show ¬ μ 22 i x = 1 by omega), if_neg (show ¬ 0 < lfv μ i x by omega)]
    · have hl : 0 < lfv μ i x := by omega
      rw [if_pos e1, if_pos hl]
      rcases hb with rfl | rfl
      · show μ 23 i x = (lfv μ i x - 1) % 32
        omega
      · show μ 24 i x = (lfv μ i x - 1) / 32
        omega
  rw [e]
theorem c111_F (h : RW μ t) (hi : 0 ≤ i ∧ i < μ 0 0 20) : ∀ (n : Nat) (x : Int) (ck sk : Nat) (u21 u22 u23 : ZV), 0 ≤ x → x + n = 10 → 26 * n ≤ ck → 812 * n ≤ sk → (∀ v20 v21 v22 v23, G 111 1016 [zR 1 0, zR 2 0, zR 101 0, zR 102 0, zR 103 0, zR 104 0, zR 105 0, zR 106 0, zR 107 0, zR 108 0, zR 109 0, zR 110 0, zR 111 0, zR 112 0, zI 1, zI k, u16, u17, u18, zI i, v20, v21, v22, v23, u24] [] (HM μ) (ck - 26 * n) (sk - 812 * n) Q) → G 111 865 [zR 1 0, zR 2 0, zR 101 0, zR 102 0, zR 103 0, zR 104 0, zR 105 0, zR 106 0, zR 107 0, zR 108 0, zR 109 0, zR 110 0, zR 111 0, zR 112 0, zI 1, zI k, u16, u17, u18, zI i, zI x, u21, u22, u23, u24] [] (HM μ) ck sk Q
  | 0, x, ck, sk, u21, u22, u23, x0, xn, hck, hsk, q => by
    have hx : ¬ x < 10 := by omega
    rw [g111_865]
    simp (disch := first | omega | (simp (disch := decide) only [zmu0, mu_g, List.length_nil, List.length_cons]; omega)) only [g111_867, g111_869, Nat.sub_zero, Int.reduceSub, Int.reduceAdd, Int.add_zero, Int.zero_add, Int.cast_ofNat_Int, Bool.false_eq_true, decide_true, decide_false, zbndI, zbwI, zbzI, zb1I, zoA_at, gback_v, gback_n, zem, zisr, zro_at, zrl_at, mu_g, mu_at, mu_mu, mu_self, not_true, not_false_iff, zb0, zb1, zbnd, zbw, zbz, zne1, zone, mrgI, List.length_nil, List.length_cons, Nat.reduceAdd, Nat.reduceSub, Nat.reduceLeDiff, Nat.zero_le, and_true, true_and, false_and, and_false, true_or, or_true, false_or, or_false, G_ite, z10, z1n, z1and, z1or, z0not, z0and, itn, if_true, if_false, reduceIte, Int.reduceEq, Int.reduceLT, Int.reduceNeg, Nat.reduceEqDiff, ite_self, hx]
    exact q _ _ _ _
  | n + 1, x, ck, sk, u21, u22, u23, x0, xn, hck, hsk, q => by
    have hx : x < 10 := by omega
    have hB := h.rwB
    have ha2 := h.2.1.2.1
    have hlb := lfv_b hB hi.1 (show i < 13 by omega) x0 hx
    have e94 := fun (Q : ZO → ZH → Prop) (u1 u2 u3 u4 : ZV) => c94 (ck := 0) (sk := 0) (Q := Q) (u1 := u1) (u2 := u2) (u3 := u3) (u4 := u4) hB hi.1 (show i < 13 by omega) (j := x) x0 hx
    have e0 := fun (Q : ZO → ZH → Prop) (u : ZV) => c111_f (b := 0) (u := u) (Q := Q) h hi ⟨x0, hx⟩ (Or.inl rfl)
    have e1 := fun (Q : ZO → ZH → Prop) (u : ZV) => c111_f (b := 1) (u := u) (Q := Q) h hi ⟨x0, hx⟩ (Or.inr rfl)
    have hc := (h.2.2.2.1.1 i hi.1 hi.2).1
    have i0 := hi.1
    have hin : ¬ i < 0 := by omega
    have k1 : 13 ≤ ck := by omega
    have k2 : 13 ≤ ck - 13 := by omega
    have s1 : 406 ≤ sk := by omega
    have s2 : 406 ≤ sk - 406 := by omega
    have ih := fun u21 u22 u23 => c111_F h hi n (x + 1) (ck - 13 - 13) (sk - 406 - 406) u21 u22 u23 (by omega) (by omega) (by omega) (by omega) (fun v20 v21 v22 v23 => by
      have q := q v20 v21 v22 v23
      have e1 : ck - 13 - 13 - 26 * n = ck - 26 * (n + 1) := by omega
      have e2 : sk - 406 - 406 - 812 * n = sk - 812 * (n + 1) := by omega
      rw [e1, e2]
      exact q)
    rw [g111_865]
    by_cases hz : μ 20 i 3 = 0
    · have hz2 : ¬ 0 < μ 103 0 (4 * i) := by omega
      simp only [if_pos hz] at e0 e1
      simp (disch := first | omega | (simp (disch := decide) only [zmu0, mu_g, List.length_nil, List.length_cons]; omega)) only [g111_867, g111_869, g111_872, g111_874, g111_877, g111_879, g111_882, g111_884, g111_885, g111_887, g111_888, g111_889, g111_892, g111_893, g111_896, g111_897, g111_899, g111_900, g111_902, g111_904, g111_906, g111_909, g111_911, g111_912, g111_914, g111_916, g111_918, g111_919, g111_920, g111_923, g111_925, g111_928, g111_930, g111_931, g111_932, g111_935, g111_937, g111_938, g111_939, g111_942, g111_943, g111_944, g111_947, g111_948, g111_951, g111_954, g111_957, g111_958, g111_960, g111_962, g111_964, g111_965, g111_966, g111_969, g111_971, g111_974, g111_976, g111_977, g111_978, g111_981, g111_983, g111_984, g111_985, g111_988, g111_989, g111_990, g111_993, g111_994, g111_997, g111_1000, g111_1003, g111_1004, g111_1007, g111_1008, g111_1010, g111_1013, rd103, wr103, w92_7, x92_7_0, x92_7_1, x92_7_2, g92_138, g92_327, e94, e0, e1, Nat.sub_zero, Int.reduceSub, Int.reduceAdd, Int.add_zero, Int.zero_add, Int.cast_ofNat_Int, Bool.false_eq_true, decide_true, decide_false, zbndI, zbwI, zbzI, zb1I, zoA_at, gback_v, gback_n, zem, zisr, zro_at, zrl_at, mu_g, mu_at, mu_mu, mu_self, not_true, not_false_iff, zb0, zb1, zbnd, zbw, zbz, zne1, zone, mrgI, List.length_nil, List.length_cons, Nat.reduceAdd, Nat.reduceSub, Nat.reduceLeDiff, Nat.zero_le, and_true, true_and, false_and, and_false, true_or, or_true, false_or, or_false, G_ite, z10, z1n, z1and, z1or, z0not, z0and, itn, if_true, if_false, reduceIte, Int.reduceEq, Int.reduceLT, Int.reduceNeg, Nat.reduceEqDiff, ite_self, hx, hin, hz2, k1, k2, s1, s2, eq_self]
      exact ih _ _ _
    · have hz2 : 0 < μ 103 0 (4 * i) := by omega
      simp only [if_neg hz] at e0 e1
      by_cases hl : 0 < lfv μ i x
      · simp only [if_pos hl, if_true, show ¬ (1 : Int) = 0 by decide, if_false] at e0 e1
        simp (disch := first | omega | (simp (disch := decide) only [zmu0, mu_g, List.length_nil, List.length_cons]; omega)) only [g111_867, g111_869, g111_872, g111_874, g111_877, g111_879, g111_882, g111_884, g111_885, g111_887, g111_888, g111_889, g111_892, g111_893, g111_896, g111_897, g111_899, g111_900, g111_902, g111_904, g111_906, g111_909, g111_911, g111_912, g111_914, g111_916, g111_918, g111_919, g111_920, g111_923, g111_925, g111_928, g111_930, g111_931, g111_932, g111_935, g111_937, g111_938, g111_939, g111_942, g111_943, g111_944, g111_947, g111_948, g111_951, g111_954, g111_957, g111_958, g111_960, g111_962, g111_964, g111_965, g111_966, g111_969, g111_971, g111_974, g111_976, g111_977, g111_978, g111_981, g111_983, g111_984, g111_985, g111_988, g111_989, g111_990, g111_993, g111_994, g111_997, g111_1000, g111_1003, g111_1004, g111_1007, g111_1008, g111_1010, g111_1013, rd103, wr103, w92_7, x92_7_0, x92_7_1, x92_7_2, g92_138, g92_327, e94, e0, e1, zcI_gt, Nat.sub_zero, Int.reduceSub, Int.reduceAdd, Int.add_zero, Int.zero_add, Int.cast_ofNat_Int, Bool.false_eq_true, decide_true, decide_false, zbndI, zbwI, zbzI, zb1I, zoA_at, gback_v, gback_n, zem, zisr, zro_at, zrl_at, mu_g, mu_at, mu_mu, mu_self, not_true, not_false_iff, zb0, zb1, zbnd, zbw, zbz, zne1, zone, mrgI, List.length_nil, List.length_cons, Nat.reduceAdd, Nat.reduceSub, Nat.reduceLeDiff, Nat.zero_le, and_true, true_and, false_and, and_false, true_or, or_true, false_or, or_false, G_ite, z10, z1n, z1and, z1or, z0not, z0and, itn, if_true, if_false, reduceIte, Int.reduceEq, Int.reduceLT, Int.reduceNeg, Nat.reduceEqDiff, ite_self, hx, hin, hz2, hl, k1, k2, s1, s2, eq_self]
        exact ih _ _ _
      · simp only [if_neg hl] at e0 e1
        simp (disch := first | omega | (simp (disch := decide) only [zmu0, mu_g, List.length_nil, List.length_cons]; omega)) only [g111_867, g111_869, g111_872, g111_874, g111_877, g111_879, g111_882, g111_884, g111_885, g111_887, g111_888, g111_889, g111_892, g111_893, g111_896, g111_897, g111_899, g111_900, g111_902, g111_904, g111_906, g111_909, g111_911, g111_912, g111_914, g111_916, g111_918, g111_919, g111_920, g111_923, g111_925, g111_928, g111_930, g111_931, g111_932, g111_935, g111_937, g111_938, g111_939, g111_942, g111_943, g111_944, g111_947, g111_948, g111_951, g111_954, g111_957, g111_958, g111_960, g111_962, g111_964, g111_965, g111_966, g111_969, g111_971, g111_974, g111_976, g111_977, g111_978, g111_981, g111_983, g111_984, g111_985, g111_988, g111_989, g111_990, g111_993, g111_994, g111_997, g111_1000, g111_1003, g111_1004, g111_1007, g111_1008, g111_1010, g111_1013, rd103, wr103, w92_7, x92_7_0, x92_7_1, x92_7_2, g92_138, g92_327, e94, e0, e1, zcI_gt, Nat.sub_zero, Int.reduceSub, Int.reduceAdd, Int.add_zero, Int.zero_add, Int.cast_ofNat_Int, Bool.false_eq_true, decide_true, decide_false, zbndI, zbwI, zbzI, zb1I, zoA_at, gback_v, gback_n, zem, zisr, zro_at, zrl_at, mu_g, mu_at, mu_mu, mu_self, not_true, not_false_iff, zb0, zb1, zbnd, zbw, zbz, zne1, zone, mrgI, List.length_nil, List.length_cons, Nat.reduceAdd, Nat.reduceSub, Nat.reduceLeDiff, Nat.zero_le, and_true, true_and, false_and, and_false, true_or, or_true, false_or, or_false, G_ite, z10, z1n, z1and, z1or, z0not, z0and, itn, if_true, if_false, reduceIte, Int.reduceEq, Int.reduceLT, Int.reduceNeg, Nat.reduceEqDiff, ite_self, hx, hin, hz2, hl, k1, k2, s1, s2, eq_self]
        exact ih _ _ _
theorem c111_L (h : RW μ t) : ∀ (n : Nat) (x : Int) (ck sk : Nat), 0 ≤ x → x + n = μ 106 0 0 → 2 * n ≤ ck → 12 * n ≤ sk → (∀ v19, G 111 842 [zR 1 0, zR 2 0, zR 101 0, zR 102 0, zR 103 0, zR 104 0, zR 105 0, zR 106 0, zR 107 0, zR 108 0, zR 109 0, zR 110 0, zR 111 0, zR 112 0, zI 1, zI k, u16, u17, u18, v19, u20, u21, u22, u23, u24] [] (HM μ) (ck - 2 * n) (sk - 12 * n) Q) → G 111 801 [zR 1 0, zR 2 0, zR 101 0, zR 102 0, zR 103 0, zR 104 0, zR 105 0, zR 106 0, zR 107 0, zR 108 0, zR 109 0, zR 110 0, zR 111 0, zR 112 0, zI 1, zI k, u16, u17, u18, zI x, u20, u21, u22, u23, u24] [] (HM μ) ck sk Q
  | 0, x, ck, sk, x0, xn, hck, hsk, q => by
    have hx : ¬ x < μ 106 0 0 := by omega
    rw [g111_801]
    simp (disch := first | omega | (simp (disch := decide) only [zmu0, mu_g, List.length_nil, List.length_cons]; omega)) only [g111_803, g111_805, g111_806, g111_807, rd106, wr106, Nat.sub_zero, Int.reduceSub, Int.reduceAdd, Int.add_zero, Int.zero_add, Int.cast_ofNat_Int, Bool.false_eq_true, decide_true, decide_false, zbndI, zbwI, zbzI, zb1I, zoA_at, gback_v, gback_n, zem, zisr, zro_at, zrl_at, mu_g, mu_at, mu_mu, mu_self, not_true, not_false_iff, zb0, zb1, zbnd, zbw, zbz, zne1, zone, mrgI, List.length_nil, List.length_cons, Nat.reduceAdd, Nat.reduceSub, Nat.reduceLeDiff, Nat.zero_le, and_true, true_and, false_and, and_false, true_or, or_true, false_or, or_false, G_ite, z10, z1n, z1and, z1or, z0not, z0and, itn, if_true, if_false, reduceIte, Int.reduceEq, Int.reduceLT, Int.reduceNeg, Nat.reduceEqDiff, ite_self, hx]
    exact q _
  | n + 1, x, ck, sk, x0, xn, hck, hsk, q => by
    have h6 := h.2.1.1
    have hx : x < μ 106 0 0 := by omega
    have hb := ((h.2.2.1 x x0 (by omega)).1 (by omega)).1
    have e51 : ∀ (Q : ZO → ZH → Prop) (u : ZV), G 51 0 [zR 2 0, zI x, zI 0, u] [] (HM μ) 2 12 Q ↔ Q (.inl (some (zI (μ 102 0 x)))) (HM μ) := fun Q u => by
      rw [c51 (by omega) h.imgOK, if_pos (by omega), if_pos (by omega), if_pos rfl, hb]
    have k1 : 2 ≤ ck := by omega
    have s1 : 12 ≤ sk := by omega
    have ih := c111_L h n (x + 1) (ck - 2) (sk - 12) (by omega) (by omega) (by omega) (by omega) (fun v19 => by
      have q := q v19
      have e1 : ck - 2 - 2 * n = ck - 2 * (n + 1) := by omega
      have e2 : sk - 12 - 12 * n = sk - 12 * (n + 1) := by omega
      rw [e1, e2]
      exact q)
    rw [g111_801]
    simp (disch := first | omega | (simp (disch := decide) only [zmu0, mu_g, List.length_nil, List.length_cons]; omega)) only [g111_803, g111_805, g111_806, g111_807, g111_810, g111_812, g111_815, g111_816, g111_818, g111_819, g111_822, g111_823, g111_825, g111_826, g111_829, g111_830, g111_833, g111_834, g111_836, g111_839, ob2, oc2, fl2_0, fl2_1, fl2_2, fl2_3, fl2_4, fl2_5, fl2_6, wo2_6, fl2_7, wo2_7, fl2_8, wo2_8, fl2_9, wo2_9, fl2_10, wo2_10, rd102, wr102, rd106, wr106, e51, Nat.sub_zero, Int.reduceSub, Int.reduceAdd, Int.add_zero, Int.zero_add, Int.cast_ofNat_Int, Bool.false_eq_true, decide_true, decide_false, zbndI, zbwI, zbzI, zb1I, zoA_at, gback_v, gback_n, zem, zisr, zro_at, zrl_at, mu_g, mu_at, mu_mu, mu_self, not_true, not_false_iff, zb0, zb1, zbnd, zbw, zbz, zne1, zone, mrgI, List.length_nil, List.length_cons, Nat.reduceAdd, Nat.reduceSub, Nat.reduceLeDiff, Nat.zero_le, and_true, true_and, false_and, and_false, true_or, or_true, false_or, or_false, G_ite, z10, z1n, z1and, z1or, z0not, z0and, itn, if_true, if_false, reduceIte, Int.reduceEq, Int.reduceLT, Int.reduceNeg, Nat.reduceEqDiff, ite_self, hx, k1, s1, eq_self]
    exact ih
/-- after the command: to the next turn -/
theorem c111_T (h : RW μ t) (ha : 0 ≤ a) (hk : 0 ≤ k ∧ k < 100) (hck : 300 ≤ ck) (hsk : 9000 ≤ sk) (q : ∀ v16 v17 v18 v19 v20 v21 v22 v23 v24 (ck' sk' : Nat), ck - 300 ≤ ck' → sk - 9000 ≤ sk' → G 111 260 [zR 1 0, zR 2 0, zR 101 0, zR 102 0, zR 103 0, zR 104 0, zR 105 0, zR 106 0, zR 107 0, zR 108 0, zR 109 0, zR 110 0, zR 111 0, zR 112 0, zI 1, zI (k + 1), v16, v17, v18, v19, v20, v21, v22, v23, v24] [] (HM μ) ck' sk' Q) : G 111 798 [zR 1 0, zR 2 0, zR 101 0, zR 102 0, zR 103 0, zR 104 0, zR 105 0, zR 106 0, zR 107 0, zR 108 0, zR 109 0, zR 110 0, zR 111 0, zR 112 0, zI 1, zI k, u16, zI a, u18, u19, u20, u21, u22, u23, u24] [] (HM μ) ck sk Q := by
  have h6 := h.2.1.1
  have h20 := h.2.1.2.1
  rw [g111_798]
  simp (disch := first | omega | (simp (disch := decide) only [zmu0, mu_g, List.length_nil, List.length_cons]; omega)) only [g111_799, Nat.sub_zero, Int.reduceSub, Int.reduceAdd, Int.add_zero, Int.zero_add, Int.cast_ofNat_Int, Bool.false_eq_true, decide_true, decide_false, zbndI, zbwI, zbzI, zb1I, zoA_at, gback_v, gback_n, zem, zisr, zro_at, zrl_at, mu_g, mu_at, mu_mu, mu_self, not_true, not_false_iff, zb0, zb1, zbnd, zbw, zbz, zne1, zone, mrgI, List.length_nil, List.length_cons, Nat.reduceAdd, Nat.reduceSub, Nat.reduceLeDiff, Nat.zero_le, and_true, true_and, false_and, and_false, true_or, or_true, false_or, or_false, G_ite, z10, z1n, z1and, z1or, z0not, z0and, itn, if_true, if_false, reduceIte, Int.reduceEq, Int.reduceLT, Int.reduceNeg, Nat.reduceEqDiff, ite_self]
  refine c111_L h (μ 106 0 0).toNat 0 ck sk (by omega) (by omega) (by omega) (by omega) fun v19 => ?_
  rw [g111_842]
  by_cases hg : μ 106 0 1 = 0
  · simp (disch := first | omega | (simp (disch := decide) only [zmu0, mu_g, List.length_nil, List.length_cons]; omega)) only [g111_844, g111_845, g111_846, g111_849, g111_850, g111_853, g111_855, g111_857, g111_858, g111_859, g111_860, g111_862, g111_863, g111_865, g111_867, g111_869, g111_872, g111_874, g111_877, g111_879, rd106, wr106, Nat.sub_zero, Int.reduceSub, Int.reduceAdd, Int.add_zero, Int.zero_add, Int.cast_ofNat_Int, Bool.false_eq_true, decide_true, decide_false, zbndI, zbwI, zbzI, zb1I, zoA_at, gback_v, gback_n, zem, zisr, zro_at, zrl_at, mu_g, mu_at, mu_mu, mu_self, not_true, not_false_iff, zb0, zb1, zbnd, zbw, zbz, zne1, zone, mrgI, List.length_nil, List.length_cons, Nat.reduceAdd, Nat.reduceSub, Nat.reduceLeDiff, Nat.zero_le, and_true, true_and, false_and, and_false, true_or, or_true, false_or, or_false, G_ite, z10, z1n, z1and, z1or, z0not, z0and, itn, if_true, if_false, reduceIte, Int.reduceEq, Int.reduceLT, Int.reduceNeg, Nat.reduceEqDiff, ite_self, hg]
    refine c111_V h hk (by omega) (by omega) ?_
    exact q _ _ _ _ _ _ _ _ _ _ _ (by omega) (by omega)
  · have hm := Int.emod_nonneg a (b := μ 106 0 1) (by omega)
    have hm2 := Int.emod_lt_of_pos a (b := μ 106 0 1) (by omega)
    simp (disch := first | omega | (simp (disch := decide) only [zmu0, mu_g, List.length_nil, List.length_cons]; omega)) only [g111_844, g111_845, g111_846, g111_849, g111_850, g111_853, g111_855, g111_857, g111_858, g111_859, g111_860, g111_862, g111_863, rd106, wr106, Nat.sub_zero, Int.reduceSub, Int.reduceAdd, Int.add_zero, Int.zero_add, Int.cast_ofNat_Int, Bool.false_eq_true, decide_true, decide_false, zbndI, zbwI, zbzI, zb1I, zoA_at, gback_v, gback_n, zem, zisr, zro_at, zrl_at, mu_g, mu_at, mu_mu, mu_self, not_true, not_false_iff, zb0, zb1, zbnd, zbw, zbz, zne1, zone, mrgI, List.length_nil, List.length_cons, Nat.reduceAdd, Nat.reduceSub, Nat.reduceLeDiff, Nat.zero_le, and_true, true_and, false_and, and_false, true_or, or_true, false_or, or_false, G_ite, z10, z1n, z1and, z1or, z0not, z0and, itn, if_true, if_false, reduceIte, Int.reduceEq, Int.reduceLT, Int.reduceNeg, Nat.reduceEqDiff, ite_self, hg]
    refine c111_F h ⟨hm, by omega⟩ 10 0 _ _ _ _ _ (by omega) (by omega) (by omega) (by omega) fun v20 v21 v22 v23 => ?_
    refine c111_V h hk (by omega) (by omega) ?_
    exact q _ _ _ _ _ _ _ _ _ _ _ (by omega) (by omega)
end ZPH1
