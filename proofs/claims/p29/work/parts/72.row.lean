/-! ===== the law: the row of an image ===== -/
def mR3 (n : Int) (μ : ZU) : ZU := fun k i j => if k = 0 then (if i = 0 ∧ j = 115 then n + 1 else μ k i j) else if k = 115 ∧ i = n then 0 else μ k i j
def rvl (D b k : Int) : Int := 1 + (if k = 0 then b else if k = 1 then b / 7 else b / 49) % D
def rwN (D b n : Int) : Nat → Int → ZU → ZU
  | 0, _, μ => μ
  | m + 1, k, μ => rwN D b n m (k + 1) (mu μ 115 n k (rvl D b k))
def rTh (g D b k : Int) : Bool := decide (rvl D b k ≤ g)
def rSl (μ : ZU) (g D b k : Int) : Bool := decide (g < rvl D b k ∨ μ 102 0 (rvl D b k - 1) = 1)
section ZPC1
variable {h : ZH} {ck sk : Nat} {Q : ZO → ZH → Prop} {μ ν κ M Φ : ZU} {a b c d e f g i j l m n p r s t t' v w x y z D R S T : Int} {k : Nat} {u u1 u2 u3 u4 u5 u6 u7 u8 u9 u10 u11 : ZV}
theorem no115 (h : ¬ i < μ 0 0 115) : HM μ 115 i = none := if_neg (fun z => h z.2)
theorem kA_115 {t : FieldType} {m : Nat} (h : zkl zKA k = some (t, m, 115)) : k = 115 :=
  (show ∀ x ∈ zKA, x.2.2.2 = 115 → x.1 = 115 by decide) _ (zkl_mem h) rfl
theorem kO_115 {m : Nat} (h : zkl zKO k = some (m, 115)) : False :=
  (show ∀ x ∈ zKO, x.2.2 = 115 → False by decide) _ (zkl_mem h) rfl
theorem kB_115 {c m : Nat} (h : zkl zKB k = some (c, m, 115)) : False :=
  (show ∀ x ∈ zKB, x.2.2.2 = 115 → False by decide) _ (zkl_mem h) rfl
theorem mR3_0 (hj : ¬ (i = 0 ∧ j = 115)) : mR3 n μ 0 i j = μ 0 i j := by
  show (if (0 : Nat) = 0 then (if i = 0 ∧ j = 115 then n + 1 else μ 0 i j) else _) = _
  rw [if_pos rfl, if_neg hj]
theorem mR3_c : mR3 n μ 0 0 115 = n + 1 := rfl
theorem mR3_g (h0 : k ≠ 0) (h1 : k ≠ 115) : mR3 n μ k = μ k := by
  funext i j
  show (if k = 0 then _ else if k = 115 ∧ i = n then 0 else μ k i j) = _
  rw [if_neg h0, if_neg (fun q => h1 q.1)]
theorem mR3_115 : mR3 n μ 115 n j = 0 := by
  show (if (115 : Nat) = 0 then _ else if (115 : Nat) = 115 ∧ n = n then 0 else _) = _
  rw [if_neg (by decide), if_pos ⟨rfl, rfl⟩]
theorem HM_r3 (hn : μ 0 0 115 = n) (h0 : 0 ≤ n) : zset (HM μ) 115 n (.inr (.int, 3, fun _ => zI 0)) = HM (mR3 n μ) := by
  have hbd : ∀ c, c ≠ 115 → zbd (mR3 n μ) c = zbd μ c := fun c hc => by
    match c with
    | 0 => rfl
    | c + 1 => exact mR3_0 (fun z => by have := z.2; omega)
  funext k i
  refine zset_pt ?_ fun n15 => ?_
  · have e : HM (mR3 n μ) 115 n = some (.inr (.int, 3, fun j => zI (mR3 n μ 115 n j))) := if_pos ⟨h0, by show n < mR3 n μ 0 0 115; rw [mR3_c]; omega⟩
    rw [e]
    simp only [mR3_115]
  · refine HM_same (fun t m' c hc => ?_) (fun c m' hc => ?_) (fun c m' e hc hi => ?_) (fun hk _ => ?_) (fun hk => ?_) (fun hk => ?_) (fun hk j => ?_)
    · by_cases h1 : c = 115
      · subst h1
        have hi : i ≠ n := fun z => n15 ⟨kA_115 hc, z⟩
        show i < mR3 n μ 0 0 115 ↔ i < μ 0 0 115
        rw [mR3_c, hn]
        omega
      · rw [hbd c h1]
    · by_cases h1 : m' = 115
      · subst h1
        exact (kO_115 hc).elim
      · rw [hbd m' h1]
    · by_cases h1 : e = 115
      · subst h1
        exact (kB_115 hc).elim
      · exact mR3_0 (fun z => by have := z.2; omega)
    · exact mR3_0 (fun z => absurd z.2 (by decide))
    · exact mR3_0 (fun z => absurd z.1 (by decide))
    · exact ⟨mR3_0 (fun z => absurd z.1 (by decide)), by rw [mR3_0 (fun z => absurd z.2 (by decide))]⟩
    · show (if k = 0 then _ else if k = 115 ∧ i = n then 0 else μ k i j) = μ k i j
      rw [if_neg hk, if_neg (fun q => n15 q)]
theorem rvl_b (hD : 1 ≤ D) : 1 ≤ rvl D b x ∧ rvl D b x ≤ D := by
  unfold rvl
  have := Int.emod_nonneg (if x = 0 then b else if x = 1 then b / 7 else b / 49) (b := D) (by omega)
  have := Int.emod_lt_of_pos (if x = 0 then b else if x = 1 then b / 7 else b / 49) (b := D) (by omega)
  omega
theorem c108_A (hg : 1 ≤ ν 106 0 0 ∧ ν 106 0 0 ≤ 6) (hD : (a % 9 = 0 ∧ D = ν 106 0 0 + 1) ∨ (¬ a % 9 = 0 ∧ D = ν 106 0 0)) (ha : 0 ≤ a) (hb : 0 ≤ b) (hn : 0 ≤ n ∧ n < ν 0 0 115) (x0 : 0 ≤ x) (x1 : x < m) (m3 : m ≤ 3) : G 108 241 [zR 2 0, zR 101 0, zR 102 0, zR 103 0, zR 106 0, zI w, zI a, zI b, zI m, zR 115 n, zI s, zI z, zI x, u1, u2, u3, u4, u5] [] (HM ν) ck sk Q ↔ G 108 303 [zR 2 0, zR 101 0, zR 102 0, zR 103 0, zR 106 0, zI w, zI a, zI b, zI m, zR 115 n, zI s, zI z, zI x, u1, u2, u3, u4, u5] [] (HM (mu ν 115 n x (rvl D b x))) ck sk Q := by
  have hx : x = 0 ∨ x = 1 ∨ x = 2 := by omega
  have hR := rvl_b (D := D) (b := b) (x := x) (by omega)
  have b7 : 0 ≤ b / 7 := by omega
  have b49 : 0 ≤ b / 49 := by omega
  rw [g108_241]
  rcases hD with ⟨d1, d2⟩ | ⟨d1, d2⟩
  · subst d2
    rcases hx with rfl | rfl | rfl
    · have e : rvl (ν 106 0 0 + 1) b 0 = 1 + b % (ν 106 0 0 + 1) := rfl
      rw [e] at hR ⊢
      simp (disch := first | omega | (simp (disch := decide) only [zmu0, mu_g, List.length_nil, List.length_cons]; omega)) only [g108_243, g108_245, g108_248, g108_250, g108_252, g108_253, g108_255, g108_258, g108_260, g108_263, g108_265, g108_266, g108_269, g108_271, g108_273, g108_274, g108_277, g108_279, g108_281, g108_282, g108_284, g108_285, g108_286, g108_288, g108_290, g108_291, g108_294, g108_295, g108_298, g108_299, g108_300, g108_301, g108_302, rd106, wr106, rd115, wr115, Nat.sub_zero, Int.reduceSub, Int.reduceAdd, Int.add_zero, Int.zero_add, Int.cast_ofNat_Int, Bool.false_eq_true, decide_true, decide_false, zbndI, zbwI, zbzI, zb1I, zoA_at, gback_v, gback_n, zem, zisr, zro_at, zrl_at, mu_g, mu_at, mu_mu, mu_self, not_true, not_false_iff, zb0, zb1, zbnd, zbw, zbz, zne1, zone, mrgI, List.length_nil, List.length_cons, Nat.reduceAdd, Nat.reduceSub, Nat.reduceLeDiff, Nat.zero_le, and_true, true_and, false_and, and_false, true_or, or_true, false_or, or_false, G_ite, z10, z1n, z1and, z1or, z0not, z0and, itn, if_true, if_false, reduceIte, Int.reduceEq, Int.reduceLT, Int.reduceNeg, Nat.reduceEqDiff, ite_self, x1, d1]
    · have e : rvl (ν 106 0 0 + 1) b 1 = 1 + b / 7 % (ν 106 0 0 + 1) := rfl
      rw [e] at hR ⊢
      simp (disch := first | omega | (simp (disch := decide) only [zmu0, mu_g, List.length_nil, List.length_cons]; omega)) only [g108_243, g108_245, g108_248, g108_250, g108_252, g108_253, g108_255, g108_258, g108_260, g108_263, g108_265, g108_266, g108_269, g108_271, g108_273, g108_274, g108_277, g108_279, g108_281, g108_282, g108_284, g108_285, g108_286, g108_288, g108_290, g108_291, g108_294, g108_295, g108_298, g108_299, g108_300, g108_301, g108_302, rd106, wr106, rd115, wr115, Nat.sub_zero, Int.reduceSub, Int.reduceAdd, Int.add_zero, Int.zero_add, Int.cast_ofNat_Int, Bool.false_eq_true, decide_true, decide_false, zbndI, zbwI, zbzI, zb1I, zoA_at, gback_v, gback_n, zem, zisr, zro_at, zrl_at, mu_g, mu_at, mu_mu, mu_self, not_true, not_false_iff, zb0, zb1, zbnd, zbw, zbz, zne1, zone, mrgI, List.length_nil, List.length_cons, Nat.reduceAdd, Nat.reduceSub, Nat.reduceLeDiff, Nat.zero_le, and_true, true_and, false_and, and_false, true_or, or_true, false_or, or_false, G_ite, z10, z1n, z1and, z1or, z0not, z0and, itn, if_true, if_false, reduceIte, Int.reduceEq, Int.reduceLT, Int.reduceNeg, Nat.reduceEqDiff, ite_self, x1, d1]
    · have e : rvl (ν 106 0 0 + 1) b 2 = 1 + b / 49 % (ν 106 0 0 + 1) := rfl
      rw [e] at hR ⊢
      simp (disch := first | omega | (simp (disch := decide) only [zmu0, mu_g, List.length_nil, List.length_cons]; omega)) only [g108_243, g108_245, g108_248, g108_250, g108_252, g108_253, g108_255, g108_258, g108_260, g108_263, g108_265, g108_266, g108_269, g108_271, g108_273, g108_274, g108_277, g108_279, g108_281, g108_282, g108_284, g108_285, g108_286, g108_288, g108_290, g108_291, g108_294, g108_295, g108_298, g108_299, g108_300, g108_301, g108_302, rd106, wr106, rd115, wr115, Nat.sub_zero, Int.reduceSub, Int.reduceAdd, Int.add_zero, Int.zero_add, Int.cast_ofNat_Int, Bool.false_eq_true, decide_true, decide_false, zbndI, zbwI, zbzI, zb1I, zoA_at, gback_v, gback_n, zem, zisr, zro_at, zrl_at, mu_g, mu_at, mu_mu, mu_self, not_true, not_false_iff, zb0, zb1, zbnd, zbw, zbz, zne1, zone, mrgI, List.length_nil, List.length_cons, Nat.reduceAdd, Nat.reduceSub, Nat.reduceLeDiff, Nat.zero_le, and_true, true_and, false_and, and_false, true_or, or_true, false_or, or_false, G_ite, z10, z1n, z1and, z1or, z0not, z0and, itn, if_true, if_false, reduceIte, Int.reduceEq, Int.reduceLT, Int.reduceNeg, Nat.reduceEqDiff, ite_self, x1, d1]
  · subst d2
    rcases hx with rfl | rfl | rfl
    · have e : rvl (ν 106 0 0) b 0 = 1 + b % ν 106 0 0 := rfl
      rw [e] at hR ⊢
      simp (disch := first | omega | (simp (disch := decide) only [zmu0, mu_g, List.length_nil, List.length_cons]; omega)) only [g108_243, g108_245, g108_248, g108_250, g108_252, g108_253, g108_255, g108_258, g108_260, g108_263, g108_265, g108_266, g108_269, g108_271, g108_273, g108_274, g108_277, g108_279, g108_281, g108_282, g108_284, g108_285, g108_286, g108_288, g108_290, g108_291, g108_294, g108_295, g108_298, g108_299, g108_300, g108_301, g108_302, rd106, wr106, rd115, wr115, Nat.sub_zero, Int.reduceSub, Int.reduceAdd, Int.add_zero, Int.zero_add, Int.cast_ofNat_Int, Bool.false_eq_true, decide_true, decide_false, zbndI, zbwI, zbzI, zb1I, zoA_at, gback_v, gback_n, zem, zisr, zro_at, zrl_at, mu_g, mu_at, mu_mu, mu_self, not_true, not_false_iff, zb0, zb1, zbnd, zbw, zbz, zne1, zone, mrgI, List.length_nil, List.length_cons, Nat.reduceAdd, Nat.reduceSub, Nat.reduceLeDiff, Nat.zero_le, and_true, true_and, false_and, and_false, true_or, or_true, false_or, or_false, G_ite, z10, z1n, z1and, z1or, z0not, z0and, itn, if_true, if_false, reduceIte, Int.reduceEq, Int.reduceLT, Int.reduceNeg, Nat.reduceEqDiff, ite_self, x1, d1]
    · have e : rvl (ν 106 0 0) b 1 = 1 + b / 7 % ν 106 0 0 := rfl
      rw [e] at hR ⊢
      simp (disch := first | omega | (simp (disch := decide) only [zmu0, mu_g, List.length_nil, List.length_cons]; omega)) only [g108_243, g108_245, g108_248, g108_250, g108_252, g108_253, g108_255, g108_258, g108_260, g108_263, g108_265, g108_266, g108_269, g108_271, g108_273, g108_274, g108_277, g108_279, g108_281, g108_282, g108_284, g108_285, g108_286, g108_288, g108_290, g108_291, g108_294, g108_295, g108_298, g108_299, g108_300, g108_301, g108_302, rd106, wr106, rd115, wr115, Nat.sub_zero, Int.reduceSub, Int.reduceAdd, Int.add_zero, Int.zero_add, Int.cast_ofNat_Int, Bool.false_eq_true, decide_true, decide_false, zbndI, zbwI, zbzI, zb1I, zoA_at, gback_v, gback_n, zem, zisr, zro_at, zrl_at, mu_g, mu_at, mu_mu, mu_self, not_true, not_false_iff, zb0, zb1, zbnd, zbw, zbz, zne1, zone, mrgI, List.length_nil, List.length_cons, Nat.reduceAdd, Nat.reduceSub, Nat.reduceLeDiff, Nat.zero_le, and_true, true_and, false_and, and_false, true_or, or_true, false_or, or_false, G_ite, z10, z1n, z1and, z1or, z0not, z0and, itn, if_true, if_false, reduceIte, Int.reduceEq, Int.reduceLT, Int.reduceNeg, Nat.reduceEqDiff, ite_self, x1, d1]
    · have e : rvl (ν 106 0 0) b 2 = 1 + b / 49 % ν 106 0 0 := rfl
      rw [e] at hR ⊢
      simp (disch := first | omega | (simp (disch := decide) only [zmu0, mu_g, List.length_nil, List.length_cons]; omega)) only [g108_243, g108_245, g108_248, g108_250, g108_252, g108_253, g108_255, g108_258, g108_260, g108_263, g108_265, g108_266, g108_269, g108_271, g108_273, g108_274, g108_277, g108_279, g108_281, g108_282, g108_284, g108_285, g108_286, g108_288, g108_290, g108_291, g108_294, g108_295, g108_298, g108_299, g108_300, g108_301, g108_302, rd106, wr106, rd115, wr115, Nat.sub_zero, Int.reduceSub, Int.reduceAdd, Int.add_zero, Int.zero_add, Int.cast_ofNat_Int, Bool.false_eq_true, decide_true, decide_false, zbndI, zbwI, zbzI, zb1I, zoA_at, gback_v, gback_n, zem, zisr, zro_at, zrl_at, mu_g, mu_at, mu_mu, mu_self, not_true, not_false_iff, zb0, zb1, zbnd, zbw, zbz, zne1, zone, mrgI, List.length_nil, List.length_cons, Nat.reduceAdd, Nat.reduceSub, Nat.reduceLeDiff, Nat.zero_le, and_true, true_and, false_and, and_false, true_or, or_true, false_or, or_false, G_ite, z10, z1n, z1and, z1or, z0not, z0and, itn, if_true, if_false, reduceIte, Int.reduceEq, Int.reduceLT, Int.reduceNeg, Nat.reduceEqDiff, ite_self, x1, d1]
theorem c108_B (hg : 1 ≤ ν 106 0 0 ∧ ν 106 0 0 ≤ 6) (hR : 1 ≤ R ∧ R ≤ ν 106 0 0 + 1) (hv : ν 115 n x = R) (hn : 0 ≤ n ∧ n < ν 0 0 115) (x0 : 0 ≤ x) (x1 : x < 3) (hs : s = 0 ∨ s = 1) (hz : z = 0 ∨ z = 1) : G 108 303 [zR 2 0, zR 101 0, zR 102 0, zR 103 0, zR 106 0, zI w, zI a, zI b, zI m, zR 115 n, zI s, zI z, zI x, u1, u2, u3, u4, u5] [] (HM ν) ck sk Q ↔ G 108 241 [zR 2 0, zR 101 0, zR 102 0, zR 103 0, zR 106 0, zI w, zI a, zI b, zI m, zR 115 n, zI (if s = 1 ∧ R ≤ ν 106 0 0 then 1 else 0), zI (if z = 1 ∧ (ν 106 0 0 < R ∨ ν 102 0 (R - 1) = 1) then 1 else 0), zI (x + 1), u1, u2, u3, u4, u5] [] (HM ν) ck sk Q := by
  rw [g108_303]
  by_cases q : R ≤ ν 106 0 0
  · have q' : ¬ ν 106 0 0 < R := by omega
    by_cases q2 : ν 102 0 (R - 1) = 1
    · rcases hs with rfl | rfl <;> rcases hz with rfl | rfl <;> simp (disch := first | omega | (simp (disch := decide) only [zmu0, mu_g, List.length_nil, List.length_cons]; omega)) only [g108_305, g108_308, g108_310, g108_312, g108_313, g108_315, g108_316, g108_317, g108_320, g108_321, g108_324, g108_325, g108_327, g108_329, g108_332, g108_334, g108_336, g108_337, g108_339, g108_340, g108_341, g108_344, g108_345, g108_347, g108_349, g108_350, g108_351, g108_352, g108_353, g108_354, g108_357, g108_358, g108_361, g108_362, g108_364, g108_367, rd102, wr102, rd106, wr106, rd115, wr115, Nat.sub_zero, Int.reduceSub, Int.reduceAdd, Int.add_zero, Int.zero_add, Int.cast_ofNat_Int, Bool.false_eq_true, decide_true, decide_false, zbndI, zbwI, zbzI, zb1I, zoA_at, gback_v, gback_n, zem, zisr, zro_at, zrl_at, mu_g, mu_at, mu_mu, mu_self, not_true, not_false_iff, zb0, zb1, zbnd, zbw, zbz, zne1, zone, mrgI, List.length_nil, List.length_cons, Nat.reduceAdd, Nat.reduceSub, Nat.reduceLeDiff, Nat.zero_le, and_true, true_and, false_and, and_false, true_or, or_true, false_or, or_false, G_ite, z10, z1n, z1and, z1or, z0not, z0and, itn, if_true, if_false, reduceIte, Int.reduceEq, Int.reduceLT, Int.reduceNeg, Nat.reduceEqDiff, ite_self, hv, q, q', q2, eq_self]
    · rcases hs with rfl | rfl <;> rcases hz with rfl | rfl <;> simp (disch := first | omega | (simp (disch := decide) only [zmu0, mu_g, List.length_nil, List.length_cons]; omega)) only [g108_305, g108_308, g108_310, g108_312, g108_313, g108_315, g108_316, g108_317, g108_320, g108_321, g108_324, g108_325, g108_327, g108_329, g108_332, g108_334, g108_336, g108_337, g108_339, g108_340, g108_341, g108_344, g108_345, g108_347, g108_349, g108_350, g108_351, g108_352, g108_353, g108_354, g108_357, g108_358, g108_361, g108_362, g108_364, g108_367, rd102, wr102, rd106, wr106, rd115, wr115, Nat.sub_zero, Int.reduceSub, Int.reduceAdd, Int.add_zero, Int.zero_add, Int.cast_ofNat_Int, Bool.false_eq_true, decide_true, decide_false, zbndI, zbwI, zbzI, zb1I, zoA_at, gback_v, gback_n, zem, zisr, zro_at, zrl_at, mu_g, mu_at, mu_mu, mu_self, not_true, not_false_iff, zb0, zb1, zbnd, zbw, zbz, zne1, zone, mrgI, List.length_nil, List.length_cons, Nat.reduceAdd, Nat.reduceSub, Nat.reduceLeDiff, Nat.zero_le, and_true, true_and, false_and, and_false, true_or, or_true, false_or, or_false, G_ite, z10, z1n, z1and, z1or, z0not, z0and, itn, if_true, if_false, reduceIte, Int.reduceEq, Int.reduceLT, Int.reduceNeg, Nat.reduceEqDiff, ite_self, hv, q, q', q2, eq_self]
  · have q' : ν 106 0 0 < R := by omega
    rcases hs with rfl | rfl <;> rcases hz with rfl | rfl <;> simp (disch := first | omega | (simp (disch := decide) only [zmu0, mu_g, List.length_nil, List.length_cons]; omega)) only [g108_305, g108_308, g108_310, g108_312, g108_313, g108_315, g108_316, g108_317, g108_320, g108_321, g108_324, g108_325, g108_327, g108_329, g108_332, g108_334, g108_336, g108_337, g108_339, g108_340, g108_341, g108_344, g108_345, g108_347, g108_349, g108_350, g108_351, g108_352, g108_353, g108_354, g108_357, g108_358, g108_361, g108_362, g108_364, g108_367, rd102, wr102, rd106, wr106, rd115, wr115, Nat.sub_zero, Int.reduceSub, Int.reduceAdd, Int.add_zero, Int.zero_add, Int.cast_ofNat_Int, Bool.false_eq_true, decide_true, decide_false, zbndI, zbwI, zbzI, zb1I, zoA_at, gback_v, gback_n, zem, zisr, zro_at, zrl_at, mu_g, mu_at, mu_mu, mu_self, not_true, not_false_iff, zb0, zb1, zbnd, zbw, zbz, zne1, zone, mrgI, List.length_nil, List.length_cons, Nat.reduceAdd, Nat.reduceSub, Nat.reduceLeDiff, Nat.zero_le, and_true, true_and, false_and, and_false, true_or, or_true, false_or, or_false, G_ite, z10, z1n, z1and, z1or, z0not, z0and, itn, if_true, if_false, reduceIte, Int.reduceEq, Int.reduceLT, Int.reduceNeg, Nat.reduceEqDiff, ite_self, hv, q, q', eq_self]
theorem rwN_g {q : Nat} (h : q ≠ 115) : ∀ (c : Nat) (x : Int) (μ : ZU), rwN D b n c x μ q = μ q
  | 0, _, _ => rfl
  | c + 1, x, μ => by
    unfold rwN
    rw [rwN_g h c, mu_g h]
theorem rwN_at : ∀ (c : Nat) (x : Int) (μ : ZU) (j : Int), rwN D b n c x μ 115 n j = if x ≤ j ∧ j < x + c then rvl D b j else μ 115 n j
  | 0, x, μ, j => by
    rw [if_neg (by omega)]
    rfl
  | c + 1, x, μ, j => by
    unfold rwN
    rw [rwN_at c (x + 1) _ j]
    by_cases q : j = x
    · rw [if_neg (by omega), if_pos (by omega), q, mu_at]
    · by_cases q2 : x ≤ j ∧ j < x + (c + 1 : Nat)
      · rw [if_pos (by omega), if_pos q2]
      · rw [if_neg (by omega), if_neg q2, mu_j q]
theorem c108_L (hg : 1 ≤ κ 106 0 0 ∧ κ 106 0 0 ≤ 6) (hD : (a % 9 = 0 ∧ D = κ 106 0 0 + 1) ∨ (¬ a % 9 = 0 ∧ D = κ 106 0 0)) (ha : 0 ≤ a) (hb : 0 ≤ b) (hn : 0 ≤ n ∧ n < κ 0 0 115) (m3 : m ≤ 3) : ∀ (c : Nat) (x s z : Int) (ν : ZU), ν 106 = κ 106 → ν 102 = κ 102 → ν 0 = κ 0 → 0 ≤ x → x + c = m → (s = 0 ∨ s = 1) → (z = 0 ∨ z = 1) → (G 108 241 [zR 2 0, zR 101 0, zR 102 0, zR 103 0, zR 106 0, zI w, zI a, zI b, zI m, zR 115 n, zI s, zI z, zI x, u1, u2, u3, u4, u5] [] (HM ν) ck sk Q ↔ G 108 370 [zR 2 0, zR 101 0, zR 102 0, zR 103 0, zR 106 0, zI w, zI a, zI b, zI m, zR 115 n, zI (if s = 1 ∧ zall (rTh (κ 106 0 0) D b) c x = true then 1 else 0), zI (if z = 1 ∧ zall (rSl κ (κ 106 0 0) D b) c x = true then 1 else 0), zI m, u1, u2, u3, u4, u5] [] (HM (rwN D b n c x ν)) ck sk Q)
  | 0, x, s, z, ν, e6, e2, e0, x0, xm, hs, hz => by
    have q : ¬ x < m := by omega
    have q' : x = m := by omega
    have es : (if s = 1 ∧ zall (rTh (κ 106 0 0) D b) 0 x = true then (1 : Int) else 0) = s := by
      rcases hs with rfl | rfl
      · rw [if_neg (fun z => by omega)]
      · rw [if_pos ⟨rfl, rfl⟩]
    have ez : (if z = 1 ∧ zall (rSl κ (κ 106 0 0) D b) 0 x = true then (1 : Int) else 0) = z := by
      rcases hz with rfl | rfl
      · rw [if_neg (fun z => by omega)]
      · rw [if_pos ⟨rfl, rfl⟩]
    rw [es, ez, g108_241]
    simp (disch := first | omega | (simp (disch := decide) only [zmu0, mu_g, List.length_nil, List.length_cons]; omega)) only [g108_243, g108_245, Nat.sub_zero, Int.reduceSub, Int.reduceAdd, Int.add_zero, Int.zero_add, Int.cast_ofNat_Int, Bool.false_eq_true, decide_true, decide_false, zbndI, zbwI, zbzI, zb1I, zoA_at, gback_v, gback_n, zem, zisr, zro_at, zrl_at, mu_g, mu_at, mu_mu, mu_self, not_true, not_false_iff, zb0, zb1, zbnd, zbw, zbz, zne1, zone, mrgI, List.length_nil, List.length_cons, Nat.reduceAdd, Nat.reduceSub, Nat.reduceLeDiff, Nat.zero_le, and_true, true_and, false_and, and_false, true_or, or_true, false_or, or_false, G_ite, z10, z1n, z1and, z1or, z0not, z0and, itn, if_true, if_false, reduceIte, Int.reduceEq, Int.reduceLT, Int.reduceNeg, Nat.reduceEqDiff, ite_self, q]
    rw [q']
    rfl
  | c + 1, x, s, z, ν, e6, e2, e0, x0, xm, hs, hz => by
    have hR := rvl_b (D := D) (b := b) (x := x) (by omega)
    have eA := c108_A (ν := ν) (n := n) (D := D) (x := x) (m := m) (s := s) (z := z) (w := w) (u1 := u1) (u2 := u2) (u3 := u3) (u4 := u4) (u5 := u5) (ck := ck) (sk := sk) (Q := Q) (by rw [e6]; exact hg) (by rw [e6]; exact hD) ha hb (by rw [e0]; exact hn) x0 (by omega) m3
    have e6' : mu ν 115 n x (rvl D b x) 106 = κ 106 := by rw [mu_g (by decide)]; exact e6
    have e2' : mu ν 115 n x (rvl D b x) 102 = κ 102 := by rw [mu_g (by decide)]; exact e2
    have e0' : mu ν 115 n x (rvl D b x) 0 = κ 0 := by rw [mu_g (by decide)]; exact e0
    have eB := c108_B (ν := mu ν 115 n x (rvl D b x)) (a := a) (b := b) (n := n) (R := rvl D b x) (x := x) (m := m) (s := s) (z := z) (w := w) (u1 := u1) (u2 := u2) (u3 := u3) (u4 := u4) (u5 := u5) (ck := ck) (sk := sk) (Q := Q) (by rw [e6']; exact hg) (by rw [e6']; omega) (mu_at _ _ _ _) (by rw [e0']; exact hn) x0 (by omega) hs hz
    rw [e6', e2'] at eB
    have ih := c108_L hg hD ha hb hn m3 c (x + 1) (if s = 1 ∧ rvl D b x ≤ κ 106 0 0 then 1 else 0) (if z = 1 ∧ (κ 106 0 0 < rvl D b x ∨ κ 102 0 (rvl D b x - 1) = 1) then 1 else 0) (mu ν 115 n x (rvl D b x)) e6' e2' e0' (by omega) (by omega) (by split <;> omega) (by split <;> omega)
    rw [eA, eB, ih]
    have s1 : (if (if s = 1 ∧ rvl D b x ≤ κ 106 0 0 then (1 : Int) else 0) = 1 ∧ zall (rTh (κ 106 0 0) D b) c (x + 1) = true then (1 : Int) else 0) = if s = 1 ∧ zall (rTh (κ 106 0 0) D b) (c + 1) x = true then 1 else 0 := by
      have e : zall (rTh (κ 106 0 0) D b) (c + 1) x = if rTh (κ 106 0 0) D b x = true then zall (rTh (κ 106 0 0) D b) c (x + 1) else false := rfl
      rw [e]
      by_cases q : rvl D b x ≤ κ 106 0 0
      · have q' : rTh (κ 106 0 0) D b x = true := decide_eq_true q
        simp [q, q']
      · have q' : rTh (κ 106 0 0) D b x = false := decide_eq_false q
        simp [q, q']
    have s2 : (if (if z = 1 ∧ (κ 106 0 0 < rvl D b x ∨ κ 102 0 (rvl D b x - 1) = 1) then (1 : Int) else 0) = 1 ∧ zall (rSl κ (κ 106 0 0) D b) c (x + 1) = true then (1 : Int) else 0) = if z = 1 ∧ zall (rSl κ (κ 106 0 0) D b) (c + 1) x = true then 1 else 0 := by
      have e : zall (rSl κ (κ 106 0 0) D b) (c + 1) x = if rSl κ (κ 106 0 0) D b x = true then zall (rSl κ (κ 106 0 0) D b) c (x + 1) else false := rfl
      rw [e]
      by_cases q : κ 106 0 0 < rvl D b x ∨ κ 102 0 (rvl D b x - 1) = 1
      · have q' : rSl κ (κ 106 0 0) D b x = true := decide_eq_true q
        simp [q, q']
      · have q' : rSl κ (κ 106 0 0) D b x = false := decide_eq_false q
        simp [q, q']
    rw [s1, s2]
    rfl
end ZPC1
