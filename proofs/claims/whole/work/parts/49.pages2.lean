/-! ===== setting: all pages, their numbers ===== -/
/-- pages numbered up to the line k; en the line behind the page -/
def NP (β : ZU) (c d i : Int) (F : ZU) (rd en k : Int) (κ ν : ZU) : Prop :=
  PR β c d i κ ν ∧ (0 ≤ k ∧ k ≤ κ 50 c 1) ∧ npN c (κ 50 c 1 - k).toNat k en κ = F ∧ (κ 50 c 4 = ν 100 0 48 ∧ ν 100 0 49 = rd) ∧ (0 ≤ κ 50 c 2 ∧ κ 50 c 2 ≤ k) ∧ (∀ l, 0 ≤ l → l < k → κ 56 c l = ν 151 0 (240 + l)) ∧ ∀ l, 0 ≤ l → l < κ 50 c 1 → κ 65 0 l = ν 155 0 l ∧ l < κ 65 0 l ∧ κ 65 0 l ≤ κ 50 c 1
/-- what both sides have after the pages are broken -/
def PS (β : ZU) (c d i : Int) (κ ν : ZU) : Prop := PR β c d i κ ν ∧ κ 50 c 2 = ν 100 0 46 ∧ κ 50 c 4 = ν 100 0 48 ∧ ∀ l, 0 ≤ l → l < κ 50 c 1 → κ 56 c l = ν 151 0 (240 + l)
section ZCF
variable {ck sk : Nat} {Q : ZO → ZH → Prop} {a b c d e f g h i j k l m p r r' s t v w x z fr en H L RF rd : Int} {y : Int64} {u u' u'' u1 u2 u3 u4 u5 u6 u7 u8 : ZV} {μ ν κ β F : ZU}
theorem rfr_of {ν' : ZU} (h : rfr β ν) (h1 : ∀ k, k ≠ 100 → (k < 151 ∨ 155 < k) → ν' k = ν k) (h2 : ∀ a j, ¬ (a = 0 ∧ 45 ≤ j ∧ j ≤ 49) → ν' 100 a j = ν 100 a j) : rfr β ν' :=
  ⟨fun k a b => (h1 k a b).trans (h.1 k a b), fun a j q => (h2 a j q).trans (h.2 a j q)⟩
theorem rfr_mu {k : Nat} (h : rfr β ν) (hk : 151 ≤ k ∧ k ≤ 155) : rfr β (mu ν k a b v) :=
  rfr_of h (fun k' h1 h2 => mu_g (by omega)) (fun a j q => by rw [mu_g (by omega)])
theorem rfr_ms (h : rfr β ν) (hk : 45 ≤ b ∧ b ≤ 49) : rfr β (mu ν 100 0 b v) :=
  rfr_of h (fun k' h1 h2 => mu_g h1) (fun a j q => by
    by_cases ha : a = 0
    · rw [mu_j (by omega)]
    · rw [mu_i ha])
theorem PB_s (hst : sta β d i) (hs : 0 ≤ s ∧ s ≤ 15) {n : Nat} (h : PB β c d i s F rd (n + 1) κ ν) : PB β c d i s F rd n (bp1 c (β 115 0 d) n κ) (mu (mu ν 154 0 n (cpb (ν 100 0 45) (ν 115 0 d) (ν 153 0) (bdp (ν 100 0 45) (ν 151 0)) (ν 154 0) n).1) 155 0 n (cpb (ν 100 0 45) (ν 115 0 d) (ν 153 0) (bdp (ν 100 0 45) (ν 151 0)) (ν 154 0) n).2) := by
  obtain ⟨⟨a1, a2, a3, ⟨a4, a4'⟩, a5, a6, a6'⟩, a7, a8, a9, a10, a11, a12, a13, a14⟩ := h
  obtain ⟨s1, s2, s3, s4, ⟨s5, s6, s7, s8, s9⟩, ⟨s10, s11⟩, sW, sP, sS, sF⟩ := hst
  have e1 : ((n + 1 : Nat) : Int) - 1 = n := by omega
  rw [e1] at a9
  have e115 : ν 115 = β 115 := a2.1 _ (by decide) (by omega)
  have hcp : cpb (ν 100 0 45) (ν 115 0 d) (ν 153 0) (bdp (ν 100 0 45) (ν 151 0)) (ν 154 0) n = cpb (κ 50 c 1) (β 115 0 d) (κ 62 0) (κ 63 0) (κ 64 0) n := by
    rw [← a4, e115]
    refine (cpb_congr (by omega) (fun e h1 h2 => (a10 e (by omega) h2).1) (fun e h1 h2 => ?_) (fun e h1 h2 => a11 e (by omega) (by omega))).symm
    rw [(a10 e (by omega) h2).2, if_neg (by omega)]
    exact bdp_congr (fun j j0 j1 => (a5 j j0 j1).1) (by omega) h2
  have hcb := cpb_b (b := (n : Int)) s11.2 a6' (by omega) (by omega) a9
  rw [hcp]
  have hI := bp1_I (c := c) (H := β 115 0 d) (l := (n : Int)) s11.2 a6' (by omega) (by omega) a9
  have g : ∀ k, k ≠ 64 → k ≠ 65 → bp1 c (β 115 0 d) n κ k = κ k := fun k h1 h2 => bp1_g h1 h2
  generalize hq : cpb (κ 50 c 1) (β 115 0 d) (κ 62 0) (κ 63 0) (κ 64 0) n = q at *
  have e64 : ∀ l, bp1 c (β 115 0 d) n κ 64 0 l = if l = n then q.1 else κ 64 0 l := fun l => by
    unfold bp1
    rw [mu_g (by decide), hq]
    by_cases hl : l = n
    · rw [hl, mu_at, if_pos rfl]
    · rw [mu_j hl, if_neg hl]
  have e65 : ∀ l, bp1 c (β 115 0 d) n κ 65 0 l = if l = n then q.2 else κ 65 0 l := fun l => by
    unfold bp1
    rw [hq]
    by_cases hl : l = n
    · rw [hl, mu_at, if_pos rfl]
    · rw [mu_j hl, mu_g (by decide), if_neg hl]
  have r154 : ∀ l, mu (mu ν 154 0 n q.1) 155 0 n q.2 154 0 l = if l = n then q.1 else ν 154 0 l := fun l => by
    rw [mu_g (by decide)]
    by_cases hl : l = n
    · rw [hl, mu_at, if_pos rfl]
    · rw [mu_j hl, if_neg hl]
  have r155 : ∀ l, mu (mu ν 154 0 n q.1) 155 0 n q.2 155 0 l = if l = n then q.2 else ν 155 0 l := fun l => by
    by_cases hl : l = n
    · rw [hl, mu_at, if_pos rfl]
    · rw [mu_j hl, mu_g (by decide), if_neg hl]
  have rg : ∀ k, k ≠ 154 → k ≠ 155 → mu (mu ν 154 0 n q.1) 155 0 n q.2 k = ν k := fun k h1 h2 => by rw [mu_g h2, mu_g h1]
  unfold PB PR lnE lnT
  rw [g 50 (by decide) (by decide), g 52 (by decide) (by decide), g 53 (by decide) (by decide), g 54 (by decide) (by decide), g 55 (by decide) (by decide), g 62 (by decide) (by decide), g 63 (by decide) (by decide), rg 100 (by decide) (by decide), rg 151 (by decide) (by decide), rg 153 (by decide) (by decide)]
  refine ⟨⟨sfr_of a1 fun k hk => g k (by omega) (by omega), rfr_mu (rfr_mu a2 (by omega)) (by omega), SH_of a3 (g 51 (by decide) (by decide)) (g 61 (by decide) (by decide)) (rg 152 (by decide) (by decide)), ⟨a4, a4'⟩, a5, a6, a6'⟩, a7, by omega, ?_, a10, fun l l0 l1 => ?_, fun l l0 l1 => ?_, ?_, a14⟩
  · exact hI
  · rw [e64, r154]
    by_cases hl : l = n
    · rw [if_pos hl, if_pos hl]
    · rw [if_neg hl, if_neg hl]
      exact a11 l (by omega) l1
  · rw [e65, r155]
    by_cases hl : l = n
    · rw [if_pos hl, if_pos hl, hl]
      exact ⟨rfl, hcb.2⟩
    · rw [if_neg hl, if_neg hl]
      exact a12 l (by omega) l1
  · exact a13
theorem c129_o (hst : sta β d i) (hs : 0 ≤ s ∧ s ≤ 15) (hK : ∀ κ ν u1 u2 u3 u4 u5, PB β c d i s F rd 0 κ ν → G 129 194 [zR 100 0, zI d, zI (-1), u1, u2, u3, u4, u5] [] (HM ν) ck sk Q) : ∀ (n : Nat) (κ ν : ZU) (u1 u2 u3 u4 u5 : ZV), PB β c d i s F rd n κ ν → G 129 17 [zR 100 0, zI d, zI ((n : Int) - 1), u1, u2, u3, u4, u5] [] (HM ν) ck sk Q
  | 0, κ, ν, u1, u2, u3, u4, u5, h => by
    have h1 : ((0 : Nat) : Int) - 1 < 0 := by omega
    have hk := hK κ ν u1 u2 u3 u4 u5 h
    rw [g129_17]
    simp (disch := first | omega | (simp (disch := decide) only [zmu0, mu_g, List.length_nil, List.length_cons]; omega)) only [g129_0, g129_1, g129_4, g129_5, g129_8, g129_9, g129_10, g129_11, g129_14, g129_15, g129_16, g129_18, g129_21, g129_22, g129_23, g129_24, g129_27, g129_28, g129_29, g129_30, g129_31, g129_32, g129_33, g129_37, g129_38, g129_41, g129_44, g129_45, g129_46, g129_49, g129_51, g129_52, g129_53, g129_54, g129_55, g129_56, g129_57, g129_58, g129_61, g129_62, g129_63, g129_66, g129_68, g129_69, g129_70, g129_71, g129_74, g129_75, g129_78, g129_79, g129_81, g129_82, g129_83, g129_86, g129_87, g129_88, g129_91, g129_92, g129_95, g129_96, g129_97, g129_98, g129_99, g129_102, g129_103, g129_105, g129_107, g129_108, g129_111, g129_114, g129_115, g129_118, g129_120, g129_122, g129_123, g129_124, g129_126, g129_129, g129_130, g129_131, g129_134, g129_136, g129_137, g129_138, g129_140, g129_142, g129_145, g129_146, g129_149, g129_150, g129_151, g129_152, g129_155, g129_157, g129_158, g129_161, g129_162, g129_163, g129_166, g129_167, g129_170, g129_171, g129_173, g129_174, g129_175, g129_178, g129_179, g129_181, g129_182, g129_185, g129_191, g129_195, g129_196, g129_199, g129_200, g129_201, g129_204, g129_205, g129_206, g129_209, g129_210, g129_212, g129_213, g129_216, g129_219, g129_220, g129_222, g129_223, g129_226, g129_227, g129_228, g129_231, g129_232, g129_235, g129_238, g129_239, g129_240, g129_241, g129_244, g129_245, g129_248, g129_251, g129_252, g129_255, g129_256, g129_257, g129_258, g129_259, g129_259r, g129_260, g129_263, g129_264, g129_265, g129_268, g129_271, Int.reduceSub, Int.reduceAdd, Int.add_zero, Int.zero_add, Int.cast_ofNat_Int, Bool.false_eq_true, decide_true, decide_false, zbndI, zbwI, zbzI, zb1I, zoA_at, gback_v, gback_n, zem, zisr, zro_at, zrl_at, mu_g, mu_at, mu_mu, mu_self, not_true, not_false_iff, zb0, zb1, zbnd, zbw, zbz, zne1, zone, mrgI, List.length_nil, List.length_cons, Nat.reduceAdd, Nat.reduceSub, Nat.reduceLeDiff, Nat.zero_le, and_true, true_and, false_and, and_false, true_or, or_true, false_or, or_false, G_ite, z10, z1n, z1and, z1or, z0not, z0and, itn, if_true, if_false, reduceIte, Int.reduceEq, Int.reduceLT, Int.reduceNeg, Nat.reduceEqDiff, ite_self, h1]
    exact hk
  | n + 1, κ, ν, u1, u2, u3, u4, u5, h => by
    have h' := PB_s hst hs h
    have hst' := hst
    obtain ⟨⟨a1, a2, a3, ⟨a4, a4'⟩, a5, a6, a6'⟩, a7, a8, a9, a10, a11, a12, a13, a14⟩ := h
    obtain ⟨s1, s2, s3, s4, ⟨s5, s6, s7, s8, s9⟩, ⟨s10, s11⟩, sW, sP, sS, sF⟩ := hst
    have e1 : ((n + 1 : Nat) : Int) - 1 = n := by omega
    rw [e1] at a9 ⊢
    have e115 : ν 115 = β 115 := a2.1 _ (by decide) (by omega)
    refine c129_b (R := fun q => ∃ κ', PB β c d i s F rd n κ' (mu (mu ν 154 0 n q.1) 155 0 n q.2)) (by omega) s1 (by omega) (by omega) (by rw [e115]; exact s11) (fun e h0 h1 => ?_) (fun e h0 h1 => ?_) (fun q f e v1 v2 v3 hq => ?_) ⟨_, h'⟩
    · rw [← (a10 e h0 (by omega)).1]; exact a9.1 e h0 (by omega)
    · rw [← a11 e (by omega) (by omega), ← a4]; exact a9.2.2 e h0 (by omega)
    · obtain ⟨κ', hq⟩ := hq
      have ih := c129_o hst' hs hK n κ' _ (zI f) (zI e) v1 v2 v3 hq
      have e3 : (n : Int) + (-1) = n - 1 := by omega
      rw [g129_188 (by omega) (by omega), e3]
      simp (disch := first | omega | (simp (disch := decide) only [zmu0, mu_g, List.length_nil, List.length_cons]; omega)) only [g129_0, g129_1, g129_4, g129_5, g129_8, g129_9, g129_10, g129_11, g129_14, g129_15, g129_16, g129_18, g129_21, g129_22, g129_23, g129_24, g129_27, g129_28, g129_29, g129_30, g129_31, g129_32, g129_33, g129_37, g129_38, g129_41, g129_44, g129_45, g129_46, g129_49, g129_51, g129_52, g129_53, g129_54, g129_55, g129_56, g129_57, g129_58, g129_61, g129_62, g129_63, g129_66, g129_68, g129_69, g129_70, g129_71, g129_74, g129_75, g129_78, g129_79, g129_81, g129_82, g129_83, g129_86, g129_87, g129_88, g129_91, g129_92, g129_95, g129_96, g129_97, g129_98, g129_99, g129_102, g129_103, g129_105, g129_107, g129_108, g129_111, g129_114, g129_115, g129_118, g129_120, g129_122, g129_123, g129_124, g129_126, g129_129, g129_130, g129_131, g129_134, g129_136, g129_137, g129_138, g129_140, g129_142, g129_145, g129_146, g129_149, g129_150, g129_151, g129_152, g129_155, g129_157, g129_158, g129_161, g129_162, g129_163, g129_166, g129_167, g129_170, g129_171, g129_173, g129_174, g129_175, g129_178, g129_179, g129_181, g129_182, g129_185, g129_191, g129_195, g129_196, g129_199, g129_200, g129_201, g129_204, g129_205, g129_206, g129_209, g129_210, g129_212, g129_213, g129_216, g129_219, g129_220, g129_222, g129_223, g129_226, g129_227, g129_228, g129_231, g129_232, g129_235, g129_238, g129_239, g129_240, g129_241, g129_244, g129_245, g129_248, g129_251, g129_252, g129_255, g129_256, g129_257, g129_258, g129_259, g129_259r, g129_260, g129_263, g129_264, g129_265, g129_268, g129_271, Int.reduceSub, Int.reduceAdd, Int.add_zero, Int.zero_add, Int.cast_ofNat_Int, Bool.false_eq_true, decide_true, decide_false, zbndI, zbwI, zbzI, zb1I, zoA_at, gback_v, gback_n, zem, zisr, zro_at, zrl_at, mu_g, mu_at, mu_mu, mu_self, not_true, not_false_iff, zb0, zb1, zbnd, zbw, zbz, zne1, zone, mrgI, List.length_nil, List.length_cons, Nat.reduceAdd, Nat.reduceSub, Nat.reduceLeDiff, Nat.zero_le, and_true, true_and, false_and, and_false, true_or, or_true, false_or, or_false, G_ite, z10, z1n, z1and, z1or, z0not, z0and, itn, if_true, if_false, reduceIte, Int.reduceEq, Int.reduceLT, Int.reduceNeg, Nat.reduceEqDiff, ite_self]
      exact ih
theorem npN_e : npN c (z - k).toNat k en κ = npN c (z - k).toNat k en κ := rfl
theorem npN_1 (h0 : 0 ≤ k) (h1 : k < z) (he : ¬ k = en) : npN c (z - k).toNat k en κ = npN c (z - (k + 1)).toNat (k + 1) en (mu κ 56 c k (κ 50 c 2 - 1)) := by
  have e : (z - k).toNat = (z - (k + 1)).toNat + 1 := by omega
  rw [e]
  show (if k = en then _ else _) = _
  rw [if_neg he]
theorem npN_2 (h0 : 0 ≤ k) (h1 : k < z) : npN c (z - k).toNat k k κ = npN c (z - (k + 1)).toNat (k + 1) (κ 65 0 k) (mu (mu κ 50 c 2 (κ 50 c 2 + 1)) 56 c k (κ 50 c 2 + 1 - 1)) := by
  have e : (z - k).toNat = (z - (k + 1)).toNat + 1 := by omega
  rw [e]
  show (if k = k then _ else _) = _
  rw [if_pos rfl]
theorem PR_56 (h : PR β c d i κ ν) (hx : 240 ≤ x) {v v' : Int} : PR β c d i (mu κ 56 c k v) (mu ν 151 0 x v') := by
  obtain ⟨a1, a2, a3, ⟨a4, a4'⟩, a5, a6, a6'⟩ := h
  refine ⟨sfr_of a1 fun k hk => mu_g (by omega), rfr_mu a2 (by omega), SH_of a3 (mu_g (by decide)) (mu_g (by decide)) (mu_g (by decide)), ?_, ?_, ?_⟩
  · rw [mu_g (by decide), mu_g (by decide)]; exact ⟨a4, a4'⟩
  · intro l l0 l1
    rw [mu_g (by decide)] at l1
    simp (disch := first | decide | omega) only [mu_g, mu_j]
    exact a5 l l0 l1
  · rw [mu_g (by decide)]; exact ⟨a6, a6'⟩
/-- a line numbered within a page -/
theorem NP_1 (h : NP β c d i F rd en k κ ν) (hp : κ 50 c 2 - 1 = ν 100 0 46) (h1 : k < κ 50 c 1) (he : ¬ k = en) : NP β c d i F rd en (k + 1) (mu κ 56 c k (κ 50 c 2 - 1)) (mu ν 151 0 (240 + k) (ν 100 0 46)) := by
  obtain ⟨a1, ⟨a2, a2'⟩, a3, ⟨a4, a4'⟩, ⟨a5, a5'⟩, a6, a7⟩ := h
  unfold NP
  rw [npN_1 a2 h1 he] at a3
  have e50 : mu κ 56 c k (κ 50 c 2 - 1) 50 = κ 50 := mu_g (by decide)
  have e65 : mu κ 56 c k (κ 50 c 2 - 1) 65 = κ 65 := mu_g (by decide)
  have e100 : mu ν 151 0 (240 + k) (ν 100 0 46) 100 = ν 100 := mu_g (by decide)
  have e155 : mu ν 151 0 (240 + k) (ν 100 0 46) 155 = ν 155 := mu_g (by decide)
  rw [e50, e65, e100, e155]
  refine ⟨PR_56 a1 (by omega), ⟨by omega, by omega⟩, a3, ⟨a4, a4'⟩, ⟨a5, by omega⟩, fun l l0 l1 => ?_, a7⟩
  by_cases hl : l = k
  · rw [hl, mu_at, mu_at]; exact hp
  · rw [mu_j hl, mu_j (by omega)]; exact a6 l l0 (by omega)
/-- a line that begins a page -/
theorem NP_2 (h : NP β c d i F rd k k κ ν) (hp : κ 50 c 2 = ν 100 0 46) (h1 : k < κ 50 c 1) : NP β c d i F rd (κ 65 0 k) (k + 1) (mu (mu κ 50 c 2 (κ 50 c 2 + 1)) 56 c k (κ 50 c 2 + 1 - 1)) (mu ν 151 0 (240 + k) (ν 100 0 46)) ∧ mu (mu κ 50 c 2 (κ 50 c 2 + 1)) 56 c k (κ 50 c 2 + 1 - 1) 50 c 2 - 1 = ν 100 0 46 := by
  obtain ⟨a1, ⟨a2, a2'⟩, a3, ⟨a4, a4'⟩, ⟨a5, a5'⟩, a6, a7⟩ := h
  unfold NP
  rw [npN_2 a2 h1] at a3
  have e501 : mu (mu κ 50 c 2 (κ 50 c 2 + 1)) 56 c k (κ 50 c 2 + 1 - 1) 50 c 1 = κ 50 c 1 := by rw [mu_g (by decide), mu_j (by decide)]
  have e502 : mu (mu κ 50 c 2 (κ 50 c 2 + 1)) 56 c k (κ 50 c 2 + 1 - 1) 50 c 2 = κ 50 c 2 + 1 := by rw [mu_g (by decide), mu_at]
  have e503 : mu (mu κ 50 c 2 (κ 50 c 2 + 1)) 56 c k (κ 50 c 2 + 1 - 1) 50 c 4 = κ 50 c 4 := by rw [mu_g (by decide), mu_j (by decide)]
  have e65 : mu (mu κ 50 c 2 (κ 50 c 2 + 1)) 56 c k (κ 50 c 2 + 1 - 1) 65 = κ 65 := by rw [mu_g (by decide), mu_g (by decide)]
  have e100 : mu ν 151 0 (240 + k) (ν 100 0 46) 100 = ν 100 := mu_g (by decide)
  have e155 : mu ν 151 0 (240 + k) (ν 100 0 46) 155 = ν 155 := mu_g (by decide)
  have hPR : PR β c d i (mu κ 50 c 2 (κ 50 c 2 + 1)) ν := by
    obtain ⟨b1, b2, b3, ⟨b4, b4'⟩, b5, b6, b6'⟩ := a1
    refine ⟨sfr_of b1 fun k hk => mu_g (by omega), b2, SH_of b3 (mu_g (by decide)) (mu_g (by decide)) rfl, ?_, ?_, ?_⟩
    · rw [mu_j (by decide), mu_j (by decide)]; exact ⟨b4, b4'⟩
    · intro l l0 l1
      rw [mu_j (by decide)] at l1
      rw [mu_g (by decide), mu_g (by decide), mu_g (by decide), mu_g (by decide)]
      exact b5 l l0 l1
    · rw [mu_j (by decide)]; exact ⟨b6, b6'⟩
  rw [e501, e502, e503, e65, e100, e155]
  refine ⟨⟨PR_56 hPR (by omega), ⟨by omega, by omega⟩, a3, ⟨a4, a4'⟩, ⟨by omega, by omega⟩, fun l l0 l1 => ?_, a7⟩, by omega⟩
  by_cases hl : l = k
  · rw [hl, mu_at, mu_at]; omega
  · rw [mu_j hl, mu_g (by decide), mu_j (by omega)]; exact a6 l l0 (by omega)
/-- within a page -/
theorem c129_k (hK : ∀ κ ν v1 v2 v3 v4, NP β c d i F rd en en κ ν → κ 50 c 2 - 1 = ν 100 0 46 → ν 155 0 l = en → G 129 251 [zR 100 0, zI d, zI l, zI en, v1, v2, v3, v4] [] (HM ν) ck sk Q) (hl : 0 ≤ l ∧ l < 60) : ∀ (n : Nat) (k : Int) (κ ν : ZU) (v1 v2 v3 v4 : ZV), k + n = en → NP β c d i F rd en k κ ν → κ 50 c 2 - 1 = ν 100 0 46 → ν 155 0 l = en → en ≤ κ 50 c 1 → G 129 221 [zR 100 0, zI d, zI l, zI k, v1, v2, v3, v4] [] (HM ν) ck sk Q
  | 0, k, κ, ν, v1, v2, v3, v4, hn, h, hp, he, hle => by
    have e : k = en := by omega
    subst e
    have hk := hK κ ν v1 v2 v3 v4 h hp he
    rw [g129_221]
    simp (disch := first | omega | (simp (disch := decide) only [zmu0, mu_g, List.length_nil, List.length_cons]; omega)) only [g129_0, g129_1, g129_4, g129_5, g129_8, g129_9, g129_10, g129_11, g129_14, g129_15, g129_16, g129_18, g129_21, g129_22, g129_23, g129_24, g129_27, g129_28, g129_29, g129_30, g129_31, g129_32, g129_33, g129_37, g129_38, g129_41, g129_44, g129_45, g129_46, g129_49, g129_51, g129_52, g129_53, g129_54, g129_55, g129_56, g129_57, g129_58, g129_61, g129_62, g129_63, g129_66, g129_68, g129_69, g129_70, g129_71, g129_74, g129_75, g129_78, g129_79, g129_81, g129_82, g129_83, g129_86, g129_87, g129_88, g129_91, g129_92, g129_95, g129_96, g129_97, g129_98, g129_99, g129_102, g129_103, g129_105, g129_107, g129_108, g129_111, g129_114, g129_115, g129_118, g129_120, g129_122, g129_123, g129_124, g129_126, g129_129, g129_130, g129_131, g129_134, g129_136, g129_137, g129_138, g129_140, g129_142, g129_145, g129_146, g129_149, g129_150, g129_151, g129_152, g129_155, g129_157, g129_158, g129_161, g129_162, g129_163, g129_166, g129_167, g129_170, g129_171, g129_173, g129_174, g129_175, g129_178, g129_179, g129_181, g129_182, g129_185, g129_191, g129_195, g129_196, g129_199, g129_200, g129_201, g129_204, g129_205, g129_206, g129_209, g129_210, g129_212, g129_213, g129_216, g129_219, g129_220, g129_222, g129_223, g129_226, g129_227, g129_228, g129_231, g129_232, g129_235, g129_238, g129_239, g129_240, g129_241, g129_244, g129_245, g129_248, g129_252, g129_255, g129_256, g129_257, g129_258, g129_259, g129_259r, g129_260, g129_263, g129_264, g129_265, g129_268, g129_271, ob100, oc100, fl100_0, wo100_0, fl100_1, fl100_2, fl100_3, fl100_4, fl100_5, wo100_5, fl100_6, fl100_7, fl100_8, fl100_9, fl100_10, fl100_11, fl100_12, wo100_12, fl100_13, fl100_14, fl100_15, fl100_16, fl100_17, fl100_18, fl100_19, fl100_20, fl100_21, fl100_22, fl100_23, fl100_24, fl100_25, wo100_25, fl100_26, fl100_27, fl100_28, fl100_29, fl100_30, fl100_31, wo100_31, fl100_32, fl100_33, fl100_34, fl100_35, fl100_36, fl100_37, fl100_38, fl100_39, fl100_40, fl100_41, fl100_42, fl100_43, fl100_44, fl100_45, wo100_45, fl100_46, wo100_46, fl100_47, wo100_47, fl100_48, wo100_48, fl100_49, wo100_49, fl100_50, fl100_51, fl100_52, fl100_53, fl100_54, fl100_55, wo100_55, rd155, wr155, Int.reduceSub, Int.reduceAdd, Int.add_zero, Int.zero_add, Int.cast_ofNat_Int, Bool.false_eq_true, decide_true, decide_false, zbndI, zbwI, zbzI, zb1I, zoA_at, gback_v, gback_n, zem, zisr, zro_at, zrl_at, mu_g, mu_at, mu_mu, mu_self, not_true, not_false_iff, zb0, zb1, zbnd, zbw, zbz, zne1, zone, mrgI, List.length_nil, List.length_cons, Nat.reduceAdd, Nat.reduceSub, Nat.reduceLeDiff, Nat.zero_le, and_true, true_and, false_and, and_false, true_or, or_true, false_or, or_false, G_ite, z10, z1n, z1and, z1or, z0not, z0and, itn, if_true, if_false, reduceIte, Int.reduceEq, Int.reduceLT, Int.reduceNeg, Nat.reduceEqDiff, ite_self, he, Int.lt_irrefl, Int.le_refl]
    exact hk
  | n + 1, k, κ, ν, v1, v2, v3, v4, hn, h, hp, he, hle => by
    have h1 : k < en := by omega
    have h1' : ¬ en ≤ k := by omega
    have hb := h.2.1
    have hL := h.1.2.2.2.2.2
    have hN := NP_1 h hp (by omega) (by omega)
    have ih := c129_k hK hl n (k + 1) _ _ v1 v2 v3 v4 (by omega) hN (by rw [mu_g (by decide), mu_g (by decide)]; exact hp) (by rw [mu_g (by decide)]; exact he) (by rw [mu_g (by decide)]; exact hle)
    rw [g129_221]
    simp (disch := first | omega | (simp (disch := decide) only [zmu0, mu_g, List.length_nil, List.length_cons]; omega)) only [g129_0, g129_1, g129_4, g129_5, g129_8, g129_9, g129_10, g129_11, g129_14, g129_15, g129_16, g129_18, g129_21, g129_22, g129_23, g129_24, g129_27, g129_28, g129_29, g129_30, g129_31, g129_32, g129_33, g129_37, g129_38, g129_41, g129_44, g129_45, g129_46, g129_49, g129_51, g129_52, g129_53, g129_54, g129_55, g129_56, g129_57, g129_58, g129_61, g129_62, g129_63, g129_66, g129_68, g129_69, g129_70, g129_71, g129_74, g129_75, g129_78, g129_79, g129_81, g129_82, g129_83, g129_86, g129_87, g129_88, g129_91, g129_92, g129_95, g129_96, g129_97, g129_98, g129_99, g129_102, g129_103, g129_105, g129_107, g129_108, g129_111, g129_114, g129_115, g129_118, g129_120, g129_122, g129_123, g129_124, g129_126, g129_129, g129_130, g129_131, g129_134, g129_136, g129_137, g129_138, g129_140, g129_142, g129_145, g129_146, g129_149, g129_150, g129_151, g129_152, g129_155, g129_157, g129_158, g129_161, g129_162, g129_163, g129_166, g129_167, g129_170, g129_171, g129_173, g129_174, g129_175, g129_178, g129_179, g129_181, g129_182, g129_185, g129_191, g129_195, g129_196, g129_199, g129_200, g129_201, g129_204, g129_205, g129_206, g129_209, g129_210, g129_212, g129_213, g129_216, g129_219, g129_220, g129_222, g129_223, g129_226, g129_227, g129_228, g129_231, g129_232, g129_235, g129_238, g129_239, g129_240, g129_241, g129_244, g129_245, g129_248, g129_252, g129_255, g129_256, g129_257, g129_258, g129_259, g129_259r, g129_260, g129_263, g129_264, g129_265, g129_268, g129_271, ob100, oc100, fl100_0, wo100_0, fl100_1, fl100_2, fl100_3, fl100_4, fl100_5, wo100_5, fl100_6, fl100_7, fl100_8, fl100_9, fl100_10, fl100_11, fl100_12, wo100_12, fl100_13, fl100_14, fl100_15, fl100_16, fl100_17, fl100_18, fl100_19, fl100_20, fl100_21, fl100_22, fl100_23, fl100_24, fl100_25, wo100_25, fl100_26, fl100_27, fl100_28, fl100_29, fl100_30, fl100_31, wo100_31, fl100_32, fl100_33, fl100_34, fl100_35, fl100_36, fl100_37, fl100_38, fl100_39, fl100_40, fl100_41, fl100_42, fl100_43, fl100_44, fl100_45, wo100_45, fl100_46, wo100_46, fl100_47, wo100_47, fl100_48, wo100_48, fl100_49, wo100_49, fl100_50, fl100_51, fl100_52, fl100_53, fl100_54, fl100_55, wo100_55, rd151, wr151, rd155, wr155, Int.reduceSub, Int.reduceAdd, Int.add_zero, Int.zero_add, Int.cast_ofNat_Int, Bool.false_eq_true, decide_true, decide_false, zbndI, zbwI, zbzI, zb1I, zoA_at, gback_v, gback_n, zem, zisr, zro_at, zrl_at, mu_g, mu_at, mu_mu, mu_self, not_true, not_false_iff, zb0, zb1, zbnd, zbw, zbz, zne1, zone, mrgI, List.length_nil, List.length_cons, Nat.reduceAdd, Nat.reduceSub, Nat.reduceLeDiff, Nat.zero_le, and_true, true_and, false_and, and_false, true_or, or_true, false_or, or_false, G_ite, z10, z1n, z1and, z1or, z0not, z0and, itn, if_true, if_false, reduceIte, Int.reduceEq, Int.reduceLT, Int.reduceNeg, Nat.reduceEqDiff, ite_self, he, h1, h1']
    exact ih
/-- page by page -/
theorem c129_n (hK : ∀ ν', PS β c d i F ν' → ν' 100 0 49 = rd → Q (.inl none) (HM ν')) : ∀ (n : Nat) (k : Int) (κ ν : ZU) (v0 v1 v2 v3 v4 : ZV), κ 50 c 1 - k ≤ n → NP β c d i F rd k k κ ν → κ 50 c 2 = ν 100 0 46 → G 129 211 [zR 100 0, zI d, zI k, v0, v1, v2, v3, v4] [] (HM ν) ck sk Q := by
  intro n
  induction n with
  | zero =>
    intro k κ ν v0 v1 v2 v3 v4 hn h hp
    obtain ⟨a1, ⟨a2, a2'⟩, a3, ⟨a4, a4'⟩, ⟨a5, a5'⟩, a6, a7⟩ := h
    have e : k = κ 50 c 1 := by omega
    subst e
    have e0 : (κ 50 c 1 - κ 50 c 1).toNat = 0 := by omega
    rw [e0] at a3
    have e9 : κ = F := a3
    have hk := hK ν (e9 ▸ ⟨a1, hp, a4, a6⟩) a4'
    have hL := a1.2.2.2.1.1
    have h1 : ¬ κ 50 c 1 < ν 100 0 45 := by omega
    have h2 : ν 100 0 45 ≤ κ 50 c 1 := by omega
    rw [g129_211]
    simp (disch := first | omega | (simp (disch := decide) only [zmu0, mu_g, List.length_nil, List.length_cons]; omega)) only [g129_0, g129_1, g129_4, g129_5, g129_8, g129_9, g129_10, g129_11, g129_14, g129_15, g129_16, g129_18, g129_21, g129_22, g129_23, g129_24, g129_27, g129_28, g129_29, g129_30, g129_31, g129_32, g129_33, g129_37, g129_38, g129_41, g129_44, g129_45, g129_46, g129_49, g129_51, g129_52, g129_53, g129_54, g129_55, g129_56, g129_57, g129_58, g129_61, g129_62, g129_63, g129_66, g129_68, g129_69, g129_70, g129_71, g129_74, g129_75, g129_78, g129_79, g129_81, g129_82, g129_83, g129_86, g129_87, g129_88, g129_91, g129_92, g129_95, g129_96, g129_97, g129_98, g129_99, g129_102, g129_103, g129_105, g129_107, g129_108, g129_111, g129_114, g129_115, g129_118, g129_120, g129_122, g129_123, g129_124, g129_126, g129_129, g129_130, g129_131, g129_134, g129_136, g129_137, g129_138, g129_140, g129_142, g129_145, g129_146, g129_149, g129_150, g129_151, g129_152, g129_155, g129_157, g129_158, g129_161, g129_162, g129_163, g129_166, g129_167, g129_170, g129_171, g129_173, g129_174, g129_175, g129_178, g129_179, g129_181, g129_182, g129_185, g129_191, g129_195, g129_196, g129_199, g129_200, g129_201, g129_204, g129_205, g129_206, g129_209, g129_210, g129_212, g129_213, g129_216, g129_219, g129_220, g129_222, g129_223, g129_226, g129_227, g129_228, g129_231, g129_232, g129_235, g129_238, g129_239, g129_240, g129_241, g129_244, g129_245, g129_248, g129_252, g129_255, g129_256, g129_257, g129_258, g129_259, g129_259r, g129_260, g129_263, g129_264, g129_265, g129_268, g129_271, ob100, oc100, fl100_0, wo100_0, fl100_1, fl100_2, fl100_3, fl100_4, fl100_5, wo100_5, fl100_6, fl100_7, fl100_8, fl100_9, fl100_10, fl100_11, fl100_12, wo100_12, fl100_13, fl100_14, fl100_15, fl100_16, fl100_17, fl100_18, fl100_19, fl100_20, fl100_21, fl100_22, fl100_23, fl100_24, fl100_25, wo100_25, fl100_26, fl100_27, fl100_28, fl100_29, fl100_30, fl100_31, wo100_31, fl100_32, fl100_33, fl100_34, fl100_35, fl100_36, fl100_37, fl100_38, fl100_39, fl100_40, fl100_41, fl100_42, fl100_43, fl100_44, fl100_45, wo100_45, fl100_46, wo100_46, fl100_47, wo100_47, fl100_48, wo100_48, fl100_49, wo100_49, fl100_50, fl100_51, fl100_52, fl100_53, fl100_54, fl100_55, wo100_55, Int.reduceSub, Int.reduceAdd, Int.add_zero, Int.zero_add, Int.cast_ofNat_Int, Bool.false_eq_true, decide_true, decide_false, zbndI, zbwI, zbzI, zb1I, zoA_at, gback_v, gback_n, zem, zisr, zro_at, zrl_at, mu_g, mu_at, mu_mu, mu_self, not_true, not_false_iff, zb0, zb1, zbnd, zbw, zbz, zne1, zone, mrgI, List.length_nil, List.length_cons, Nat.reduceAdd, Nat.reduceSub, Nat.reduceLeDiff, Nat.zero_le, and_true, true_and, false_and, and_false, true_or, or_true, false_or, or_false, G_ite, z10, z1n, z1and, z1or, z0not, z0and, itn, if_true, if_false, reduceIte, Int.reduceEq, Int.reduceLT, Int.reduceNeg, Nat.reduceEqDiff, ite_self, h1, h2]
    exact hk
  | succ n ih =>
    intro k κ ν v0 v1 v2 v3 v4 hn h hp
    have h' := h
    obtain ⟨a1, ⟨a2, a2'⟩, a3, ⟨a4, a4'⟩, ⟨a5, a5'⟩, a6, a7⟩ := h
    have a3' := a3
    have hL := a1.2.2.2.1.1
    have hL2 := a1.2.2.2.2.2
    by_cases hk : k < κ 50 c 1
    · have h1 : k < ν 100 0 45 := by omega
      have h2 : ¬ ν 100 0 45 ≤ k := by omega
      obtain ⟨q1, q2, q3⟩ := a7 k a2 hk
      obtain ⟨hN, hN2⟩ := NP_2 h' hp hk
      have h3 : k < ν 155 0 k := by omega
      have h3' : ¬ ν 155 0 k ≤ k := by omega
      have hk2 := c129_k (β := β) (c := c) (d := d) (i := i) (F := F) (rd := rd) (en := κ 65 0 k) (l := k) (ck := ck) (sk := sk) (Q := Q) (fun κ2 ν2 w1 w2 w3 w4 g1 g2 g3 => by
        have hLL := g1.1.2.2.2.2.2
        have hbb := g1.2.1
        have hbc := g1.2.2.2.2.1
        have hk3 := ih (κ 65 0 k) κ2 (mu ν2 100 0 46 (κ2 50 c 2)) (zI (κ 65 0 k)) w1 w2 w3 w4 (by
          have f1 : F 50 c 1 = κ2 50 c 1 := by rw [← g1.2.2.1]; exact npN_j (i := 1) (by decide) _ _ _ _
          have f2 : F 50 c 1 = κ 50 c 1 := by rw [← a3]; exact npN_j (i := 1) (by decide) _ _ _ _
          omega) (by
          obtain ⟨b1, b2, b3, ⟨b4, b4'⟩, b5, b6, b7⟩ := g1
          obtain ⟨c1, c2, c3, ⟨c4, c4'⟩, c5, c6⟩ := b1
          refine ⟨⟨c1, rfr_ms c2 (by omega), SH_of c3 rfl rfl (mu_g (by decide)), ⟨by rw [mu_j (by decide)]; exact c4, by rw [mu_j (by decide)]; exact c4'⟩, fun l l0 l1 => by rw [mu_g (by decide)]; exact c5 l l0 l1, c6⟩, b2, b3, ⟨by rw [mu_j (by decide)]; exact b4, by rw [mu_j (by decide)]; exact b4'⟩, b5, fun l l0 l1 => by rw [mu_g (by decide)]; exact b6 l l0 l1, fun l l0 l1 => by rw [mu_g (by decide)]; exact b7 l l0 l1⟩) (by rw [mu_at])
        have e9 : ν2 100 0 46 + 1 = κ2 50 c 2 := by omega
        rw [g129_251]
        simp (disch := first | omega | (simp (disch := decide) only [zmu0, mu_g, List.length_nil, List.length_cons]; omega)) only [g129_0, g129_1, g129_4, g129_5, g129_8, g129_9, g129_10, g129_11, g129_14, g129_15, g129_16, g129_18, g129_21, g129_22, g129_23, g129_24, g129_27, g129_28, g129_29, g129_30, g129_31, g129_32, g129_33, g129_37, g129_38, g129_41, g129_44, g129_45, g129_46, g129_49, g129_51, g129_52, g129_53, g129_54, g129_55, g129_56, g129_57, g129_58, g129_61, g129_62, g129_63, g129_66, g129_68, g129_69, g129_70, g129_71, g129_74, g129_75, g129_78, g129_79, g129_81, g129_82, g129_83, g129_86, g129_87, g129_88, g129_91, g129_92, g129_95, g129_96, g129_97, g129_98, g129_99, g129_102, g129_103, g129_105, g129_107, g129_108, g129_111, g129_114, g129_115, g129_118, g129_120, g129_122, g129_123, g129_124, g129_126, g129_129, g129_130, g129_131, g129_134, g129_136, g129_137, g129_138, g129_140, g129_142, g129_145, g129_146, g129_149, g129_150, g129_151, g129_152, g129_155, g129_157, g129_158, g129_161, g129_162, g129_163, g129_166, g129_167, g129_170, g129_171, g129_173, g129_174, g129_175, g129_178, g129_179, g129_181, g129_182, g129_185, g129_191, g129_195, g129_196, g129_199, g129_200, g129_201, g129_204, g129_205, g129_206, g129_209, g129_210, g129_212, g129_213, g129_216, g129_219, g129_220, g129_222, g129_223, g129_226, g129_227, g129_228, g129_231, g129_232, g129_235, g129_238, g129_239, g129_240, g129_241, g129_244, g129_245, g129_248, g129_252, g129_255, g129_256, g129_257, g129_258, g129_259, g129_259r, g129_260, g129_263, g129_264, g129_265, g129_268, g129_271, ob100, oc100, fl100_0, wo100_0, fl100_1, fl100_2, fl100_3, fl100_4, fl100_5, wo100_5, fl100_6, fl100_7, fl100_8, fl100_9, fl100_10, fl100_11, fl100_12, wo100_12, fl100_13, fl100_14, fl100_15, fl100_16, fl100_17, fl100_18, fl100_19, fl100_20, fl100_21, fl100_22, fl100_23, fl100_24, fl100_25, wo100_25, fl100_26, fl100_27, fl100_28, fl100_29, fl100_30, fl100_31, wo100_31, fl100_32, fl100_33, fl100_34, fl100_35, fl100_36, fl100_37, fl100_38, fl100_39, fl100_40, fl100_41, fl100_42, fl100_43, fl100_44, fl100_45, wo100_45, fl100_46, wo100_46, fl100_47, wo100_47, fl100_48, wo100_48, fl100_49, wo100_49, fl100_50, fl100_51, fl100_52, fl100_53, fl100_54, fl100_55, wo100_55, rd155, wr155, Int.reduceSub, Int.reduceAdd, Int.add_zero, Int.zero_add, Int.cast_ofNat_Int, Bool.false_eq_true, decide_true, decide_false, zbndI, zbwI, zbzI, zb1I, zoA_at, gback_v, gback_n, zem, zisr, zro_at, zrl_at, mu_g, mu_at, mu_mu, mu_self, not_true, not_false_iff, zb0, zb1, zbnd, zbw, zbz, zne1, zone, mrgI, List.length_nil, List.length_cons, Nat.reduceAdd, Nat.reduceSub, Nat.reduceLeDiff, Nat.zero_le, and_true, true_and, false_and, and_false, true_or, or_true, false_or, or_false, G_ite, z10, z1n, z1and, z1or, z0not, z0and, itn, if_true, if_false, reduceIte, Int.reduceEq, Int.reduceLT, Int.reduceNeg, Nat.reduceEqDiff, ite_self, g3, e9]
        exact hk3) ⟨a2, by omega⟩ (κ 65 0 k - (k + 1)).toNat (k + 1) _ _ v1 v2 v3 v4 (by omega) hN (by rw [hN2, mu_g (by decide)]) (by rw [mu_g (by decide)]; exact q1.symm) (by rw [mu_g (by decide), mu_j (by decide)]; exact q3)
      rw [g129_211]
      simp (disch := first | omega | (simp (disch := decide) only [zmu0, mu_g, List.length_nil, List.length_cons]; omega)) only [g129_0, g129_1, g129_4, g129_5, g129_8, g129_9, g129_10, g129_11, g129_14, g129_15, g129_16, g129_18, g129_21, g129_22, g129_23, g129_24, g129_27, g129_28, g129_29, g129_30, g129_31, g129_32, g129_33, g129_37, g129_38, g129_41, g129_44, g129_45, g129_46, g129_49, g129_51, g129_52, g129_53, g129_54, g129_55, g129_56, g129_57, g129_58, g129_61, g129_62, g129_63, g129_66, g129_68, g129_69, g129_70, g129_71, g129_74, g129_75, g129_78, g129_79, g129_81, g129_82, g129_83, g129_86, g129_87, g129_88, g129_91, g129_92, g129_95, g129_96, g129_97, g129_98, g129_99, g129_102, g129_103, g129_105, g129_107, g129_108, g129_111, g129_114, g129_115, g129_118, g129_120, g129_122, g129_123, g129_124, g129_126, g129_129, g129_130, g129_131, g129_134, g129_136, g129_137, g129_138, g129_140, g129_142, g129_145, g129_146, g129_149, g129_150, g129_151, g129_152, g129_155, g129_157, g129_158, g129_161, g129_162, g129_163, g129_166, g129_167, g129_170, g129_171, g129_173, g129_174, g129_175, g129_178, g129_179, g129_181, g129_182, g129_185, g129_191, g129_195, g129_196, g129_199, g129_200, g129_201, g129_204, g129_205, g129_206, g129_209, g129_210, g129_212, g129_213, g129_216, g129_219, g129_220, g129_222, g129_223, g129_226, g129_227, g129_228, g129_231, g129_232, g129_235, g129_238, g129_239, g129_240, g129_241, g129_244, g129_245, g129_248, g129_252, g129_255, g129_256, g129_257, g129_258, g129_259, g129_259r, g129_260, g129_263, g129_264, g129_265, g129_268, g129_271, ob100, oc100, fl100_0, wo100_0, fl100_1, fl100_2, fl100_3, fl100_4, fl100_5, wo100_5, fl100_6, fl100_7, fl100_8, fl100_9, fl100_10, fl100_11, fl100_12, wo100_12, fl100_13, fl100_14, fl100_15, fl100_16, fl100_17, fl100_18, fl100_19, fl100_20, fl100_21, fl100_22, fl100_23, fl100_24, fl100_25, wo100_25, fl100_26, fl100_27, fl100_28, fl100_29, fl100_30, fl100_31, wo100_31, fl100_32, fl100_33, fl100_34, fl100_35, fl100_36, fl100_37, fl100_38, fl100_39, fl100_40, fl100_41, fl100_42, fl100_43, fl100_44, fl100_45, wo100_45, fl100_46, wo100_46, fl100_47, wo100_47, fl100_48, wo100_48, fl100_49, wo100_49, fl100_50, fl100_51, fl100_52, fl100_53, fl100_54, fl100_55, wo100_55, Int.reduceSub, Int.reduceAdd, Int.add_zero, Int.zero_add, Int.cast_ofNat_Int, Bool.false_eq_true, decide_true, decide_false, zbndI, zbwI, zbzI, zb1I, zoA_at, gback_v, gback_n, zem, zisr, zro_at, zrl_at, mu_g, mu_at, mu_mu, mu_self, not_true, not_false_iff, zb0, zb1, zbnd, zbw, zbz, zne1, zone, mrgI, List.length_nil, List.length_cons, Nat.reduceAdd, Nat.reduceSub, Nat.reduceLeDiff, Nat.zero_le, and_true, true_and, false_and, and_false, true_or, or_true, false_or, or_false, G_ite, z10, z1n, z1and, z1or, z0not, z0and, itn, if_true, if_false, reduceIte, Int.reduceEq, Int.reduceLT, Int.reduceNeg, Nat.reduceEqDiff, ite_self, h1, h2]
      rw [g129_221]
      simp (disch := first | omega | (simp (disch := decide) only [zmu0, mu_g, List.length_nil, List.length_cons]; omega)) only [g129_0, g129_1, g129_4, g129_5, g129_8, g129_9, g129_10, g129_11, g129_14, g129_15, g129_16, g129_18, g129_21, g129_22, g129_23, g129_24, g129_27, g129_28, g129_29, g129_30, g129_31, g129_32, g129_33, g129_37, g129_38, g129_41, g129_44, g129_45, g129_46, g129_49, g129_51, g129_52, g129_53, g129_54, g129_55, g129_56, g129_57, g129_58, g129_61, g129_62, g129_63, g129_66, g129_68, g129_69, g129_70, g129_71, g129_74, g129_75, g129_78, g129_79, g129_81, g129_82, g129_83, g129_86, g129_87, g129_88, g129_91, g129_92, g129_95, g129_96, g129_97, g129_98, g129_99, g129_102, g129_103, g129_105, g129_107, g129_108, g129_111, g129_114, g129_115, g129_118, g129_120, g129_122, g129_123, g129_124, g129_126, g129_129, g129_130, g129_131, g129_134, g129_136, g129_137, g129_138, g129_140, g129_142, g129_145, g129_146, g129_149, g129_150, g129_151, g129_152, g129_155, g129_157, g129_158, g129_161, g129_162, g129_163, g129_166, g129_167, g129_170, g129_171, g129_173, g129_174, g129_175, g129_178, g129_179, g129_181, g129_182, g129_185, g129_191, g129_195, g129_196, g129_199, g129_200, g129_201, g129_204, g129_205, g129_206, g129_209, g129_210, g129_212, g129_213, g129_216, g129_219, g129_220, g129_222, g129_223, g129_226, g129_227, g129_228, g129_231, g129_232, g129_235, g129_238, g129_239, g129_240, g129_241, g129_244, g129_245, g129_248, g129_252, g129_255, g129_256, g129_257, g129_258, g129_259, g129_259r, g129_260, g129_263, g129_264, g129_265, g129_268, g129_271, ob100, oc100, fl100_0, wo100_0, fl100_1, fl100_2, fl100_3, fl100_4, fl100_5, wo100_5, fl100_6, fl100_7, fl100_8, fl100_9, fl100_10, fl100_11, fl100_12, wo100_12, fl100_13, fl100_14, fl100_15, fl100_16, fl100_17, fl100_18, fl100_19, fl100_20, fl100_21, fl100_22, fl100_23, fl100_24, fl100_25, wo100_25, fl100_26, fl100_27, fl100_28, fl100_29, fl100_30, fl100_31, wo100_31, fl100_32, fl100_33, fl100_34, fl100_35, fl100_36, fl100_37, fl100_38, fl100_39, fl100_40, fl100_41, fl100_42, fl100_43, fl100_44, fl100_45, wo100_45, fl100_46, wo100_46, fl100_47, wo100_47, fl100_48, wo100_48, fl100_49, wo100_49, fl100_50, fl100_51, fl100_52, fl100_53, fl100_54, fl100_55, wo100_55, rd151, wr151, rd155, wr155, Int.reduceSub, Int.reduceAdd, Int.add_zero, Int.zero_add, Int.cast_ofNat_Int, Bool.false_eq_true, decide_true, decide_false, zbndI, zbwI, zbzI, zb1I, zoA_at, gback_v, gback_n, zem, zisr, zro_at, zrl_at, mu_g, mu_at, mu_mu, mu_self, not_true, not_false_iff, zb0, zb1, zbnd, zbw, zbz, zne1, zone, mrgI, List.length_nil, List.length_cons, Nat.reduceAdd, Nat.reduceSub, Nat.reduceLeDiff, Nat.zero_le, and_true, true_and, false_and, and_false, true_or, or_true, false_or, or_false, G_ite, z10, z1n, z1and, z1or, z0not, z0and, itn, if_true, if_false, reduceIte, Int.reduceEq, Int.reduceLT, Int.reduceNeg, Nat.reduceEqDiff, ite_self, h3, h3']
      exact hk2
    · exact (by
        have e : k = κ 50 c 1 := by omega
        subst e
        have e0 : (κ 50 c 1 - κ 50 c 1).toNat = 0 := by omega
        rw [e0] at a3
        have e9 : κ = F := a3
        have hk := hK ν (e9 ▸ ⟨a1, hp, a4, a6⟩) a4'
        have h1 : ¬ κ 50 c 1 < ν 100 0 45 := by omega
        have h2 : ν 100 0 45 ≤ κ 50 c 1 := by omega
        rw [g129_211]
        simp (disch := first | omega | (simp (disch := decide) only [zmu0, mu_g, List.length_nil, List.length_cons]; omega)) only [g129_0, g129_1, g129_4, g129_5, g129_8, g129_9, g129_10, g129_11, g129_14, g129_15, g129_16, g129_18, g129_21, g129_22, g129_23, g129_24, g129_27, g129_28, g129_29, g129_30, g129_31, g129_32, g129_33, g129_37, g129_38, g129_41, g129_44, g129_45, g129_46, g129_49, g129_51, g129_52, g129_53, g129_54, g129_55, g129_56, g129_57, g129_58, g129_61, g129_62, g129_63, g129_66, g129_68, g129_69, g129_70, g129_71, g129_74, g129_75, g129_78, g129_79, g129_81, g129_82, g129_83, g129_86, g129_87, g129_88, g129_91, g129_92, g129_95, g129_96, g129_97, g129_98, g129_99, g129_102, g129_103, g129_105, g129_107, g129_108, g129_111, g129_114, g129_115, g129_118, g129_120, g129_122, g129_123, g129_124, g129_126, g129_129, g129_130, g129_131, g129_134, g129_136, g129_137, g129_138, g129_140, g129_142, g129_145, g129_146, g129_149, g129_150, g129_151, g129_152, g129_155, g129_157, g129_158, g129_161, g129_162, g129_163, g129_166, g129_167, g129_170, g129_171, g129_173, g129_174, g129_175, g129_178, g129_179, g129_181, g129_182, g129_185, g129_191, g129_195, g129_196, g129_199, g129_200, g129_201, g129_204, g129_205, g129_206, g129_209, g129_210, g129_212, g129_213, g129_216, g129_219, g129_220, g129_222, g129_223, g129_226, g129_227, g129_228, g129_231, g129_232, g129_235, g129_238, g129_239, g129_240, g129_241, g129_244, g129_245, g129_248, g129_252, g129_255, g129_256, g129_257, g129_258, g129_259, g129_259r, g129_260, g129_263, g129_264, g129_265, g129_268, g129_271, ob100, oc100, fl100_0, wo100_0, fl100_1, fl100_2, fl100_3, fl100_4, fl100_5, wo100_5, fl100_6, fl100_7, fl100_8, fl100_9, fl100_10, fl100_11, fl100_12, wo100_12, fl100_13, fl100_14, fl100_15, fl100_16, fl100_17, fl100_18, fl100_19, fl100_20, fl100_21, fl100_22, fl100_23, fl100_24, fl100_25, wo100_25, fl100_26, fl100_27, fl100_28, fl100_29, fl100_30, fl100_31, wo100_31, fl100_32, fl100_33, fl100_34, fl100_35, fl100_36, fl100_37, fl100_38, fl100_39, fl100_40, fl100_41, fl100_42, fl100_43, fl100_44, fl100_45, wo100_45, fl100_46, wo100_46, fl100_47, wo100_47, fl100_48, wo100_48, fl100_49, wo100_49, fl100_50, fl100_51, fl100_52, fl100_53, fl100_54, fl100_55, wo100_55, Int.reduceSub, Int.reduceAdd, Int.add_zero, Int.zero_add, Int.cast_ofNat_Int, Bool.false_eq_true, decide_true, decide_false, zbndI, zbwI, zbzI, zb1I, zoA_at, gback_v, gback_n, zem, zisr, zro_at, zrl_at, mu_g, mu_at, mu_mu, mu_self, not_true, not_false_iff, zb0, zb1, zbnd, zbw, zbz, zne1, zone, mrgI, List.length_nil, List.length_cons, Nat.reduceAdd, Nat.reduceSub, Nat.reduceLeDiff, Nat.zero_le, and_true, true_and, false_and, and_false, true_or, or_true, false_or, or_false, G_ite, z10, z1n, z1and, z1or, z0not, z0and, itn, if_true, if_false, reduceIte, Int.reduceEq, Int.reduceLT, Int.reduceNeg, Nat.reduceEqDiff, ite_self, h1, h2]
        exact hk)
end ZCF
