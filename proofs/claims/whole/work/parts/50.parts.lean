/-! ===== setting: the reference parts lines into pages ===== -/
section ZCG
variable {ck sk : Nat} {Q : ZO → ZH → Prop} {a b c d e f g h i j k l m p r r' s t v w x z fr en H L RF rd : Int} {y : Int64} {u u' u'' u1 u2 u3 u4 u5 u6 u7 u8 : ZV} {μ ν κ β F : ZU}
theorem c129 (hst : sta β d i) (hs : 0 ≤ s ∧ s ≤ 15) (hPR : PR β c d i κ ν) (hT : lnT κ ν c s) (hK : ∀ ν', PS β c d i (bps c (β 115 0 d) (wlN c s (κ 50 c 1).toNat 0 κ)) ν' → ν' 100 0 49 = ν 100 0 49 → Q (.inl none) (HM ν')) :
    G 129 0 [zR 100 0, zI d, u1, u2, u3, u4, u5, u6] [] (HM ν) ck sk Q := by
  have hst' := hst
  obtain ⟨s1, s2, s3, s4, ⟨s5, s6, s7, s8, s9⟩, ⟨s10, s11⟩, sW, sP, sS, sF⟩ := hst
  obtain ⟨a1, a2, a3, ⟨a4, a4'⟩, a5, a6, a6'⟩ := hPR
  have wg : ∀ k, k ≠ 62 → k ≠ 63 → wlN c s (κ 50 c 1).toNat 0 κ k = κ k := fun k h1 h2 => wlN_g h1 h2 _ _ _
  have mg : ∀ k, k ≠ 62 → k ≠ 63 → k ≠ 64 → mu (wlN c s (κ 50 c 1).toNat 0 κ) 64 0 (κ 50 c 1) 0 k = κ k := fun k h1 h2 h3 => by rw [mu_g h3, wg k h1 h2]
  have rg : ∀ k, k ≠ 154 → mu ν 154 0 (κ 50 c 1) 0 k = ν k := fun k h1 => mu_g h1
  have hPB : PB β c d i s (bpg c (β 115 0 d) (wlN c s (κ 50 c 1).toNat 0 κ)) (ν 100 0 49) (κ 50 c 1).toNat (mu (wlN c s (κ 50 c 1).toNat 0 κ) 64 0 (κ 50 c 1) 0) (mu ν 154 0 (κ 50 c 1) 0) := by
    have eL : ((κ 50 c 1).toNat : Int) = κ 50 c 1 := by omega
    unfold PB PR lnE lnT
    rw [mg 50 (by decide) (by decide) (by decide), mg 52 (by decide) (by decide) (by decide), mg 53 (by decide) (by decide) (by decide), mg 54 (by decide) (by decide) (by decide), mg 55 (by decide) (by decide) (by decide), rg 100 (by decide), rg 151 (by decide), rg 153 (by decide), eL]
    refine ⟨⟨sfr_of a1 fun k hk => mg k (by omega) (by omega) (by omega), rfr_mu a2 (by omega), SH_of a3 (mg 51 (by decide) (by decide) (by decide)) (mg 61 (by decide) (by decide) (by decide)) (rg 152 (by decide)), ⟨a4, a4'⟩, a5, a6, a6'⟩, hT, Int.le_refl _, ?_, fun l l0 l1 => ⟨?_, ?_⟩, fun l l0 l1 => ?_, fun l l0 l1 => by omega, ?_, rfl⟩
    · rw [mu_g (by decide), mu_g (k' := 63) (by decide)]
      have := wlN_I (c := c) (μ := κ) hs.1 hs.2 (mu (wlN c s (κ 50 c 1).toNat 0 κ) 64 0 (κ 50 c 1) 0 64 0)
      exact this
    · rw [mu_g (by decide), wlN_62, if_pos (by omega)]
      exact (hT l l0 l1).symm
    · rw [mu_g (by decide), wlN_63, if_pos (by omega : 0 ≤ l ∧ l < 0 + ((κ 50 c 1).toNat : Int))]
    · have e : l = κ 50 c 1 := by omega
      rw [e, mu_at, mu_at]
    · unfold bpg
      rw [wg 50 (by decide) (by decide)]
  have eL : ((κ 50 c 1).toNat : Int) - 1 = ν 100 0 45 - 1 := by omega
  have el := c129_o (β := β) (c := c) (F := bpg c (β 115 0 d) (wlN c s (κ 50 c 1).toNat 0 κ)) (rd := ν 100 0 49) (ck := ck) (sk := sk) (Q := Q) hst' hs (fun κ1 ν1 v1 v2 v3 v4 v5 h => by
    obtain ⟨⟨b1, b2, b3, ⟨b4, b4'⟩, b5, b6, b6'⟩, b7, b8, b9, b10, b11, b12, b13, b14⟩ := h
    have e9 : κ1 = bpg c (β 115 0 d) (wlN c s (κ 50 c 1).toNat 0 κ) := b13
    subst e9
    have hL : bpg c (β 115 0 d) (wlN c s (κ 50 c 1).toNat 0 κ) 50 = κ 50 := by rw [bpg_g (by decide) (by decide), wg 50 (by decide) (by decide)]
    have hNP : NP β c d i (bps c (β 115 0 d) (wlN c s (κ 50 c 1).toNat 0 κ)) (ν 100 0 49) 0 0 (mu (bpz c (β 115 0 d) (wlN c s (κ 50 c 1).toNat 0 κ)) 50 c 2 0) (mu (mu ν1 100 0 48 (ν1 154 0 0)) 100 0 46 0) := by
      have z501 : mu (bpz c (β 115 0 d) (wlN c s (κ 50 c 1).toNat 0 κ)) 50 c 2 0 50 c 1 = κ 50 c 1 := by unfold bpz; rw [mu_j (by decide), mu_j (by decide), hL]
      have z503 : mu (bpz c (β 115 0 d) (wlN c s (κ 50 c 1).toNat 0 κ)) 50 c 2 0 50 c 3 = κ 50 c 3 := by unfold bpz; rw [mu_j (by decide), mu_j (by decide), hL]
      have z504 : mu (bpz c (β 115 0 d) (wlN c s (κ 50 c 1).toNat 0 κ)) 50 c 2 0 50 c 4 = bpg c (β 115 0 d) (wlN c s (κ 50 c 1).toNat 0 κ) 64 0 0 := by unfold bpz; rw [mu_j (by decide), mu_at]
      have zg : ∀ k, k ≠ 50 → mu (bpz c (β 115 0 d) (wlN c s (κ 50 c 1).toNat 0 κ)) 50 c 2 0 k = bpg c (β 115 0 d) (wlN c s (κ 50 c 1).toNat 0 κ) k := fun k h1 => by rw [mu_g h1]; unfold bpz; rw [mu_g h1]
      have yg : ∀ k, k ≠ 100 → mu (mu ν1 100 0 48 (ν1 154 0 0)) 100 0 46 0 k = ν1 k := fun k h1 => by rw [mu_g h1, mu_g h1]
      have y45 : mu (mu ν1 100 0 48 (ν1 154 0 0)) 100 0 46 0 100 0 45 = ν1 100 0 45 := by rw [mu_j (by decide), mu_j (by decide)]
      have y47 : mu (mu ν1 100 0 48 (ν1 154 0 0)) 100 0 46 0 100 0 47 = ν1 100 0 47 := by rw [mu_j (by decide), mu_j (by decide)]
      have y48 : mu (mu ν1 100 0 48 (ν1 154 0 0)) 100 0 46 0 100 0 48 = ν1 154 0 0 := by rw [mu_j (by decide), mu_at]
      have y49 : mu (mu ν1 100 0 48 (ν1 154 0 0)) 100 0 46 0 100 0 49 = ν1 100 0 49 := by rw [mu_j (by decide), mu_j (by decide)]
      rw [hL] at b4 b4' b12 b11 b6 b6'
      unfold NP PR lnE
      rw [z501, z503, z504, y45, y47, y48, y49, zg 52 (by decide), zg 53 (by decide), zg 54 (by decide), zg 55 (by decide), zg 65 (by decide), yg 151 (by decide), yg 155 (by decide), mu_at]
      refine ⟨⟨sfr_of b1 fun k hk => zg k (by omega), rfr_ms (rfr_ms b2 (by omega)) (by omega), SH_of b3 (zg 51 (by decide)) (zg 61 (by decide)) (yg 152 (by decide)), ⟨b4, b4'⟩, ?_, b6, b6'⟩, ⟨Int.le_refl _, b6⟩, ?_, ⟨b11 0 (by omega) b6, b14⟩, ⟨Int.le_refl _, Int.le_refl _⟩, fun l l0 l1 => by omega, fun l l0 l1 => b12 l (by omega) l1⟩
      · intro l l0 l1
        have := b5 l l0 (by rw [hL]; exact l1)
        exact this
      · unfold bps
        rw [Int.sub_zero, wg 50 (by decide) (by decide)]
    have hk := c129_n (β := β) (c := c) (rd := ν 100 0 49) (ck := ck) (sk := sk) (Q := Q) (fun ν' h1 h2 => hK ν' h1 h2) ((κ 50 c 1).toNat) 0 _ _ v1 v2 v3 v4 v5 (by
      have z501 : mu (bpz c (β 115 0 d) (wlN c s (κ 50 c 1).toNat 0 κ)) 50 c 2 0 50 c 1 = κ 50 c 1 := by unfold bpz; rw [mu_j (by decide), mu_j (by decide), hL]
      rw [z501]
      omega) hNP (by rw [mu_at, mu_at])
    rw [g129_194]
    simp (disch := first | omega | (simp (disch := decide) only [zmu0, mu_g, List.length_nil, List.length_cons]; omega)) only [g129_0, g129_1, g129_4, g129_5, g129_8, g129_9, g129_10, g129_11, g129_14, g129_15, g129_16, g129_18, g129_21, g129_22, g129_23, g129_24, g129_27, g129_28, g129_29, g129_30, g129_31, g129_32, g129_33, g129_37, g129_38, g129_41, g129_44, g129_45, g129_46, g129_49, g129_51, g129_52, g129_53, g129_54, g129_55, g129_56, g129_57, g129_58, g129_61, g129_62, g129_63, g129_66, g129_68, g129_69, g129_70, g129_71, g129_74, g129_75, g129_78, g129_79, g129_81, g129_82, g129_83, g129_86, g129_87, g129_88, g129_91, g129_92, g129_95, g129_96, g129_97, g129_98, g129_99, g129_102, g129_103, g129_105, g129_107, g129_108, g129_111, g129_114, g129_115, g129_118, g129_120, g129_122, g129_123, g129_124, g129_126, g129_129, g129_130, g129_131, g129_134, g129_136, g129_137, g129_138, g129_140, g129_142, g129_145, g129_146, g129_149, g129_150, g129_151, g129_152, g129_155, g129_157, g129_158, g129_161, g129_162, g129_163, g129_166, g129_167, g129_170, g129_171, g129_173, g129_174, g129_175, g129_178, g129_179, g129_181, g129_182, g129_185, g129_191, g129_195, g129_196, g129_199, g129_200, g129_201, g129_204, g129_205, g129_206, g129_209, g129_210, g129_212, g129_213, g129_216, g129_219, g129_220, g129_222, g129_223, g129_226, g129_227, g129_228, g129_231, g129_232, g129_235, g129_238, g129_239, g129_240, g129_241, g129_244, g129_245, g129_248, g129_252, g129_255, g129_256, g129_257, g129_258, g129_259, g129_259r, g129_260, g129_263, g129_264, g129_265, g129_268, g129_271, ob100, oc100, fl100_0, wo100_0, fl100_1, fl100_2, fl100_3, fl100_4, fl100_5, wo100_5, fl100_6, fl100_7, fl100_8, fl100_9, fl100_10, fl100_11, fl100_12, wo100_12, fl100_13, fl100_14, fl100_15, fl100_16, fl100_17, fl100_18, fl100_19, fl100_20, fl100_21, fl100_22, fl100_23, fl100_24, fl100_25, wo100_25, fl100_26, fl100_27, fl100_28, fl100_29, fl100_30, fl100_31, wo100_31, fl100_32, fl100_33, fl100_34, fl100_35, fl100_36, fl100_37, fl100_38, fl100_39, fl100_40, fl100_41, fl100_42, fl100_43, fl100_44, fl100_45, wo100_45, fl100_46, wo100_46, fl100_47, wo100_47, fl100_48, wo100_48, fl100_49, wo100_49, fl100_50, fl100_51, fl100_52, fl100_53, fl100_54, fl100_55, wo100_55, rd154, wr154, Int.reduceSub, Int.reduceAdd, Int.add_zero, Int.zero_add, Int.cast_ofNat_Int, Bool.false_eq_true, decide_true, decide_false, zbndI, zbwI, zbzI, zb1I, zoA_at, gback_v, gback_n, zem, zisr, zro_at, zrl_at, mu_g, mu_at, mu_mu, mu_self, not_true, not_false_iff, zb0, zb1, zbnd, zbw, zbz, zne1, zone, mrgI, List.length_nil, List.length_cons, Nat.reduceAdd, Nat.reduceSub, Nat.reduceLeDiff, Nat.zero_le, and_true, true_and, false_and, and_false, true_or, or_true, false_or, or_false, G_ite, z10, z1n, z1and, z1or, z0not, z0and, itn, if_true, if_false, reduceIte, Int.reduceEq, Int.reduceLT, Int.reduceNeg, Nat.reduceEqDiff, ite_self]
    exact hk) (κ 50 c 1).toNat _ _ u2 u3 u4 u5 u6 hPB
  rw [eL, a4] at el
  have hL9 : 0 ≤ ν 100 0 45 ∧ ν 100 0 45 ≤ 60 := by omega
  simp (disch := first | omega | (simp (disch := decide) only [zmu0, mu_g, List.length_nil, List.length_cons]; omega)) only [g129_0, g129_1, g129_4, g129_5, g129_8, g129_9, g129_10, g129_11, g129_14, g129_15, g129_16, g129_18, g129_21, g129_22, g129_23, g129_24, g129_27, g129_28, g129_29, g129_30, g129_31, g129_32, g129_33, g129_37, g129_38, g129_41, g129_44, g129_45, g129_46, g129_49, g129_51, g129_52, g129_53, g129_54, g129_55, g129_56, g129_57, g129_58, g129_61, g129_62, g129_63, g129_66, g129_68, g129_69, g129_70, g129_71, g129_74, g129_75, g129_78, g129_79, g129_81, g129_82, g129_83, g129_86, g129_87, g129_88, g129_91, g129_92, g129_95, g129_96, g129_97, g129_98, g129_99, g129_102, g129_103, g129_105, g129_107, g129_108, g129_111, g129_114, g129_115, g129_118, g129_120, g129_122, g129_123, g129_124, g129_126, g129_129, g129_130, g129_131, g129_134, g129_136, g129_137, g129_138, g129_140, g129_142, g129_145, g129_146, g129_149, g129_150, g129_151, g129_152, g129_155, g129_157, g129_158, g129_161, g129_162, g129_163, g129_166, g129_167, g129_170, g129_171, g129_173, g129_174, g129_175, g129_178, g129_179, g129_181, g129_182, g129_185, g129_191, g129_195, g129_196, g129_199, g129_200, g129_201, g129_204, g129_205, g129_206, g129_209, g129_210, g129_212, g129_213, g129_216, g129_219, g129_220, g129_222, g129_223, g129_226, g129_227, g129_228, g129_231, g129_232, g129_235, g129_238, g129_239, g129_240, g129_241, g129_244, g129_245, g129_248, g129_252, g129_255, g129_256, g129_257, g129_258, g129_259, g129_259r, g129_260, g129_263, g129_264, g129_265, g129_268, g129_271, ob100, oc100, fl100_0, wo100_0, fl100_1, fl100_2, fl100_3, fl100_4, fl100_5, wo100_5, fl100_6, fl100_7, fl100_8, fl100_9, fl100_10, fl100_11, fl100_12, wo100_12, fl100_13, fl100_14, fl100_15, fl100_16, fl100_17, fl100_18, fl100_19, fl100_20, fl100_21, fl100_22, fl100_23, fl100_24, fl100_25, wo100_25, fl100_26, fl100_27, fl100_28, fl100_29, fl100_30, fl100_31, wo100_31, fl100_32, fl100_33, fl100_34, fl100_35, fl100_36, fl100_37, fl100_38, fl100_39, fl100_40, fl100_41, fl100_42, fl100_43, fl100_44, fl100_45, wo100_45, fl100_46, wo100_46, fl100_47, wo100_47, fl100_48, wo100_48, fl100_49, wo100_49, fl100_50, fl100_51, fl100_52, fl100_53, fl100_54, fl100_55, wo100_55, rd154, wr154, Int.reduceSub, Int.reduceAdd, Int.add_zero, Int.zero_add, Int.cast_ofNat_Int, Bool.false_eq_true, decide_true, decide_false, zbndI, zbwI, zbzI, zb1I, zoA_at, gback_v, gback_n, zem, zisr, zro_at, zrl_at, mu_g, mu_at, mu_mu, mu_self, not_true, not_false_iff, zb0, zb1, zbnd, zbw, zbz, zne1, zone, mrgI, List.length_nil, List.length_cons, Nat.reduceAdd, Nat.reduceSub, Nat.reduceLeDiff, Nat.zero_le, and_true, true_and, false_and, and_false, true_or, or_true, false_or, or_false, G_ite, z10, z1n, z1and, z1or, z0not, z0and, itn, if_true, if_false, reduceIte, Int.reduceEq, Int.reduceLT, Int.reduceNeg, Nat.reduceEqDiff, ite_self]
  exact el
end ZCG
