/-! ===== the class: all passes ===== -/
def psb (c d : Int) (μ : ZU) : ZU := blN c d (μ 30 d 9).toNat 0 (mu (mu μ 50 c 3 (μ 50 c 3 + 1)) 50 c 1 0)
def psw (c d s : Int) (μ : ZU) : ZU := wlN c s (psb c d μ 50 c 1).toNat 0 (psb c d μ)
def ps1 (c d s : Int) (μ : ZU) : ZU := bps c (μ 30 d 1) (psw c d s μ)
def sI (μ : ZU) (c d s : Int) : Prop := c = μ 0 0 50 - 1 ∧ 0 ≤ c ∧ 0 ≤ d ∧ d < μ 0 0 30 ∧ (0 ≤ s ∧ s ≤ 15) ∧ (0 ≤ μ 30 d 9 ∧ μ 30 d 9 ≤ 60) ∧ (0 ≤ μ 30 d 0 ∧ μ 30 d 0 ≤ 200) ∧ (3 ≤ μ 30 d 1 ∧ μ 30 d 1 ≤ 12) ∧
  (∀ w, 0 ≤ w → w < μ 30 d 9 → 0 ≤ μ 61 0 w ∧ μ 61 0 w ≤ 160) ∧ (∀ w, 0 ≤ w → w < μ 30 d 9 → 0 ≤ μ 33 d w ∧ μ 33 d w < 12) ∧ ∀ w, 0 ≤ w → w < μ 30 d 9 → -1 ≤ μ 35 d w ∧ μ 35 d w < 12
section ZLA
variable {ck sk : Nat} {Q : ZO → ZH → Prop} {a b c d e f l s v w x m H L : Int} {u u' u'' u''' : ZV} {μ ν : ZU}
theorem sI.of (h : sI μ c d s) (h0 : ν 0 = μ 0) (h1 : ν 30 = μ 30) (h2 : ν 33 = μ 33) (h3 : ν 35 = μ 35) (h4 : ν 61 = μ 61) : sI ν c d s := by
  unfold sI
  rw [h0, h1, h2, h3, h4]
  exact h
theorem psb_g {k : Nat} (h0 : k ≠ 50) (h1 : k ≠ 52) (h2 : k ≠ 53) (h3 : k ≠ 54) (h4 : k ≠ 55) : psb c d μ k = μ k := by
  unfold psb
  rw [blN_g h0 h1 h2 h3 h4, mu_g h0, mu_g h0]
theorem psb_I (h : sI μ c d s) : blI (psb c d μ) c (μ 30 d 9) ∧ blH (psb c d μ) c := by
  obtain ⟨a1, a2, a3, a4, a5, a6, a7, a8, a9, a10, a11⟩ := h
  have e : ∀ k, k ≠ 50 → mu (mu μ 50 c 3 (μ 50 c 3 + 1)) 50 c 1 0 k = μ k := fun k hk => by rw [mu_g hk, mu_g hk]
  have := blN_I (c := c) (d := d) (μ 30 d 9).toNat 0 (mu (mu μ 50 c 3 (μ 50 c 3 + 1)) 50 c 1 0) (by omega) (by rw [e 30 (by decide)]; omega) (by rw [e 30 (by decide)]; exact a7.2) (by rw [e 30 (by decide), e 61 (by decide)]; exact a9) (by rw [e 30 (by decide), e 33 (by decide)]; exact a10)
    ⟨by rw [mu_at]; omega, by rw [mu_at]; omega, fun j h1 h2 => by rw [mu_at] at h2; omega⟩ (fun j h1 h2 => by rw [mu_at] at h2; omega)
  rw [e 30 (by decide)] at this
  exact this
theorem ps1_g {k : Nat} (h0 : k ≠ 50) (h1 : k ≠ 52) (h2 : k ≠ 53) (h3 : k ≠ 54) (h4 : k ≠ 55) (h5 : k ≠ 62) (h6 : k ≠ 63) (h7 : k ≠ 64) (h8 : k ≠ 65) (h9 : k ≠ 56) : ps1 c d s μ k = μ k := by
  unfold ps1 psw
  rw [bps_g h7 h8 h0 h9, wlN_g h5 h6, psb_g h0 h1 h2 h3 h4]
theorem ps1_sI (h : sI μ c d s) : sI (ps1 c d s μ) c d s :=
  h.of (ps1_g (by decide) (by decide) (by decide) (by decide) (by decide) (by decide) (by decide) (by decide) (by decide) (by decide)) (ps1_g (by decide) (by decide) (by decide) (by decide) (by decide) (by decide) (by decide) (by decide) (by decide) (by decide)) (ps1_g (by decide) (by decide) (by decide) (by decide) (by decide) (by decide) (by decide) (by decide) (by decide) (by decide)) (ps1_g (by decide) (by decide) (by decide) (by decide) (by decide) (by decide) (by decide) (by decide) (by decide) (by decide)) (ps1_g (by decide) (by decide) (by decide) (by decide) (by decide) (by decide) (by decide) (by decide) (by decide) (by decide))
theorem psw_50 : psw c d s μ 50 = psb c d μ 50 := by
  unfold psw
  exact wlN_g (by decide) (by decide) _ _ _
/-- one pass -/
theorem c19_p (h : sI μ c d s) (hp : 0 ≤ μ 50 c 3) (hp2 : μ 50 c 3 ≤ 100) : G 19 43 [zR 8 0, zR 30 d, zR 21 b, zI s] [] (HM μ) ck sk Q ↔ G 19 74 [zR 8 0, zR 30 d, zR 21 b, zI s] [] (HM (ps1 c d s μ)) ck sk Q := by
  have hpb := psb_I h
  obtain ⟨a1, a2, a3, a4, a5, a6, a7, a8, a9, a10, a11⟩ := h
  have hL0 : 0 ≤ psb c d μ 50 c 1 := hpb.1.1
  have hL : psb c d μ 50 c 1 ≤ 60 := by have := hpb.1.2.1; omega
  have p0 : psb c d μ 0 = μ 0 := psb_g (by decide) (by decide) (by decide) (by decide) (by decide)
  have p30 : psb c d μ 30 = μ 30 := psb_g (by decide) (by decide) (by decide) (by decide) (by decide)
  have w0 : psw c d s μ 0 = μ 0 := by unfold psw; rw [wlN_g (by decide) (by decide), p0]
  have w30 : psw c d s μ 30 = μ 30 := by unfold psw; rw [wlN_g (by decide) (by decide), p30]
  have e1 := fun (ck sk : Nat) (Q : ZO → ZH → Prop) (u u' u'' u''' : ZV) => c24 (μ := mu μ 50 c 3 (μ 50 c 3 + 1)) (ck := ck) (sk := sk) (Q := Q) (d := d) (u := u) (u' := u') (u'' := u'') (u''' := u''') a3 (by rw [mu_g (by decide)]; omega) (by rw [mu_g (by decide)]; exact a4) (by rw [mu_g (by decide)]; exact a6.1) (by rw [mu_g (by decide)]; exact a6.2) (by rw [mu_g (by decide)]; exact a7.1) (by rw [mu_g (by decide)]; exact a7.2) (by rw [mu_g (by decide), mu_g (by decide)]; exact a9)
  have e2 := fun (ck sk : Nat) (Q : ZO → ZH → Prop) (u : ZV) => c27 (μ := psb c d μ) (ck := ck) (sk := sk) (Q := Q) (s := s) (u := u) a5.1 a5.2 (by rw [p0]; omega) (by rw [p0, ← a1]; exact hL0) (by rw [p0, ← a1]; exact hL)
  have e3 := fun (ck sk : Nat) (Q : ZO → ZH → Prop) (u : ZV) => c29 (μ := psw c d s μ) (c := c) (H := μ 30 d 1) (ck := ck) (sk := sk) (Q := Q) (u := u) (by rw [w0]; exact a1) a2 a8.2 a8.1 (by rw [psw_50]; exact hL0) (by rw [psw_50]; exact hL) (by rw [psw_50]; exact wlN_I a5.1 a5.2 _)
  have g1 : mu μ 50 c 3 (μ 50 c 3 + 1) 0 0 50 - 1 = c := by rw [mu_g (by decide)]; omega
  have g2 : psb c d μ 0 0 50 - 1 = c := by rw [p0]; omega
  have g3 : mu μ 50 c 3 (μ 50 c 3 + 1) 30 = μ 30 := mu_g (by decide)
  simp only [g1, g3] at e1
  simp only [g2] at e2
  have e1' : ∀ (ck sk : Nat) (Q : ZO → ZH → Prop) (u u' u'' u''' : ZV), G 24 0 [zR 8 0, zR 30 d, u''', u, u', u''] [] (HM (mu μ 50 c 3 (μ 50 c 3 + 1))) ck sk Q ↔ Q (.inl none) (HM (psb c d μ)) := e1
  have e2' : ∀ (ck sk : Nat) (Q : ZO → ZH → Prop) (u : ZV), G 27 0 [zR 8 0, zI s, u] [] (HM (psb c d μ)) ck sk Q ↔ Q (.inl none) (HM (psw c d s μ)) := e2
  have e3' : ∀ (ck sk : Nat) (Q : ZO → ZH → Prop) (u : ZV), G 29 0 [zR 8 0, zI (μ 30 d 1), u] [] (HM (psw c d s μ)) ck sk Q ↔ Q (.inl none) (HM (ps1 c d s μ)) := e3
  have k1 : d < psw c d s μ 0 0 30 := by rw [w0]; exact a4
  have k2 : c < μ 0 0 50 := by omega
  rw [g19_43]
  subst a1
  simp (disch := first | omega | (simp (disch := decide) only [zmu0, mu_g, List.length_nil, List.length_cons]; omega)) only [g19_0, g19_1, g19_4, g19_5, g19_8, g19_11, g19_12, g19_15, g19_16, g19_19, g19_22, g19_23, g19_24, g19_25, g19_28, g19_29, g19_30, g19_31, g19_34, g19_35, g19_36, g19_39, g19_40, g19_44, g19_47, g19_47r, g19_48, g19_51, g19_52, g19_53, g19_56, g19_57, g19_58, g19_61, g19_62, g19_63, g19_66, g19_67, g19_68, g19_71, g19_75, g19_78, g19_81, g19_82, g19_85, g19_86, g19_87, g19_90, g19_93, ob8, oc8, fl8_0, fl8_1, fl8_2, fl8_3, fl8_4, fl8_5, fl8_6, ob30, oc30, fl30_0, wo30_0, fl30_1, wo30_1, fl30_2, fl30_3, fl30_4, fl30_5, fl30_6, fl30_7, wo30_7, fl30_8, wo30_8, fl30_9, wo30_9, fl30_10, wo30_10, ob50, oc50, fl50_0, wo50_0, fl50_1, wo50_1, fl50_2, wo50_2, fl50_3, wo50_3, fl50_4, wo50_4, fl50_5, wo50_5, fl50_6, fl50_7, fl50_8, fl50_9, fl50_10, fl50_11, zoA_at, gback_v, gback_n, zem, zisr, zro_at, zrl_at, mu_g, mu_at, mu_mu, mu_self, not_true, not_false_iff, zb0, zb1, zbnd, zbw, zbz, zne1, zone, mrgI, List.length_nil, List.length_cons, Nat.reduceAdd, Nat.reduceSub, Nat.reduceLeDiff, Nat.zero_le, and_true, true_and, false_and, and_false, true_or, or_true, false_or, or_false, G_ite, z10, z1n, z1and, z1or, z0not, z0and, itn, if_true, if_false, reduceIte, Int.reduceEq, Int.reduceLT, Int.reduceNeg, Nat.reduceEqDiff, ite_self, e1', e2', e3', w30, k1]
theorem ps1_j {i : Int} (h1 : i ≠ 1) (h2 : i ≠ 2) (h4 : i ≠ 4) : ps1 c d s μ 50 c i = mu μ 50 c 3 (μ 50 c 3 + 1) 50 c i := by
  unfold ps1
  rw [bps_j h2 h4, psw_50]
  unfold psb
  rw [blN_j h1, mu_j h1]
theorem ps1_L : ps1 c d s μ 50 c 1 = psb c d μ 50 c 1 := by
  unfold ps1
  rw [bps_j (by decide) (by decide), psw_50]
theorem ps1_52 : ps1 c d s μ 52 = psb c d μ 52 := by
  unfold ps1 psw
  rw [bps_g (by decide) (by decide) (by decide) (by decide), wlN_g (by decide) (by decide)]
theorem ps1_P (h : sI μ c d s) : (0 ≤ ps1 c d s μ 50 c 1 ∧ ps1 c d s μ 50 c 1 ≤ 60) ∧ ∀ l, 0 ≤ l → l < ps1 c d s μ 50 c 1 → (0 ≤ ps1 c d s μ 52 c l ∧ ps1 c d s μ 52 c l < 12) ∧ 0 ≤ ps1 c d s μ 56 c l ∧ ps1 c d s μ 56 c l ≤ 60 := by
  have hpb := psb_I h
  obtain ⟨a1, a2, a3, a4, a5, a6, a7, a8, a9, a10, a11⟩ := h
  have hL0 : 0 ≤ psb c d μ 50 c 1 := hpb.1.1
  have hL : psb c d μ 50 c 1 ≤ 60 := by have := hpb.1.2.1; omega
  have hn := npN_b (c := c) (psw c d s μ 50 c 1).toNat 0 0 (mu (bpz c (μ 30 d 1) (psw c d s μ)) 50 c 2 0) (by omega) (Or.inl rfl) (by rw [mu_at]; omega) (by rw [mu_at]; omega) (fun j h1 h2 => by omega)
  have e : npN c (psw c d s μ 50 c 1).toNat 0 0 (mu (bpz c (μ 30 d 1) (psw c d s μ)) 50 c 2 0) = ps1 c d s μ := rfl
  rw [e, psw_50] at hn
  rw [ps1_L, ps1_52]
  refine ⟨⟨hL0, hL⟩, fun l h1 h2 => ⟨hpb.2 l h1 h2, ?_⟩⟩
  have := hn.2 l h1 (by omega)
  omega
/-- all passes -/
def rnw (c d : Int) (μ : ZU) : ZU × Int := rnN c d (μ 30 d 9).toNat 0 0 (fbg c μ)
def stN (c d s : Int) : Nat → ZU → ZU
  | 0, μ => ps1 c d s μ
  | n + 1, μ => if (rnw c d (ps1 c d s μ)).2 = 0 then (rnw c d (ps1 c d s μ)).1 else stN c d s n (rnw c d (ps1 c d s μ)).1
theorem rnw_g {k : Nat} (h1 : k ≠ 51) (h2 : k ≠ 66) : (rnw c d μ).1 k = μ k := by
  unfold rnw
  rw [rnN_g h1, fbg_g h2]
theorem c19_l : ∀ (n : Nat) (μ : ZU), sI μ c d s → μ 50 c 3 + n = 4 → (n : Int) ≤ 4 → (G 19 43 [zR 8 0, zR 30 d, zR 21 b, zI s] [] (HM μ) ck sk Q ↔ Q (.inl none) (HM (stN c d s n μ)))
  | 0, μ, h, hp, hn => by
    rw [c19_p h (by omega) (by omega)]
    have h1 := ps1_sI h
    have e3 : ps1 c d s μ 50 c 3 = μ 50 c 3 + 1 := by rw [ps1_j (by decide) (by decide) (by decide), mu_at]
    obtain ⟨a1, a2, -⟩ := h1
    have k1 : ¬ ps1 c d s μ 50 c 3 < 5 := by omega
    unfold stN
    rw [g19_74]
    have k3 : ps1 c d s μ 0 0 50 - 1 = c := by omega
    simp (disch := first | omega | (simp (disch := decide) only [zmu0, mu_g, List.length_nil, List.length_cons]; omega)) only [g19_0, g19_1, g19_4, g19_5, g19_8, g19_11, g19_12, g19_15, g19_16, g19_19, g19_22, g19_23, g19_24, g19_25, g19_28, g19_29, g19_30, g19_31, g19_34, g19_35, g19_36, g19_39, g19_40, g19_44, g19_47, g19_47r, g19_48, g19_51, g19_52, g19_53, g19_56, g19_57, g19_58, g19_61, g19_62, g19_63, g19_66, g19_67, g19_68, g19_71, g19_75, g19_78, g19_81, g19_82, g19_85, g19_86, g19_87, g19_90, g19_93, ob8, oc8, fl8_0, fl8_1, fl8_2, fl8_3, fl8_4, fl8_5, fl8_6, ob50, oc50, fl50_0, wo50_0, fl50_1, wo50_1, fl50_2, wo50_2, fl50_3, wo50_3, fl50_4, wo50_4, fl50_5, wo50_5, fl50_6, fl50_7, fl50_8, fl50_9, fl50_10, fl50_11, zoA_at, gback_v, gback_n, zem, zisr, zro_at, zrl_at, mu_g, mu_at, mu_mu, mu_self, not_true, not_false_iff, zb0, zb1, zbnd, zbw, zbz, zne1, zone, mrgI, List.length_nil, List.length_cons, Nat.reduceAdd, Nat.reduceSub, Nat.reduceLeDiff, Nat.zero_le, and_true, true_and, false_and, and_false, true_or, or_true, false_or, or_false, G_ite, z10, z1n, z1and, z1or, z0not, z0and, itn, if_true, if_false, reduceIte, Int.reduceEq, Int.reduceLT, Int.reduceNeg, Nat.reduceEqDiff, ite_self, k1, k3]
  | n + 1, μ, h, hp, hn => by
    rw [c19_p h (by omega) (by omega)]
    have h1 := ps1_sI h
    have hP := ps1_P h
    have e3 : ps1 c d s μ 50 c 3 = μ 50 c 3 + 1 := by rw [ps1_j (by decide) (by decide) (by decide), mu_at]
    have k1 : ps1 c d s μ 50 c 3 < 5 := by omega
    have ih := c19_l n (rnw c d (ps1 c d s μ)).1 (h1.of (rnw_g (by decide) (by decide)) (rnw_g (by decide) (by decide)) (rnw_g (by decide) (by decide)) (rnw_g (by decide) (by decide)) (rnw_g (by decide) (by decide))) (by rw [rnw_g (by decide) (by decide), e3]; omega) (by omega)
    obtain ⟨a1, a2, a3, a4, a5, a6, a7, a8, a9, a10, a11⟩ := h1
    have e4 := fun (ck sk : Nat) (Q : ZO → ZH → Prop) (u u' u'' : ZV) => c33 (μ := ps1 c d s μ) (ck := ck) (sk := sk) (Q := Q) (u := u) (u' := u') (u'' := u'') a1 a2 a3 a4 a6.1 a6.2 a11 hP.1.1 hP.1.2 hP.2 (fun k hk => fbg_g hk)
    have e4' : ∀ (ck sk : Nat) (Q : ZO → ZH → Prop) (u u' u'' : ZV), G 33 0 [zR 8 0, zR 30 d, u, u', u''] [] (HM (ps1 c d s μ)) ck sk Q ↔ Q (.inl (some (zI (rnw c d (ps1 c d s μ)).2))) (HM (rnw c d (ps1 c d s μ)).1) := e4
    unfold stN
    rw [g19_74]
    have k2 : c < ps1 c d s μ 0 0 50 := by omega
    have k3 : ps1 c d s μ 0 0 50 - 1 = c := by omega
    simp (disch := first | omega | (simp (disch := decide) only [zmu0, mu_g, List.length_nil, List.length_cons]; omega)) only [g19_0, g19_1, g19_4, g19_5, g19_8, g19_11, g19_12, g19_15, g19_16, g19_19, g19_22, g19_23, g19_24, g19_25, g19_28, g19_29, g19_30, g19_31, g19_34, g19_35, g19_36, g19_39, g19_40, g19_44, g19_47, g19_47r, g19_48, g19_51, g19_52, g19_53, g19_56, g19_57, g19_58, g19_61, g19_62, g19_63, g19_66, g19_67, g19_68, g19_71, g19_75, g19_78, g19_81, g19_82, g19_85, g19_86, g19_87, g19_90, g19_93, ob8, oc8, fl8_0, fl8_1, fl8_2, fl8_3, fl8_4, fl8_5, fl8_6, ob50, oc50, fl50_0, wo50_0, fl50_1, wo50_1, fl50_2, wo50_2, fl50_3, wo50_3, fl50_4, wo50_4, fl50_5, wo50_5, fl50_6, fl50_7, fl50_8, fl50_9, fl50_10, fl50_11, zoA_at, gback_v, gback_n, zem, zisr, zro_at, zrl_at, mu_g, mu_at, mu_mu, mu_self, not_true, not_false_iff, zb0, zb1, zbnd, zbw, zbz, zne1, zone, mrgI, List.length_nil, List.length_cons, Nat.reduceAdd, Nat.reduceSub, Nat.reduceLeDiff, Nat.zero_le, and_true, true_and, false_and, and_false, true_or, or_true, false_or, or_false, G_ite, z10, z1n, z1and, z1or, z0not, z0and, itn, if_true, if_false, reduceIte, Int.reduceEq, Int.reduceLT, Int.reduceNeg, Nat.reduceEqDiff, ite_self, k1, k3, e4']
    by_cases h9 : (rnw c d (ps1 c d s μ)).2 = 0
    · simp only [h9, if_true]
    · simp only [h9, if_false]
      exact ih
end ZLA
