/-! ===== the law: what its setting leaves; a job's build beside it ===== -/
/-- the job j holds the build B, set as the law's rows say -/
def AS (ν : ZU) (t j B : Int) : Prop := RW ν t ∧ (0 ≤ j ∧ j < ν 0 0 40) ∧ ν 40 j 4 = B ∧ (0 ≤ B ∧ B < ν 0 0 41) ∧ ¬ ν 20 (ν 40 j 1) 3 = 0 ∧ SHT ν B ν 0 (ν 40 j 1) ∧ SLT ν ν (ν 40 j 1) ∧ lnP ν
section ZPO
variable {ck sk : Nat} {Q : ZO → ZH → Prop} {μ ν κ β : ZU} {a b c d e f g h i j k l m p r s t t' v w x y z L H M R W C J B : Int} {u u1 u2 u3 u4 u5 u6 u7 u8 u9 u10 : ZV}
theorem l1p_r (hD : ldB μ) (hE : lnE μ) (h0 : 0 ≤ μ 0 0 113) : (∀ q, q ≠ 0 → q ≠ 107 → q ≠ 108 → q ≠ 109 → q ≠ 110 → q ≠ 113 → q ≠ 114 → l1p a s μ q = μ q) ∧ (∀ i j, ¬ (i = 0 ∧ j = 113) → l1p a s μ 0 i j = μ 0 i j) ∧ 0 ≤ l1p a s μ 0 0 113 ∧ lnP (l1p a s μ) ∧ lnE (l1p a s μ) := by
  refine ⟨fun q q0 q7 q8 q9 _ q13 q14 => l1p_g q0 q7 q8 q9 q13 q14, fun i j hj => ?_, ?_, l1p_PE hD hE⟩
  · rw [l1p_0, mPt_0 hj]
  · rw [l1p_0, mPt_c]
    omega
theorem ssN_r : ∀ (n : Nat) (μ : ZU), ldB μ → lnE μ → 0 ≤ μ 0 0 113 → (∀ q, q ≠ 0 → q ≠ 107 → q ≠ 108 → q ≠ 109 → q ≠ 110 → q ≠ 113 → q ≠ 114 → ssN a s n μ q = μ q) ∧ (∀ i j, ¬ (i = 0 ∧ j = 113) → ssN a s n μ 0 i j = μ 0 i j) ∧ 0 ≤ ssN a s n μ 0 0 113 ∧ lnP (ssN a s n μ) ∧ lnE (ssN a s n μ)
  | 0, μ, hD, hE, h0 => l1p_r hD hE h0
  | n + 1, μ, hD, hE, h0 => by
    have h1 := l1p_r (a := a) (s := s) hD hE h0
    by_cases q : stl (l1p a s μ)
    · have e : ssN a s (n + 1) μ = l1p a s μ := if_pos q
      rw [e]
      exact h1
    · have e : ssN a s (n + 1) μ = ssN a s n (rhN (μ 106 0 2).toNat 0 (l1p a s μ)) := if_neg q
      rw [e]
      obtain ⟨g1, g2, g3, g4, g5⟩ := h1
      have r : ∀ q, q ≠ 110 → rhN (μ 106 0 2).toNat 0 (l1p a s μ) q = l1p a s μ q := fun q hq => rhN_g hq _ _ _
      have g := fun q a b c d e f g => (r q e).trans (g1 q a b c d e f g)
      obtain ⟨i1, i2, i3, i4⟩ := ssN_r n (rhN (μ 106 0 2).toNat 0 (l1p a s μ)) (ldB_of (g 104 (by decide) (by decide) (by decide) (by decide) (by decide) (by decide) (by decide)) (g 105 (by decide) (by decide) (by decide) (by decide) (by decide) (by decide) (by decide)) (g 106 (by decide) (by decide) (by decide) (by decide) (by decide) (by decide) (by decide)) hD) (lnE_of (r _ (by decide)) (r _ (by decide)) g5) (by rw [r 0 (by decide)]; exact g3)
      refine ⟨fun q a b c d e f h => (i1 q a b c d e f h).trans (g q a b c d e f h), fun i j hj => ?_, i3, i4⟩
      rw [i2 i j hj, r 0 (by decide), g2 i j hj]
theorem ssS_r (hD : ldB μ) (hE : lnE μ) (h0 : 0 ≤ μ 0 0 113) : (∀ q, q ≠ 0 → q ≠ 107 → q ≠ 108 → q ≠ 109 → q ≠ 110 → q ≠ 113 → q ≠ 114 → ssS a μ q = μ q) ∧ (∀ i j, ¬ (i = 0 ∧ j = 113) → ssS a μ 0 i j = μ 0 i j) ∧ 0 ≤ ssS a μ 0 0 113 ∧ lnP (ssS a μ) ∧ lnE (ssS a μ) := by
  have g : ∀ q, q ≠ 107 → q ≠ 110 → ss0 μ q = μ q := fun q a b => ss0_g a b
  obtain ⟨i1, i2, i3, i4⟩ := ssN_r (a := a) (s := lsp μ a) 4 (ss0 μ) (ldB_of (g _ (by decide) (by decide)) (g _ (by decide) (by decide)) (g _ (by decide) (by decide)) hD) (lnE_of (g _ (by decide) (by decide)) (g _ (by decide) (by decide)) hE) (by rw [g 0 (by decide) (by decide)]; exact h0)
  refine ⟨fun q a b c d e f h => (i1 q a b c d e f h).trans (g q b e), fun i j hj => ?_, i3, i4⟩
  have e := i2 i j hj
  rw [g 0 (by decide) (by decide)] at e
  exact e
theorem RW_ss (h : RW μ t) : RW (ssS a μ) t := by
  have hD := h.2.2.2.2.1.2.2.2.2.1
  have hE := h.2.2.2.2.2.2.2.2
  have ha := h.2.1.2.2.2.2.2
  obtain ⟨g1, g2, g3, g4, g5⟩ := ssS_r (a := a) hD hE ha.2.1
  refine RW_keep h (Int.le_refl _) h.1.2.1 (fun q q1 q2 => g1 q (by omega) (by omega) (by omega) (by omega) (by omega) (by omega) (by omega)) (fun i j hj => g2 i j (by omega)) g3 (by rw [g2 _ _ (by omega)]; exact ha.2.2) (fun q q1 q2 => g1 q (by omega) (by omega) (by omega) (by omega) (by omega) (by omega) (by omega)) (g1 _ (by decide) (by decide) (by decide) (by decide) (by decide) (by decide) (by decide)) (g1 _ (by decide) (by decide) (by decide) (by decide) (by decide) (by decide) (by decide)) (fun j _ _ => by rw [g1 106 (by decide) (by decide) (by decide) (by decide) (by decide) (by decide) (by decide)]) (fun b _ _ k k0 k1 => by rw [g1 k (by omega) (by omega) (by omega) (by omega) (by omega) (by omega) (by omega)]) g5
/-- setting anew leaves all that is kept -/
theorem RW_an (h : RW μ t) : RW (stt (μ 0 0 50 - 1) d f μ) t := by
  have ha := h.2.1
  have ha5 := ha.2.2.2.2.1
  refine RW_keep h (Int.le_refl _) h.1.2.1 (fun q q1 q2 => stt_g (by omega)) (fun i j hj => by rw [stt_g (by omega)]) (by rw [stt_g (by omega)]; exact ha.2.2.2.2.2.2.1) (by rw [stt_g (by omega)]; exact ha.2.2.2.2.2.2.2) (fun q q1 q2 => stt_g (by omega)) (stt_g (by omega)) (stt_g (by omega)) (fun j _ _ => by rw [stt_g (by omega)]) (fun b b0 b1 k k0 k1 => stt_o (by omega) ⟨k0, k1⟩) (lnE_of (stt_g (by omega)) (stt_g (by omega)) h.2.2.2.2.2.2.2.2)
theorem SLT_of (h4 : ν 104 = μ 104) (h6 : ν 106 = μ 106) (h7 : ν 107 = μ 107) (h8 : ν 108 = μ 108) (h9 : ν 109 = μ 109) (h10 : ν 110 = μ 110) (hs : sfi μ ν 0 i) (h : SLT μ μ i) : SLT ν ν i := by
  obtain ⟨e1, e2⟩ := inp_sf hs
  unfold SLT LR
  rw [e1, e2, h4, h6, h7, h8, h9, h10]
  exact h
theorem ASa (h : AS ν t j B) : AS (stt (ν 0 0 50 - 1) 0 (ν 40 j 1) ν) t j B := by
  obtain ⟨h1, h2, h3, h4, h5, h6, h7, h8⟩ := h
  have ha5 := h1.2.1.2.2.2.2.1
  have g : ∀ q : Nat, q < 50 ∨ 66 < q → stt (ν 0 0 50 - 1) 0 (ν 40 j 1) ν q = ν q := fun q hq => stt_g hq
  have o : ∀ k, 50 ≤ k ∧ k ≤ 56 → stt (ν 0 0 50 - 1) 0 (ν 40 j 1) ν k B = ν k B := fun k hk => stt_o (by omega) hk
  have hs : sfi ν (stt (ν 0 0 50 - 1) 0 (ν 40 j 1) ν) 0 (ν 40 j 1) := sfi_of (g _ (by omega)) (g _ (by omega)) (g _ (by omega)) (g _ (by omega)) (g _ (by omega)) (g _ (by omega)) (by rw [g 22 (by omega)]) (by rw [g 23 (by omega)]) (by rw [g 24 (by omega)])
  refine ⟨RW_an h1, by rw [g 0 (by omega)]; exact h2, by rw [g 40 (by omega)]; exact h3, by rw [g 0 (by omega)]; exact h4, by rw [g 40 (by omega), g 20 (by omega)]; exact h5, ?_, ?_, lnP_of (g _ (by omega)) (g _ (by omega)) (g _ (by omega)) h8⟩
  · rw [g 40 (by omega)]
    exact SHT_of (SHT_sf h6 hs) (o _ (by omega)) (o _ (by omega)) (o _ (by omega)) (o _ (by omega)) (o _ (by omega)) (o _ (by omega)) (o _ (by omega))
  · rw [g 40 (by omega)]
    exact SLT_of (g _ (by omega)) (g _ (by omega)) (g _ (by omega)) (g _ (by omega)) (g _ (by omega)) (g _ (by omega)) hs h7
theorem ASf (h : AS ν t j B) : ν 50 B 2 = ν 107 0 1 ∧ ν 50 B 1 = ν 107 0 0 ∧ ν 50 B 3 = ν 107 0 2 ∧ ν 50 B 5 = ν 107 0 4 ∧ ν 50 B 4 = ν 107 0 3 ∧ ν 50 B 0 = ν 106 0 2 := by
  obtain ⟨h1, h2, h3, h4, h5, ⟨⟨s1, s2, s3, s4⟩, s5, s6, s7, s8⟩, ⟨⟨l1, l2, l3, l4, l5⟩, l6, l7, l8⟩, h8⟩ := h
  have hd := h1.2.2.2.2.1.1
  exact ⟨s2.trans l4.symm, s1.1.trans l1.symm, s5.trans l6.symm, s7.trans l8.symm, s3.trans l5.symm, s8.trans hd.2.2.1⟩
theorem ASl (h : AS ν t j B) (k0 : 0 ≤ k) (k1 : k < ν 107 0 0) : ν 52 B k = ν 108 0 k % 16 ∧ ν 53 B k = ν 108 0 k / 16 % 64 ∧ ν 54 B k = ν 108 0 k / 1024 ∧ ν 55 B k = ν 109 0 k % 1024 ∧ ν 56 B k = ν 109 0 k / 1024 ∧ 0 ≤ ν 108 0 k ∧ 0 ≤ ν 109 0 k := by
  obtain ⟨h1, h2, h3, h4, h5, ⟨⟨s1, s2, s3, s4⟩, s5, s6, s7, s8⟩, ⟨⟨l1, l2, l3, l4, l5⟩, l6, l7, l8⟩, h8⟩ := h
  rw [l1] at k1
  obtain ⟨t1, t2, t3, t4⟩ := s1.2.2 k k0 k1
  obtain ⟨r1, r2, r3, r4, r5, r6⟩ := l3 k k0 k1
  have t5 := s4 k k0 k1
  have hp := (pNm_b (I := inp ν 0 (ν 40 j 1)) (sh := (pEnd (inp ν 0 (ν 40 j 1))).1)).2.2 k k0 k1
  rw [t1, t2, t3, t4, t5, r1, r5]
  omega
theorem ASw (h : AS ν t j B) (k0 : 0 ≤ k) (k1 : k < ν 106 0 2) : ν 51 B k = if ν 104 0 k < 0 then ν 110 0 k else -1 := by
  obtain ⟨h1, h2, h3, h4, h5, ⟨⟨s1, s2, s3, s4⟩, s5, s6, s7, s8⟩, ⟨⟨l1, l2, l3, l4, l5⟩, l6, l7, l8⟩, h8⟩ := h
  obtain ⟨d1, d2, d3, d4, d5, d6, d7, d9⟩ := h1.2.2.2.2.1
  obtain ⟨q1, q2, q3⟩ := d9 k k0 k1
  rw [s6 k k0 (by omega)]
  rcases q3 with ⟨r1, r2, r3, r4⟩ | ⟨r1, r2, r3⟩
  · rw [if_neg (by omega), if_pos r1, l7 k k0 k1 r1]
  · rw [if_pos r2, if_neg (by omega)]
theorem ASn (h : AS ν t j B) : stt (ν 0 0 50 - 1) 0 (ν 40 j 1) ν 50 (ν 0 0 50 - 1) 1 = ν 107 0 0 ∧ ∀ k, 0 ≤ k → k < ν 107 0 0 → stt (ν 0 0 50 - 1) 0 (ν 40 j 1) ν 56 (ν 0 0 50 - 1) k = ν 109 0 k / 1024 := by
  have hl := fun k => ASl (k := k) h
  obtain ⟨h1, h2, h3, h4, h5, ⟨⟨s1, s2, s3, s4⟩, s5, s6, s7, s8⟩, ⟨⟨l1, l2, l3, l4, l5⟩, l6, l7, l8⟩, h8⟩ := h
  obtain ⟨d1, d2, d3, d4, d5, d6, d7, d9⟩ := h1.2.2.2.2.1
  have a3 := h1.2.1.2.2.1
  have hd := h1.dcOK.2 0 (by omega) (by omega)
  have hS := stt_SHT (c := ν 0 0 50 - 1) (d := 0) (b := ν 40 j 1) (μ := ν) (by have := d5.1; omega) (fun k k0 k1 => hd.2.2.2.1 k k0 k1)
  obtain ⟨⟨r1, r2, r3, r4⟩, -⟩ := hS
  refine ⟨r1.1.trans l1.symm, fun k k0 k1 => ?_⟩
  rw [r4 k k0 (by rw [← l1]; exact k1), ← (hl k k0 k1).2.2.2.2.1, s4 k k0 (by rw [← l1]; exact k1)]
theorem ksl_self : ksl μ a a 0 i = true := by
  unfold ksl
  rw [Int.zero_add]
  exact decide_eq_true ⟨rfl, rfl, rfl⟩
theorem puN_self : ∀ (n : Nat) (i m s : Int), puN μ a a n i m m s = s
  | 0, _, _, _ => rfl
  | n + 1, i, m, s => by
    have e : smd μ a m (eop μ a i m) a m (eop μ a i m) = true := by
      unfold smd
      refine decide_eq_true ⟨rfl, zall_iff.mpr fun j _ _ => ?_⟩
      rw [Int.sub_self]
      exact ksl_self
    unfold puN
    rw [if_pos e]
    exact puN_self n _ _ _
theorem pul_self : pul μ a a = 0 := puN_self _ _ _ _
end ZPO
