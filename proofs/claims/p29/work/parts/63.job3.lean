/-! ===== the law: jobs stopped, ran: what stays ===== -/
section ZPT
variable {μ ν κ β M : ZU} {a b c d e f g h i j k l m o p q r s t t' v w x y z L H R W C J B K : Int}
theorem dcOK_G (h : dcOK M t) : dcOK (mG o x M) t := by
  unfold dcOK at h ⊢
  rw [mG_g (by decide), mG_g (by decide), mG_g (by decide), mG_g (by decide), mG_g (by decide), mG_g (by decide)]
  exact h
theorem flOK_G (h : flOK M i) : flOK (mG o x M) i := by
  unfold flOK at h ⊢
  rw [mG_g (by decide)]
  exact h
theorem jobOK_G (h : jobOK M) : jobOK (mG o x M) := by
  unfold jobOK at h ⊢
  rw [mG_g (by decide), mG_g (by decide)]
  exact h
theorem bldOK_G (h : bldOK M) : bldOK (mG o x M) := by
  unfold bldOK at h ⊢
  rw [mG_g (by decide), mG_g (by decide), mG_g (by decide)]
  exact h
theorem kbi_G : kbi (mG o x M) d i = kbi M d i := by
  unfold kbi kbp svd ksm
  simp (disch := decide) only [mG_g]
/-- what the class's setting leaves, before the job is told -/
theorem stt_G (h : RW M t) (hi : 0 ≤ i ∧ i < M 0 0 20) : SHT (stt (M 0 0 50 - 1) 0 i (mG o x M)) (M 0 0 50 - 1) M 0 i ∧ (0 ≤ stt (M 0 0 50 - 1) 0 i (mG o x M) 50 (M 0 0 50 - 1) 1 ∧ stt (M 0 0 50 - 1) 0 i (mG o x M) 50 (M 0 0 50 - 1) 1 ≤ 60) ∧ (0 ≤ stt (M 0 0 50 - 1) 0 i (mG o x M) 50 (M 0 0 50 - 1) 2 ∧ stt (M 0 0 50 - 1) 0 i (mG o x M) 50 (M 0 0 50 - 1) 2 ≤ 60) := by
  have a3 := h.2.1.2.2.1
  have a5 := h.2.1.2.2.2.2.1
  have hd5 := h.2.2.2.2.1.2.2.2.2.1.1
  have hd1 := h.2.2.2.2.1.1
  have hdc := h.dcOK
  have hd := hdc.2 0 (by omega) (by omega)
  have hl := stt_L (μ := mG o x M) (c := M 0 0 50 - 1) (d := 0) (b := i) (by rw [mG_g (by decide)]) (by omega) (by omega) (by rw [mG_g (by decide)]; omega) (dcOK_G hdc) (flOK_G (h.flOK hi.1 hi.2))
  refine ⟨?_, hl⟩
  have hS := stt_SHT (c := M 0 0 50 - 1) (d := 0) (b := i) (μ := mG o x M) (by rw [mG_g (by decide)]; omega) (fun k k0 k1 => by
    rw [mG_g (by decide)] at k1 ⊢
    exact hd.2.2.2.1 k k0 k1)
  exact SHT_sf hS (sfi_of (mG_g (by decide)).symm (mG_g (by decide)).symm (mG_g (by decide)).symm (mG_g (by decide)).symm (mG_g (by decide)).symm (mG_g (by decide)).symm (by rw [mG_g (by decide)]) (by rw [mG_g (by decide)]) (by rw [mG_g (by decide)]))
/-- the class's cost is the law's -/
theorem cost_eq (h : RW M t) (hi : 0 ≤ i ∧ i < M 0 0 20) (hL : SLT M M i) : stt (M 0 0 50 - 1) 0 i (mG o x M) 50 (M 0 0 50 - 1) 3 * (5 + stt (M 0 0 50 - 1) 0 i (mG o x M) 50 (M 0 0 50 - 1) 1) = M 107 0 2 * (5 + M 107 0 0) := by
  obtain ⟨⟨s1, s2, s3, s4⟩, s5, s6, s7, s8⟩ := (stt_G (o := o) (x := x) h hi).1
  obtain ⟨⟨l1, l2, l3, l4, l5⟩, l6, l7, l8⟩ := hL
  rw [s5, s1.1, l6, l1]
theorem RW_fS (h : RW M t) (ht : t + 1 ≤ 100) (h40 : M 0 0 40 < 40) (hi : 0 ≤ i ∧ i < M 0 0 20) (ho : 0 ≤ o ∧ o < 4) : RW (fS o i M) (t + 1) := by
  have a5 := h.2.1.2.2.2.2.1
  have g : ∀ q : Nat, q ≠ 0 → q ≠ 2 → q ≠ 7 → q ≠ 40 → q ≠ 106 → (q < 50 ∨ 66 < q) → fS o i M q = M q := fun q h0 h2 h7 h40 h6 hr => by
    unfold fS
    rw [mJb_g h0 h40, mu_g h2, mu_g h7, stt_g hr, mG_g h6]
  have gs : ∀ q : Nat, 50 ≤ q → q ≤ 56 → ∀ b, b < M 0 0 41 → fS o i M q b = M q b := fun q h0 h2 b hb => by
    unfold fS
    rw [mJb_g (by omega) (by omega), mu_g (by omega), mu_g (by omega), stt_o (by omega) ⟨h0, h2⟩, mG_g (by omega)]
  have g0 : ∀ p j, ¬ (p = 0 ∧ j = 40) → fS o i M 0 p j = M 0 p j := fun p j hj => by
    unfold fS
    rw [mJb_0 hj, mu_g (by decide), mu_g (by decide), stt_g (by omega), mG_g (by decide)]
  have g2 : ∀ j, j ≠ 9 → fS o i M 2 0 j = M 2 0 j := fun j hj => by
    unfold fS
    rw [mJb_g (by decide) (by decide), mu_j hj, mu_g (by decide), stt_g (by omega), mG_g (by decide)]
  have g6 : fS o i M 106 = mG o (M 7 0 o) M 106 := by
    unfold fS
    rw [mJb_g (by decide) (by decide), mu_g (by decide), mu_g (by decide), stt_g (by omega)]
  have g7 : ∀ j, fS o i M 7 0 j = if j = o then 0 else M 7 0 j := fun j => by
    unfold fS
    rw [mJb_g (by decide) (by decide), mu_g (by decide)]
    by_cases q : j = o
    · rw [q, mu_at, if_pos rfl]
    · rw [mu_j q, if_neg q, stt_g (by omega), mG_g (by decide)]
  refine RW_job (i := i) (B := -1) h ht h40 hi (Or.inl rfl) (fun p j hj => g0 p j (by omega)) ?_ ?_ ?_ (fun j hj => g2 j (by omega)) (fun j hj => by rw [g6, mG_j (by omega) (by omega)]) (fun q hq => g q (by omega) (by omega) (by omega) (by omega) (by omega) (by omega)) ?_ (fun j hj => ?_) (fun o' a b => ?_) (lnE_of (g _ (by decide) (by decide) (by decide) (by decide) (by decide) (by decide)) (g _ (by decide) (by decide) (by decide) (by decide) (by decide) (by decide)) h.2.2.2.2.2.2.2.2) (Or.inl ⟨g0 _ _ (by omega), g2 _ (by omega), by rw [g6, mG_j (by omega) (by omega)], g0 _ _ (by omega)⟩) (fun b b0 b1 => ⟨by rw [g 41 (by decide) (by decide) (by decide) (by decide) (by decide) (by decide)], fun k k0 k1 => gs k k0 k1 b b1, by rw [g 111 (by decide) (by decide) (by decide) (by decide) (by decide) (by decide)], fun j _ _ => by rw [g 112 (by decide) (by decide) (by decide) (by decide) (by decide) (by decide)]⟩)
  · exact mJb_n
  · unfold fS
    rw [mJb_g (by decide) (by decide), mu_at]
  · rw [g6, mG_12 ho.1, h.2.1.2.2.2.1.1]
  · unfold fS
    rw [mJb_at, mJb_at, mJb_at]
    exact ⟨rfl, rfl, rfl⟩
  · unfold fS
    rw [mJb_o hj, mu_g (by decide), mu_g (by decide), stt_g (by omega), mG_g (by decide)]
  · have e := h.2.2.2.2.2.1 o' a b
    rw [g6, g7]
    by_cases q : o' = o
    · rw [q, mG_o, if_pos rfl]
      rw [q] at e
      omega
    · rw [mG_j (by omega) (by omega), if_neg q]
      omega
theorem RW_fV (h : RW M t) (ht : t + 1 ≤ 100) (h40 : M 0 0 40 < 40) (h41 : M 0 0 41 < 6) (hi : 0 ≤ i ∧ i < M 0 0 20) (ho : 0 ≤ o ∧ o < 4) (hx : 0 ≤ x ∧ x ≤ M 7 0 o) (hA : ¬ M 20 i 3 = 0) (hL : SLT M M i) (hP : lnP M) : AS (fV o i x M) (t + 1) (M 0 0 40) (M 0 0 41) := by
  have a4 := h.2.1.2.2.2.1
  have a5 := h.2.1.2.2.2.2.1
  have hd := h.2.2.2.2.1
  have hrd := h.rdb (i := i)
  obtain ⟨hS, hl1, hl2⟩ := stt_G (o := o) (x := x) h hi
  have ec : M 0 0 50 - 1 = M 0 0 41 := by omega
  rw [ec] at hS hl1 hl2
  have g : ∀ q : Nat, q ≠ 0 → q ≠ 2 → q ≠ 7 → q ≠ 40 → q ≠ 41 → q ≠ 106 → q ≠ 111 → q ≠ 112 → (q < 50 ∨ 66 < q) → fV o i x M q = M q := fun q h0 h2 h7 h40 h41 h6 h11 h12 hr => by
    unfold fV fR
    rw [mu_g h6, vN_g h12, mu_g h11, mJb_g h0 h40, mu_g h2, mBd_g h0 h41 (by omega), mu_g h2, mu_g h7, stt_g hr, mG_g h6]
  have gs : ∀ q : Nat, 50 ≤ q → q ≤ 56 → ∀ b, b ≤ M 0 0 41 → fV o i x M q b = stt (M 0 0 41) 0 i (mG o x M) q b := fun q h0 h2 b hb => by
    unfold fV fR
    rw [mu_g (by omega), vN_g (by omega), mu_g (by omega), mJb_g (by omega) (by omega), mu_g (by omega), mBd_s ⟨h0, h2⟩ (by omega), mu_g (by omega), mu_g (by omega), ec]
  have go : ∀ q : Nat, 50 ≤ q → q ≤ 56 → ∀ b, b < M 0 0 41 → fV o i x M q b = M q b := fun q h0 h2 b hb => by
    rw [gs q h0 h2 b (by omega), stt_o (by omega) ⟨h0, h2⟩, mG_g (by omega)]
  have g0 : ∀ p j, ¬ (p = 0 ∧ (j = 40 ∨ j = 41 ∨ j = 50)) → fV o i x M 0 p j = M 0 p j := fun p j hj => by
    unfold fV fR
    rw [mu_g (by decide), vN_g (by decide), mu_g (by decide), mJb_0 (by omega), mu_g (by decide), mBd_0 (by omega), mu_g (by decide), mu_g (by decide), stt_g (by omega), mG_g (by decide)]
  have c41 : fV o i x M 0 0 41 = M 0 0 41 + 1 := by
    unfold fV fR
    rw [mu_g (by decide), vN_g (by decide), mu_g (by decide), mJb_0 (by omega), mu_g (by decide), mBd_c.1]
  have c50 : fV o i x M 0 0 50 = M 0 0 41 + 2 := by
    unfold fV fR
    rw [mu_g (by decide), vN_g (by decide), mu_g (by decide), mJb_0 (by omega), mu_g (by decide), mBd_c.2]
  have c40 : fV o i x M 0 0 40 = M 0 0 40 + 1 := by
    unfold fV fR
    rw [mu_g (by decide), vN_g (by decide), mu_g (by decide), mJb_n]
  have g2 : ∀ j, j ≠ 9 → j ≠ 10 → fV o i x M 2 0 j = M 2 0 j := fun j hj hj2 => by
    unfold fV fR
    rw [mu_g (by decide), vN_g (by decide), mu_g (by decide), mJb_g (by decide) (by decide), mu_j hj, mBd_g (by decide) (by decide) (by decide), mu_j hj2, mu_g (by decide), stt_g (by omega), mG_g (by decide)]
  have g29 : fV o i x M 2 0 9 = M 0 0 40 + 1 := by
    unfold fV fR
    rw [mu_g (by decide), vN_g (by decide), mu_g (by decide), mJb_g (by decide) (by decide), mu_at]
  have g210 : fV o i x M 2 0 10 = M 0 0 41 + 1 := by
    unfold fV fR
    rw [mu_g (by decide), vN_g (by decide), mu_g (by decide), mJb_g (by decide) (by decide), mu_j (by decide), mBd_g (by decide) (by decide) (by decide), mu_at]
  have g6 : ∀ j, j ≠ 13 → fV o i x M 106 0 j = mG o x M 106 0 j := fun j hj => by
    unfold fV fR
    rw [mu_j hj, vN_g (by decide), mu_g (by decide), mJb_g (by decide) (by decide), mu_g (by decide), mBd_g (by decide) (by decide) (by decide), mu_g (by decide), mu_g (by decide), stt_g (by omega)]
  have g613 : fV o i x M 106 0 13 = M 0 0 41 + 1 := by
    unfold fV
    rw [mu_at]
  have g7 : ∀ j, fV o i x M 7 0 j = if j = o then M 7 0 o - x else M 7 0 j := fun j => by
    unfold fV fR
    rw [mu_g (by decide), vN_g (by decide), mu_g (by decide), mJb_g (by decide) (by decide), mu_g (by decide), mBd_g (by decide) (by decide) (by decide), mu_g (by decide)]
    by_cases q : j = o
    · rw [q, mu_at, if_pos rfl]
    · rw [mu_j q, if_neg q, stt_g (by omega), mG_g (by decide)]
  have g40 : ∀ j, j ≠ M 0 0 40 → fV o i x M 40 j = M 40 j := fun j hj => by
    unfold fV fR
    rw [mu_g (by decide), vN_g (by decide), mu_g (by decide), mJb_o hj, mu_g (by decide), mBd_g (by decide) (by decide) (by decide), mu_g (by decide), mu_g (by decide), stt_g (by omega), mG_g (by decide)]
  have j40 : fV o i x M 40 (M 0 0 40) 0 = 0 ∧ fV o i x M 40 (M 0 0 40) 1 = i ∧ fV o i x M 40 (M 0 0 40) 4 = M 0 0 41 := by
    unfold fV fR
    rw [mu_g (by decide), vN_g (by decide), mu_g (by decide), mJb_at, mJb_at, mJb_at]
    exact ⟨rfl, rfl, rfl⟩
  have b41 : ∀ j, fV o i x M 41 (M 0 0 41) j = if j = 0 then M 0 0 41 else if j = 1 then M 30 0 10 else if j = 2 then 0 else if j = 3 then i else 0 := fun j => by
    unfold fV fR
    rw [mu_g (by decide), vN_g (by decide), mu_g (by decide), mJb_g (by decide) (by decide), mu_g (by decide), mBd_41]
  have o41 : ∀ b, b ≠ M 0 0 41 → fV o i x M 41 b = M 41 b := fun b hb => by
    unfold fV fR
    rw [mu_g (by decide), vN_g (by decide), mu_g (by decide), mJb_g (by decide) (by decide), mu_g (by decide), mBd_o hb, mu_g (by decide), mu_g (by decide), stt_g (by omega), mG_g (by decide)]
  have o111 : ∀ b, b ≠ M 0 0 41 → fV o i x M 111 0 b = M 111 0 b := fun b hb => by
    unfold fV fR
    rw [mu_g (by decide), vN_g (by decide), mu_j hb, mJb_g (by decide) (by decide), mu_g (by decide), mBd_g (by decide) (by decide) (by decide), mu_g (by decide), mu_g (by decide), stt_g (by omega), mG_g (by decide)]
  have n111 : fV o i x M 111 0 (M 0 0 41) = M 106 0 4 + 1024 * M 107 0 4 := by
    unfold fV
    rw [mu_g (by decide), vN_g (by decide), mu_at]
  have o112 : ∀ y, y < 10 * M 0 0 41 → fV o i x M 112 0 y = M 112 0 y := fun y hy => by
    unfold fV fR
    rw [mu_g (by decide), vN_o _ _ _ _ (by omega) hy, mu_g (by decide), mJb_g (by decide) (by decide), mu_g (by decide), mBd_g (by decide) (by decide) (by decide), mu_g (by decide), mu_g (by decide), stt_g (by omega), mG_g (by decide)]
  have gl : ∀ q : Nat, (q = 101 ∨ q = 103) → fV o i x M q = M q := fun q hq => g q (by omega) (by omega) (by omega) (by omega) (by omega) (by omega) (by omega) (by omega) (by omega)
  have hlf : lfv (fV o i x M) i = lfv M i := lfv_congr (by rw [gl 101 (by omega)]) (by rw [gl 103 (by omega)])
  have n112 : ∀ j, 0 ≤ j → j < 10 → fV o i x M 112 0 (10 * M 0 0 41 + j) = lfv M i j := fun j j0 j1 => by
    have e : lfv (mu (fR o i x M) 111 0 (M 0 0 41) (M 106 0 4 + 1024 * M 107 0 4)) i = lfv (fV o i x M) i := by
      refine lfv_congr ?_ ?_
      · unfold fV
        rw [mu_g (k' := 101) (by decide), mu_g (k := 106) (by decide), vN_g (by decide), mu_g (by decide)]
      · unfold fV
        rw [mu_g (k' := 103) (by decide), mu_g (k := 106) (by decide), vN_g (by decide), mu_g (by decide)]
    have e2 : fV o i x M 112 0 (10 * M 0 0 41 + j) = vN (M 0 0 41) i 10 0 (mu (fR o i x M) 111 0 (M 0 0 41) (M 106 0 4 + 1024 * M 107 0 4)) 112 0 (10 * M 0 0 41 + j) := by
      unfold fV
      rw [mu_g (by decide)]
    rw [e2, vN_at, if_pos (by omega), e, hlf]
  generalize fV o i x M = Φ at *
  have gd : ∀ q : Nat, (8 ≤ q ∧ q ≤ 39) ∨ (101 ≤ q ∧ q < 106) ∨ (107 ≤ q ∧ q ≤ 110) → Φ q = M q := fun q hq => g q (by omega) (by omega) (by omega) (by omega) (by omega) (by omega) (by omega) (by omega) (by omega)
  have hs : sfi M Φ 0 i := sfi_of (gd _ (by omega)) (gd _ (by omega)) (gd _ (by omega)) (gd _ (by omega)) (gd _ (by omega)) (gd _ (by omega)) (by rw [gd 22 (by omega)]) (by rw [gd 23 (by omega)]) (by rw [gd 24 (by omega)])
  have gm := fun (q : Nat) a b => gs q a b (M 0 0 41) (Int.le_refl _)
  have hSm : SHT Φ (M 0 0 41) Φ 0 i := SHT_of (SHT_sf hS hs) (gm _ (by omega) (by omega)) (gm _ (by omega) (by omega)) (gm _ (by omega) (by omega)) (gm _ (by omega) (by omega)) (gm _ (by omega) (by omega)) (gm _ (by omega) (by omega)) (gm _ (by omega) (by omega))
  have hS5 := hS.2.2.2.1
  have hS0 := hS.2.2.2.2
  have hL4 := hL.2.2.2
  have hk : RWk Φ (M 0 0 41) := by
    unfold RWk
    rw [b41, b41, b41, b41, n111, gm 50 (by omega) (by omega), gd 30 (by omega), hS5, hS0, g0 0 20 (by omega), if_pos rfl, if_neg (by decide), if_pos rfl, if_neg (by decide), if_neg (by decide), if_pos rfl, if_neg (by decide), if_neg (by decide), if_neg (by decide), if_pos rfl, hL4, hlf]
    have hd1 := hd.1
    have hd2 := hd.2.1
    have hd5 := hd.2.2.2.2.1.1
    exact ⟨rfl, rfl, hi, ⟨by omega, Int.le_refl _⟩, by omega, hrd, n112, ⟨by omega, hl1, hl2⟩, fun _ => hSm⟩
  have hr : RW Φ (t + 1) := by
    refine RW_job (i := i) (B := M 0 0 41) h ht h40 hi (Or.inr (by omega)) g0 c40 g29 ?_ (fun j hj => g2 j (by omega) (by omega)) (fun j hj => by rw [g6 j (by omega), mG_j (by omega) (by omega)]) (fun q hq => gd q (by omega)) j40 g40 (fun o' a b => ?_) (lnE_of (gd _ (by omega)) (gd _ (by omega)) h.2.2.2.2.2.2.2.2) (Or.inr ⟨c41, g210, g613, c50, rfl, h41, hk⟩) (fun b b0 b1 => ⟨o41 b (by omega), fun k k0 k1 => go k k0 k1 b b1, o111 b (by omega), fun j _ _ => o112 _ (by omega)⟩)
    · rw [g6 12 (by omega), mG_12 ho.1, h.2.1.2.2.2.1.1]
    · have e := h.2.2.2.2.2.1 o' a b
      rw [g6 _ (by omega), g7]
      by_cases q : o' = o
      · rw [q, mG_o, if_pos rfl]
        rw [q] at e
        omega
      · rw [mG_j (by omega) (by omega), if_neg q]
        omega
  refine ⟨hr, by omega, j40.2.2, by omega, by rw [j40.2.1, gd 20 (by omega)]; exact hA, ?_, ?_, lnP_of (gd _ (by omega)) (gd _ (by omega)) (gd _ (by omega)) hP⟩
  · rw [j40.2.1]
    exact hSm
  · rw [j40.2.1]
    exact SLT_o (by rw [g6 _ (by omega), mG_j (by omega) (by omega)]) (gd _ (by omega)) (gd _ (by omega)) (gd _ (by omega)) (gd _ (by omega)) (gd _ (by omega)) hs hL
end ZPT
