/-! ===== what stays true: the class's memory beside the law's rows ===== -/
def enc3 (x y z v j : Int) : Prop := (x = 0 ∧ y = 0 ∧ z = 0 ∧ v = 0) ∨ (x = 1 ∧ v = 1 + y + 32 * z ∧ (0 ≤ y ∧ y ≤ 20) ∧ (5 ≤ j → y ≤ 3) ∧ 0 ≤ z ∧ z ≤ 67108863) ∨ (x = 2 ∧ y = 0 ∧ z = 0 ∧ v = -1)
def enc2 (x y z v j : Int) : Prop := (x = 0 ∧ y = 0 ∧ z = 0 ∧ v = 0) ∨ (x = 1 ∧ v = 1 + y + 32 * z ∧ (0 ≤ y ∧ y ≤ 20) ∧ (5 ≤ j → y ≤ 3) ∧ 0 ≤ z ∧ z ≤ 67108863)
def RWa (μ : ZU) : Prop := (μ 106 0 0 = μ 0 0 10 ∧ μ 2 0 6 = μ 0 0 10 ∧ 0 ≤ μ 0 0 10 ∧ μ 0 0 10 ≤ 6) ∧ (μ 106 0 1 = μ 0 0 20 ∧ μ 2 0 7 = μ 0 0 20 ∧ 0 ≤ μ 0 0 20 ∧ μ 0 0 20 ≤ 12) ∧ (μ 0 0 30 = 1 ∧ μ 2 0 8 = 1) ∧ (μ 106 0 12 = μ 0 0 40 ∧ μ 2 0 9 = μ 0 0 40 ∧ 0 ≤ μ 0 0 40 ∧ μ 0 0 40 ≤ 40) ∧ (μ 106 0 13 = μ 0 0 41 ∧ μ 2 0 10 = μ 0 0 41 ∧ 0 ≤ μ 0 0 41 ∧ μ 0 0 41 ≤ 6 ∧ μ 0 0 50 = μ 0 0 41 + 1) ∧ 0 ≤ μ 0 0 26 ∧ 0 ≤ μ 0 0 113 ∧ 0 ≤ μ 0 0 115
def RWb (μ : ZU) : Prop := ∀ l, 0 ≤ l → l < 6 → (l < μ 0 0 10 → μ 102 0 l = μ 10 l 1 ∧ (0 ≤ μ 10 l 1 ∧ μ 10 l 1 ≤ 2) ∧ ∀ j, 0 ≤ j → j < 10 → enc3 (μ 12 l j) (μ 13 l j) (μ 14 l j) (μ 101 0 (10 * l + j)) j) ∧ (μ 0 0 10 ≤ l → μ 102 0 l = 0 ∧ ∀ j, 0 ≤ j → j < 10 → μ 101 0 (10 * l + j) = 0)
/-- an image -/
def RWi (μ : ZU) (t i : Int) : Prop := (μ 103 0 (4 * i) = μ 20 i 3 ∧ 0 ≤ μ 20 i 3 ∧ μ 20 i 3 ≤ t) ∧ μ 20 i 0 = i ∧ (0 ≤ μ 20 i 1 ∧ μ 20 i 1 < μ 0 0 26) ∧ (1 ≤ μ 0 1 (μ 20 i 1) ∧ μ 0 1 (μ 20 i 1) ≤ 3) ∧ (∀ k, 0 ≤ k → k < 3 → μ 103 0 (4 * i + 1 + k) = (if k < μ 0 1 (μ 20 i 1) then μ 26 (μ 20 i 1) k + 1 else 0)) ∧ (∀ k, 0 ≤ k → k < μ 0 1 (μ 20 i 1) → (0 ≤ μ 26 (μ 20 i 1) k ∧ μ 26 (μ 20 i 1) k < μ 0 0 10) ∧ 1 ≤ μ 10 (μ 26 (μ 20 i 1) k) 1) ∧ ∀ j, 0 ≤ j → j < 10 → enc2 (μ 22 i j) (μ 23 i j) (μ 24 i j) (lfv μ i j) j
def RWc (μ : ZU) (t : Int) : Prop := (∀ i, 0 ≤ i → i < μ 0 0 20 → RWi μ t i) ∧ ∀ k, 4 * μ 0 0 20 ≤ k → k < 52 → μ 103 0 k = 0
def RWw (μ : ZU) (k : Int) : Prop := lhome μ k = μ 33 0 k ∧ (0 ≤ lhome μ k ∧ lhome μ k < μ 106 0 3) ∧ ((μ 104 0 k < 0 ∧ μ 35 0 k = -1 - μ 104 0 k ∧ μ 34 0 k = 0 ∧ μ 35 0 k < μ 106 0 3) ∨ (0 < μ 104 0 k ∧ μ 35 0 k = -1 ∧ μ 34 0 k = μ 104 0 k))
def RWd (μ : ZU) (t : Int) : Prop := (μ 30 0 0 = μ 106 0 10 ∧ μ 30 0 1 = μ 106 0 11 ∧ μ 30 0 9 = μ 106 0 2 ∧ μ 30 0 7 = μ 106 0 5 ∧ μ 30 0 8 = μ 106 0 3 ∧ μ 30 0 10 = μ 106 0 4) ∧ (0 ≤ μ 106 0 4 ∧ μ 106 0 4 ≤ t) ∧ (0 ≤ μ 106 0 5 ∧ μ 106 0 5 < 1024) ∧ (∀ s, 0 ≤ s → s < 4 → μ 31 0 s = μ 106 0 (6 + s)) ∧ ldB μ ∧ (∀ j, 0 ≤ j → j < μ 106 0 3 → μ 32 0 j = μ 105 0 j % 4 ∧ μ 105 0 j / 4 ≤ μ 106 0 2) ∧ (0 < μ 106 0 2 → 0 < μ 106 0 3) ∧ ∀ k, 0 ≤ k → k < μ 106 0 2 → RWw μ k
def RWe (μ : ZU) (t : Int) : Prop := ∀ o, 0 ≤ o → o < 4 → μ 106 0 (14 + o) = μ 7 0 o ∧ 0 ≤ μ 7 0 o ∧ μ 7 0 o ≤ 2000 * t
def RWf (μ : ZU) : Prop := (∀ j, 0 ≤ j → j < μ 0 0 40 → μ 40 j 0 = 0 ∧ (0 ≤ μ 40 j 1 ∧ μ 40 j 1 < μ 0 0 20) ∧ (μ 40 j 4 = -1 ∨ (0 ≤ μ 40 j 4 ∧ μ 40 j 4 < μ 0 0 41))) ∧ ∀ b, 0 ≤ b → b < μ 0 0 41 → ∃ j, 0 ≤ j ∧ j < μ 0 0 40 ∧ μ 40 j 4 = b ∧ ∀ j', 0 ≤ j' → j' < j → μ 40 j' 4 < b
/-- a build -/
def RWk (μ : ZU) (b : Int) : Prop := μ 41 b 0 = b ∧ μ 41 b 2 = 0 ∧ (0 ≤ μ 41 b 3 ∧ μ 41 b 3 < μ 0 0 20) ∧ (0 ≤ μ 41 b 1 ∧ μ 41 b 1 ≤ μ 30 0 10) ∧ μ 111 0 b = μ 41 b 1 + 1024 * μ 50 b 5 ∧ (0 ≤ μ 50 b 5 ∧ μ 50 b 5 < 1024) ∧ (∀ j, 0 ≤ j → j < 10 → μ 112 0 (10 * b + j) = lfv μ (μ 41 b 3) j) ∧ ((0 ≤ μ 50 b 0 ∧ μ 50 b 0 ≤ 60) ∧ (0 ≤ μ 50 b 1 ∧ μ 50 b 1 ≤ 60) ∧ 0 ≤ μ 50 b 2 ∧ μ 50 b 2 ≤ 60) ∧ (μ 41 b 1 = μ 30 0 10 → SHT μ b μ 0 (μ 41 b 3))
def RWg (μ : ZU) : Prop := ∀ b, 0 ≤ b → b < μ 0 0 41 → RWk μ b
def RWz (μ : ZU) (t : Int) : Prop := (0 ≤ t ∧ t ≤ 100) ∧ RWa μ ∧ RWb μ ∧ RWc μ t ∧ RWd μ t ∧ RWe μ t ∧ RWf μ ∧ RWg μ ∧ lnE μ
/-- from the first layer on -/
def RW (μ : ZU) (t : Int) : Prop := (0 ≤ t ∧ t ≤ 100 ∧ 1 ≤ μ 0 0 10) ∧ RWa μ ∧ RWb μ ∧ RWc μ t ∧ RWd μ t ∧ RWe μ t ∧ RWf μ ∧ RWg μ ∧ lnE μ
section ZPF
variable {μ ν κ β : ZU} {a b c d e f g h i j k l m p r s t t' v w x y z L H M R : Int}
theorem RWz_of (h : RW μ t) : RWz μ t := ⟨⟨h.1.1, h.1.2.1⟩, h.2⟩
theorem RW.rwB (h : RW μ t) : rwB μ := by
  obtain ⟨-, ha, hb, hc, -⟩ := h
  refine ⟨fun k h0 h1 => ?_, fun q h0 h1 => ?_⟩
  · by_cases hk : 4 * μ 0 0 20 ≤ k
    · rw [hc.2 k hk h1]
      omega
    · obtain ⟨⟨i1, i2, i3⟩, i4, i5, i6, i7, i8, -⟩ := hc.1 (k / 4) (by omega) (by omega)
      by_cases hz : k % 4 = 0
      · have e : 4 * (k / 4) = k := by omega
        rw [e] at i1
        omega
      · have e : 4 * (k / 4) + 1 + (k % 4 - 1) = k := by omega
        have i7 := i7 (k % 4 - 1) (by omega) (by omega)
        rw [e] at i7
        rw [i7]
        split
        · rename_i q
          have := i8 (k % 4 - 1) (by omega) q
          have := ha.1
          omega
        · omega
  · obtain ⟨b1, b2⟩ := hb (q / 10) (by omega) (by omega)
    have e : 10 * (q / 10) + q % 10 = q := by omega
    by_cases hl : q / 10 < μ 0 0 10
    · have := (b1 hl).2.2 (q % 10) (by omega) (by omega)
      rw [e] at this
      unfold enc3 at this
      omega
    · have := (b2 (by omega)).2 (q % 10) (by omega) (by omega)
      rw [e] at this
      omega
theorem RW.TI (h : RW μ t) (h0 : 0 ≤ i) (h1 : i < μ 0 0 20) : TI μ i := by
  obtain ⟨-, ha, hb, hc, ⟨d1, d2, d3, d4, d5, d6, d7, d8⟩, -⟩ := h
  refine ⟨⟨d1.1, d1.2.1, d1.2.2.1, d1.2.2.2.1⟩, d4, fun k k0 k1 => ?_, fun t t0 t1 => ?_⟩
  · obtain ⟨q1, q2, q3⟩ := d8 k k0 k1
    have h3 := d5.2.1
    refine ⟨q1, by omega, (d6 _ q2.1 q2.2).1, ?_⟩
    rcases q3 with ⟨r1, r2, -⟩ | r
    · exact Or.inl ⟨r1, r2⟩
    · exact Or.inr r
  · have := (hc.1 i h0 h1).2.2.2.2.2.2 t t0 t1
    unfold enc2 at this
    omega
theorem RW.dcOK (h : RW μ t) : dcOK μ t := by
  obtain ⟨ht, ha, hb, hc, ⟨d1, d2, d3, d4, d5, d6, d7, d8⟩, -⟩ := h
  have a3 := ha.2.2.1
  obtain ⟨l1, l2, l3, l4, l5, l6, l7⟩ := d5
  refine ⟨by omega, fun d d0 d1' => ?_⟩
  have hd : d = 0 := by omega
  subst hd
  refine ⟨⟨by omega, by omega, fun w w0 w1 => ?_⟩, by omega, by omega, fun w w0 w1 => ?_, by omega, by omega⟩
  · obtain ⟨q1, q2, q3⟩ := d8 w w0 (by omega)
    rw [← q1]
    have q4 := (d6 _ q2.1 q2.2).1
    have q5 : 0 ≤ μ 32 0 (lhome μ w) ∧ μ 32 0 (lhome μ w) < 4 := by omega
    have q6 := l5 _ q5.1 q5.2
    have q7 := d4 _ q5.1 q5.2
    refine ⟨by omega, q5, ?_⟩
    rw [q7]
    exact q6
  · obtain ⟨q1, q2, q3⟩ := d8 w w0 (by omega)
    have := l7 w w0 (by omega)
    omega
theorem RW.flOK (h : RW μ t) (h0 : 0 ≤ i) (h1 : i < μ 0 0 20) : flOK μ i := by
  have hi := (h.2.2.2.1.1 i h0 h1).2.2.2.2.2.2
  refine ⟨fun t t0 t1 => ?_, fun t t0 t1 => ?_⟩
  · have := hi t t0 (by omega)
    unfold enc2 at this
    omega
  · have := hi t (by omega) t1
    unfold enc2 at this
    omega
theorem RW.imgOK (h : RW μ t) : imgOK μ := by
  obtain ⟨-, ha, hb, hc, -⟩ := h
  refine ⟨ha.2.1.2.2, fun i i0 i1 => ?_⟩
  obtain ⟨-, -, q3, q4, -, q6, -⟩ := hc.1 i i0 i1
  exact ⟨q3, by omega, fun j j0 j1 => (q6 j j0 j1).1⟩
theorem RW.jobOK (h : RW μ t) : jobOK μ := by
  obtain ⟨-, ha, -, -, -, -, hf, -⟩ := h
  have a3 := ha.2.2.1
  refine ⟨ha.2.2.2.1.2.2, fun j j0 j1 => ?_⟩
  obtain ⟨q1, q2, q3⟩ := hf.1 j j0 j1
  exact ⟨by omega, q2, q3⟩
theorem RW.bldOK (h : RW μ t) : bldOK μ := by
  obtain ⟨-, ha, -, -, -, -, -, hg, -⟩ := h
  have a3 := ha.2.2.1
  have a5 := ha.2.2.2.2.1
  refine ⟨by omega, fun b b0 b1 => ?_⟩
  obtain ⟨-, q2, q3, -, -, -, -, q8, -⟩ := hg b b0 b1
  exact ⟨by omega, q3, q8⟩
theorem RW.sz (h : RW μ t) (h0 : 0 ≤ i) (h1 : i < μ 0 0 20) : ∀ t, 5 ≤ t → t < 10 → 0 < lfv μ i t → 0 ≤ lsz μ i t ∧ lsz μ i t ≤ 3 := fun t t0 t1 hp => by
  have hi := (h.2.2.2.1.1 i h0 h1).2.2.2.2.2.2 t (by omega) t1
  unfold enc2 at hi
  unfold lsz
  omega
/-! frames -/
theorem RWb_of (hc : ν 0 0 10 = μ 0 0 10) (h1 : ν 10 = μ 10) (h2 : ν 12 = μ 12) (h3 : ν 13 = μ 13) (h4 : ν 14 = μ 14) (h5 : ν 101 = μ 101) (h6 : ν 102 = μ 102) (h : RWb μ) : RWb ν := by
  unfold RWb
  rw [hc, h1, h2, h3, h4, h5, h6]
  exact h
theorem RWi_of (hc : ν 0 0 10 = μ 0 0 10) (h26 : ν 0 0 26 = μ 0 0 26) (hl : ∀ r, ν 0 1 r = μ 0 1 r) (h1 : ∀ l, 1 ≤ μ 10 l 1 → 1 ≤ ν 10 l 1) (h2 : ν 20 i = μ 20 i) (h3 : ν 26 = μ 26) (h4 : ν 22 i = μ 22 i) (h5 : ν 23 i = μ 23 i) (h6 : ν 24 i = μ 24 i) (h7 : lfv ν i = lfv μ i) (h8 : ∀ k, 0 ≤ k → k < 4 → ν 103 0 (4 * i + k) = μ 103 0 (4 * i + k)) (ht : t ≤ t') (h : RWi μ t i) : RWi ν t' i := by
  obtain ⟨⟨a1, a2, a3⟩, a4, a5, a6, a7, a8, a9⟩ := h
  unfold RWi
  rw [hc, h26, h2, h3, h4, h5, h6, h7]
  have e0 := h8 0 (by omega) (by omega)
  rw [Int.add_zero] at e0
  rw [e0]
  refine ⟨⟨a1, a2, by omega⟩, a4, a5, by rw [hl]; exact a6, fun k k0 k1 => ?_, fun k k0 k1 => ?_, a9⟩
  · have e := h8 (1 + k) (by omega) (by omega)
    rw [← Int.add_assoc] at e
    rw [e, hl]
    exact a7 k k0 k1
  · rw [hl] at k1
    exact ⟨(a8 k k0 k1).1, h1 _ (a8 k k0 k1).2⟩
theorem RWc_of (h0 : ν 0 = μ 0) (h1 : ν 10 = μ 10) (h2 : ν 20 = μ 20) (h3 : ν 26 = μ 26) (h4 : ν 22 = μ 22) (h5 : ν 23 = μ 23) (h6 : ν 24 = μ 24) (h7 : ν 101 = μ 101) (h8 : ν 103 = μ 103) (ht : t ≤ t') (h : RWc μ t) : RWc ν t' := by
  refine ⟨fun i i0 i1 => ?_, fun k k0 k1 => ?_⟩
  · rw [h0] at i1
    exact RWi_of (by rw [h0]) (by rw [h0]) (fun r => by rw [h0]) (fun l q => by rw [h1]; exact q) (by rw [h2]) h3 (by rw [h4]) (by rw [h5]) (by rw [h6]) (lfv_congr (by rw [h7]) (by rw [h8])) (fun k _ _ => by rw [h8]) ht (h.1 i i0 i1)
  · rw [h0] at k0
    rw [h8]
    exact h.2 k k0 k1
theorem sfl_lhome (h5 : ν 105 = μ 105) (h6 : ν 106 0 3 = μ 106 0 3) : lhome ν k = lhome μ k := by
  unfold lhome
  rw [h6, lph_of h5]
theorem RWd_of (h0 : ν 30 = μ 30) (h1 : ν 31 = μ 31) (h2 : ν 32 = μ 32) (h3 : ν 33 = μ 33) (h4 : ν 34 = μ 34) (h5 : ν 35 = μ 35) (h6 : ν 104 = μ 104) (h7 : ν 105 = μ 105) (h8 : ∀ j, 0 ≤ j → j < 12 → ν 106 0 j = μ 106 0 j) (ht : t ≤ t') (h : RWd μ t) : RWd ν t' := by
  obtain ⟨d1, d2, d3, d4, d5, d6, d7, d8⟩ := h
  have g2 := h8 2 (by omega) (by omega)
  have g3 := h8 3 (by omega) (by omega)
  have g4 := h8 4 (by omega) (by omega)
  have g5 := h8 5 (by omega) (by omega)
  have g10 := h8 10 (by omega) (by omega)
  have g11 := h8 11 (by omega) (by omega)
  have hh : ∀ k, lhome ν k = lhome μ k := fun k => sfl_lhome h7 g3
  unfold RWd ldB RWw
  simp only [h0, h1, h2, h3, h4, h5, h6, h7, g2, g3, g4, g5, g10, g11, hh]
  obtain ⟨l1, l2, l3, l4, l5, l6⟩ := d5
  refine ⟨d1, by omega, d3, fun s s0 s1 => ?_, ⟨l1, l2, l3, l4, fun s s0 s1 => ?_, l6⟩, d6, d7, d8⟩
  · rw [h8 _ (by omega) (by omega)]
    exact d4 s s0 s1
  · rw [h8 _ (by omega) (by omega)]
    exact l5 s s0 s1
theorem RWe_of (h7 : ν 7 = μ 7) (h8 : ∀ j, 14 ≤ j → j < 18 → ν 106 0 j = μ 106 0 j) (ht : t ≤ t') (h : RWe μ t) : RWe ν t' := fun o o0 o1 => by
  have := h o o0 o1
  rw [h7, h8 _ (by omega) (by omega)]
  omega
theorem RWf_of (hj : ν 0 0 40 = μ 0 0 40) (hb : ν 0 0 41 = μ 0 0 41) (hi : μ 0 0 20 ≤ ν 0 0 20) (h : ν 40 = μ 40) (hf : RWf μ) : RWf ν := by
  unfold RWf
  rw [hj, hb, h]
  refine ⟨fun j j0 j1 => ?_, hf.2⟩
  obtain ⟨q1, q2, q3⟩ := hf.1 j j0 j1
  exact ⟨q1, by omega, q3⟩
/-- the builds stay while the document's version doesn't fall, and those of now are still told so -/
theorem RWg_of (hb : ν 0 0 41 = μ 0 0 41) (hi : μ 0 0 20 ≤ ν 0 0 20) (h1 : ν 41 = μ 41) (h2 : ∀ b, 0 ≤ b → b < μ 0 0 41 → ∀ k, 50 ≤ k → k ≤ 56 → ν k b = μ k b) (h3 : ν 111 = μ 111) (h4 : ν 112 = μ 112) (h5 : ∀ i, 0 ≤ i → i < μ 0 0 20 → lfv ν i = lfv μ i) (hv : μ 30 0 10 ≤ ν 30 0 10) (hs : ν 30 0 10 = μ 30 0 10 → ∀ i, 0 ≤ i → i < μ 0 0 20 → sfi μ ν 0 i) (h : RWg μ) : RWg ν := by
  intro b b0 b1
  rw [hb] at b1
  obtain ⟨q1, q2, q3, q4, q5, q6, q7, q8, q9⟩ := h b b0 b1
  have e := h2 b b0 b1
  have e50 := e 50 (by omega) (by omega)
  unfold RWk
  rw [h1, h3, h4, e50, h5 _ q3.1 q3.2]
  refine ⟨q1, q2, by omega, by omega, q5, q6, q7, q8, fun z => ?_⟩
  have hz : ν 30 0 10 = μ 30 0 10 := by omega
  exact SHT_of (SHT_sf (q9 (z.trans hz)) (hs hz _ q3.1 q3.2)) e50 (e 51 (by omega) (by omega)) (e 52 (by omega) (by omega)) (e 53 (by omega) (by omega)) (e 54 (by omega) (by omega)) (e 55 (by omega) (by omega)) (e 56 (by omega) (by omega))
theorem sfi_of (h1 : ν 30 = μ 30) (h2 : ν 31 = μ 31) (h3 : ν 32 = μ 32) (h4 : ν 33 = μ 33) (h5 : ν 34 = μ 34) (h6 : ν 35 = μ 35) (h7 : ν 22 i = μ 22 i) (h8 : ν 23 i = μ 23 i) (h9 : ν 24 i = μ 24 i) : sfi μ ν 0 i := ⟨by rw [h1], by rw [h1], by rw [h1], by rw [h1], by rw [h2], by rw [h3], by rw [h4], by rw [h5], by rw [h6], h7, h8, h9⟩
end ZPF
