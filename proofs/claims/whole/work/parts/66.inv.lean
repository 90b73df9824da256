/-! ===== what ties the class and the reference between two calls ===== -/
def RLa (μ : ZU) : Prop := (0 ≤ μ 0 0 10 ∧ μ 0 0 10 ≤ 24) ∧ μ 2 0 6 = μ 0 0 10 ∧ μ 100 0 0 = μ 0 0 10 ∧
  (∀ a, 0 ≤ a → a < μ 0 0 10 → μ 102 0 a = μ 10 a 1 ∧ (0 ≤ μ 10 a 1 ∧ μ 10 a 1 ≤ 2) ∧ ∀ f, 0 ≤ f → f < 10 → μ 103 0 (10 * a + f) = μ 12 a f ∧ μ 104 0 (10 * a + f) = μ 13 a f ∧ μ 105 0 (10 * a + f) = μ 14 a f ∧ (0 ≤ μ 12 a f ∧ μ 12 a f ≤ 2) ∧ (0 ≤ μ 13 a f ∧ μ 13 a f ≤ 20) ∧ (5 ≤ f → μ 13 a f ≤ 3)) ∧
  ∀ a, μ 0 0 10 ≤ a → a < 24 → μ 102 0 a = 0 ∧ ∀ f, 0 ≤ f → f < 10 → μ 103 0 (10 * a + f) = 0 ∧ μ 104 0 (10 * a + f) = 0 ∧ μ 105 0 (10 * a + f) = 0
def RLb (t : Int) (μ : ZU) : Prop := (0 ≤ μ 0 0 20 ∧ μ 0 0 20 ≤ 12) ∧ μ 2 0 7 = μ 0 0 20 ∧ μ 100 0 5 = μ 0 0 20 ∧ 0 ≤ μ 0 0 26 ∧
  (∀ i, 0 ≤ i → i < μ 0 0 20 → (0 ≤ μ 20 i 1 ∧ μ 20 i 1 < μ 0 0 26 ∧ μ 20 i 0 = i) ∧ μ 0 1 (μ 20 i 1) = μ 108 0 i ∧ (1 ≤ μ 108 0 i ∧ μ 108 0 i ≤ 6) ∧ (∀ k, 0 ≤ k → k < μ 108 0 i → μ 26 (μ 20 i 1) k = μ 109 0 (6 * i + k) ∧ 0 ≤ μ 109 0 (6 * i + k) ∧ μ 109 0 (6 * i + k) < μ 0 0 10) ∧ μ 107 0 i = μ 20 i 3 ∧ (0 ≤ μ 20 i 3 ∧ μ 20 i 3 ≤ t) ∧ stF μ i) ∧
  ∀ k, 0 ≤ k → k < 120 → μ 110 0 k = 0 ∨ μ 110 0 k = 1
def staD (β : ZU) (d : Int) : Prop := (0 ≤ β 122 0 d ∧ β 122 0 d ≤ 60) ∧ (0 ≤ β 119 0 d ∧ β 119 0 d ≤ 12) ∧ (β 30 d 9 = β 122 0 d ∧ β 30 d 0 = β 114 0 d ∧ β 30 d 1 = β 115 0 d ∧ β 30 d 7 = β 118 0 d ∧ β 30 d 8 = β 119 0 d) ∧ ((20 ≤ β 114 0 d ∧ β 114 0 d ≤ 200) ∧ 3 ≤ β 115 0 d ∧ β 115 0 d ≤ 12) ∧ stW β d ∧ stP β d ∧ stS β d
def RLc (t : Int) (μ : ZU) : Prop := (0 ≤ μ 0 0 30 ∧ μ 0 0 30 ≤ 6) ∧ μ 2 0 8 = μ 0 0 30 ∧ μ 100 0 12 = μ 0 0 30 ∧
  (∀ d, 0 ≤ d → d < μ 0 0 30 → staD μ d ∧ docOK (μ 30 d) (μ 31 d) (μ 32 d) (μ 33 d) ∧ μ 116 0 d = μ 30 d 10 ∧ 0 ≤ μ 30 d 10 ∧ μ 30 d 10 ≤ t) ∧
  ∀ d, μ 0 0 30 ≤ d → d < 6 → μ 116 0 d = 0 ∧ μ 118 0 d = 0 ∧ μ 119 0 d = 0 ∧ μ 122 0 d = 0
def RLd (μ : ZU) : Prop := ∀ a, 0 ≤ a → a ≤ 3 → μ 125 0 a = μ 7 0 a ∧ 0 ≤ μ 7 0 a ∧ μ 7 0 a ≤ 1000000
def RLe (μ : ZU) : Prop := (0 ≤ μ 0 0 40 ∧ μ 0 0 40 ≤ 40) ∧ μ 2 0 9 = μ 0 0 40 ∧ μ 100 0 25 = μ 0 0 40 ∧
  (∀ j, 0 ≤ j → j < μ 0 0 40 → (0 ≤ μ 40 j 0 ∧ μ 40 j 0 < μ 0 0 30) ∧ (0 ≤ μ 40 j 1 ∧ μ 40 j 1 < μ 0 0 20) ∧ (μ 40 j 4 = -1 ∨ (0 ≤ μ 40 j 4 ∧ μ 40 j 4 < μ 0 0 41)) ∧ μ 130 0 j = μ 40 j 0 ∧ μ 131 0 j = μ 40 j 1 ∧ μ 127 0 j = μ 40 j 2 ∧ μ 128 0 j = μ 40 j 3 ∧ μ 129 0 j = μ 40 j 4 ∧ ∀ b, 0 ≤ b → b < μ 40 j 4 → ∃ j', 0 ≤ j' ∧ j' < j ∧ μ 40 j' 4 = b) ∧
  ∀ b, 0 ≤ b → b < μ 0 0 41 → ∃ j, 0 ≤ j ∧ j < μ 0 0 40 ∧ μ 40 j 4 = b
/-- the sheets of a build -/
def shOK (μ : ZU) (b : Int) : Prop := (0 ≤ μ 50 b 0 ∧ μ 50 b 0 ≤ 60) ∧ (0 ≤ μ 50 b 1 ∧ μ 50 b 1 ≤ 60) ∧ (0 ≤ μ 50 b 2 ∧ μ 50 b 2 ≤ 60) ∧ (μ 143 0 b = μ 50 b 0 ∧ μ 139 0 b = μ 50 b 1 ∧ μ 140 0 b = μ 50 b 2 ∧ μ 141 0 b = μ 50 b 3 ∧ μ 142 0 b = μ 50 b 4 ∧ μ 135 0 b = μ 50 b 5) ∧
  (∀ l, 0 ≤ l → l < μ 50 b 1 → μ 144 0 (300 * b + 60 * 0 + l) = μ 52 b l ∧ μ 144 0 (300 * b + 60 * 1 + l) = μ 53 b l ∧ μ 144 0 (300 * b + 60 * 2 + l) = μ 54 b l ∧ μ 144 0 (300 * b + 60 * 3 + l) = μ 55 b l ∧ μ 144 0 (300 * b + 60 * 4 + l) = μ 56 b l) ∧
  (∀ w, 0 ≤ w → w < μ 50 b 0 → μ 145 0 (60 * b + w) = μ 51 b w) ∧
  ∀ l m, 0 ≤ l → l ≤ m → m < μ 50 b 1 → 0 ≤ μ 56 b l ∧ μ 56 b l ≤ μ 56 b m
def bldS (μ : ZU) (b : Int) : Prop := μ 41 b 0 = b ∧ μ 134 0 b = μ 41 b 1 ∧ μ 133 0 b = μ 41 b 2 ∧ (0 ≤ μ 41 b 2 ∧ μ 41 b 2 < μ 0 0 30) ∧ (0 ≤ μ 41 b 3 ∧ μ 41 b 3 < μ 0 0 20) ∧
  (∀ f, 0 ≤ f → f < 10 → μ 136 0 (10 * b + f) = μ 22 (μ 41 b 3) f ∧ μ 137 0 (10 * b + f) = μ 23 (μ 41 b 3) f ∧ μ 138 0 (10 * b + f) = μ 24 (μ 41 b 3) f) ∧ shOK μ b
def RLf (μ : ZU) : Prop := (0 ≤ μ 0 0 41 ∧ μ 0 0 41 ≤ 40) ∧ μ 2 0 10 = μ 0 0 41 ∧ μ 100 0 31 = μ 0 0 41 ∧ μ 0 0 50 = μ 0 0 41 + 1 ∧ ∀ b, 0 ≤ b → b < μ 0 0 41 → bldS μ b
def RV (L t : Int) (μ : ZU) : Prop := μ 0 2 0 = L ∧ RLa μ ∧ RLb t μ ∧ RLc t μ ∧ RLd μ ∧ RLe μ ∧ RLf μ ∧ μ 0 0 41 ≤ μ 0 0 40
section ZIV
variable {L t s v : Int} {μ ν : ZU}
theorem RLa_c (h : RLa μ) (h1 : ν 0 0 10 = μ 0 0 10) (h2 : ν 2 0 6 = μ 2 0 6) (h3 : ν 100 0 0 = μ 100 0 0) (hk : ∀ k, (k = 10 ∨ k = 12 ∨ k = 13 ∨ k = 14 ∨ k = 102 ∨ k = 103 ∨ k = 104 ∨ k = 105) → ν k = μ k) : RLa ν := by
  unfold RLa at *
  rw [h1, h2, h3, hk 10 (by decide), hk 12 (by decide), hk 13 (by decide), hk 14 (by decide), hk 102 (by decide), hk 103 (by decide), hk 104 (by decide), hk 105 (by decide)]
  exact h
theorem stF_c {i : Int} (h : stF μ i) (hk : ∀ k, (k = 22 ∨ k = 23 ∨ k = 24 ∨ k = 110 ∨ k = 111 ∨ k = 112) → ν k = μ k) : stF ν i := by
  unfold stF at *
  rw [hk 22 (by decide), hk 23 (by decide), hk 24 (by decide), hk 110 (by decide), hk 111 (by decide), hk 112 (by decide)]
  exact h
theorem RLb_c (h : RLb t μ) (h1 : ν 0 0 20 = μ 0 0 20) (h2 : ν 2 0 7 = μ 2 0 7) (h3 : ν 100 0 5 = μ 100 0 5) (h4 : ν 0 0 26 = μ 0 0 26) (h5 : ν 0 1 = μ 0 1) (h6 : μ 0 0 10 ≤ ν 0 0 10) (hk : ∀ k, (k = 20 ∨ k = 26 ∨ k = 107 ∨ k = 108 ∨ k = 109 ∨ k = 22 ∨ k = 23 ∨ k = 24 ∨ k = 110 ∨ k = 111 ∨ k = 112) → ν k = μ k) : RLb t ν := by
  unfold RLb at *
  rw [h1, h2, h3, h4, h5, hk 20 (by decide), hk 26 (by decide), hk 107 (by decide), hk 108 (by decide), hk 109 (by decide), hk 110 (by decide)]
  obtain ⟨a1, a2, a3, a4, a5, a6⟩ := h
  refine ⟨a1, a2, a3, a4, fun i i0 i1 => ?_, a6⟩
  obtain ⟨b1, b2, b3, b4, b5, b6, b7⟩ := a5 i i0 i1
  refine ⟨b1, b2, b3, fun k k0 k1 => ?_, b5, b6, stF_c b7 fun k hk' => hk k (by omega)⟩
  obtain ⟨c1, c2, c3⟩ := b4 k k0 k1
  exact ⟨c1, c2, by omega⟩
theorem RLb_s (h : RLb t μ) (hs : t ≤ s) : RLb s μ := by
  obtain ⟨a1, a2, a3, a4, a5, a6⟩ := h
  refine ⟨a1, a2, a3, a4, fun i i0 i1 => ?_, a6⟩
  obtain ⟨b1, b2, b3, b4, b5, b6, b7⟩ := a5 i i0 i1
  exact ⟨b1, b2, b3, b4, b5, by omega, b7⟩
theorem staD_c {d : Int} (h : staD μ d) (hk : ∀ k, ((30 ≤ k ∧ k ≤ 35) ∨ (114 ≤ k ∧ k ≤ 124)) → ν k = μ k) : staD ν d := by
  unfold staD stW stP stS eof at *
  rw [hk 30 (by decide), hk 31 (by decide), hk 32 (by decide), hk 33 (by decide), hk 34 (by decide), hk 35 (by decide), hk 114 (by decide), hk 115 (by decide), hk 117 (by decide), hk 118 (by decide), hk 119 (by decide), hk 120 (by decide), hk 121 (by decide), hk 122 (by decide), hk 123 (by decide), hk 124 (by decide)]
  exact h
theorem RLc_c (h : RLc t μ) (h1 : ν 0 0 30 = μ 0 0 30) (h2 : ν 2 0 8 = μ 2 0 8) (h3 : ν 100 0 12 = μ 100 0 12) (hk : ∀ k, ((30 ≤ k ∧ k ≤ 35) ∨ (114 ≤ k ∧ k ≤ 124)) → ν k = μ k) : RLc t ν := by
  unfold RLc at *
  rw [h1, h2, h3, hk 30 (by decide), hk 31 (by decide), hk 32 (by decide), hk 33 (by decide), hk 116 (by decide), hk 118 (by decide), hk 119 (by decide), hk 122 (by decide)]
  obtain ⟨a1, a2, a3, a4, a5⟩ := h
  refine ⟨a1, a2, a3, fun d d0 d1 => ?_, a5⟩
  obtain ⟨b1, b2⟩ := a4 d d0 d1
  exact ⟨staD_c b1 hk, b2⟩
theorem RLc_s (h : RLc t μ) (hs : t ≤ s) : RLc s μ := by
  obtain ⟨a1, a2, a3, a4, a5⟩ := h
  refine ⟨a1, a2, a3, fun d d0 d1 => ?_, a5⟩
  obtain ⟨b1, b2, b3, b4, b5⟩ := a4 d d0 d1
  exact ⟨b1, b2, b3, b4, by omega⟩
theorem RLd_c (h : RLd μ) (h1 : ν 7 = μ 7) (h2 : ν 125 = μ 125) : RLd ν := by
  unfold RLd at *
  rw [h1, h2]
  exact h
theorem RLe_c (h : RLe μ) (h1 : ν 0 0 40 = μ 0 0 40) (h2 : ν 2 0 9 = μ 2 0 9) (h3 : ν 100 0 25 = μ 100 0 25) (h4 : μ 0 0 30 ≤ ν 0 0 30) (h5 : μ 0 0 20 ≤ ν 0 0 20) (h6 : ν 0 0 41 = μ 0 0 41) (hk : ∀ k, (k = 40 ∨ (127 ≤ k ∧ k ≤ 131)) → ν k = μ k) : RLe ν := by
  unfold RLe at *
  rw [h1, h2, h3, h6, hk 40 (by decide), hk 127 (by decide), hk 128 (by decide), hk 129 (by decide), hk 130 (by decide), hk 131 (by decide)]
  obtain ⟨a1, a2, a3, a4, a5⟩ := h
  refine ⟨a1, a2, a3, fun j j0 j1 => ?_, a5⟩
  obtain ⟨b1, b2, b3⟩ := a4 j j0 j1
  exact ⟨⟨b1.1, by omega⟩, ⟨b2.1, by omega⟩, b3⟩
theorem shOK_c {b : Int} (h : shOK μ b) (hs : ∀ k, (50 ≤ k ∧ k ≤ 56) → ν k b = μ k b) (hk : ∀ k, (k = 135 ∨ (139 ≤ k ∧ k ≤ 145)) → ν k = μ k) : shOK ν b := by
  unfold shOK at *
  rw [hs 50 (by decide), hs 51 (by decide), hs 52 (by decide), hs 53 (by decide), hs 54 (by decide), hs 55 (by decide), hs 56 (by decide), hk 135 (by decide), hk 139 (by decide), hk 140 (by decide), hk 141 (by decide), hk 142 (by decide), hk 143 (by decide), hk 144 (by decide), hk 145 (by decide)]
  exact h
theorem bldS_c {b : Int} (h : bldS μ b) (h4 : μ 0 0 30 ≤ ν 0 0 30) (h5 : μ 0 0 20 ≤ ν 0 0 20) (h41 : ν 41 b = μ 41 b) (hf : ∀ i, 0 ≤ i → i < μ 0 0 20 → ν 22 i = μ 22 i ∧ ν 23 i = μ 23 i ∧ ν 24 i = μ 24 i) (hs : ∀ k, (50 ≤ k ∧ k ≤ 56) → ν k b = μ k b) (hk : ∀ k, (133 ≤ k ∧ k ≤ 145) → ν k = μ k) : bldS ν b := by
  obtain ⟨a1, a2, a3, a4, a5, a6, a7⟩ := h
  obtain ⟨f1, f2, f3⟩ := hf _ a5.1 a5.2
  have a7' := shOK_c a7 hs fun k hk' => hk k (by omega)
  unfold bldS
  rw [h41, hk 133 (by decide), hk 134 (by decide), hk 136 (by decide), hk 137 (by decide), hk 138 (by decide), f1, f2, f3]
  exact ⟨a1, a2, a3, ⟨a4.1, by omega⟩, ⟨a5.1, by omega⟩, a6, a7'⟩
theorem RLf_c (h : RLf μ) (h1 : ν 0 0 41 = μ 0 0 41) (h2 : ν 2 0 10 = μ 2 0 10) (h3 : ν 100 0 31 = μ 100 0 31) (h6 : ν 0 0 50 = μ 0 0 50) (h4 : μ 0 0 30 ≤ ν 0 0 30) (h5 : μ 0 0 20 ≤ ν 0 0 20) (h41 : ν 41 = μ 41) (hf : ∀ i, 0 ≤ i → i < μ 0 0 20 → ν 22 i = μ 22 i ∧ ν 23 i = μ 23 i ∧ ν 24 i = μ 24 i) (hs : ∀ k, (50 ≤ k ∧ k ≤ 56) → ∀ b, 0 ≤ b → b < μ 0 0 41 → ν k b = μ k b) (hk : ∀ k, (133 ≤ k ∧ k ≤ 145) → ν k = μ k) : RLf ν := by
  obtain ⟨a1, a2, a3, a4, a5⟩ := h
  unfold RLf
  rw [h1, h2, h3, h6]
  exact ⟨a1, a2, a3, a4, fun b b0 b1 => bldS_c (a5 b b0 b1) h4 h5 (by rw [h41]) hf (fun k hk' => hs k hk' b b0 b1) hk⟩
/-- nothing that ties them changed -/
theorem RV_c (h : RV L t μ) (h0 : ν 0 = μ 0) (h2 : ν 2 = μ 2) (h3 : ∀ j, j < 45 → ν 100 0 j = μ 100 0 j) (hk : ∀ k, ((7 ≤ k ∧ k ≤ 41) ∨ (102 ≤ k ∧ k ≤ 145)) → ν k = μ k) (hs : ∀ k, (50 ≤ k ∧ k ≤ 56) → ∀ b, 0 ≤ b → b < μ 0 0 41 → ν k b = μ k b) : RV L t ν := by
  obtain ⟨a1, a2, a3, a4, a5, a6, a7, a8⟩ := h
  unfold RV
  rw [h0]
  refine ⟨a1, RLa_c a2 (by rw [h0]) (by rw [h2]) (h3 0 (by decide)) fun k h => hk k (by omega), RLb_c a3 (by rw [h0]) (by rw [h2]) (h3 5 (by decide)) (by rw [h0]) (by rw [h0]) (by rw [h0]; exact Int.le_refl _) fun k h => hk k (by omega), RLc_c a4 (by rw [h0]) (by rw [h2]) (h3 12 (by decide)) fun k h => hk k (by omega), RLd_c a5 (hk 7 (by decide)) (hk 125 (by decide)), RLe_c a6 (by rw [h0]) (by rw [h2]) (h3 25 (by decide)) (by rw [h0]; exact Int.le_refl _) (by rw [h0]; exact Int.le_refl _) (by rw [h0]) fun k h => hk k (by omega), RLf_c a7 (by rw [h0]) (by rw [h2]) (h3 31 (by decide)) (by rw [h0]) (by rw [h0]; exact Int.le_refl _) (by rw [h0]; exact Int.le_refl _) (hk 41 (by decide)) (fun i _ _ => ⟨by rw [hk 22 (by decide)], by rw [hk 23 (by decide)], by rw [hk 24 (by decide)]⟩) hs fun k h => hk k (by omega), a8⟩
theorem RV_s (h : RV L t μ) (hs : t ≤ s) : RV L s μ := ⟨h.1, h.2.1, RLb_s h.2.2.1 hs, RLc_s h.2.2.2.1 hs, h.2.2.2.2⟩
theorem RV_o (h : RV L t μ) : RV L t (mu μ 200 0 0 v) := RV_c h (mu_g (by decide)) (mu_g (by decide)) (fun j _ => by rw [mu_g (by decide)]) (fun k hk => mu_g (by omega)) (fun k hk b _ _ => by rw [mu_g (by omega)])
theorem RV_t (h : RV L t μ) : RV L t (thr μ v) := RV_c h (mu_g (by decide)) (mu_g (by decide)) (fun j hj => mu_j (by omega)) (fun k hk => mu_g (by omega)) (fun k hk b _ _ => congrFun (mu_g (by omega)) b)
theorem RV_1 (h : RV L t μ) : RV L (t + 1) μ := RV_s h (by omega)
end ZIV
