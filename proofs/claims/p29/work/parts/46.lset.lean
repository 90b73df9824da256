/-! ===== the law sets as the pure setting says ===== -/
def lws (μ : ZU) (k : Int) : Int := if μ 104 0 k < 0 then (if 9 < μ 110 0 k then 12 else 6) else 0
def lww (μ : ZU) (a k : Int) : Int := (lwl (lhs μ a) (lsz μ a) (ldt μ a) (lcd (μ 104 0 k)) (lfo μ k) (decide (0 < μ 104 0 k)) 8 0 (lws μ k) 0).1
def lrd (μ : ZU) (a k r : Int) : Int := (lwl (lhs μ a) (lsz μ a) (ldt μ a) (lcd (μ 104 0 k)) (lfo μ k) (decide (0 < μ 104 0 k)) 8 0 0 r).2
def lrf (μ : ZU) (a : Int) : Nat → Int → Int → Int
  | 0, _, r => r
  | n + 1, k, r => lrf μ a n (k + 1) (lrd μ a k r)
/-- lines in the law's rows, before the word k -/
def LQ (ν : ZU) (S : ZLn) (k : Int) : Prop := ν 107 0 0 = S.1 ∧ 0 ≤ S.1 ∧ (∀ l, 0 ≤ l → l < S.1 → ν 108 0 l = S.2.1 l + 16 * S.2.2.1 l + 1024 * S.2.2.2.1 l ∧ (0 ≤ S.2.1 l ∧ S.2.1 l < 16) ∧ (0 ≤ S.2.2.1 l ∧ S.2.2.1 l < 64) ∧ 0 ≤ S.2.2.2.1 l ∧ ν 109 0 l = S.2.2.2.2 l ∧ 0 ≤ S.2.2.2.2 l ∧ S.2.2.2.2 l < 1024) ∧ (1 ≤ S.1 → S.2.2.2.1 (S.1 - 1) = k - 1)
/-- what a pass leaves in the law's rows -/
def LR (ν : ZU) (I : ZIn) (sh : Int → Int) : Prop := ν 107 0 0 = (pLn I sh).1 ∧ 0 ≤ (pLn I sh).1 ∧ (∀ l, 0 ≤ l → l < (pLn I sh).1 → ν 108 0 l = (pLn I sh).2.1 l + 16 * (pLn I sh).2.2.1 l + 1024 * (pLn I sh).2.2.2.1 l ∧ (0 ≤ (pLn I sh).2.1 l ∧ (pLn I sh).2.1 l < 16) ∧ (0 ≤ (pLn I sh).2.2.1 l ∧ (pLn I sh).2.2.1 l < 64) ∧ 0 ≤ (pLn I sh).2.2.2.1 l ∧ ν 109 0 l = (pLn I sh).2.2.2.2 l + 1024 * (pNm I sh).2 l ∧ 0 ≤ (pLn I sh).2.2.2.2 l ∧ (pLn I sh).2.2.2.2 l < 1024) ∧ ν 107 0 1 = (pNm I sh).1 ∧ ν 107 0 3 = (pPb I sh).1 0
/-- what a pass needs of the law's rows -/
def PL (ν : ZU) (a : Int) (I : ZIn) (sh : Int → Int) : Prop := ν 106 0 10 = iM I ∧ iM I ≤ 200 ∧ ν 106 0 11 = iH I ∧ ν 106 0 2 = (iN I : Int) ∧ (iN I : Int) ≤ 40 ∧ ∀ k, 0 ≤ k → k < (iN I : Int) → lhome ν k = iHm I k ∧ (0 ≤ iHm I k ∧ iHm I k < 11) ∧ ((ν 104 0 k < 0 ∧ iTg I k = -1 - ν 104 0 k ∧ ν 110 0 k = sh k) ∨ (0 < ν 104 0 k ∧ iTg I k = -1 ∧ lww ν a k = iW I k ∧ 0 ≤ iW I k ∧ iW I k ≤ 260))
section ZPC
variable {μ ν κ β : ZU} {a b c d e f g h i j k l m p r s t v w x y z L H M : Int} {I : ZIn} {sh sh' : Int → Int} {S T : ZLn} {hf wf hf' wf' hg bd pe wd : Int → Int} {hs : Int → Bool} {sz dt cd : Int → Int} {P : Bool}
theorem lwl_f : ∀ (n : Nat), lwl hs sz dt cd f false n j s r = (s, r)
  | 0 => rfl
  | n + 1 => by
    unfold lwl
    rw [if_neg (fun z => by cases z.1)]
theorem lwl_1 : ∀ (n : Nat) (j s r r' : Int), (lwl hs sz dt cd f P n j s r).1 = (lwl hs sz dt cd f P n j s r').1
  | 0, _, _, _, _ => rfl
  | n + 1, j, s, r, r' => by
    unfold lwl
    split
    · rw [lw_1 5 0 r r']
      exact lwl_1 n _ _ _ _
    · rfl
theorem lwl_2 : ∀ (n : Nat) (j s s' r : Int), (lwl hs sz dt cd f P n j s r).2 = (lwl hs sz dt cd f P n j s' r).2
  | 0, _, _, _, _ => rfl
  | n + 1, j, s, s', r => by
    unfold lwl
    split
    · exact lwl_2 n _ _ _ _
    · rfl
theorem lwl_m : ∀ (n : Nat) (j s : Int), rdm fun r => (lwl hs sz dt cd f P n j s r).2
  | 0, _, _ => Or.inl fun _ => rfl
  | n + 1, j, s => by
    by_cases h : P = true ∧ ¬ cd j = 0
    · have h1 : rdm fun r => (lw hs sz dt f (cd j - 1) 5 0 r).2 := lw_2 5 0
      have h2 := lwl_m n (j + 1) (s + (lw hs sz dt f (cd j - 1) 5 0 0).1)
      have h3 := h1.comp h2
      have e : (fun r => (lwl hs sz dt cd f P (n + 1) j s r).2) = fun r => (lwl hs sz dt cd f P n (j + 1) (s + (lw hs sz dt f (cd j - 1) 5 0 0).1) (lw hs sz dt f (cd j - 1) 5 0 r).2).2 := by
        funext r
        show (if P = true ∧ ¬ cd j = 0 then _ else _ : Int × Int).2 = _
        rw [if_pos h, lw_1 5 0 r 0]
      rw [e]
      exact h3
    · have e : (fun r => (lwl hs sz dt cd f P (n + 1) j s r).2) = fun r => r := by
        funext r
        show (if P = true ∧ ¬ cd j = 0 then _ else _ : Int × Int).2 = _
        rw [if_neg h]
      rw [e]
      exact Or.inl fun _ => rfl
theorem lrf_m : ∀ (n : Nat) (k : Int), rdm (lrf μ a n k)
  | 0, _ => Or.inl fun _ => rfl
  | n + 1, k => (lwl_m (hs := lhs μ a) (sz := lsz μ a) (dt := ldt μ a) (cd := lcd (μ 104 0 k)) (f := lfo μ k) (P := decide (0 < μ 104 0 k)) 8 0 0).comp (lrf_m n (k + 1))
theorem lwk_1 : (lwk μ a k).1 = lww μ a k := lwl_1 _ _ _ _ _
theorem lwk_2 : (lwk μ a k).2 = lrd μ a k (μ 107 0 4) := lwl_2 _ _ _ _ _
/-- what a word's home, width and reads rest on -/
def sfl (μ ν : ZU) : Prop := ν 101 = μ 101 ∧ ν 103 = μ 103 ∧ ν 104 = μ 104 ∧ ν 105 = μ 105 ∧ ν 106 = μ 106
theorem lph_of (h5 : ν 105 = μ 105) : ∀ (n : Nat) (j s : Int), lph ν k n j s = lph μ k n j s
  | 0, _, _ => rfl
  | n + 1, j, s => by
    unfold lph
    rw [h5]
    exact lph_of h5 n _ _
theorem lhome_of (h : sfl μ ν) : lhome ν k = lhome μ k := by
  unfold lhome
  rw [h.2.2.2.2, lph_of h.2.2.2.1]
theorem lfo_of (h : sfl μ ν) : lfo ν k = lfo μ k := by
  unfold lfo
  rw [lhome_of h, h.2.2.2.2, h.2.2.2.1]
theorem lfv_of (h : sfl μ ν) : lfv ν a = lfv μ a := lfv_congr (by rw [h.1]) (by rw [h.2.1])
theorem lhs_of (h : sfl μ ν) : lhs ν a = lhs μ a := by unfold lhs; rw [lfv_of h]
theorem lsz_of (h : sfl μ ν) : lsz ν a = lsz μ a := by unfold lsz; rw [lfv_of h]
theorem ldt_of (h : sfl μ ν) : ldt ν a = ldt μ a := by unfold ldt; rw [lfv_of h]
theorem lww_of (h : sfl μ ν) (h0 : ν 110 = μ 110) : lww ν a k = lww μ a k := by
  unfold lww lws
  rw [lhs_of h, lsz_of h, ldt_of h, lfo_of h, h.2.2.1, h0]
theorem lrd_of (h : sfl μ ν) : lrd ν a k r = lrd μ a k r := by
  unfold lrd
  rw [lhs_of h, lsz_of h, ldt_of h, lfo_of h, h.2.2.1]
theorem lrf_of (h : sfl μ ν) : ∀ (n : Nat) (k r : Int), lrf ν a n k r = lrf μ a n k r
  | 0, _, _ => rfl
  | n + 1, k, r => by
    unfold lrf
    rw [lrd_of h]
    exact lrf_of h n _ _
theorem lk1_sfl : sfl μ (lk1 a k μ) := ⟨lk1_g (by decide) (by decide) (by decide), lk1_g (by decide) (by decide) (by decide), lk1_g (by decide) (by decide) (by decide), lk1_g (by decide) (by decide) (by decide), lk1_g (by decide) (by decide) (by decide)⟩
theorem lk1_4 : lk1 a k μ 107 0 4 = lrd μ a k (μ 107 0 4) := by
  rw [← lwk_2]
  unfold lk1 lnA lnB
  split
  · rw [mu_g (by decide), mu_g (by decide), mu_at]
  · rw [mu_j (by decide), mu_g (by decide), mu_g (by decide), mu_at]
theorem lnN_4 : ∀ (n : Nat) (k : Int) (μ : ZU), lnN a n k μ 107 0 4 = lrf μ a n k (μ 107 0 4)
  | 0, _, _ => rfl
  | n + 1, k, μ => by
    unfold lnN lrf
    rw [lnN_4 n, lk1_4]
    exact lrf_of lk1_sfl n _ _
theorem lk1_pl (h : LQ ν S k) (hh : lhome ν k = x) (hx : 0 ≤ x ∧ x < 11) (hw : lww ν a k = y) (hy : 0 ≤ y ∧ y ≤ 260) (hk : 0 ≤ k) (hk2 : k < 40) (hM : ν 106 0 10 = M) (hM2 : M ≤ 200) : LQ (lk1 a k ν) (pl1 M x y k S) (k + 1) := by
  obtain ⟨h1, h2, h3, h4⟩ := h
  unfold lk1 pl1
  rw [lwk_1, hw, hh, h1, hM]
  generalize (lwk ν a k).2 = rr
  by_cases q : 1 ≤ S.1
  · obtain ⟨e1, e2, e3, e4, e5, e6, e7⟩ := h3 (S.1 - 1) (by omega) (by omega)
    have e8 := h4 q
    have em : ν 108 0 (S.1 - 1) % 16 = S.2.1 (S.1 - 1) := by omega
    rw [em, e5]
    by_cases q2 : S.2.1 (S.1 - 1) = x ∧ S.2.2.2.2 (S.1 - 1) + 4 + y ≤ M
    · rw [if_pos ⟨q, q2⟩, if_pos ⟨q, q2⟩]
      unfold lnA
      refine ⟨by simp (disch := decide) only [mu_g, mu_j]; exact h1, h2, fun l l0 l1 => ?_, fun _ => ?_⟩
      · have l1 : l < S.1 := l1
        obtain ⟨f1, f2, f3, f4, f5, f6, f7⟩ := h3 l l0 l1
        show _ = S.2.1 l + 16 * S.2.2.1 l + 1024 * zui S.2.2.2.1 (S.1 - 1) k l ∧ _ ∧ _ ∧ 0 ≤ zui S.2.2.2.1 (S.1 - 1) k l ∧ _ = zui S.2.2.2.2 (S.1 - 1) (S.2.2.2.2 (S.1 - 1) + (4 + y)) l ∧ 0 ≤ zui S.2.2.2.2 (S.1 - 1) (S.2.2.2.2 (S.1 - 1) + (4 + y)) l ∧ zui S.2.2.2.2 (S.1 - 1) (S.2.2.2.2 (S.1 - 1) + (4 + y)) l < 1024
        by_cases hl : l = S.1 - 1
        · subst hl
          rw [zui_at, zui_at]
          simp (disch := decide) only [mu_g, mu_at]
          rw [e5]
          refine ⟨by omega, f2, f3, hk, rfl, by omega, by omega⟩
        · rw [zui_n hl, zui_n hl]
          simp (disch := first | decide | assumption) only [mu_g, mu_j]
          exact ⟨f1, f2, f3, f4, f5, f6, f7⟩
      · show zui S.2.2.2.1 (S.1 - 1) k (S.1 - 1) = k + 1 - 1
        rw [zui_at]
        omega
    · rw [if_neg (fun z => q2 z.2), if_neg (fun z => q2 z.2)]
      unfold lnB
      refine ⟨mu_at _ _ _ _, by show 0 ≤ S.1 + 1; omega, fun l l0 l1 => ?_, fun _ => ?_⟩
      · have l1 : l < S.1 + 1 := l1
        show _ = zui S.2.1 S.1 x l + 16 * zui S.2.2.1 S.1 k l + 1024 * zui S.2.2.2.1 S.1 k l ∧ (0 ≤ zui S.2.1 S.1 x l ∧ zui S.2.1 S.1 x l < 16) ∧ (0 ≤ zui S.2.2.1 S.1 k l ∧ zui S.2.2.1 S.1 k l < 64) ∧ 0 ≤ zui S.2.2.2.1 S.1 k l ∧ _ = zui S.2.2.2.2 S.1 y l ∧ 0 ≤ zui S.2.2.2.2 S.1 y l ∧ zui S.2.2.2.2 S.1 y l < 1024
        by_cases hl : l = S.1
        · subst hl
          rw [zui_at, zui_at, zui_at, zui_at]
          simp (disch := decide) only [mu_g, mu_at]
          refine ⟨trivial, by omega, by omega, hk, trivial, by omega, by omega⟩
        · rw [zui_n hl, zui_n hl, zui_n hl, zui_n hl]
          simp (disch := first | decide | assumption) only [mu_g, mu_j]
          exact h3 l l0 (by omega)
      · show zui S.2.2.2.1 S.1 k (S.1 + 1 - 1) = k + 1 - 1
        rw [show S.1 + 1 - 1 = S.1 by omega, zui_at]
        omega
  · rw [if_neg (fun z => q z.1), if_neg (fun z => q z.1)]
    unfold lnB
    refine ⟨mu_at _ _ _ _, by show 0 ≤ S.1 + 1; omega, fun l l0 l1 => ?_, fun _ => ?_⟩
    · have l1 : l < S.1 + 1 := l1
      show _ = zui S.2.1 S.1 x l + 16 * zui S.2.2.1 S.1 k l + 1024 * zui S.2.2.2.1 S.1 k l ∧ (0 ≤ zui S.2.1 S.1 x l ∧ zui S.2.1 S.1 x l < 16) ∧ (0 ≤ zui S.2.2.1 S.1 k l ∧ zui S.2.2.1 S.1 k l < 64) ∧ 0 ≤ zui S.2.2.2.1 S.1 k l ∧ _ = zui S.2.2.2.2 S.1 y l ∧ 0 ≤ zui S.2.2.2.2 S.1 y l ∧ zui S.2.2.2.2 S.1 y l < 1024
      have hl : l = S.1 := by omega
      subst hl
      rw [zui_at, zui_at, zui_at, zui_at]
      simp (disch := decide) only [mu_g, mu_at]
      refine ⟨trivial, by omega, by omega, hk, trivial, by omega, by omega⟩
    · show zui S.2.2.2.1 S.1 k (S.1 + 1 - 1) = k + 1 - 1
      rw [show S.1 + 1 - 1 = S.1 by omega, zui_at]
      omega
theorem lnN_pl : ∀ (n : Nat) (k : Int) (ν : ZU) (S : ZLn), LQ ν S k → 0 ≤ k → k + n ≤ 40 → (∀ j, k ≤ j → j < k + n → lhome ν j = hf j ∧ (0 ≤ hf j ∧ hf j < 11) ∧ lww ν a j = wf j ∧ 0 ≤ wf j ∧ wf j ≤ 260) → ν 106 0 10 = M → M ≤ 200 → LQ (lnN a n k ν) (plN M hf wf n k S) (k + n)
  | 0, k, ν, S, h, h0, hn, hj, hM, hM2 => by
    have e : k + ((0 : Nat) : Int) = k := by omega
    rw [e]
    exact h
  | n + 1, k, ν, S, h, h0, hn, hj, hM, hM2 => by
    obtain ⟨j1, j2, j3, j4⟩ := hj k (by omega) (by omega)
    have e : k + ((n + 1 : Nat) : Int) = k + 1 + n := by omega
    rw [e]
    have h0' : lk1 a k ν 110 = ν 110 := lk1_g (by decide) (by decide) (by decide)
    refine lnN_pl n (k + 1) (lk1 a k ν) (pl1 M (hf k) (wf k) k S) (lk1_pl h j1 j2 j3 j4 h0 (by omega) hM hM2) (by omega) (by omega) (fun j a b => ?_) ?_ hM2
    · rw [lhome_of lk1_sfl, lww_of lk1_sfl h0']
      exact hj j (by omega) (by omega)
    · rw [lk1_g (by decide) (by decide) (by decide)]
      exact hM
theorem lbN_pb (hL : ν 107 0 0 = L) (hH : ν 106 0 11 = H) (h1 : ∀ j, 0 ≤ j → j < L → lhm ν j = hf j) : ∀ (n : Nat) (ξ : ZU) (P : (Int → Int) × (Int → Int)), ξ 106 = ν 106 → ξ 107 = ν 107 → ξ 108 = ν 108 → (n : Int) ≤ L → (∀ l, (n : Int) ≤ l → l < L → ξ 113 b l = P.1 l ∧ ξ 114 b l = P.2 l) → ∀ l, 0 ≤ l → l < L → lbN b s n ξ 113 b l = (pbN L H (hgt L hf s) (bdp L hf) n P).1 l ∧ lbN b s n ξ 114 b l = (pbN L H (hgt L hf s) (bdp L hf) n P).2 l
  | 0, ξ, P, _, _, _, hn, h => h
  | n + 1, ξ, P, g6, g7, g8, hn, h => by
    unfold lbN pbN
    have hm : lhm ξ = lhm ν := by unfold lhm; rw [g8]
    have hc : cpb (ξ 107 0 0) (ξ 106 0 11) (hgt (ξ 107 0 0) (lhm ξ) s) (bdp (ξ 107 0 0) (lhm ξ)) (ξ 113 b) n = cpb L H (hgt L hf s) (bdp L hf) P.1 n := by
      rw [g6, g7, hm, hL, hH]
      exact cpb_congr (by omega) (fun e a c => hgt_congr h1 (by omega) c) (fun e a c => bdp_congr h1 (by omega) c) (fun e a c => (h e (by omega) c).1)
    refine lbN_pb hL hH h1 n _ _ ((lb1_g (by decide) (by decide)).trans g6) ((lb1_g (by decide) (by decide)).trans g7) ((lb1_g (by decide) (by decide)).trans g8) (by omega) (fun l l0 l1 => ?_)
    unfold lb1
    rw [hc]
    show _ = zui P.1 n _ l ∧ _ = zui P.2 n _ l
    by_cases hl : l = n
    · subst hl
      rw [zui_at, zui_at]
      simp (disch := decide) only [mu_g, mu_at]
      exact ⟨trivial, trivial⟩
    · rw [zui_n hl, zui_n hl]
      simp (disch := first | decide | assumption) only [mu_g, mu_j]
      exact h l (by omega) l1
theorem nqN_pn : ∀ (n : Nat) (k nx : Int) (ν : ZU) (S : Int × (Int → Int)), ν 107 0 1 = S.1 → (∀ j, 0 ≤ j → j < k → ν 109 0 j = wd j + 1024 * S.2 j) → (∀ j, k ≤ j → j < k + n → ν 109 0 j = wd j ∧ (0 ≤ wd j ∧ wd j < 1024) ∧ ν 114 b j = pe j) → nqN b n k nx ν 107 0 1 = (pnN pe n k nx S).1 ∧ ∀ j, 0 ≤ j → j < k + n → nqN b n k nx ν 109 0 j = wd j + 1024 * (pnN pe n k nx S).2 j
  | 0, k, nx, ν, S, h1, h2, h3 => ⟨h1, fun j a c => h2 j a (by omega)⟩
  | n + 1, k, nx, ν, S, h1, h2, h3 => by
    obtain ⟨k1, k2, k3⟩ := h3 k (by omega) (by omega)
    have e1 : wd k % 1024 = wd k := by omega
    have e2 : S.1 + 1 - 1 = S.1 := by omega
    unfold nqN pnN
    by_cases q : k = nx
    · rw [if_pos q, if_pos q, k3, h1, k1, e1, e2]
      have ih := nqN_pn n (k + 1) (pe k) (mu (mu ν 107 0 1 (S.1 + 1)) 109 0 k (wd k + 1024 * S.1)) (S.1 + 1, zui S.2 k S.1) (by rw [mu_g (by decide), mu_at]) (fun j a c => by
        show _ = wd j + 1024 * zui S.2 k S.1 j
        by_cases hj : j = k
        · rw [hj, mu_at, zui_at]
        · rw [mu_j hj, zui_n hj, mu_g (by decide)]
          exact h2 j a (by omega)) (fun j a c => by rw [mu_j (by omega), mu_g (by decide), mu_g (k' := 114) (by decide), mu_g (k' := 114) (by decide)]; exact h3 j (by omega) (by omega))
      exact ⟨ih.1, fun j a c => ih.2 j a (by omega)⟩
    · rw [if_neg q, if_neg q, h1, k1, e1]
      have ih := nqN_pn n (k + 1) nx (mu ν 109 0 k (wd k + 1024 * (S.1 - 1))) (S.1, zui S.2 k (S.1 - 1)) (by rw [mu_g (by decide)]; exact h1) (fun j a c => by
        show _ = wd j + 1024 * zui S.2 k (S.1 - 1) j
        by_cases hj : j = k
        · rw [hj, mu_at, zui_at]
        · rw [mu_j hj, zui_n hj]
          exact h2 j a (by omega)) (fun j a c => by rw [mu_j (by omega), mu_g (k' := 114) (by decide)]; exact h3 j (by omega) (by omega))
      exact ⟨ih.1, fun j a c => ih.2 j a (by omega)⟩
theorem l1p_pure (h : PL ν a I sh) (hs : s = iS I) : LR (l1p a s ν) I sh := by
  obtain ⟨h1, h2, h3, h4, h5, h6⟩ := h
  have g : ∀ q, q ≠ 107 → mu (mu ν 107 0 2 (ν 107 0 2 + 1)) 107 0 0 0 q = ν q := fun q hq => by rw [mu_g hq, mu_g hq]
  have gs : sfl ν (mu (mu ν 107 0 2 (ν 107 0 2 + 1)) 107 0 0 0) := ⟨g _ (by decide), g _ (by decide), g _ (by decide), g _ (by decide), g _ (by decide)⟩
  have hl : LQ (lnS a (mu ν 107 0 2 (ν 107 0 2 + 1))) (pLn I sh) (iN I) := by
    unfold lnS pLn
    have e : (mu ν 107 0 2 (ν 107 0 2 + 1) 106 0 2).toNat = iN I := by
      rw [mu_g (by decide)]
      omega
    rw [e]
    have hq := lnN_pl (a := a) (hf := iHm I) (wf := wof I sh) (M := iM I) (iN I) 0 (mu (mu ν 107 0 2 (ν 107 0 2 + 1)) 107 0 0 0) (0, z0f, z0f, z0f, z0f) ⟨mu_at _ _ _ _, Int.le_refl _, fun l x y => (by
      have y : l < 0 := y
      omega), fun x => (by
      have x : (1 : Int) ≤ 0 := x
      omega)⟩ (by omega) (by omega) (fun j x y => ?_) (by rw [g 106 (by decide)]; exact h1) h2
    · have e0 : (0 : Int) + (iN I : Int) = iN I := by omega
      rw [e0] at hq
      exact hq
    · obtain ⟨q1, q2, q3⟩ := h6 j x (by omega)
      rw [lhome_of gs, lww_of gs (g 110 (by decide))]
      refine ⟨q1, q2, ?_⟩
      unfold wof
      rcases q3 with ⟨t1, t2, t3⟩ | ⟨t1, t2, t3, t4⟩
      · have hd : decide (0 < ν 104 0 j) = false := decide_eq_false (by omega)
        have hw : lww ν a j = if 9 < sh j then 12 else 6 := by
          unfold lww lws
          rw [hd, lwl_f, if_pos t1, t3]
        have ht : ¬ iTg I j = -1 := by omega
        rw [hw, if_neg ht]
        by_cases z : sh j < 10
        · rw [if_pos z, if_neg (show ¬ 9 < sh j by omega)]
          exact ⟨rfl, by decide, by decide⟩
        · rw [if_neg z, if_pos (show 9 < sh j by omega)]
          exact ⟨rfl, by decide, by decide⟩
      · rw [if_pos t2]
        exact ⟨t3, t4⟩
  have d6 : lnS a (mu ν 107 0 2 (ν 107 0 2 + 1)) 106 = ν 106 := by rw [lnS_g (by decide) (by decide) (by decide), mu_g (by decide)]
  obtain ⟨l1, l2, l3, -⟩ := hl
  unfold l1p
  generalize lnS a (mu ν 107 0 2 (ν 107 0 2 + 1)) = ξ at *
  have e7 : mPt (ξ 0 0 113) ξ 107 = ξ 107 := mPt_g (by decide) (by decide) (by decide)
  have e6 : mPt (ξ 0 0 113) ξ 106 = ξ 106 := mPt_g (by decide) (by decide) (by decide)
  have e8 : mPt (ξ 0 0 113) ξ 108 = ξ 108 := mPt_g (by decide) (by decide) (by decide)
  have e9 : mPt (ξ 0 0 113) ξ 109 = ξ 109 := mPt_g (by decide) (by decide) (by decide)
  have hmm : ∀ j, 0 ≤ j → j < (pLn I sh).1 → lhm ξ j = (pLn I sh).2.1 j := fun j x y => by
    obtain ⟨f1, f2, f3, f4, -⟩ := l3 j x y
    unfold lhm
    omega
  have hb := lbN_pb (ν := ξ) (b := ξ 0 0 113) (s := s) (H := iH I) l1 (by rw [d6]; exact h3) hmm (pLn I sh).1.toNat (mPt (ξ 0 0 113) ξ) (z0f, z0f) e6 e7 e8 (by omega) (fun l x y => by omega)
  have eb : lbN (ξ 0 0 113) s (pLn I sh).1.toNat (mPt (ξ 0 0 113) ξ) = ptB s ξ := by
    unfold ptB
    rw [l1]
  rw [eb, hs] at hb
  have eP : pbN (pLn I sh).1 (iH I) (hgt (pLn I sh).1 (pLn I sh).2.1 (iS I)) (bdp (pLn I sh).1 (pLn I sh).2.1) (pLn I sh).1.toNat (z0f, z0f) = pPb I sh := rfl
  rw [eP, ← hs] at hb
  have b9 : ptB s ξ 109 = ξ 109 := ptB_g (by decide) (by decide) (by decide)
  have hn := nqN_pn (b := ξ 0 0 113) (pe := (pPb I sh).2) (wd := (pLn I sh).2.2.2.2) (pLn I sh).1.toNat 0 0 (mu (mu (ptB s ξ) 107 0 1 0) 107 0 3 (ptB s ξ 113 (ξ 0 0 113) 0)) (0, z0f) (by rw [mu_j (by decide), mu_at]) (fun j x y => by omega) (fun j x y => by
    obtain ⟨f1, f2, f3, f4, f5, f6, f7⟩ := l3 j x (by omega)
    rw [mu_g (by decide), mu_g (by decide), mu_g (k' := 114) (by decide), mu_g (k' := 114) (by decide), b9]
    exact ⟨f5, ⟨f6, f7⟩, (hb j x (by omega)).2⟩)
  have ec : nqN (ξ 0 0 113) (pLn I sh).1.toNat 0 0 (mu (mu (ptB s ξ) 107 0 1 0) 107 0 3 (ptB s ξ 113 (ξ 0 0 113) 0)) = ptC s ξ := by
    unfold ptC
    rw [l1]
  rw [ec] at hn
  have eN : pnN (pPb I sh).2 (pLn I sh).1.toNat 0 0 (0, z0f) = pNm I sh := rfl
  rw [eN] at hn
  have p8 : ptS s ξ 108 = ξ 108 := ptS_g (by decide) (by decide) (by decide) (by decide) (by decide)
  have p7 : ptS s ξ 107 0 0 = ξ 107 0 0 := ptS_7 (by decide) (by decide)
  have p9 : ptS s ξ 109 = ptC s ξ 109 := by unfold ptS; rw [mu_g (by decide)]
  refine ⟨p7.trans l1, l2, fun l x y => ?_, ?_, ?_⟩
  · obtain ⟨f1, f2, f3, f4, f5, f6, f7⟩ := l3 l x y
    rw [p8, p9]
    exact ⟨f1, f2, f3, f4, hn.2 l x (by omega), f6, f7⟩
  · unfold ptS
    rw [mu_j (by decide)]
    exact hn.1
  · unfold ptS
    rw [mu_at, l1]
    by_cases q : (pLn I sh).1 = 0
    · rw [if_pos q]
      unfold pPb
      rw [q]
      rfl
    · rw [if_neg q]
      exact (hb 0 (by omega) (by omega)).1
end ZPC
