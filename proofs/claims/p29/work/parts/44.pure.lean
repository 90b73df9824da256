/-! ===== setting, without a memory ===== -/
abbrev ZLn : Type := Int × (Int → Int) × (Int → Int) × (Int → Int) × (Int → Int)
/-- measure, height, space, words, their paragraphs, what they refer to, how wide they are -/
abbrev ZIn : Type := Int × Int × Int × Nat × (Int → Int) × (Int → Int) × (Int → Int)
def iM (I : ZIn) : Int := I.1
def iH (I : ZIn) : Int := I.2.1
def iS (I : ZIn) : Int := I.2.2.1
def iN (I : ZIn) : Nat := I.2.2.2.1
def iHm (I : ZIn) : Int → Int := I.2.2.2.2.1
def iTg (I : ZIn) : Int → Int := I.2.2.2.2.2.1
def iW (I : ZIn) : Int → Int := I.2.2.2.2.2.2
def z0f : Int → Int := fun _ => 0
def pl1 (M hk wk k : Int) (S : ZLn) : ZLn := if 1 ≤ S.1 ∧ S.2.1 (S.1 - 1) = hk ∧ S.2.2.2.2 (S.1 - 1) + 4 + wk ≤ M then (S.1, S.2.1, S.2.2.1, zui S.2.2.2.1 (S.1 - 1) k, zui S.2.2.2.2 (S.1 - 1) (S.2.2.2.2 (S.1 - 1) + (4 + wk))) else (S.1 + 1, zui S.2.1 S.1 hk, zui S.2.2.1 S.1 k, zui S.2.2.2.1 S.1 k, zui S.2.2.2.2 S.1 wk)
def plN (M : Int) (hf wf : Int → Int) : Nat → Int → ZLn → ZLn
  | 0, _, S => S
  | n + 1, k, S => plN M hf wf n (k + 1) (pl1 M (hf k) (wf k) k S)
def pbN (L H : Int) (hg bd : Int → Int) : Nat → (Int → Int) × (Int → Int) → (Int → Int) × (Int → Int)
  | 0, P => P
  | n + 1, P => pbN L H hg bd n (zui P.1 n (cpb L H hg bd P.1 n).1, zui P.2 n (cpb L H hg bd P.1 n).2)
def pnN (pe : Int → Int) : Nat → Int → Int → Int × (Int → Int) → Int × (Int → Int)
  | 0, _, _, S => S
  | n + 1, k, en, S => if k = en then pnN pe n (k + 1) (pe k) (S.1 + 1, zui S.2 k S.1) else pnN pe n (k + 1) en (S.1, zui S.2 k (S.1 - 1))
def wof (I : ZIn) (sh : Int → Int) (k : Int) : Int := if iTg I k = -1 then iW I k else (if sh k < 10 then 1 else 2) * 6
def pLn (I : ZIn) (sh : Int → Int) : ZLn := plN (iM I) (iHm I) (wof I sh) (iN I) 0 (0, z0f, z0f, z0f, z0f)
def pPb (I : ZIn) (sh : Int → Int) : (Int → Int) × (Int → Int) := pbN (pLn I sh).1 (iH I) (hgt (pLn I sh).1 (pLn I sh).2.1 (iS I)) (bdp (pLn I sh).1 (pLn I sh).2.1) (pLn I sh).1.toNat (z0f, z0f)
def pNm (I : ZIn) (sh : Int → Int) : Int × (Int → Int) := pnN (pPb I sh).2 (pLn I sh).1.toNat 0 0 (0, z0f)
def pFd (I : ZIn) (sh : Int → Int) (p : Int) : Int := fdG (pLn I sh).2.1 (pNm I sh).2 p 1 (pLn I sh).1.toNat 0
def pSt (I : ZIn) (sh : Int → Int) : Prop := ∀ k, 0 ≤ k → k < (iN I : Int) → (iTg I k = -1 ∨ sh k = pFd I sh (iTg I k))
def pRn (I : ZIn) (sh : Int → Int) : Int → Int := fun k => pFd I sh (iTg I k)
noncomputable def pSh (I : ZIn) : Nat → (Int → Int) → Int → (Int → Int) × Int
  | 0, sh, p => (sh, p + 1)
  | m + 1, sh, p => @ite _ (pSt I sh) (Classical.propDecidable _) (sh, p + 1) (pSh I m (pRn I sh) (p + 1))
/-- the end of setting: what is shown, how many passes -/
noncomputable def pEnd (I : ZIn) : (Int → Int) × Int := pSh I 4 (fun _ => 1) 0
section ZPA
variable {μ ν κ β : ZU} {a b c d e f g h i j k l m p r s t v w x y z L H M : Int} {I : ZIn} {sh sh' : Int → Int} {S T : ZLn} {hf wf hf' wf' hg bd pe : Int → Int}
theorem zui_at : zui hf b v b = v := if_pos rfl
theorem zui_n (h : j ≠ b) : zui hf b v j = hf j := if_neg h
theorem plN_congr : ∀ (n : Nat) (k : Int) (S : ZLn), (∀ j, k ≤ j → j < k + n → hf j = hf' j ∧ wf j = wf' j) → plN M hf wf n k S = plN M hf' wf' n k S
  | 0, _, _, _ => rfl
  | n + 1, k, S, h => by
    unfold plN
    obtain ⟨h1, h2⟩ := h k (by omega) (by omega)
    rw [h1, h2]
    exact plN_congr n (k + 1) _ fun j a b => h j (by omega) (by omega)
/-- lines in a memory -/
def lnQ (κ : ZU) (c : Int) (S : ZLn) : Prop := κ 50 c 1 = S.1 ∧ 0 ≤ S.1 ∧ ∀ l, 0 ≤ l → l < S.1 → κ 52 c l = S.2.1 l ∧ κ 53 c l = S.2.2.1 l ∧ κ 54 c l = S.2.2.2.1 l ∧ κ 55 c l = S.2.2.2.2 l
theorem bl1_pl (h : lnQ κ c S) (hh : κ 33 d w = x) (hw : wdt κ c w = y) (hM : κ 30 d 0 = M) : lnQ (bl1 κ c d w) c (pl1 M x y w S) := by
  obtain ⟨h1, h2, h3⟩ := h
  unfold bl1 pl1
  rw [h1, hh, hw, hM]
  by_cases q : 1 ≤ S.1
  · obtain ⟨e1, e2, e3, e4⟩ := h3 (S.1 - 1) (by omega) (by omega)
    rw [e1, e4]
    by_cases q2 : S.2.1 (S.1 - 1) = x ∧ S.2.2.2.2 (S.1 - 1) + 4 + y ≤ M
    · rw [if_pos ⟨q, q2⟩, if_pos ⟨q, q2⟩]
      refine ⟨by rw [mu_g (by decide), mu_g (by decide)]; exact h1, h2, fun l l0 l1 => ?_⟩
      obtain ⟨f1, f2, f3, f4⟩ := h3 l l0 l1
      rw [mu_g (k' := 52) (by decide), mu_g (k' := 52) (by decide), mu_g (k' := 53) (by decide), mu_g (k' := 53) (by decide), mu_g (k' := 55) (by decide)]
      refine ⟨f1, f2, ?_, ?_⟩
      · show _ = zui S.2.2.2.1 (S.1 - 1) w l
        by_cases hl : l = S.1 - 1
        · rw [hl, mu_at, zui_at]
        · rw [mu_j hl, zui_n hl, mu_g (by decide)]
          exact f3
      · show _ = zui S.2.2.2.2 (S.1 - 1) (S.2.2.2.2 (S.1 - 1) + (4 + y)) l
        by_cases hl : l = S.1 - 1
        · rw [hl, mu_at, zui_at]
        · rw [mu_j hl, zui_n hl]
          exact f4
    · rw [if_neg (fun z => q2 z.2), if_neg (fun z => q2 z.2)]
      unfold beg
      rw [h1]
      refine ⟨mu_at _ _ _ _, by show 0 ≤ S.1 + 1; omega, fun l l0 l1 => ?_⟩
      have l1 : l < S.1 + 1 := l1
      rw [mu_g (k' := 52) (by decide), mu_g (k' := 52) (by decide), mu_g (k' := 52) (by decide), mu_g (k' := 52) (by decide), mu_g (k' := 53) (by decide), mu_g (k' := 53) (by decide), mu_g (k' := 53) (by decide), mu_g (k' := 54) (by decide), mu_g (k' := 54) (by decide), mu_g (k' := 55) (by decide)]
      show _ = zui S.2.1 S.1 x l ∧ _ = zui S.2.2.1 S.1 w l ∧ _ = zui S.2.2.2.1 S.1 w l ∧ _ = zui S.2.2.2.2 S.1 y l
      by_cases hl : l = S.1
      · subst hl
        rw [mu_at, mu_at, mu_at, mu_at, zui_at, zui_at, zui_at, zui_at]
        exact ⟨rfl, rfl, rfl, rfl⟩
      · simp (disch := first | decide | assumption) only [mu_g, mu_j, zui_n]
        exact h3 l l0 (by omega)
  · rw [if_neg (fun z => q z.1), if_neg (fun z => q z.1)]
    unfold beg
    rw [h1]
    refine ⟨mu_at _ _ _ _, by show 0 ≤ S.1 + 1; omega, fun l l0 l1 => ?_⟩
    have l1 : l < S.1 + 1 := l1
    have hl : l = S.1 := by omega
    rw [mu_g (k' := 52) (by decide), mu_g (k' := 52) (by decide), mu_g (k' := 52) (by decide), mu_g (k' := 52) (by decide), mu_g (k' := 53) (by decide), mu_g (k' := 53) (by decide), mu_g (k' := 53) (by decide), mu_g (k' := 54) (by decide), mu_g (k' := 54) (by decide), mu_g (k' := 55) (by decide)]
    show _ = zui S.2.1 S.1 x l ∧ _ = zui S.2.2.1 S.1 w l ∧ _ = zui S.2.2.2.1 S.1 w l ∧ _ = zui S.2.2.2.2 S.1 y l
    subst hl
    rw [mu_at, mu_at, mu_at, mu_at, zui_at, zui_at, zui_at, zui_at]
    exact ⟨rfl, rfl, rfl, rfl⟩
theorem wdt_of (h1 : ν 51 = μ 51) (h2 : ν 61 = μ 61) : wdt ν c w = wdt μ c w := by
  unfold wdt
  rw [h1, h2]
theorem blN_pl : ∀ (n : Nat) (w : Int) (κ : ZU) (S : ZLn), lnQ κ c S → (∀ k, w ≤ k → k < w + n → κ 33 d k = hf k ∧ wdt κ c k = wf k) → κ 30 d 0 = M → lnQ (blN c d n w κ) c (plN M hf wf n w S)
  | 0, _, _, _, h, _, _ => h
  | n + 1, w, κ, S, h, hk, hM => by
    obtain ⟨h1, h2⟩ := hk w (by omega) (by omega)
    unfold blN plN
    refine blN_pl n (w + 1) _ _ (bl1_pl h h1 h2 hM) (fun k a b => ?_) ?_
    · rw [bl1_g (by decide) (by decide) (by decide) (by decide) (by decide), wdt_of (bl1_g (by decide) (by decide) (by decide) (by decide) (by decide)) (bl1_g (by decide) (by decide) (by decide) (by decide) (by decide))]
      exact hk k (by omega) (by omega)
    · rw [bl1_g (by decide) (by decide) (by decide) (by decide) (by decide)]
      exact hM
theorem bpN_pb (hL : κ 50 c 1 = L) (h1 : ∀ e, 0 ≤ e → e < L → κ 62 0 e = hg e) (h2 : ∀ e, 0 < e → e < L → κ 63 0 e = bd e) : ∀ (n : Nat) (ν : ZU) (P : (Int → Int) × (Int → Int)), ν 50 = κ 50 → ν 62 = κ 62 → ν 63 = κ 63 → (n : Int) ≤ L → (∀ l, (n : Int) ≤ l → l < L → ν 64 0 l = P.1 l ∧ ν 65 0 l = P.2 l) → ∀ l, 0 ≤ l → l < L → bpN c H n ν 64 0 l = (pbN L H hg bd n P).1 l ∧ bpN c H n ν 65 0 l = (pbN L H hg bd n P).2 l
  | 0, ν, P, _, _, _, hn, h => h
  | n + 1, ν, P, g1, g2, g3, hn, h => by
    unfold bpN pbN
    have hc : cpb L H (ν 62 0) (ν 63 0) (ν 64 0) n = cpb L H hg bd P.1 n := by
      rw [g2, g3]
      exact cpb_congr (by omega) (fun e a b => h1 e (by omega) b) (fun e a b => h2 e (by omega) b) (fun e a b => (h e (by omega) b).1)
    have hL' : ν 50 c 1 = L := by rw [g1]; exact hL
    refine bpN_pb hL h1 h2 n _ _ ((bp1_g (by decide) (by decide)).trans g1) ((bp1_g (by decide) (by decide)).trans g2) ((bp1_g (by decide) (by decide)).trans g3) (by omega) (fun l l0 l1 => ?_)
    unfold bp1
    rw [hL', hc, mu_g (k' := 64) (by decide)]
    show _ = zui P.1 n _ l ∧ _ = zui P.2 n _ l
    by_cases hl : l = n
    · subst hl
      rw [mu_at, mu_at, zui_at, zui_at]
      exact ⟨rfl, rfl⟩
    · rw [mu_j hl, mu_j hl, zui_n hl, zui_n hl, mu_g (by decide)]
      exact h l (by omega) l1
theorem npN_pn : ∀ (n : Nat) (l en : Int) (κ : ZU) (S : Int × (Int → Int)), κ 50 c 2 = S.1 → (∀ j, 0 ≤ j → j < l → κ 56 c j = S.2 j) → (∀ j, l ≤ j → j < l + n → κ 65 0 j = pe j) → npN c n l en κ 50 c 2 = (pnN pe n l en S).1 ∧ ∀ j, 0 ≤ j → j < l + n → npN c n l en κ 56 c j = (pnN pe n l en S).2 j
  | 0, l, en, κ, S, h1, h2, h3 => ⟨h1, fun j a b => h2 j a (by omega)⟩
  | n + 1, l, en, κ, S, h1, h2, h3 => by
    unfold npN pnN
    have e1 : κ 50 c 2 + 1 - 1 = S.1 := by omega
    by_cases q : l = en
    · rw [if_pos q, if_pos q, h3 l (by omega) (by omega), e1, h1]
      have ih := npN_pn n (l + 1) (pe l) (mu (mu κ 50 c 2 (S.1 + 1)) 56 c l S.1) (S.1 + 1, zui S.2 l S.1) (by rw [mu_g (by decide), mu_at]) (fun j a b => by
        show _ = zui S.2 l S.1 j
        by_cases hj : j = l
        · rw [hj, mu_at, zui_at]
        · rw [mu_j hj, zui_n hj, mu_g (by decide)]
          exact h2 j a (by omega)) (fun j a b => by rw [mu_g (by decide), mu_g (by decide)]; exact h3 j (by omega) (by omega))
      exact ⟨ih.1, fun j a b => ih.2 j a (by omega)⟩
    · rw [if_neg q, if_neg q, h1]
      have ih := npN_pn n (l + 1) en (mu κ 56 c l (S.1 - 1)) (S.1, zui S.2 l (S.1 - 1)) (by rw [mu_g (by decide)]; exact h1) (fun j a b => by
        show _ = zui S.2 l (S.1 - 1) j
        by_cases hj : j = l
        · rw [hj, mu_at, zui_at]
        · rw [mu_j hj, zui_n hj]
          exact h2 j a (by omega)) (fun j a b => by rw [mu_g (by decide)]; exact h3 j (by omega) (by omega))
      exact ⟨ih.1, fun j a b => ih.2 j a (by omega)⟩
theorem hgt_congr {hm hm' : Int → Int} (h : ∀ j, 0 ≤ j → j < L → hm j = hm' j) (h0 : 0 ≤ l) (h1 : l < L) : hgt L hm s l = hgt L hm' s l := by
  unfold hgt
  by_cases q : l = L - 1
  · rw [if_pos (Or.inl q), if_pos (Or.inl q)]
  · rw [h l h0 h1, h (l + 1) (by omega) (by omega)]
/-- what a pass leaves in the class's sheets c -/
def RC (κ : ZU) (c : Int) (I : ZIn) (sh : Int → Int) : Prop := lnQ κ c (pLn I sh) ∧ κ 50 c 2 = (pNm I sh).1 ∧ κ 50 c 4 = (pPb I sh).1 0 ∧ ∀ l, 0 ≤ l → l < (pLn I sh).1 → κ 56 c l = (pNm I sh).2 l
/-- what a pass needs of the class's memory -/
def PC (κ : ZU) (c d : Int) (I : ZIn) (sh : Int → Int) : Prop := κ 30 d 0 = iM I ∧ κ 30 d 1 = iH I ∧ κ 30 d 9 = (iN I : Int) ∧ ∀ k, 0 ≤ k → k < (iN I : Int) → κ 33 d k = iHm I k ∧ κ 35 d k = iTg I k ∧ (iTg I k = -1 ∨ 0 ≤ iTg I k ∧ iTg I k < 12) ∧ κ 51 c k = (if iTg I k = -1 then -1 else sh k) ∧ (iTg I k = -1 → κ 61 0 k = iW I k) ∧ (¬ iTg I k = -1 → 1 ≤ sh k)
theorem ps1_pure (h : PC κ c d I sh) (hs : s = iS I) : RC (ps1 c d s κ) c I sh := by
  obtain ⟨h1, h2, h3, h4⟩ := h
  have g : ∀ q, q ≠ 50 → mu (mu κ 50 c 3 (κ 50 c 3 + 1)) 50 c 1 0 q = κ q := fun q hq => by rw [mu_g hq, mu_g hq]
  have hl : lnQ (psb c d κ) c (pLn I sh) := by
    unfold psb pLn
    have e : (κ 30 d 9).toNat = iN I := by omega
    rw [e]
    refine blN_pl _ 0 _ _ ⟨mu_at _ _ _ _, Int.le_refl _, fun l a b => ?_⟩ (fun k a b => ?_) (by rw [g 30 (by decide)]; exact h1)
    · have b : l < 0 := b
      omega
    · obtain ⟨q1, q2, q3, q4, q5, q6⟩ := h4 k a (by omega)
      rw [g 33 (by decide), wdt_of (g 51 (by decide)) (g 61 (by decide))]
      refine ⟨q1, ?_⟩
      unfold wdt wof
      rw [q4]
      by_cases z : iTg I k = -1
      · rw [if_pos z, if_pos rfl, if_pos z]
        exact q5 z
      · have := q6 z
        rw [if_neg z, if_neg (by omega), if_neg z]
  have hL := hl.1
  have hL0 := hl.2.1
  unfold ps1 bps bpz bpg psw
  have w50 : ∀ n, wlN c s n 0 (psb c d κ) 50 = psb c d κ 50 := fun n => wlN_g (by decide) (by decide) _ _ _
  generalize hξ : wlN c s (psb c d κ 50 c 1).toNat 0 (psb c d κ) = ξ
  have x50 : ξ 50 = psb c d κ 50 := by rw [← hξ]; exact w50 _
  have x5 : ∀ q, q ≠ 62 → q ≠ 63 → ξ q = psb c d κ q := fun q a b => by rw [← hξ]; exact wlN_g a b _ _ _
  have x62 : ∀ e, 0 ≤ e → e < (pLn I sh).1 → ξ 62 0 e = hgt (pLn I sh).1 (pLn I sh).2.1 (iS I) e := fun e a b => by
    rw [← hξ, wlN_62, if_pos (by omega), hL, hs]
    exact hgt_congr (fun j a b => (hl.2.2 j a b).1) a b
  have x63 : ∀ e, 0 < e → e < (pLn I sh).1 → ξ 63 0 e = bdp (pLn I sh).1 (pLn I sh).2.1 e := fun e a b => by
    rw [← hξ, wlN_63, if_pos (by omega), if_neg (by omega), hL]
    exact bdp_congr (fun j a b => (hl.2.2 j a b).1) (by omega) b
  have xL : ξ 50 c 1 = (pLn I sh).1 := by rw [x50]; exact hL
  have hb := bpN_pb (κ := ξ) (c := c) (H := iH I) xL x62 x63 (pLn I sh).1.toNat (mu ξ 64 0 (ξ 50 c 1) 0) (z0f, z0f) (mu_g (by decide)) (mu_g (by decide)) (mu_g (by decide)) (by omega) (fun l a b => by omega)
  rw [h2, xL]
  rw [xL] at hb
  generalize hζ : bpN c (iH I) (pLn I sh).1.toNat (mu ξ 64 0 (pLn I sh).1 0) = ζ at hb
  have z5 : ∀ q, q ≠ 64 → q ≠ 65 → ζ q = ξ q := fun q a b => by rw [← hζ, bpN_g a b, mu_g a]
  have eP : pbN (pLn I sh).1 (iH I) (hgt (pLn I sh).1 (pLn I sh).2.1 (iS I)) (bdp (pLn I sh).1 (pLn I sh).2.1) (pLn I sh).1.toNat (z0f, z0f) = pPb I sh := rfl
  rw [eP] at hb
  have e1 : mu ζ 50 c 4 (ζ 64 0 0) 50 c 1 = (pLn I sh).1 := by rw [mu_j (by decide), z5 50 (by decide) (by decide)]; exact xL
  have hn := npN_pn (c := c) (pe := (pPb I sh).2) (pLn I sh).1.toNat 0 0 (mu (mu ζ 50 c 4 (ζ 64 0 0)) 50 c 2 0) (0, z0f) (mu_at _ _ _ _) (fun j a b => by omega) (fun j a b => by
    rw [mu_g (by decide), mu_g (by decide)]
    exact (hb j a (by omega)).2)
  have eN : pnN (pPb I sh).2 (pLn I sh).1.toNat 0 0 (0, z0f) = pNm I sh := rfl
  rw [eN] at hn
  generalize hω : npN c (pLn I sh).1.toNat 0 0 (mu (mu ζ 50 c 4 (ζ 64 0 0)) 50 c 2 0) = ω at hn
  have o5 : ∀ q, q ≠ 50 → q ≠ 56 → ω q = ζ q := fun q a b => by rw [← hω, npN_g a b, mu_g a, mu_g a]
  have oj : ∀ q, q ≠ 2 → ω 50 c q = mu ζ 50 c 4 (ζ 64 0 0) 50 c q := fun q a => by rw [← hω, npN_j a, mu_j a]
  refine ⟨⟨?_, hL0, fun l a b => ?_⟩, hn.1, ?_, fun l a b => hn.2 l a (by omega)⟩
  · rw [oj 1 (by decide)]
    exact e1
  · rw [o5 52 (by decide) (by decide), o5 53 (by decide) (by decide), o5 54 (by decide) (by decide), o5 55 (by decide) (by decide), z5 52 (by decide) (by decide), z5 53 (by decide) (by decide), z5 54 (by decide) (by decide), z5 55 (by decide) (by decide), x5 52 (by decide) (by decide), x5 53 (by decide) (by decide), x5 54 (by decide) (by decide), x5 55 (by decide) (by decide)]
    exact hl.2.2 l a b
  · rw [oj 4 (by decide), mu_at]
    by_cases q : 0 < (pLn I sh).1
    · exact (hb 0 (by omega) q).1
    · have q0 : (pLn I sh).1 = 0 := by omega
      rw [← hζ, q0]
      show mu ξ 64 0 0 0 64 0 0 = _
      rw [mu_at]
      unfold pPb
      rw [q0]
      rfl
end ZPA
