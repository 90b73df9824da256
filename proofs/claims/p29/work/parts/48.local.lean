/-! ===== setting reads no more than it tells ===== -/
abbrev zbt (x t : Int) : Prop := ¬ zand (zshr x t) 1 = 0
def zsb (x y : Int) : Prop := ∀ t, 0 ≤ t → t < 10 → zbt x t → zbt y t
section ZPE
variable {μ ν κ β : ZU} {a b c d e f g h i j k l m p r s t v w x y z L H M R : Int} {I : ZIn} {hs hs' : Int → Bool} {sz dt cd sz' dt' cd' : Int → Int}
theorem zbt_N (h0 : 0 ≤ t) (h1 : t < 32) : zbt x t ↔ (Int32.ofInt x).toBitVec.toNat.testBit t.toNat = true := by
  have hz : zshr x t = zshr (Int32.ofInt x).toInt t := by
    unfold zshr
    rw [Int32.ofInt_toInt]
  have hr := zII (Int32.ofInt x)
  have h2 : zand (zshr x t) 1 = (Int32.ofInt x).toInt / 2 ^ t.toNat % 2 := by rw [hz, zand_1, zshr_e h0 h1 hr.1 hr.2]
  have h3 : (Int32.ofInt x).toInt = (Int32.ofInt x).toBitVec.toInt := rfl
  generalize (Int32.ofInt x).toBitVec = B at h3 ⊢
  have h4 : ∃ q : Int, B.toInt = (B.toNat : Int) + 4294967296 * q := by
    rw [BitVec.toInt_eq_toNat_cond]
    split
    · exact ⟨0, by omega⟩
    · exact ⟨-1, by omega⟩
  obtain ⟨q, hq⟩ := h4
  have h5 : B.toInt / 2 ^ t.toNat % 2 = ((B.toNat / 2 ^ t.toNat % 2 : Nat) : Int) := by
    have e6 : ((2 : Int) ^ t.toNat) = ((2 ^ t.toNat : Nat) : Int) := by rw [Int.natCast_pow]; rfl
    have hp := Nat.two_pow_pos t.toNat
    have e7 : (4294967296 : Int) = ((2 ^ t.toNat : Nat) : Int) * (2 * ((2 ^ (31 - t.toNat) : Nat) : Int)) := by
      have e8 : (2 : Nat) ^ t.toNat * (2 * 2 ^ (31 - t.toNat)) = 4294967296 := by
        have e9 : 2 * 2 ^ (31 - t.toNat) = 2 ^ (32 - t.toNat) := by
          rw [show 32 - t.toNat = (31 - t.toNat) + 1 by omega, Nat.pow_succ, Nat.mul_comm]
        rw [e9, ← Nat.pow_add, show t.toNat + (32 - t.toNat) = 32 by omega]
      have e10 : ((2 ^ t.toNat * (2 * 2 ^ (31 - t.toNat)) : Nat) : Int) = ((4294967296 : Nat) : Int) := congrArg _ e8
      rw [Int.natCast_mul, Int.natCast_mul] at e10
      exact e10.symm
    rw [hq, e6, e7, Int.mul_assoc, Int.add_mul_ediv_left _ _ (by omega), Int.mul_assoc]
    have e11 : ((B.toNat / 2 ^ t.toNat % 2 : Nat) : Int) = (B.toNat : Int) / ((2 ^ t.toNat : Nat) : Int) % 2 := by
      rw [Int.natCast_emod, Int.natCast_ediv]
      rfl
    rw [e11]
    omega
  unfold zbt
  rw [h2, h3, h5, Nat.testBit_eq_decide_div_mod_eq, decide_eq_true_iff]
  omega
theorem zbt_or (h0 : 0 ≤ t) (h1 : t < 32) : zbt (zor a b) t ↔ zbt a t ∨ zbt b t := by
  rw [zbt_N h0 h1, zbt_N h0 h1, zbt_N h0 h1]
  have e : Int32.ofInt (zor a b) = Int32.ofInt a ||| Int32.ofInt b := by
    unfold zor
    rw [Int32.ofInt_toInt]
  rw [e, Int32.toBitVec_or, BitVec.toNat_or, Nat.testBit_or, Bool.or_eq_true]
theorem zbt_1 (h0 : 0 ≤ t) (h1 : t < 10) : zbt (zshl 1 t) t := by
  rw [zbt_N h0 (by omega)]
  have e : ∀ n : Nat, n < 10 → (Int32.ofInt (zshl 1 (n : Int))).toBitVec.toNat.testBit n = true := by decide +kernel
  have := e t.toNat (by omega)
  rw [Int.toNat_of_nonneg h0] at this
  exact this
theorem zsb.rf : zsb x x := fun _ _ _ h => h
theorem zsb.tr (h : zsb x y) (h' : zsb y z) : zsb x z := fun t a b q => h' t a b (h t a b q)
theorem zsb_or : zsb a (zor a b) := fun t h0 h1 q => (zbt_or h0 (by omega)).mpr (Or.inl q)
theorem zsb_m {g : Int → Int} (h : rdm g) : zsb r (g r) := by
  rcases h with q | ⟨m, q⟩
  · rw [q]
    exact zsb.rf
  · rw [q]
    exact zsb_or
theorem lw_lo (hf : 0 ≤ f) (h : ∀ t, 0 ≤ t → t < 5 → zbt R t → hs t = hs' t ∧ sz t = sz' t ∧ dt t = dt' t) : ∀ (n : Nat) (i r : Int), 0 ≤ i → zsb (lw hs sz dt f l n i r).2 R → lw hs sz dt f l n i r = lw hs' sz' dt' f l n i r
  | 0, _, _, _, _ => rfl
  | n + 1, i, r, hi, hR => by
    have ht : 0 ≤ (f + i) % 5 ∧ (f + i) % 5 < 5 := by omega
    have h1 : zbt (zor r (zshl 1 ((f + i) % 5))) ((f + i) % 5) := (zbt_or ht.1 (by omega)).mpr (Or.inr (zbt_1 ht.1 (by omega)))
    rw [lw_s] at hR ⊢
    rw [lw_s]
    by_cases q : hs ((f + i) % 5) = true ∧ ¬ zand (zshr (dt ((f + i) % 5)) l) 1 = 0
    · rw [if_pos q] at hR ⊢
      obtain ⟨e1, e2, e3⟩ := h _ ht.1 ht.2 (hR _ ht.1 (by omega) h1)
      rw [← e1, ← e2, ← e3, if_pos q]
    · rw [if_neg q] at hR ⊢
      have hm : zsb (zor r (zshl 1 ((f + i) % 5))) (lw hs sz dt f l n (i + 1) (zor r (zshl 1 ((f + i) % 5)))).2 := zsb_m (g := fun r => (lw hs sz dt f l n (i + 1) r).2) (lw_2 n (i + 1))
      obtain ⟨e1, e2, e3⟩ := h _ ht.1 ht.2 ((hm.tr hR) _ ht.1 (by omega) h1)
      rw [← e1, ← e3, if_neg q]
      exact lw_lo hf h n (i + 1) _ (by omega) hR
theorem ww_lo (hf : 0 ≤ f) (h : ∀ t, 0 ≤ t → t < 5 → zbt R t → hs t = hs' t ∧ sz t = sz' t ∧ dt t = dt' t) : ∀ (n : Nat) (i s r : Int), zsb (ww hs sz dt cd f n i s r).2 R → ww hs sz dt cd f n i s r = ww hs' sz' dt' cd f n i s r
  | 0, _, _, _, _ => rfl
  | n + 1, i, s, r, hR => by
    rw [ww_s] at hR ⊢
    rw [ww_s]
    have hm : zsb (lw hs sz dt f (cd i - 1) 5 0 r).2 (ww hs sz dt cd f n (i + 1) (s + (lw hs sz dt f (cd i - 1) 5 0 r).1) (lw hs sz dt f (cd i - 1) 5 0 r).2).2 := zsb_m (g := fun r' => (ww hs sz dt cd f n (i + 1) (s + (lw hs sz dt f (cd i - 1) 5 0 r).1) r').2) (ww_2 n (i + 1) _)
    have e := lw_lo (l := cd i - 1) hf h 5 0 r (by omega) (hm.tr hR)
    rw [ww_lo hf h n (i + 1) _ _ hR, e]
/-- two images that agree on what was read -/
def agr (μ : ZU) (a b R : Int) : Prop := ∀ t, 0 ≤ t → t < 10 → zbt R t → μ 22 a t = μ 22 b t ∧ μ 23 a t = μ 23 b t ∧ μ 24 a t = μ 24 b t
theorem wwd_lo (h : agr μ a b R) (hf : 0 ≤ μ 31 d (μ 32 d (μ 33 d w))) (hR : zsb (wwd μ d a w r).2 R) : wwd μ d a w r = wwd μ d b w r := by
  refine ww_lo hf (fun t h0 h1 q => ?_) _ _ _ _ hR
  obtain ⟨e1, e2, e3⟩ := h t h0 (by omega) q
  refine ⟨?_, e2, e3⟩
  unfold fhs
  rw [e1]
theorem rfo_lo (h : agr μ a b R) (hf : ∀ w, 0 ≤ w → w < μ 30 d 9 → 0 ≤ μ 31 d (μ 32 d (μ 33 d w))) : ∀ (n : Nat) (w r : Int), 0 ≤ w → w + n ≤ μ 30 d 9 → zsb (rfo μ d a n w r) R → rfo μ d a n w r = rfo μ d b n w r ∧ ∀ k, w ≤ k → k < w + n → μ 35 d k = -1 → bwd μ d a k = bwd μ d b k
  | 0, w, r, _, _, _ => ⟨rfl, fun k x y => by omega⟩
  | n + 1, w, r, h0, hn, hR => by
    have hm : zsb (brd μ d a w r) (rfo μ d a n (w + 1) (brd μ d a w r)) := zsb_m (g := rfo μ d a n (w + 1)) (rfo_m n (w + 1))
    have hb := hm.tr hR
    have e : brd μ d a w r = brd μ d b w r ∧ (μ 35 d w = -1 → bwd μ d a w = bwd μ d b w) := by
      unfold brd at hb ⊢
      by_cases q : μ 35 d w = -1
      · rw [if_pos q] at hb
        have e := wwd_lo h (hf w h0 (by omega)) hb
        rw [if_pos q, if_pos q, e]
        refine ⟨rfl, fun _ => ?_⟩
        rw [← bwd_eq (r := r), ← bwd_eq (r := r), e]
      · rw [if_neg q, if_neg q]
        exact ⟨rfl, fun z => absurd z q⟩
    unfold rfo at hR ⊢
    obtain ⟨i1, i2⟩ := rfo_lo h hf n (w + 1) (brd μ d a w r) (by omega) (by omega) hR
    refine ⟨by rw [i1, e.1], fun k x y z => ?_⟩
    by_cases hk : k = w
    · subst hk
      exact e.2 z
    · exact i2 k (by omega) (by omega) z
theorem sps_lo (h : agr μ a b R) (hR : zsb (μ 30 d 7) R) : sps d a μ = sps d b μ := by
  have key : ∀ (n : Nat) (k s : Int), 5 ≤ k → k + n = 10 → spc (μ 30 d 7) (fhs μ a) (μ 23 a) n k s = spc (μ 30 d 7) (fhs μ b) (μ 23 b) n k s := by
    intro n
    induction n with
    | zero => intro k s _ _; rfl
    | succ n ih =>
      intro k s h0 h1
      unfold spc
      rw [ih (k + 1) _ (by omega) (by omega)]
      by_cases q : zbt (μ 30 d 7) k
      · obtain ⟨e1, e2, e3⟩ := h k (by omega) (by omega) (hR k (by omega) (by omega) q)
        have e4 : fhs μ a k = fhs μ b k := by unfold fhs; rw [e1]
        rw [e4, e2]
      · rw [if_neg (fun z => q z.1), if_neg (fun z => q z.1)]
  exact key 5 5 0 (by omega) (by omega)
theorem inp_lo (h : agr μ a b (rds μ d a)) (h9 : 0 ≤ μ 30 d 9) (hf : ∀ w, 0 ≤ w → w < μ 30 d 9 → 0 ≤ μ 31 d (μ 32 d (μ 33 d w))) : inp μ d a = inp μ d b ∧ rds μ d a = rds μ d b := by
  obtain ⟨h1, h2⟩ := rfo_lo h hf (μ 30 d 9).toNat 0 (μ 30 d 7) (by omega) (by omega) zsb.rf
  have h3 := sps_lo h (zsb_m (g := rfo μ d a (μ 30 d 9).toNat 0) (rfo_m _ _))
  refine ⟨?_, h1⟩
  unfold inp
  rw [h3]
  have e : (fun k => if (0 ≤ k ∧ k < μ 30 d 9) ∧ μ 35 d k = -1 then bwd μ d a k else 0) = fun k => if (0 ≤ k ∧ k < μ 30 d 9) ∧ μ 35 d k = -1 then bwd μ d b k else 0 := by
    funext k
    by_cases q : (0 ≤ k ∧ k < μ 30 d 9) ∧ μ 35 d k = -1
    · rw [if_pos q, if_pos q]
      exact h2 k q.1.1 (by omega) q.2
    · rw [if_neg q, if_neg q]
  rw [e]
theorem SHT_lo (h : SHT κ c μ d a) (hg : agr μ a b (rds μ d a)) (h9 : 0 ≤ μ 30 d 9) (hf : ∀ w, 0 ≤ w → w < μ 30 d 9 → 0 ≤ μ 31 d (μ 32 d (μ 33 d w))) : SHT κ c μ d b := by
  obtain ⟨e1, e2⟩ := inp_lo hg h9 hf
  unfold SHT at h ⊢
  rw [← e1, ← e2]
  exact h
/-- setting rests on the document and the files alone -/
def sfi (μ ν : ZU) (d i : Int) : Prop := ν 30 d 0 = μ 30 d 0 ∧ ν 30 d 1 = μ 30 d 1 ∧ ν 30 d 7 = μ 30 d 7 ∧ ν 30 d 9 = μ 30 d 9 ∧ ν 31 d = μ 31 d ∧ ν 32 d = μ 32 d ∧ ν 33 d = μ 33 d ∧ ν 34 d = μ 34 d ∧ ν 35 d = μ 35 d ∧ ν 22 i = μ 22 i ∧ ν 23 i = μ 23 i ∧ ν 24 i = μ 24 i
theorem wwd_sf (h : sfi μ ν d i) : wwd ν d i w r = wwd μ d i w r := by
  obtain ⟨h1, h2, h3, h4, h5, h6, h7, h8, h9, h10, h11, h12⟩ := h
  unfold wwd fhs
  rw [h5, h6, h7, h8, h10, h11, h12]
theorem rfo_sf (h : sfi μ ν d i) : ∀ (n : Nat) (w r : Int), rfo ν d i n w r = rfo μ d i n w r
  | 0, _, _ => rfl
  | n + 1, w, r => by
    unfold rfo brd
    rw [wwd_sf h, h.2.2.2.2.2.2.2.2.1]
    exact rfo_sf h n _ _
theorem inp_sf (h : sfi μ ν d i) : inp ν d i = inp μ d i ∧ rds ν d i = rds μ d i := by
  have e1 : sps d i ν = sps d i μ := by
    unfold sps fhs
    rw [h.2.2.1, h.2.2.2.2.2.2.2.2.2.1, h.2.2.2.2.2.2.2.2.2.2.1]
  have e2 : bwd ν d i = bwd μ d i := by
    funext k
    unfold bwd
    rw [wwd_sf h]
  constructor
  · unfold inp
    rw [e1, e2, h.1, h.2.1, h.2.2.2.1, h.2.2.2.2.2.2.1, h.2.2.2.2.2.2.2.2.1]
  · unfold rds
    rw [h.2.2.2.1, h.2.2.1, rfo_sf h]
theorem SHT_sf (h : SHT κ c μ d i) (hs : sfi μ ν d i) : SHT κ c ν d i := by
  obtain ⟨e1, e2⟩ := inp_sf hs
  unfold SHT at h ⊢
  rw [e1, e2, hs.2.2.2.1, hs.2.2.2.2.2.2.2.2.1]
  exact h
theorem SHT_of (h : SHT κ c μ d i) (h0 : ν 50 c = κ 50 c) (h1 : ν 51 c = κ 51 c) (h2 : ν 52 c = κ 52 c) (h3 : ν 53 c = κ 53 c) (h4 : ν 54 c = κ 54 c) (h5 : ν 55 c = κ 55 c) (h6 : ν 56 c = κ 56 c) : SHT ν c μ d i := by
  unfold SHT RC lnQ
  rw [h0, h1, h2, h3, h4, h5, h6]
  exact h
end ZPE
