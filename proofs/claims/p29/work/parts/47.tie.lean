/-! ===== the law sets as the class does ===== -/
/-- the document and the image i, told alike to the class and by the law's rows -/
def TI (μ : ZU) (i : Int) : Prop := (μ 30 0 0 = μ 106 0 10 ∧ μ 30 0 1 = μ 106 0 11 ∧ μ 30 0 9 = μ 106 0 2 ∧ μ 30 0 7 = μ 106 0 5) ∧ (∀ s, 0 ≤ s → s < 4 → μ 31 0 s = μ 106 0 (6 + s)) ∧ (∀ k, 0 ≤ k → k < μ 106 0 2 → lhome μ k = μ 33 0 k ∧ (0 ≤ lhome μ k ∧ lhome μ k < 11) ∧ μ 32 0 (lhome μ k) = μ 105 0 (lhome μ k) % 4 ∧ ((μ 104 0 k < 0 ∧ μ 35 0 k = -1 - μ 104 0 k) ∨ (0 < μ 104 0 k ∧ μ 35 0 k = -1 ∧ μ 34 0 k = μ 104 0 k))) ∧ ∀ t, 0 ≤ t → t < 10 → (μ 22 i t = 1 ∧ lfv μ i t = 1 + μ 23 i t + 32 * μ 24 i t ∧ (0 ≤ μ 23 i t ∧ μ 23 i t < 32) ∧ 0 ≤ μ 24 i t) ∨ (¬ μ 22 i t = 1 ∧ lfv μ i t = 0)
section ZPD
variable {μ ν κ β : ZU} {a b c d e f g h i j k l m p r s t v w x y z L H M : Int} {I : ZIn} {sh sh' : Int → Int} {S T : ZLn} {hf wf hf' wf' hg bd pe wd : Int → Int} {hs hs' : Int → Bool} {sz dt cd sz' dt' cd' : Int → Int} {P : Bool}
theorem zsr : zlushr (Int64.ofInt x) y = zlushr (Int64.ofInt x) y := rfl
theorem zlushr_e (h1 : 0 ≤ y) (h2 : y < 64) (h3 : 0 ≤ x) (h4 : x < 9223372036854775808) : zlushr (Int64.ofInt x) y = Int64.ofInt (x / 2 ^ y.toNat) := by
  have key : ∀ n : Nat, n < 64 → ((Int32.ofInt (n : Int)).toInt64.toUInt64 &&& Int64.toUInt64 63) = UInt64.ofNat n := by decide +kernel
  have hy : Int32.ofInt y = Int32.ofInt ((y.toNat : Nat) : Int) := by rw [Int.toNat_of_nonneg h1]
  unfold zlushr
  rw [hy, key y.toNat (by omega)]
  generalize hq : y.toNat = n
  have hn : n < 64 := by omega
  apply Int64.toBitVec_inj.mp
  apply BitVec.eq_of_toNat_eq
  have e1 : ((Int64.ofInt x).toUInt64 >>> UInt64.ofNat n).toInt64.toBitVec = ((Int64.ofInt x).toUInt64 >>> UInt64.ofNat n).toBitVec := rfl
  have e2 : ((Int64.ofInt x).toUInt64 >>> UInt64.ofNat n).toBitVec.toNat = ((Int64.ofInt x).toUInt64 >>> UInt64.ofNat n).toNat := rfl
  have e3 : (Int64.ofInt x).toUInt64.toNat = (BitVec.ofInt 64 x).toNat := rfl
  have e64 : ((2 ^ 64 : Nat) : Int) = 18446744073709551616 := by decide
  have e4 : (Int64.ofInt (x / 2 ^ n)).toBitVec.toNat = (BitVec.ofInt 64 (x / 2 ^ n)).toNat := rfl
  rw [e1, e2, e4, UInt64.toNat_shiftRight, e3, BitVec.toNat_ofInt, BitVec.toNat_ofInt, e64, Int.emod_eq_of_lt h3 (by omega)]
  have e5 : (UInt64.ofNat n).toNat % 64 = n := (show ∀ n : Nat, n < 64 → (UInt64.ofNat n).toNat % 64 = n by decide +kernel) n hn
  rw [e5, Nat.shiftRight_eq_div_pow]
  have e6 : ((2 : Int) ^ n) = ((2 ^ n : Nat) : Int) := by rw [Int.natCast_pow]; rfl
  rw [e6]
  have hp := Nat.two_pow_pos n
  have g1 := Int.ediv_nonneg h3 (show (0 : Int) ≤ ((2 ^ n : Nat) : Int) by omega)
  have g2 := Int.ediv_le_self ((2 ^ n : Nat) : Int) h3
  rw [Int.emod_eq_of_lt g1 (by omega)]
  have e7 : ((x.toNat / 2 ^ n : Nat) : Int) = x / ((2 ^ n : Nat) : Int) := by
    rw [Int.natCast_ediv, Int.toNat_of_nonneg h3]
  omega
theorem zl2i_m : zl2i (Int64.ofInt x) % 256 = x % 256 := by
  unfold zl2i
  rw [Int64.toInt32_ofInt]
  have e : (Int32.ofInt x).toInt = x.bmod (2 ^ 32) := Int32.toInt_ofInt
  rw [e, Int.bmod_def]
  have e64 : ((2 ^ 32 : Nat) : Int) = 4294967296 := by decide
  rw [e64]
  split <;> omega
theorem kcd_lcd (h1 : 0 ≤ j) (h2 : j < 8) (h3 : 0 ≤ x) (h4 : x < 9223372036854775808) : kcd (Int64.ofInt x) j = lcd x j := by
  unfold kcd lcd
  have e : ∀ z, zand z 255 = z % 256 := fun z => zand_m (n := 8) (by decide)
  rw [e, zlushr_e (by omega) (by omega) h3 h4, zl2i_m]
theorem lw_cg (hf : 0 ≤ f) (h : ∀ t, 0 ≤ t → t < 5 → hs t = hs' t ∧ (hs t = true → sz t = sz' t ∧ dt t = dt' t)) : ∀ (n : Nat) (i r : Int), 0 ≤ i → lw hs sz dt f l n i r = lw hs' sz' dt' f l n i r
  | 0, _, _, _ => rfl
  | n + 1, i, r, hi => by
    obtain ⟨h1, h2⟩ := h ((f + i) % 5) (by omega) (by omega)
    rw [lw_s, lw_s, lw_cg hf h n (i + 1) _ (by omega), ← h1]
    by_cases q : hs ((f + i) % 5) = true
    · rw [(h2 q).1, (h2 q).2]
    · rw [if_neg (fun z => q z.1), if_neg (fun z => q z.1)]
theorem zwh_cg {p p' : Int → Bool} : ∀ (n : Nat) (i : Int), (∀ j, i ≤ j → j < i + n → p j = p' j) → zwh p n i = zwh p' n i
  | 0, _, _ => rfl
  | n + 1, i, h => by
    unfold zwh
    rw [h i (by omega) (by omega), zwh_cg n (i + 1) fun j a b => h j (by omega) (by omega)]
/-- the law's way through a word is the class's -/
theorem lwl_ww (hf : 0 ≤ f) (h : ∀ t, 0 ≤ t → t < 5 → hs t = hs' t ∧ (hs t = true → sz t = sz' t ∧ dt t = dt' t)) (hc : ∀ j, 0 ≤ j → j < 8 → cd j = cd' j) : ∀ (n : Nat) (j s r : Int), 0 ≤ j → j + n = 8 → lwl hs sz dt cd f true n j s r = ww hs' sz' dt' cd' f (zwh (fun i => decide (¬ cd' i = 0)) n j - j).toNat j s r
  | 0, j, s, r, h0, h8 => by
    have e : (zwh (fun i => decide (¬ cd' i = 0)) 0 j - j).toNat = 0 := by
      unfold zwh
      omega
    rw [e]
    rfl
  | n + 1, j, s, r, h0, h8 => by
    have hj := hc j h0 (by omega)
    unfold lwl zwh
    by_cases q : cd' j = 0
    · have e : (j - j).toNat = 0 := by omega
      rw [if_neg (fun z => z.2 (hj.trans q)), if_neg (by simp [q]), e]
      rfl
    · have hz := zwh_ge (p := fun i => decide (¬ cd' i = 0)) (n := n) (i := j + 1)
      have e : (zwh (fun i => decide (¬ cd' i = 0)) n (j + 1) - j).toNat = (zwh (fun i => decide (¬ cd' i = 0)) n (j + 1) - (j + 1)).toNat + 1 := by omega
      rw [if_pos ⟨rfl, fun z => q (hj.symm.trans z)⟩, if_pos (by simp [q]), e, ww_s, hj, lw_cg hf h 5 0 r (by omega), lwl_ww hf h hc n (j + 1) _ _ (by omega) (by omega)]
theorem klen_z {y : Int64} : klen y = zwh (fun i => decide (¬ kcd y i = 0)) 8 0 := rfl
theorem spc_cg (h : ∀ t, 5 ≤ t → t < 10 → hs t = hs' t ∧ (hs t = true → sz t = sz' t)) : ∀ (n : Nat) (k s : Int), 5 ≤ k → k + n = 10 → spc x hs sz n k s = spc x hs' sz' n k s
  | 0, _, _, _, _ => rfl
  | n + 1, k, s, h0, h1 => by
    obtain ⟨q1, q2⟩ := h k h0 (by omega)
    unfold spc
    rw [spc_cg h n (k + 1) _ (by omega) (by omega), ← q1]
    by_cases q : hs k = true
    · rw [q2 q]
    · rw [if_neg (fun z => q z.2), if_neg (fun z => q z.2)]
theorem TI_f (h : TI μ i) (t : Int) (h0 : 0 ≤ t) (h1 : t < 10) : lhs μ i t = fhs μ i t ∧ (lhs μ i t = true → lsz μ i t = μ 23 i t ∧ ldt μ i t = μ 24 i t) := by
  rcases h.2.2.2 t h0 h1 with ⟨q1, q2, q3, q4⟩ | ⟨q1, q2⟩
  · have e1 : lhs μ i t = true := decide_eq_true (by omega)
    have e2 : fhs μ i t = true := decide_eq_true q1
    refine ⟨e1.trans e2.symm, fun _ => ?_⟩
    unfold lsz ldt
    rw [q2]
    omega
  · have e1 : lhs μ i t = false := decide_eq_false (by omega)
    have e2 : fhs μ i t = false := decide_eq_false q1
    exact ⟨e1.trans e2.symm, fun z => by rw [e1] at z; cases z⟩
theorem TI_sp (h : TI μ i) : lsp μ i = sps 0 i μ := by
  unfold lsp sps
  rw [h.1.2.2.2]
  exact spc_cg (fun t a b => ⟨(TI_f h t (by omega) b).1, fun q => ((TI_f h t (by omega) b).2 q).1⟩) 5 5 0 (by omega) (by omega)
theorem TI_ww (h : TI μ i) (hk : 0 ≤ k) (hk2 : k < μ 106 0 2) (hw : 0 < μ 104 0 k) (hw2 : μ 104 0 k < 9223372036854775808) (hfo : 0 ≤ lfo μ k) : lwl (lhs μ i) (lsz μ i) (ldt μ i) (lcd (μ 104 0 k)) (lfo μ k) true 8 0 0 r = wwd μ 0 i k r := by
  obtain ⟨q1, q2, q3, q4⟩ := h.2.2.1 k hk hk2
  have q5 : μ 34 0 k = μ 104 0 k := by
    rcases q4 with z | z
    · omega
    · exact z.2.2
  have ef : lfo μ k = μ 31 0 (μ 32 0 (μ 33 0 k)) := by
    unfold lfo
    rw [← q1, q3]
    exact (h.2.1 _ (by omega) (by omega)).symm
  unfold wwd
  rw [q5, ← ef, klen_z]
  have e := lwl_ww (hs := lhs μ i) (sz := lsz μ i) (dt := ldt μ i) (cd := lcd (μ 104 0 k)) (cd' := kcd (Int64.ofInt (μ 104 0 k))) (hs' := fhs μ i) (sz' := μ 23 i) (dt' := μ 24 i) (f := lfo μ k) hfo (fun t a b => TI_f h t a (by omega)) (fun j a b => (kcd_lcd a b (by omega) hw2).symm) 8 0 0 r (by omega) (by omega)
  rw [e]
  congr 1
  omega
theorem pgo_pFd (h : LR ν I sh) : pgo ν p = pFd I sh p := by
  obtain ⟨h1, h2, h3, h4, h5⟩ := h
  unfold pgo pFd
  rw [h1]
  refine fdG_congr _ _ fun j a b => ?_
  obtain ⟨f1, f2, f3, f4, f5, f6, f7⟩ := h3 j a (by omega)
  refine ⟨by unfold lhm; omega, by unfold lpg; omega⟩
theorem LR_of (h : LR ν I sh) (h7 : κ 107 = ν 107) (h8 : κ 108 = ν 108) (h9 : κ 109 = ν 109) : LR κ I sh := by
  unfold LR
  rw [h7, h8, h9]
  exact h
theorem rhN_110 : ∀ (n : Nat) (k : Int) (ν : ZU) (j : Int), rhN n k ν 110 0 j = if k ≤ j ∧ j < k + n then (if ν 104 0 j < 0 then pgo ν (-1 - ν 104 0 j) else 1) else ν 110 0 j
  | 0, k, ν, j => by
    rw [if_neg (by omega)]
    rfl
  | n + 1, k, ν, j => by
    unfold rhN
    rw [rhN_110 n, mu_g (k' := 104) (by decide), pgo_mu (by decide) (by decide) (by decide)]
    by_cases hj : j = k
    · subst hj
      rw [if_neg (by omega), if_pos (show j ≤ j ∧ j < j + ((n + 1 : Nat) : Int) by omega), mu_at]
    · rw [mu_j hj]
      by_cases h2 : k + 1 ≤ j ∧ j < k + 1 + n
      · rw [if_pos h2, if_pos (show k ≤ j ∧ j < k + ((n + 1 : Nat) : Int) by omega)]
      · rw [if_neg h2, if_neg (by omega)]
theorem h1N_110 : ∀ (n : Nat) (k : Int) (ν : ZU) (j : Int), h1N n k ν 110 0 j = if k ≤ j ∧ j < k + n then 1 else ν 110 0 j
  | 0, k, ν, j => by
    rw [if_neg (by omega)]
    rfl
  | n + 1, k, ν, j => by
    unfold h1N
    rw [h1N_110 n]
    by_cases hj : j = k
    · subst hj
      rw [if_neg (by omega), if_pos (by omega), mu_at]
    · rw [mu_j hj]
      by_cases h2 : k + 1 ≤ j ∧ j < k + 1 + n
      · rw [if_pos h2, if_pos (by omega)]
      · rw [if_neg h2, if_neg (by omega)]
theorem lww_p (h : sfl μ ν) (h0 : 0 < μ 104 0 k) : lww ν a k = lww μ a k := by
  unfold lww lws
  rw [lhs_of h, lsz_of h, ldt_of h, lfo_of h, h.2.2.1, if_neg (by omega), if_neg (by omega)]
theorem PL_of (h : PL ν a I sh) (hs : sfl ν κ) (h0 : ∀ k, 0 ≤ k → k < (iN I : Int) → ν 104 0 k < 0 → κ 110 0 k = sh' k) : PL κ a I sh' := by
  obtain ⟨h1, h2, h3, h4, h5, h6⟩ := h
  unfold PL
  rw [hs.2.2.2.2, hs.2.2.1]
  refine ⟨h1, h2, h3, h4, h5, fun k x y => ?_⟩
  obtain ⟨q1, q2, q3⟩ := h6 k x y
  rw [lhome_of hs]
  refine ⟨q1, q2, ?_⟩
  rcases q3 with ⟨t1, t2, t3⟩ | ⟨t1, t2, t3, t4⟩
  · exact Or.inl ⟨t1, t2, h0 k x y t1⟩
  · exact Or.inr ⟨t1, t2, (lww_p hs t1).trans t3, t4⟩
theorem l1p_sfl : sfl ν (l1p a s ν) := ⟨l1p_g (by decide) (by decide) (by decide) (by decide) (by decide) (by decide), l1p_g (by decide) (by decide) (by decide) (by decide) (by decide) (by decide), l1p_g (by decide) (by decide) (by decide) (by decide) (by decide) (by decide), l1p_g (by decide) (by decide) (by decide) (by decide) (by decide) (by decide), l1p_g (by decide) (by decide) (by decide) (by decide) (by decide) (by decide)⟩
theorem sfl.tr (h : sfl μ ν) (h' : sfl ν κ) : sfl μ κ := ⟨h'.1.trans h.1, h'.2.1.trans h.2.1, h'.2.2.1.trans h.2.2.1, h'.2.2.2.1.trans h.2.2.2.1, h'.2.2.2.2.trans h.2.2.2.2⟩
theorem rhN_sfl {n : Nat} : sfl ν (rhN n k ν) := ⟨rhN_g (by decide) _ _ _, rhN_g (by decide) _ _ _, rhN_g (by decide) _ _ _, rhN_g (by decide) _ _ _, rhN_g (by decide) _ _ _⟩
theorem l1p_4 : l1p a s ν 107 0 4 = lrf ν a (ν 106 0 2).toNat 0 (ν 107 0 4) := by
  unfold l1p lnS
  rw [ptS_7 (by decide) (by decide), lnN_4, mu_g (by decide), mu_j (by decide), mu_j (by decide)]
  exact lrf_of ⟨by rw [mu_g (by decide), mu_g (by decide)], by rw [mu_g (by decide), mu_g (by decide)], by rw [mu_g (by decide), mu_g (by decide)], by rw [mu_g (by decide), mu_g (by decide)], by rw [mu_g (by decide), mu_g (by decide)]⟩ _ _ _
theorem ssN_pure : ∀ (m : Nat) (ν : ZU) (sh : Int → Int) (p : Int), PL ν a I sh → ν 107 0 2 = p → LR (ssN a (iS I) m ν) I (pSh I m sh p).1 ∧ ssN a (iS I) m ν 107 0 2 = (pSh I m sh p).2 ∧ (∀ k, 0 ≤ k → k < (iN I : Int) → ν 104 0 k < 0 → ssN a (iS I) m ν 110 0 k = (pSh I m sh p).1 k) ∧ ssN a (iS I) m ν 107 0 4 = lrf ν a (ν 106 0 2).toNat 0 (ν 107 0 4) ∧ sfl ν (ssN a (iS I) m ν)
  | m, ν, sh, p, h, hp => by
    have hR := l1p_pure h (s := iS I) rfl
    have e2 : l1p a (iS I) ν 107 0 2 = p + 1 := by rw [l1p_2, hp]
    have e110 : l1p a (iS I) ν 110 = ν 110 := l1p_g (by decide) (by decide) (by decide) (by decide) (by decide) (by decide)
    have e4 := l1p_4 (a := a) (s := iS I) (ν := ν)
    have hsf := l1p_sfl (a := a) (s := iS I) (ν := ν)
    have h6 := h.2.2.2.2.2
    have hsh : ∀ k, 0 ≤ k → k < (iN I : Int) → ν 104 0 k < 0 → ν 110 0 k = sh k ∧ iTg I k = -1 - ν 104 0 k := fun k x y z => by
      rcases (h6 k x y).2.2 with ⟨t1, t2, t3⟩ | ⟨t1, -⟩
      · exact ⟨t3, t2⟩
      · omega
    have hn : ν 106 0 2 = (iN I : Int) := h.2.2.2.1
    have hst : stl (l1p a (iS I) ν) ↔ pSt I sh := by
      unfold stl
      rw [hsf.2.2.2.2, zall_iff]
      constructor
      · intro z k x y
        have zk := z k x (by omega)
        rcases (h6 k x y).2.2 with ⟨t1, t2, t3⟩ | ⟨t1, t2, -⟩
        · right
          unfold chk at zk
          have zk := of_decide_eq_true zk
          rw [hsf.2.2.1, e110, pgo_pFd hR] at zk
          rw [t2, ← t3]
          exact (Classical.byContradiction fun u => zk ⟨t1, fun w => u w.symm⟩)
        · exact Or.inl t2
      · intro z k x y
        have y : k < (iN I : Int) := by omega
        unfold chk
        refine decide_eq_true fun u => ?_
        rw [hsf.2.2.1, e110, pgo_pFd hR] at u
        obtain ⟨s1, s2⟩ := hsh k x y u.1
        rcases z k x y with w | w
        · omega
        · rw [s2, ← s1] at w
          exact u.2 w.symm
    match m with
    | 0 =>
      unfold ssN pSh
      exact ⟨hR, e2, fun k x y z => by rw [e110]; exact (hsh k x y z).1, e4, hsf⟩
    | m + 1 =>
      unfold ssN pSh
      by_cases q : pSt I sh
      · rw [if_pos (hst.mpr q), if_pos q]
        exact ⟨hR, e2, fun k x y z => by rw [e110]; exact (hsh k x y z).1, e4, hsf⟩
      · rw [if_neg (fun z => q (hst.mp z)), if_neg q]
        have hsr : sfl ν (rhN (ν 106 0 2).toNat 0 (l1p a (iS I) ν)) := hsf.tr rhN_sfl
        have r7 : rhN (ν 106 0 2).toNat 0 (l1p a (iS I) ν) 107 = l1p a (iS I) ν 107 := rhN_g (by decide) _ _ _
        have hP' : PL (rhN (ν 106 0 2).toNat 0 (l1p a (iS I) ν)) a I (pRn I sh) := PL_of h hsr fun k x y z => by
          rw [rhN_110, if_pos (by omega), hsf.2.2.1, if_pos z, pgo_pFd hR]
          unfold pRn
          rw [(hsh k x y z).2]
        have ih := ssN_pure m (rhN (ν 106 0 2).toNat 0 (l1p a (iS I) ν)) (pRn I sh) (p + 1) hP' (by rw [r7]; exact e2)
        obtain ⟨i1, i2, i3, i4, i5⟩ := ih
        refine ⟨i1, i2, fun k x y z => i3 k x y (by rw [hsr.2.2.1]; exact z), ?_, hsr.tr i5⟩
        rw [i4, hsr.2.2.2.2, r7, e4, lrf_of hsr]
        exact (lrf_m _ _).idem _
/-- what setting leaves in the law's rows -/
def SLT (ν : ZU) (μ : ZU) (i : Int) : Prop := LR ν (inp μ 0 i) (pEnd (inp μ 0 i)).1 ∧ ν 107 0 2 = (pEnd (inp μ 0 i)).2 ∧ (∀ k, 0 ≤ k → k < μ 106 0 2 → μ 104 0 k < 0 → ν 110 0 k = (pEnd (inp μ 0 i)).1 k) ∧ ν 107 0 4 = rds μ 0 i
theorem ss0_sfl : sfl μ (ss0 μ) := ⟨ss0_g (by decide) (by decide), ss0_g (by decide) (by decide), ss0_g (by decide) (by decide), ss0_g (by decide) (by decide), ss0_g (by decide) (by decide)⟩
theorem ssS_SLT (hD : ldB μ) (h : TI μ i) : SLT (ssS i μ) μ i := by
  have hN : (((inp μ 0 i).2.2.2.1 : Nat) : Int) = μ 106 0 2 := by
    show (((μ 30 0 9).toNat : Nat) : Int) = _
    rw [h.1.2.2.1]
    have := hD.1
    omega
  have hN' : (iN (inp μ 0 i) : Int) = μ 106 0 2 := hN
  have h4 : ss0 μ 107 0 4 = μ 106 0 5 := by
    unfold ss0
    rw [mu_j (by decide), h1N_g (by decide), mu_at]
  have hP : PL (ss0 μ) i (inp μ 0 i) (fun _ => 1) := by
    refine PL_of (ν := mu μ 110 0 0 (μ 110 0 0)) (sh := fun k => μ 110 0 k) ?_ ?_ ?_
    · rw [mu_self]
      refine ⟨h.1.1.symm, ?_, h.1.2.1.symm, hN'.symm, by rw [hN']; exact hD.1.2, fun k x y => ?_⟩
      · show μ 30 0 0 ≤ 200
        rw [h.1.1]
        exact hD.2.2.1.2
      · rw [hN'] at y
        obtain ⟨q1, q2, q3, q4⟩ := h.2.2.1 k x y
        refine ⟨q1, ?_, ?_⟩
        · show 0 ≤ μ 33 0 k ∧ μ 33 0 k < 11
          rw [← q1]
          exact q2
        · rcases q4 with ⟨t1, t2⟩ | ⟨t1, t2, t3⟩
          · exact Or.inl ⟨t1, t2, rfl⟩
          · have hfo := lfo_b (k := k) hD
            have hw := hD.2.2.2.2.2.2 k x (by have := hD.1; omega)
            have hl := lwl_c (hs := lhs μ i) (sz := lsz μ i) (dt := ldt μ i) (cd := lcd (μ 104 0 k)) (P := true) (f := lfo μ k) hfo.1 lsz_c 8 0 0 0 (by omega)
            have hd : decide (0 < μ 104 0 k) = true := decide_eq_true t1
            have el : lww μ i k = (lwl (lhs μ i) (lsz μ i) (ldt μ i) (lcd (μ 104 0 k)) (lfo μ k) true 8 0 0 0).1 := by
              unfold lww lws
              rw [hd, if_neg (by omega)]
            have eI : iW (inp μ 0 i) k = lww μ i k := by
              show (if (0 ≤ k ∧ k < μ 30 0 9) ∧ μ 35 0 k = -1 then bwd μ 0 i k else 0) = _
              rw [if_pos ⟨⟨x, by rw [h.1.2.2.1]; exact y⟩, t2⟩, el, TI_ww h x y t1 hw.2.1 hfo.1]
              rfl
            refine Or.inr ⟨t1, t2, eI.symm, ?_⟩
            rw [eI, el]
            omega
    · rw [mu_self]
      exact ss0_sfl
    · intro k x y z
      rw [hN'] at y
      unfold ss0
      have := hD.1
      rw [mu_g (by decide), h1N_110, if_pos (by omega)]
  have hq := ssN_pure (a := i) 4 (ss0 μ) (fun _ => 1) 0 hP (by unfold ss0; rw [mu_at])
  have es : iS (inp μ 0 i) = lsp μ i := (TI_sp h).symm
  rw [es] at hq
  obtain ⟨q1, q2, q3, q4, q5⟩ := hq
  refine ⟨q1, q2, fun k x y z => q3 k x (by rw [hN']; exact y) (by rw [ss0_sfl.2.2.1]; exact z), ?_⟩
  have e4 : ssS i μ 107 0 4 = lrf (ss0 μ) i (ss0 μ 106 0 2).toNat 0 (ss0 μ 107 0 4) := q4
  rw [e4, h4, ss0_sfl.2.2.2.2, lrf_of ss0_sfl]
  unfold rds
  rw [h.1.2.2.1, h.1.2.2.2]
  have key : ∀ (n : Nat) (k r : Int), 0 ≤ k → k + n ≤ μ 106 0 2 → lrf μ i n k r = rfo μ 0 i n k r := by
    intro n
    induction n with
    | zero => intro k r _ _; rfl
    | succ n ih =>
      intro k r x y
      unfold lrf rfo
      obtain ⟨q1, q2, q3, q4⟩ := h.2.2.1 k x (by omega)
      have e : lrd μ i k r = brd μ 0 i k r := by
        unfold lrd brd
        rcases q4 with ⟨t1, t2⟩ | ⟨t1, t2, t3⟩
        · have hd : decide (0 < μ 104 0 k) = false := decide_eq_false (by omega)
          rw [hd, lwl_f, if_neg (by omega)]
        · have hfo := lfo_b (k := k) hD
          have hw := hD.2.2.2.2.2.2 k x (by have := hD.1; omega)
          have hd : decide (0 < μ 104 0 k) = true := decide_eq_true t1
          rw [hd, if_pos t2, TI_ww h x (by omega) t1 hw.2.1 hfo.1]
      rw [e]
      exact ih (k + 1) _ (by omega) (by omega)
  have hd := hD.1
  exact key _ 0 _ (by omega) (by omega)
end ZPD
