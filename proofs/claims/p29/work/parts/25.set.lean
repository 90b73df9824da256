/-! ===== the class: a pass ===== -/
section ZL8
variable {h : ZH} {ck sk : Nat} {Q : ZO → ZH → Prop} {a b c d e f l s v w x m H L : Int} {u u' u'' u''' : ZV}
theorem wl1_g {μ : ZU} {k : Nat} (h1 : k ≠ 62) (h2 : k ≠ 63) : wl1 c s l μ k = μ k := by
  unfold wl1
  rw [mu_g h2, mu_g h1]
theorem wlN_g {k : Nat} (h1 : k ≠ 62) (h2 : k ≠ 63) : ∀ (n : Nat) (l : Int) (μ : ZU), wlN c s n l μ k = μ k
  | 0, _, _ => rfl
  | n + 1, l, μ => by
    unfold wlN
    rw [wlN_g h1 h2 n, wl1_g h1 h2]
theorem wlN_62 : ∀ (n : Nat) (l : Int) (μ : ZU) (j : Int), wlN c s n l μ 62 0 j = if l ≤ j ∧ j < l + n then hgt (μ 50 c 1) (μ 52 c) s j else μ 62 0 j
  | 0, l, μ, j => by
    rw [if_neg (by omega)]
    rfl
  | n + 1, l, μ, j => by
    unfold wlN
    rw [wlN_62 n, wl1_g (by decide) (by decide), wl1_g (k := 52) (by decide) (by decide)]
    by_cases h1 : l + 1 ≤ j ∧ j < l + 1 + n
    · rw [if_pos h1, if_pos (by omega)]
    · rw [if_neg h1]
      unfold wl1
      rw [mu_g (by decide)]
      by_cases h2 : j = l
      · rw [h2, mu_at, if_pos (by omega)]
      · rw [mu_j h2, if_neg (by omega)]
theorem wlN_63 : ∀ (n : Nat) (l : Int) (μ : ZU) (j : Int), wlN c s n l μ 63 0 j = if l ≤ j ∧ j < l + n then (if j = 0 then 0 else bdp (μ 50 c 1) (μ 52 c) j) else μ 63 0 j
  | 0, l, μ, j => by
    rw [if_neg (by omega)]
    rfl
  | n + 1, l, μ, j => by
    unfold wlN
    rw [wlN_63 n, wl1_g (by decide) (by decide), wl1_g (k := 52) (by decide) (by decide)]
    by_cases h1 : l + 1 ≤ j ∧ j < l + 1 + n
    · rw [if_pos h1, if_pos (by omega : l ≤ j ∧ j < l + (n + 1 : Nat))]
    · rw [if_neg h1]
      unfold wl1
      by_cases h2 : j = l
      · rw [h2, mu_at, if_pos (by omega : l ≤ l ∧ l < l + (n + 1 : Nat))]
      · rw [mu_j h2, mu_g (by decide), if_neg (by omega : ¬ (l ≤ j ∧ j < l + (n + 1 : Nat)))]
theorem hgt_b {hm : Int → Int} (hs : 0 ≤ s) (hs2 : s ≤ 15) : 1 ≤ hgt L hm s l ∧ hgt L hm s l ≤ 16 := by
  unfold hgt
  split <;> omega
theorem bdp_b {hm : Int → Int} : 0 ≤ bdp L hm l ∧ bdp L hm l ≤ 17 := by
  unfold bdp bd7 bd10
  split <;> split <;> omega
theorem wlN_I {μ : ZU} (hs : 0 ≤ s) (hs2 : s ≤ 15) (ls : Int → Int) : pgI (μ 50 c 1) (wlN c s (μ 50 c 1).toNat 0 μ 62 0) (wlN c s (μ 50 c 1).toNat 0 μ 63 0) ls (μ 50 c 1 - 1) := by
  refine ⟨fun e h1 h2 => ?_, fun e h1 h2 => ?_, fun e h1 h2 => by omega⟩
  · rw [wlN_62, if_pos (by omega)]
    exact hgt_b hs hs2
  · rw [wlN_63, if_pos (by omega)]
    split
    · omega
    · exact bdp_b
theorem bpN_g {k : Nat} (h1 : k ≠ 64) (h2 : k ≠ 65) : ∀ (n : Nat) (μ : ZU), bpN c H n μ k = μ k
  | 0, _ => rfl
  | n + 1, μ => by
    unfold bpN
    rw [bpN_g h1 h2 n, bp1_g h1 h2]
/-- pages broken: least penalties, ends; the penalties; the numbers -/
def bpg (c H : Int) (μ : ZU) : ZU := bpN c H (μ 50 c 1).toNat (mu μ 64 0 (μ 50 c 1) 0)
def bpz (c H : Int) (μ : ZU) : ZU := mu (bpg c H μ) 50 c 4 (bpg c H μ 64 0 0)
def bps (c H : Int) (μ : ZU) : ZU := npN c (μ 50 c 1).toNat 0 0 (mu (bpz c H μ) 50 c 2 0)
theorem bpg_g {μ : ZU} {k : Nat} (h1 : k ≠ 64) (h2 : k ≠ 65) : bpg c H μ k = μ k := by
  unfold bpg
  rw [bpN_g h1 h2, mu_g h1]
theorem c29 {μ : ZU} (hc : c = μ 0 0 50 - 1) (hc0 : 0 ≤ c) (hH : H ≤ 12) (hH0 : 3 ≤ H) (hL0 : 0 ≤ μ 50 c 1) (hL : μ 50 c 1 ≤ 60) (hI : pgI (μ 50 c 1) (μ 62 0) (μ 63 0) (μ 64 0) (μ 50 c 1 - 1)) :
    G 29 0 [zR 8 0, zI H, u] [] (HM μ) ck sk Q ↔ Q (.inl none) (HM (bps c H μ)) := by
  have e1 := c29_l (ck := ck) (sk := sk) (Q := Q) (c := c) hc0 hH hH0 (μ 50 c 1).toNat (mu μ 64 0 (μ 50 c 1) 0) (by rw [zmu0 (by decide)]; exact hc) (by rw [mu_g (by decide)]; exact hL) (by rw [mu_g (by decide)]; omega)
    (by rw [mu_g (by decide), mu_g (k' := 62) (by decide), mu_g (k' := 63) (by decide)]; exact ⟨hI.1, hI.2.1, fun e h1 h2 => by omega⟩)
  have e3 : ((μ 50 c 1).toNat : Int) - 1 = μ 50 c 1 - 1 := by omega
  rw [e3] at e1
  have e4 : bpg c H μ 50 = μ 50 := bpg_g (by decide) (by decide)
  have e5 : bpg c H μ 0 = μ 0 := bpg_g (by decide) (by decide)
  have e6 := fun (ck sk : Nat) (Q : ZO → ZH → Prop) (u u' : ZV) => c32 (μ := bpz c H μ) (ck := ck) (sk := sk) (Q := Q) (u := u) (u' := u') (c := c) (by unfold bpz; rw [zmu0 (by decide), e5]; exact hc) hc0 (by unfold bpz; rw [mu_j (by decide), e4]; exact hL0) (by unfold bpz; rw [mu_j (by decide), e4]; exact hL)
  have e7 : bpz c H μ 50 c 1 = μ 50 c 1 := by unfold bpz; rw [mu_j (by decide), e4]
  subst hc
  have h6 : bpg (μ 0 0 50 - 1) H μ 0 0 50 - 1 = μ 0 0 50 - 1 := by rw [e5]
  simp (disch := first | omega | (simp (disch := decide) only [zmu0, mu_g, List.length_nil, List.length_cons]; omega)) only [g29_0, g29_1, g29_4, g29_5, g29_8, g29_11, g29_12, g29_13, g29_14, g29_17, g29_20, g29_21, g29_22, g29_24, g29_27, g29_28, g29_29, g29_30, g29_33, g29_36, g29_40, g29_43, g29_44, g29_47, g29_48, g29_49, g29_52, g29_53, g29_56, ob8, oc8, fl8_0, fl8_1, fl8_2, fl8_3, fl8_4, fl8_5, fl8_6, ob50, oc50, fl50_0, wo50_0, fl50_1, wo50_1, fl50_2, wo50_2, fl50_3, wo50_3, fl50_4, wo50_4, fl50_5, wo50_5, fl50_6, fl50_7, fl50_8, fl50_9, fl50_10, fl50_11, rd64, wr64, zoA_at, gback_v, gback_n, zem, zisr, zro_at, zrl_at, mu_g, mu_at, mu_mu, mu_self, not_true, not_false_iff, zb0, zb1, zbnd, zbw, zbz, zne1, zone, mrgI, List.length_nil, List.length_cons, Nat.reduceAdd, Nat.reduceSub, Nat.reduceLeDiff, Nat.zero_le, and_true, true_and, false_and, and_false, true_or, or_true, false_or, or_false, G_ite, z10, z1n, z1and, z1or, z0not, z0and, itn, if_true, if_false, reduceIte, Int.reduceEq, Int.reduceLT, Int.reduceNeg, Nat.reduceEqDiff, ite_self]
  rw [e1]
  have e8 : bpN (μ 0 0 50 - 1) H (μ 50 (μ 0 0 50 - 1) 1).toNat (mu μ 64 0 (μ 50 (μ 0 0 50 - 1) 1) 0) = bpg (μ 0 0 50 - 1) H μ := rfl
  rw [e8, g29_39]
  have h7 : 0 ≤ bpg (μ 0 0 50 - 1) H μ 0 0 50 - 1 := by rw [e5]; exact hc0
  simp (disch := first | omega | (simp (disch := decide) only [zmu0, mu_g, List.length_nil, List.length_cons]; omega)) only [g29_0, g29_1, g29_4, g29_5, g29_8, g29_11, g29_12, g29_13, g29_14, g29_17, g29_20, g29_21, g29_22, g29_24, g29_27, g29_28, g29_29, g29_30, g29_33, g29_36, g29_40, g29_43, g29_44, g29_47, g29_48, g29_49, g29_52, g29_53, g29_56, ob8, oc8, fl8_0, fl8_1, fl8_2, fl8_3, fl8_4, fl8_5, fl8_6, ob50, oc50, fl50_0, wo50_0, fl50_1, wo50_1, fl50_2, wo50_2, fl50_3, wo50_3, fl50_4, wo50_4, fl50_5, wo50_5, fl50_6, fl50_7, fl50_8, fl50_9, fl50_10, fl50_11, rd64, wr64, zoA_at, gback_v, gback_n, zem, zisr, zro_at, zrl_at, mu_g, mu_at, mu_mu, mu_self, not_true, not_false_iff, zb0, zb1, zbnd, zbw, zbz, zne1, zone, mrgI, List.length_nil, List.length_cons, Nat.reduceAdd, Nat.reduceSub, Nat.reduceLeDiff, Nat.zero_le, and_true, true_and, false_and, and_false, true_or, or_true, false_or, or_false, G_ite, z10, z1n, z1and, z1or, z0not, z0and, itn, if_true, if_false, reduceIte, Int.reduceEq, Int.reduceLT, Int.reduceNeg, Nat.reduceEqDiff, ite_self, h6]
  have e9 : mu (bpg (μ 0 0 50 - 1) H μ) 50 (μ 0 0 50 - 1) 4 (bpg (μ 0 0 50 - 1) H μ 64 0 0) = bpz (μ 0 0 50 - 1) H μ := rfl
  rw [e9, e6, gback_n, g29_56, e7]
  rfl
/-- numbers of pages: what they are between -/
theorem npN_g {k : Nat} (h1 : k ≠ 50) (h2 : k ≠ 56) : ∀ (n : Nat) (l en : Int) (μ : ZU), npN c n l en μ k = μ k
  | 0, _, _, _ => rfl
  | n + 1, l, en, μ => by
    unfold npN
    split
    · rw [npN_g h1 h2 n, mu_g h2, mu_g h1]
    · rw [npN_g h1 h2 n, mu_g h2]
theorem npN_j {i : Int} (hi : i ≠ 2) : ∀ (n : Nat) (l en : Int) (μ : ZU), npN c n l en μ 50 c i = μ 50 c i
  | 0, _, _, _ => rfl
  | n + 1, l, en, μ => by
    unfold npN
    split
    · rw [npN_j hi n, mu_g (by decide), mu_j hi]
    · rw [npN_j hi n, mu_g (by decide)]
theorem npN_b : ∀ (n : Nat) (l en : Int) (μ : ZU), 0 ≤ l → (l = en ∨ 1 ≤ μ 50 c 2) → 0 ≤ μ 50 c 2 → μ 50 c 2 ≤ l → (∀ j, 0 ≤ j → j < l → 0 ≤ μ 56 c j ∧ μ 56 c j ≤ l) →
    (0 ≤ npN c n l en μ 50 c 2 ∧ npN c n l en μ 50 c 2 ≤ l + n) ∧ ∀ j, 0 ≤ j → j < l + n → 0 ≤ npN c n l en μ 56 c j ∧ npN c n l en μ 56 c j ≤ l + n
  | 0, l, en, μ, h0, he, hp, hp2, hI => ⟨⟨hp, by simpa [npN] using hp2⟩, fun j h1 h2 => by simpa [npN] using hI j h1 (by omega)⟩
  | n + 1, l, en, μ, h0, he, hp, hp2, hI => by
    unfold npN
    have e1 : l + 1 + (n : Int) = l + ((n + 1 : Nat) : Int) := by omega
    split
    · rename_i h
      have := npN_b n (l + 1) (μ 65 0 l) (mu (mu μ 50 c 2 (μ 50 c 2 + 1)) 56 c l (μ 50 c 2 + 1 - 1)) (by omega) (Or.inr (by rw [mu_g (by decide), mu_at]; omega)) (by rw [mu_g (by decide), mu_at]; omega) (by rw [mu_g (by decide), mu_at]; omega) (fun j h1 h2 => by
        by_cases hj : j = l
        · rw [hj, mu_at]; omega
        · rw [mu_j hj, mu_g (by decide)]
          have := hI j h1 (by omega)
          omega)
      rw [e1] at this
      exact this
    · rename_i h
      have h9 : 1 ≤ μ 50 c 2 := he.elim (fun z => absurd z h) id
      have := npN_b n (l + 1) en (mu μ 56 c l (μ 50 c 2 - 1)) (by omega) (Or.inr (by rw [mu_g (by decide)]; exact h9)) (by rw [mu_g (by decide)]; omega) (by rw [mu_g (by decide)]; omega) (fun j h1 h2 => by
        by_cases hj : j = l
        · rw [hj, mu_at]; omega
        · rw [mu_j hj]
          have := hI j h1 (by omega)
          omega)
      rw [e1] at this
      exact this
theorem c33 {μ : ZU} (hc : c = μ 0 0 50 - 1) (hc0 : 0 ≤ c) (hd : 0 ≤ d) (hd2 : d < μ 0 0 30) (h90 : 0 ≤ μ 30 d 9) (h60 : μ 30 d 9 ≤ 60) (hI : ∀ w, 0 ≤ w → w < μ 30 d 9 → -1 ≤ μ 35 d w ∧ μ 35 d w < 12) (hL0 : 0 ≤ μ 50 c 1) (hL : μ 50 c 1 ≤ 60) (hP : ∀ l, 0 ≤ l → l < μ 50 c 1 → (0 ≤ μ 52 c l ∧ μ 52 c l < 12) ∧ 0 ≤ μ 56 c l ∧ μ 56 c l ≤ 60) (hg : ∀ k, k ≠ 66 → fbg c μ k = μ k) :
    G 33 0 [zR 8 0, zR 30 d, u, u', u''] [] (HM μ) ck sk Q ↔ Q (.inl (some (zI (rnN c d (μ 30 d 9).toNat 0 0 (fbg c μ)).2))) (HM (rnN c d (μ 30 d 9).toNat 0 0 (fbg c μ)).1) := by
  have e1 := fun (ck sk : Nat) (Q : ZO → ZH → Prop) (u : ZV) => c34 (ck := ck) (sk := sk) (Q := Q) (u := u) hc hc0 hL0 hL hP
  have e2 := fun u => c33_l (ck := ck) (sk := sk) (Q := Q) (d := d) hc0 hd (μ 30 d 9).toNat 0 0 u (fbg c μ) (by rw [hg 0 (by decide)]; exact hc) (by rw [hg 0 (by decide)]; exact hd2) (by rw [hg 30 (by decide)]; exact h60) (by rw [hg 30 (by decide), hg 35 (by decide)]; exact hI) (by omega) (by rw [hg 30 (by decide)]; omega) (Or.inl rfl)
  simp (disch := first | omega | (simp (disch := decide) only [zmu0, mu_g, List.length_nil, List.length_cons]; omega)) only [g33_0, g33_1, g33_4, g33_5, g33_6, g33_7, g33_9, g33_10, g33_13, g33_16, g33_17, g33_20, g33_21, g33_22, g33_24, g33_26, g33_27, g33_30, g33_31, g33_34, g33_37, g33_38, g33_39, g33_40, g33_43, g33_45, g33_46, g33_49, g33_50, g33_53, g33_56, g33_57, g33_58, g33_61, g33_63, g33_64, g33_65, g33_66, g33_67, g33_70, g33_73, g33_74, ob8, oc8, fl8_0, fl8_1, fl8_2, fl8_3, fl8_4, fl8_5, fl8_6, zoA_at, gback_v, gback_n, zem, zisr, zro_at, zrl_at, mu_g, mu_at, mu_mu, mu_self, not_true, not_false_iff, zb0, zb1, zbnd, zbw, zbz, zne1, zone, mrgI, List.length_nil, List.length_cons, Nat.reduceAdd, Nat.reduceSub, Nat.reduceLeDiff, Nat.zero_le, and_true, true_and, false_and, and_false, true_or, or_true, false_or, or_false, G_ite, z10, z1n, z1and, z1or, z0not, z0and, itn, if_true, if_false, reduceIte, Int.reduceEq, Int.reduceLT, Int.reduceNeg, Nat.reduceEqDiff, ite_self, e1, e2]
end ZL8
