/-! ===== the class: a document set ===== -/
section ZLB
variable {ck sk : Nat} {Q : ZO → ZH → Prop} {a b c d e f l s v w x m H L : Int} {u u' u'' u''' : ZV} {μ ν : ZU}
theorem spc_b {inc : Int} {hs : Int → Bool} {sz : Int → Int} (hz : ∀ t, 5 ≤ t → t < 10 → 0 ≤ sz t ∧ sz t ≤ 3) : ∀ (n : Nat) (i s : Int), 5 ≤ i → i + n = 10 → 0 ≤ s → s ≤ 3 * (i - 5) → 0 ≤ spc inc hs sz n i s ∧ spc inc hs sz n i s ≤ 15
  | 0, i, s, h0, hi, h1, h2 => by
    unfold spc
    omega
  | n + 1, i, s, h0, hi, h1, h2 => by
    unfold spc
    have := hz i h0 (by omega)
    split
    · exact spc_b hz n (i + 1) _ (by omega) (by omega) (by omega) (by omega)
    · exact spc_b hz n (i + 1) _ (by omega) (by omega) (by omega) (by omega)
theorem ww_b {hs : Int → Bool} {sz dt cd : Int → Int} (hf : 0 ≤ f) (hsz : ∀ t, 0 ≤ t → t < 5 → 0 ≤ sz t ∧ sz t ≤ 20) : ∀ (n : Nat) (i s r : Int), 0 ≤ s → 0 ≤ (ww hs sz dt cd f n i s r).1 ∧ (ww hs sz dt cd f n i s r).1 ≤ s + 20 * n
  | 0, i, s, r, h => by
    show 0 ≤ s ∧ s ≤ s + 20 * ((0 : Nat) : Int)
    omega
  | n + 1, i, s, r, h => by
    rw [ww_s]
    have hl := lw_b (hs := hs) (dt := dt) (l := cd i - 1) hf hsz 5 0 r (by omega)
    have := ww_b (hs := hs) (dt := dt) (cd := cd) hf hsz n (i + 1) (s + (lw hs sz dt f (cd i - 1) 5 0 r).1) (lw hs sz dt f (cd i - 1) 5 0 r).2 (by omega)
    omega
theorem mwN_g {k : Nat} (h1 : k ≠ 51) (h2 : k ≠ 50) (h3 : k ≠ 61) : ∀ (n : Nat) (w : Int) (μ : ZU), mwN c d b n w μ k = μ k
  | 0, _, _ => rfl
  | n + 1, w, μ => by
    unfold mwN
    rw [mwN_g h1 h2 h3 n, mw1_g h1 h2 h3]
theorem wwd_b {r : Int} (hf : 0 ≤ μ 31 d (μ 32 d (μ 33 d w))) (hsz : ∀ t, 0 ≤ t → t < 5 → 0 ≤ μ 23 b t ∧ μ 23 b t ≤ 20) : 0 ≤ (wwd μ d b w r).1 ∧ (wwd μ d b w r).1 ≤ 160 := by
  have hk := klen_in (x := Int64.ofInt (μ 34 d w))
  have := ww_b (hs := fhs μ b) (dt := μ 24 b) (cd := kcd (Int64.ofInt (μ 34 d w))) hf hsz (klen (Int64.ofInt (μ 34 d w))).toNat 0 0 r (by omega)
  unfold wwd
  omega
theorem mwN_61 : ∀ (n : Nat) (w : Int) (μ : ZU), docOK (μ 30 d) (μ 31 d) (μ 32 d) (μ 33 d) → (∀ t, 0 ≤ t → t < 5 → 0 ≤ μ 23 b t ∧ μ 23 b t ≤ 20) → 0 ≤ w → w + n = μ 30 d 9 → (∀ j, 0 ≤ j → j < w → 0 ≤ μ 61 0 j ∧ μ 61 0 j ≤ 160) → ∀ j, 0 ≤ j → j < μ 30 d 9 → 0 ≤ mwN c d b n w μ 61 0 j ∧ mwN c d b n w μ 61 0 j ≤ 160
  | 0, w, μ, hD, hsz, h0, hi, hI, j, h1, h2 => hI j h1 (by omega)
  | n + 1, w, μ, hD, hsz, h0, hi, hI, j, h1, h2 => by
    unfold mwN
    have g : ∀ k, k ≠ 51 → k ≠ 50 → k ≠ 61 → mw1 μ c d b w k = μ k := fun k a1 a2 a3 => mw1_g a1 a2 a3
    obtain ⟨hH, hS, hF⟩ := hD.2.2 w h0 (by omega)
    refine mwN_61 n (w + 1) (mw1 μ c d b w) (by rw [g 30 (by decide) (by decide) (by decide), g 31 (by decide) (by decide) (by decide), g 32 (by decide) (by decide) (by decide), g 33 (by decide) (by decide) (by decide)]; exact hD) (by rw [g 23 (by decide) (by decide) (by decide)]; exact hsz) (by omega) (by rw [g 30 (by decide) (by decide) (by decide)]; omega) (fun j h1 h2 => ?_) j h1 (by rw [g 30 (by decide) (by decide) (by decide)]; exact h2)
    unfold mw1
    by_cases hj : j = w
    · subst hj
      split
      · rw [mu_at]; exact wwd_b hF.1 hsz
      · rw [mu_at]; omega
    · have := hI j h1 (by omega)
      split
      · rw [mu_j hj, mu_g (by decide), mu_g (by decide)]; exact this
      · rw [mu_j hj, mu_g (by decide)]; exact this
/-- a document, set -/
def st0 (c d b : Int) (μ : ZU) : ZU := mwN c d b (μ 30 d 9).toNat 0 (mu (mu μ 50 c 5 (μ 30 d 7)) 50 c 0 (μ 30 d 9))
def sps (d b : Int) (μ : ZU) : Int := spc (μ 30 d 7) (fhs μ b) (μ 23 b) 5 5 0
def stt (c d b : Int) (μ : ZU) : ZU := stN c d (sps d b μ) 4 (mu (st0 c d b μ) 50 c 3 0)
theorem st0_g {k : Nat} (h1 : k ≠ 51) (h2 : k ≠ 50) (h3 : k ≠ 61) : st0 c d b μ k = μ k := by
  unfold st0
  rw [mwN_g h1 h2 h3, mu_g h2, mu_g h2]
theorem c19 (hc : c = μ 0 0 50 - 1) (hc0 : 0 ≤ c) (hb : 0 ≤ b) (hb2 : b < μ 0 0 20) (hd : 0 ≤ d) (hd2 : d < μ 0 0 30) (hD : docOK (μ 30 d) (μ 31 d) (μ 32 d) (μ 33 d)) (hsz : ∀ t, 0 ≤ t → t < 5 → 0 ≤ μ 23 b t ∧ μ 23 b t ≤ 20) (hsz2 : ∀ t, 5 ≤ t → t < 10 → 0 ≤ μ 23 b t ∧ μ 23 b t ≤ 3)
    (hm : 0 ≤ μ 30 d 0 ∧ μ 30 d 0 ≤ 200) (hh : 3 ≤ μ 30 d 1 ∧ μ 30 d 1 ≤ 12) (ht : ∀ w, 0 ≤ w → w < μ 30 d 9 → -1 ≤ μ 35 d w ∧ μ 35 d w < 12) :
    G 19 0 [zR 8 0, zR 30 d, zR 21 b, u] [] (HM μ) ck sk Q ↔ Q (.inl none) (HM (stt c d b μ)) := by
  have g : ∀ k, k ≠ 51 → k ≠ 50 → k ≠ 61 → st0 c d b μ k = μ k := fun k a1 a2 a3 => st0_g a1 a2 a3
  have m : ∀ k, k ≠ 50 → mu (mu μ 50 c 5 (μ 30 d 7)) 50 c 0 (μ 30 d 9) k = μ k := fun k hk => by rw [mu_g hk, mu_g hk]
  have hs := spc_b (inc := μ 30 d 7) (hs := fhs μ b) hsz2 5 5 0 (by omega) (by omega) (by omega) (by omega)
  have e1 := fun (ck sk : Nat) (Q : ZO → ZH → Prop) (u u' u'' : ZV) => c20 (μ := mu (mu μ 50 c 5 (μ 30 d 7)) 50 c 0 (μ 30 d 9)) (ck := ck) (sk := sk) (Q := Q) (u := u) (u' := u') (u'' := u'') (d := d) (b := b) hb hd (by rw [m 0 (by decide)]; omega) (by rw [m 0 (by decide)]; exact hb2) (by rw [m 0 (by decide)]; exact hd2) (by rw [m 30 (by decide), m 31 (by decide), m 32 (by decide), m 33 (by decide)]; exact hD) (by rw [m 23 (by decide)]; exact hsz)
  rw [m 0 (by decide), m 30 (by decide), ← hc] at e1
  have e1' : ∀ (ck sk : Nat) (Q : ZO → ZH → Prop) (u u' u'' : ZV), G 20 0 [zR 8 0, zR 30 d, zR 21 b, u'', u, u'] [] (HM (mu (mu μ 50 c 5 (μ 30 d 7)) 50 c 0 (μ 30 d 9))) ck sk Q ↔ Q (.inl none) (HM (st0 c d b μ)) := e1
  have e2 := fun (ck sk : Nat) (Q : ZO → ZH → Prop) (u u' : ZV) => c23 (μ := st0 c d b μ) (ck := ck) (sk := sk) (Q := Q) (u := u) (u' := u') (d := d) (b := b) hb (by rw [g 0 (by decide) (by decide) (by decide)]; exact hb2) hd (by rw [g 0 (by decide) (by decide) (by decide)]; exact hd2) (by rw [g 23 (by decide) (by decide) (by decide)]; exact hsz2)
  have ef : fhs (st0 c d b μ) b = fhs μ b := by unfold fhs; rw [g 22 (by decide) (by decide) (by decide)]
  rw [g 30 (by decide) (by decide) (by decide), g 23 (by decide) (by decide) (by decide), ef] at e2
  have hI : sI (mu (st0 c d b μ) 50 c 3 0) c d (sps d b μ) := by
    have n : ∀ k, k ≠ 51 → k ≠ 50 → k ≠ 61 → mu (st0 c d b μ) 50 c 3 0 k = μ k := fun k a1 a2 a3 => by rw [mu_g a2, g k a1 a2 a3]
    have h61 : mu (st0 c d b μ) 50 c 3 0 61 = st0 c d b μ 61 := mu_g (by decide)
    unfold sI
    rw [n 0 (by decide) (by decide) (by decide), n 30 (by decide) (by decide) (by decide), n 33 (by decide) (by decide) (by decide), n 35 (by decide) (by decide) (by decide), h61]
    refine ⟨hc, hc0, hd, hd2, hs, ⟨hD.1, hD.2.1⟩, hm, hh, fun w h1 h2 => ?_, fun w h1 h2 => (hD.2.2 w h1 h2).1, ht⟩
    have h9 := hD.1
    have := mwN_61 (c := c) (b := b) (μ 30 d 9).toNat 0 (mu (mu μ 50 c 5 (μ 30 d 7)) 50 c 0 (μ 30 d 9)) (by rw [m 30 (by decide), m 31 (by decide), m 32 (by decide), m 33 (by decide)]; exact hD) (by rw [m 23 (by decide)]; exact hsz) (by omega) (by rw [m 30 (by decide)]; omega) (fun j h1 h2 => by omega) w h1 (by rw [m 30 (by decide)]; exact h2)
    exact this
  have e3 := c19_l (ck := ck) (sk := sk) (Q := Q) (b := b) 4 (mu (st0 c d b μ) 50 c 3 0) hI (by rw [mu_at]; rfl) (by omega)
  have k1 : st0 c d b μ 0 = μ 0 := g 0 (by decide) (by decide) (by decide)
  have k2 : sps d b μ = spc (μ 30 d 7) (fhs μ b) (μ 23 b) 5 5 0 := rfl
  rw [k2] at e3
  have k3 : c < μ 0 0 50 := by omega
  have k4 : μ 0 0 50 - 1 = c := by omega
  have k5 : c < st0 c d b μ 0 0 50 := by rw [k1]; omega
  unfold stt
  rw [k2]
  simp (disch := first | omega | (simp (disch := decide) only [zmu0, mu_g, List.length_nil, List.length_cons]; omega)) only [g19_0, g19_1, g19_4, g19_5, g19_8, g19_11, g19_12, g19_15, g19_16, g19_19, g19_22, g19_23, g19_24, g19_25, g19_28, g19_29, g19_30, g19_31, g19_34, g19_35, g19_36, g19_39, g19_40, g19_44, g19_47, g19_47r, g19_48, g19_51, g19_52, g19_53, g19_56, g19_57, g19_58, g19_61, g19_62, g19_63, g19_66, g19_67, g19_68, g19_71, g19_75, g19_78, g19_81, g19_82, g19_85, g19_86, g19_87, g19_90, g19_93, ob8, oc8, fl8_0, fl8_1, fl8_2, fl8_3, fl8_4, fl8_5, fl8_6, ob30, oc30, fl30_0, wo30_0, fl30_1, wo30_1, fl30_2, fl30_3, fl30_4, fl30_5, fl30_6, fl30_7, wo30_7, fl30_8, wo30_8, fl30_9, wo30_9, fl30_10, wo30_10, ob50, oc50, fl50_0, wo50_0, fl50_1, wo50_1, fl50_2, wo50_2, fl50_3, wo50_3, fl50_4, wo50_4, fl50_5, wo50_5, fl50_6, fl50_7, fl50_8, fl50_9, fl50_10, fl50_11, zoA_at, gback_v, gback_n, zem, zisr, zro_at, zrl_at, mu_g, mu_at, mu_mu, mu_self, not_true, not_false_iff, zb0, zb1, zbnd, zbw, zbz, zne1, zone, mrgI, List.length_nil, List.length_cons, Nat.reduceAdd, Nat.reduceSub, Nat.reduceLeDiff, Nat.zero_le, and_true, true_and, false_and, and_false, true_or, or_true, false_or, or_false, G_ite, z10, z1n, z1and, z1or, z0not, z0and, itn, if_true, if_false, reduceIte, Int.reduceEq, Int.reduceLT, Int.reduceNeg, Nat.reduceEqDiff, ite_self, e1', e2, e3, k1, k3, k4]
end ZLB
