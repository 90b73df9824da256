/-! ===== the commands that only tell ===== -/
def KT (L t i : Int) (ck sk : Nat) (Q : ZO → ZH → Prop) : Prop := ∀ (ck' sk' : Nat) (x5 x6 : ZV) (μ' : ZU), RV L (t + 1) μ' → ck ≤ ck' + 13 → sk ≤ sk' + 406 → G 174 1955 [zR 1 0, zR 2 0, zR 100 0, zR 200 0, zI i, x5, x6] [] (HM μ') ck' sk' Q
section ZCM
variable {ck sk : Nat} {Q : ZO → ZH → Prop} {L t i a b c d e j l v w x y : Int} {u u' u1 u2 u3 u4 x5 x6 : ZV} {μ ν : ZU}
theorem thr_o : thr (mu μ 200 0 0 x) y 200 0 0 = x := (congrFun (congrFun (mu_g (by decide)) 0) 0).trans (mu_at ..)
theorem thr_e : thr μ x 100 0 55 = x := mu_at ..
theorem rf25 (h : RV L t ν) : G 147 0 [zR 100 0, zI a] [] (HM ν) ck sk Q ↔ if 0 ≤ a ∧ a ≤ 3 then Q (.inl (some (zI (ν 7 0 a)))) (HM (thr ν 0)) else Q (.inl (some (zI 0))) (HM (thr ν 1)) := by
  rw [c147]
  by_cases g : 0 ≤ a ∧ a ≤ 3
  · rw [if_pos g, if_pos g, (h.2.2.2.2.1 a g.1 g.2).1]
  · rw [if_neg g, if_neg g]
theorem rf15 (h : RV L t ν) : G 121 0 [zR 100 0, zI d] [] (HM ν) ck sk Q ↔ if 0 ≤ d ∧ d < ν 0 0 30 then Q (.inl (some (zI (ν 30 d 10)))) (HM (thr ν 0)) else Q (.inl (some (zI 0))) (HM (thr ν 1)) := by
  obtain ⟨a1, a2, a3, a4, a5⟩ := h.2.2.2.1
  rw [c121 (by omega) (by omega), a3]
  by_cases g : 0 ≤ d ∧ d < ν 0 0 30
  · rw [if_pos g, if_pos g, (a4 d g.1 g.2).2.2.1]
  · rw [if_neg g, if_neg g]
theorem rf8 (h : RV L t ν) : G 112 0 [zR 100 0, zI a, zI b, zI c, u, u'] [] (HM ν) ck sk Q ↔ if 0 ≤ a ∧ a < ν 0 0 20 then (if (0 ≤ b ∧ b ≤ 9) ∧ 0 ≤ c ∧ c ≤ 1 then (if ν 20 a 3 = 0 then Q (.inl (some (zI 0))) (HM (thr ν 3)) else Q (.inl (some (zI (if ν 22 a b = 1 then (if c = 0 then ν 23 a b else ν 24 a b) else -1)))) (HM (thr ν 0))) else Q (.inl (some (zI 0))) (HM (thr ν 2))) else Q (.inl (some (zI 0))) (HM (thr ν 1)) := by
  obtain ⟨a1, a2, a3, a4, a5, a6⟩ := h.2.2.1
  rw [c112 (by omega) (by omega) a6, a3]
  by_cases g : 0 ≤ a ∧ a < ν 0 0 20
  · obtain ⟨b1, b2, b3, b4, b5, b6, b7⟩ := a5 a g.1 g.2
    rw [if_pos g, if_pos g, b5]
    by_cases g2 : (0 ≤ b ∧ b ≤ 9) ∧ 0 ≤ c ∧ c ≤ 1
    · obtain ⟨x1, x2, x3, -⟩ := b7 b g2.1.1 (by omega)
      rw [if_pos g2, if_pos g2, x1, x2, x3]
    · rw [if_neg g2, if_neg g2]
  · rw [if_neg g, if_neg g]
theorem rf7 (h : RV L t ν) : G 111 0 [zR 100 0, zI a, zI b] [] (HM ν) ck sk Q ↔ if 0 ≤ a ∧ a < ν 0 0 10 then (if 0 ≤ b ∧ b ≤ 1 then Q (.inl (some (zI (if b = 0 then ν 10 a 1 else hds ν a)))) (HM (thr ν 0)) else Q (.inl (some (zI 0))) (HM (thr ν 2))) else Q (.inl (some (zI 0))) (HM (thr ν 1)) := by
  obtain ⟨a1, a2, a3, a4, a5⟩ := h.2.1
  rw [c111 (by omega) (by omega) (RV_rim h), a3]
  by_cases g : 0 ≤ a ∧ a < ν 0 0 10
  · rw [if_pos g, if_pos g, (a4 a g.1 g.2).1, hds_hrs h.2.2.1 g.1]
    have e : hrs (thr ν 0) a = hrs ν a := hrs_c (mu_j (by decide)) (mu_g (by decide)) (mu_g (by decide)) (mu_g (by decide))
    rw [e]
  · rw [if_neg g, if_neg g]
theorem rf19 (h : RV L t ν) : G 139 0 [zR 100 0, zI j, zI w, u] [] (HM ν) ck sk Q ↔ if 0 ≤ j ∧ j < ν 0 0 40 then (if 0 ≤ w ∧ w ≤ 6 then Q (.inl (some (zI (if w = 0 then ν 40 j 2 else if w = 1 then ν 40 j 3 else if ν 40 j 4 < 0 then -1 else tlb ν (ν 40 j 4) w)))) (HM (thr ν 0)) else Q (.inl (some (zI 0))) (HM (thr ν 2))) else Q (.inl (some (zI 0))) (HM (thr ν 1)) := by
  have h6 := h.2.2.2.2.2.1
  have h7 := h.2.2.2.2.2.2.1
  rw [c139 (RV_rj h), h6.2.2.1]
  by_cases g : 0 ≤ j ∧ j < ν 0 0 40
  · obtain ⟨b1, b2, b3, b4, b5, b6, b7, b8, -⟩ := h6.2.2.2.1 j g.1 g.2
    rw [if_pos g, if_pos g, b6, b7, b8]
    have e : (if ν 40 j 4 = -1 then -1 else tlr ν (ν 40 j 4) w) = if ν 40 j 4 < 0 then -1 else tlb ν (ν 40 j 4) w := by
      by_cases hb : ν 40 j 4 = -1
      · rw [if_pos hb, if_pos (by omega)]
      · have hb2 : ¬ ν 40 j 4 < 0 := by omega
        rw [if_neg hb, if_neg hb2]
        obtain ⟨c1, c2, c3, c4, c5, c6, c7⟩ := h7.2.2.2.2 _ (by omega : 0 ≤ ν 40 j 4) (by omega)
        obtain ⟨d1, d2, d3, ⟨d4, d5, d6, d7, d8, d9⟩, -⟩ := c7
        unfold tlr tlb
        rw [c1, d5, d6, d7, d9]
    rw [e]
  · rw [if_neg g, if_neg g]
theorem rf20 (h : RV L t ν) : G 140 0 [zR 100 0, zI j, zI l, zI w, u] [] (HM ν) ck sk Q ↔ if (0 ≤ j ∧ j < ν 0 0 40) ∧ 0 ≤ l then (if 0 ≤ w ∧ w ≤ 4 then Q (.inl (some (zI (if ν 40 j 4 < 0 then -1 else tll ν (ν 40 j 4) l w)))) (HM (thr ν 0)) else Q (.inl (some (zI 0))) (HM (thr ν 2))) else Q (.inl (some (zI 0))) (HM (thr ν 1)) := by
  have h6 := h.2.2.2.2.2.1
  have h7 := h.2.2.2.2.2.2.1
  rw [c140 (RV_rj h), h6.2.2.1]
  by_cases g : (0 ≤ j ∧ j < ν 0 0 40) ∧ 0 ≤ l
  · obtain ⟨b1, b2, b3, b4, b5, b6, b7, b8, -⟩ := h6.2.2.2.1 j g.1.1 g.1.2
    rw [if_pos g, if_pos g, b8]
    by_cases g2 : 0 ≤ w ∧ w ≤ 4
    · have e : (if ν 40 j 4 = -1 then -1 else if l < ν 139 0 (ν 40 j 4) then ν 144 0 (300 * ν 40 j 4 + 60 * w + l) else -1) = if ν 40 j 4 < 0 then -1 else tll ν (ν 40 j 4) l w := by
        by_cases hb : ν 40 j 4 = -1
        · rw [if_pos hb, if_pos (by omega)]
        · have hb2 : ¬ ν 40 j 4 < 0 := by omega
          rw [if_neg hb, if_neg hb2]
          obtain ⟨c1, c2, c3, c4, c5, c6, c7⟩ := h7.2.2.2.2 _ (by omega : 0 ≤ ν 40 j 4) (by omega)
          obtain ⟨d1, d2, d3, ⟨d4, d5, d6, d7, d8, d9⟩, d10, -⟩ := c7
          unfold tll
          rw [d5]
          by_cases hl : l < ν 50 (ν 40 j 4) 1
          · obtain ⟨y1, y2, y3, y4, y5⟩ := d10 l g.2 hl
            rw [if_pos hl, if_pos hl]
            have : w = 0 ∨ w = 1 ∨ w = 2 ∨ w = 3 ∨ w = 4 := by omega
            rcases this with rfl | rfl | rfl | rfl | rfl
            · exact y1
            · exact y2
            · exact y3
            · exact y4
            · exact y5
          · rw [if_neg hl, if_neg hl]
      rw [if_pos g2, if_pos g2, e]
    · rw [if_neg g2, if_neg g2]
  · rw [if_neg g, if_neg g]
theorem rf21 (h : RV L t ν) : G 141 0 [zR 100 0, zI j, zI w, u] [] (HM ν) ck sk Q ↔ if (0 ≤ j ∧ j < ν 0 0 40) ∧ 0 ≤ w then Q (.inl (some (zI (if ν 40 j 4 < 0 then -1 else if w < ν 50 (ν 40 j 4) 0 then ν 51 (ν 40 j 4) w else -1)))) (HM (thr ν 0)) else Q (.inl (some (zI 0))) (HM (thr ν 1)) := by
  have h6 := h.2.2.2.2.2.1
  have h7 := h.2.2.2.2.2.2.1
  rw [c141 (RV_rj h), h6.2.2.1]
  by_cases g : (0 ≤ j ∧ j < ν 0 0 40) ∧ 0 ≤ w
  · obtain ⟨b1, b2, b3, b4, b5, b6, b7, b8, -⟩ := h6.2.2.2.1 j g.1.1 g.1.2
    have e : (if ν 40 j 4 = -1 then -1 else if w < ν 143 0 (ν 40 j 4) then ν 145 0 (60 * ν 40 j 4 + w) else -1) = if ν 40 j 4 < 0 then -1 else if w < ν 50 (ν 40 j 4) 0 then ν 51 (ν 40 j 4) w else -1 := by
      by_cases hb : ν 40 j 4 = -1
      · rw [if_pos hb, if_pos (by omega)]
      · have hb2 : ¬ ν 40 j 4 < 0 := by omega
        rw [if_neg hb, if_neg hb2]
        obtain ⟨c1, c2, c3, c4, c5, c6, c7⟩ := h7.2.2.2.2 _ (by omega : 0 ≤ ν 40 j 4) (by omega)
        obtain ⟨d1, d2, d3, ⟨d4, d5, d6, d7, d8, d9⟩, d10, d11, -⟩ := c7
        rw [d4]
        by_cases hl : w < ν 50 (ν 40 j 4) 0
        · rw [if_pos hl, if_pos hl, d11 w g.2 hl]
        · rw [if_neg hl, if_neg hl]
    rw [if_pos g, if_pos g, b8, e]
  · rw [if_neg g, if_neg g]
theorem rf23 (h : RV L t ν) : G 143 0 [zR 100 0, zI j] [] (HM ν) ck sk Q ↔ if 0 ≤ j ∧ j < ν 0 0 40 then Q (.inl (some (zI (if ν 40 j 4 < 0 then -1 else ν 50 (ν 40 j 4) 4)))) (HM (thr ν 0)) else Q (.inl (some (zI 0))) (HM (thr ν 1)) := by
  have h6 := h.2.2.2.2.2.1
  have h7 := h.2.2.2.2.2.2.1
  rw [c143 (RV_rj h), h6.2.2.1]
  by_cases g : 0 ≤ j ∧ j < ν 0 0 40
  · obtain ⟨b1, b2, b3, b4, b5, b6, b7, b8, -⟩ := h6.2.2.2.1 j g.1 g.2
    have e : (if ν 40 j 4 = -1 then -1 else ν 142 0 (ν 40 j 4)) = if ν 40 j 4 < 0 then -1 else ν 50 (ν 40 j 4) 4 := by
      by_cases hb : ν 40 j 4 = -1
      · rw [if_pos hb, if_pos (by omega)]
      · have hb2 : ¬ ν 40 j 4 < 0 := by omega
        rw [if_neg hb, if_neg hb2]
        obtain ⟨c1, c2, c3, c4, c5, c6, c7⟩ := h7.2.2.2.2 _ (by omega : 0 ≤ ν 40 j 4) (by omega)
        exact c7.2.2.2.1.2.2.2.2.1
    rw [if_pos g, if_pos g, b8, e]
  · rw [if_neg g, if_neg g]
theorem rf24 (h : RV L t ν) : G 146 0 [zR 100 0, zI a, zI b, u1, u2, u3, u4] [] (HM ν) ck sk Q ↔ if (0 ≤ a ∧ a < ν 0 0 40) ∧ 0 ≤ b ∧ b < ν 0 0 40 then Q (.inl (some (zI (if ν 40 a 4 < 0 ∨ ν 40 b 4 < 0 then -1 else pul ν (ν 40 a 4) (ν 40 b 4))))) (HM (thr ν 0)) else Q (.inl (some (zI 0))) (HM (thr ν 1)) := by
  have h6 := h.2.2.2.2.2.1
  have h7 := h.2.2.2.2.2.2.1
  rw [c146 (RV_rj h), h6.2.2.1]
  by_cases g : (0 ≤ a ∧ a < ν 0 0 40) ∧ 0 ≤ b ∧ b < ν 0 0 40
  · obtain ⟨b1, b2, b3, b4, b5, b6, b7, b8, -⟩ := h6.2.2.2.1 a g.1.1 g.1.2
    obtain ⟨c1, c2, c3, c4, c5, c6, c7, c8, -⟩ := h6.2.2.2.1 b g.2.1 g.2.2
    have e : (if ν 40 a 4 = -1 ∨ ν 40 b 4 = -1 then -1 else rdf ν (ν 40 a 4) (ν 40 b 4)) = if ν 40 a 4 < 0 ∨ ν 40 b 4 < 0 then -1 else pul ν (ν 40 a 4) (ν 40 b 4) := by
      by_cases hb : ν 40 a 4 = -1 ∨ ν 40 b 4 = -1
      · rw [if_pos hb, if_pos (by omega)]
      · rw [if_neg hb, if_neg (by omega), pul_rdf (h7.2.2.2.2 _ (by omega : 0 ≤ ν 40 a 4) (by omega)).2.2.2.2.2.2 (h7.2.2.2.2 _ (by omega : 0 ≤ ν 40 b 4) (by omega)).2.2.2.2.2.2]
    rw [if_pos g, if_pos g, b8, c8, e]
  · rw [if_neg g, if_neg g]
theorem puN_c (h5 : ν 50 = μ 50) (h2 : ν 52 = μ 52) (h3 : ν 53 = μ 53) (h4 : ν 54 = μ 54) (h6 : ν 56 = μ 56) : ∀ (n : Nat) (i m o s : Int), puN ν a b n i m o s = puN μ a b n i m o s
  | 0, _, _, _, _ => rfl
  | n + 1, i, m, o, s => by
    have e1 : ∀ c m, eop ν c i m = eop μ c i m := fun c m => by
      unfold eop
      rw [h5, h6]
    have e2 : ∀ v e w x, smd ν a v e b w x = smd μ a v e b w x := fun v e w x => by
      unfold smd ksl
      rw [h2, h3, h4]
    show puN ν a b n (i + 1) (eop ν a i m) (eop ν b i o) (if smd ν a m (eop ν a i m) b o (eop ν b i o) = true then s else s + 1) = puN μ a b n (i + 1) (eop μ a i m) (eop μ b i o) (if smd μ a m (eop μ a i m) b o (eop μ b i o) = true then s else s + 1)
    rw [e1, e1, e2, puN_c h5 h2 h3 h4 h6 n]
theorem pul_c (h5 : ν 50 = μ 50) (h2 : ν 52 = μ 52) (h3 : ν 53 = μ 53) (h4 : ν 54 = μ 54) (h6 : ν 56 = μ 56) : pul ν a b = pul μ a b := by
  unfold pul
  rw [puN_c h5 h2 h3 h4 h6, h5]
theorem tlb_c (h4 : ν 41 = μ 41) (h5 : ν 50 = μ 50) : tlb ν b w = tlb μ b w := by
  unfold tlb
  rw [h4, h5]
theorem tll_c (h5 : ν 50 = μ 50) (h2 : ν 52 = μ 52) (h3 : ν 53 = μ 53) (h4 : ν 54 = μ 54) (h6 : ν 55 = μ 55) (h7 : ν 56 = μ 56) : tll ν b l w = tll μ b l w := by
  unfold tll
  rw [h5, h2, h3, h4, h6, h7]
theorem cm25 (h : RV L t μ) (h0 : 0 ≤ i) (h1 : i + 4 < L) (hL : L ≤ 2560) (hck : 13 ≤ ck) (hsk : 406 ≤ sk) (q : KT L t i ck sk Q) : G 174 1899 [zR 1 0, zR 2 0, zR 100 0, zR 200 0, zI i, x5, x6] [] (HM μ) ck sk Q := by
  have h2 : i + 4 < μ 0 2 0 := by rw [h.1]; exact h1
  have h4 : i ≤ 100000 := by omega
  rw [k25 h0 h2 (by omega) (by omega) h4, c69]
  by_cases g0 : 0 ≤ μ 1 0 (i + 1) ∧ μ 1 0 (i + 1) ≤ 3
  · rw [if_pos g0, b173_v, e25 h0 (by rw [mu_g (by decide)]; exact h2) h4, mu_g (k' := 1) (by decide), rf25 (RV_o h)]
    simp (disch := decide) only [mu_g]
    rw [if_pos g0]
    exact r25 thr_e (fun _ => thr_o) (q _ _ _ _ _ (RV_1 (RV_t (RV_o h))) (by omega) (by omega))
  · rw [if_neg g0, b173_0, e25 h0 h2 h4, rf25 h, if_neg g0]
    exact r25 thr_e (fun z => absurd z (by decide)) (q _ _ _ _ _ (RV_1 (RV_t h)) (by omega) (by omega))
theorem cm15 (h : RV L t μ) (h0 : 0 ≤ i) (h1 : i + 4 < L) (hL : L ≤ 2560) (hck : 13 ≤ ck) (hsk : 406 ≤ sk) (q : KT L t i ck sk Q) : G 174 1227 [zR 1 0, zR 2 0, zR 100 0, zR 200 0, zI i, x5, x6] [] (HM μ) ck sk Q := by
  have h2 : i + 4 < μ 0 2 0 := by rw [h.1]; exact h1
  have h4 : i ≤ 100000 := by omega
  rw [k15 h0 h2 (by omega) (by omega) h4, c59 h.2.2.2.1.1.2]
  by_cases g0 : 0 ≤ μ 1 0 (i + 1) ∧ μ 1 0 (i + 1) < μ 0 0 30
  · rw [if_pos g0, b163_v, e15 h0 (by rw [mu_g (by decide)]; exact h2) h4, mu_g (k' := 1) (by decide), rf15 (RV_o h)]
    simp (disch := decide) only [mu_g]
    rw [if_pos g0]
    exact r15 thr_e (fun _ => thr_o) (q _ _ _ _ _ (RV_1 (RV_t (RV_o h))) (by omega) (by omega))
  · rw [if_neg g0, b163_1, e15 h0 h2 h4, rf15 h, if_neg g0]
    exact r15 thr_e (fun z => absurd z (by decide)) (q _ _ _ _ _ (RV_1 (RV_t h)) (by omega) (by omega))
theorem cm23 (h : RV L t μ) (h0 : 0 ≤ i) (h1 : i + 4 < L) (hL : L ≤ 2560) (hck : 13 ≤ ck) (hsk : 406 ≤ sk) (q : KT L t i ck sk Q) : G 174 1775 [zR 1 0, zR 2 0, zR 100 0, zR 200 0, zI i, x5, x6] [] (HM μ) ck sk Q := by
  have h2 : i + 4 < μ 0 2 0 := by rw [h.1]; exact h1
  have h4 : i ≤ 100000 := by omega
  rw [k23 h0 h2 (by omega) (by omega) h4, c67 (RV_job h) (RV_bld h)]
  by_cases g0 : 0 ≤ μ 1 0 (i + 1) ∧ μ 1 0 (i + 1) < μ 0 0 40
  · rw [if_pos g0, b171_v, e23 h0 (by rw [mu_g (by decide)]; exact h2) h4, mu_g (k' := 1) (by decide), rf23 (RV_o h)]
    simp (disch := decide) only [mu_g]
    rw [if_pos g0]
    exact r23 thr_e (fun _ => thr_o) (q _ _ _ _ _ (RV_1 (RV_t (RV_o h))) (by omega) (by omega))
  · rw [if_neg g0, b171_1, e23 h0 h2 h4, rf23 h, if_neg g0]
    exact r23 thr_e (fun z => absurd z (by decide)) (q _ _ _ _ _ (RV_1 (RV_t h)) (by omega) (by omega))
theorem cm8 (h : RV L t μ) (h0 : 0 ≤ i) (h1 : i + 4 < L) (hL : L ≤ 2560) (hck : 13 ≤ ck) (hsk : 406 ≤ sk) (q : KT L t i ck sk Q) : G 174 660 [zR 1 0, zR 2 0, zR 100 0, zR 200 0, zI i, x5, x6] [] (HM μ) ck sk Q := by
  have h2 : i + 4 < μ 0 2 0 := by rw [h.1]; exact h1
  have h4 : i ≤ 100000 := by omega
  rw [k8 h0 h2 (by omega) (by omega) h4, c52 h.2.2.1.1.2]
  by_cases g0 : 0 ≤ μ 1 0 (i + 1) ∧ μ 1 0 (i + 1) < μ 0 0 20
  · by_cases g1 : (0 ≤ μ 1 0 (i + 2) ∧ μ 1 0 (i + 2) ≤ 9) ∧ 0 ≤ μ 1 0 (i + 3) ∧ μ 1 0 (i + 3) ≤ 1
    · by_cases g2 : μ 20 (μ 1 0 (i + 1)) 3 = 0
      · rw [if_pos g0, if_pos g1, if_pos g2, b156_2, e8 h0 h2 h4, rf8 h, if_pos g0, if_pos g1, if_pos g2]
        exact r8 thr_e (fun z => absurd z (by decide)) (q _ _ _ _ _ (RV_1 (RV_t h)) (by omega) (by omega))
      · rw [if_pos g0, if_pos g1, if_neg g2, b156_v, e8 h0 (by rw [mu_g (by decide)]; exact h2) h4, mu_g (k' := 1) (by decide), rf8 (RV_o h)]
        simp (disch := decide) only [mu_g]
        rw [if_pos g0, if_pos g1, if_neg g2]
        exact r8 thr_e (fun _ => thr_o) (q _ _ _ _ _ (RV_1 (RV_t (RV_o h))) (by omega) (by omega))
    · rw [if_pos g0, if_neg g1, b156_0, e8 h0 h2 h4, rf8 h, if_pos g0, if_neg g1]
      exact r8 thr_e (fun z => absurd z (by decide)) (q _ _ _ _ _ (RV_1 (RV_t h)) (by omega) (by omega))
  · rw [if_neg g0, b156_1, e8 h0 h2 h4, rf8 h, if_neg g0]
    exact r8 thr_e (fun z => absurd z (by decide)) (q _ _ _ _ _ (RV_1 (RV_t h)) (by omega) (by omega))
theorem cm7 (h : RV L t μ) (h0 : 0 ≤ i) (h1 : i + 4 < L) (hL : L ≤ 2560) (hck : 13 ≤ ck) (hsk : 406 ≤ sk) (q : KT L t i ck sk Q) : G 174 592 [zR 1 0, zR 2 0, zR 100 0, zR 200 0, zI i, x5, x6] [] (HM μ) ck sk Q := by
  have h2 : i + 4 < μ 0 2 0 := by rw [h.1]; exact h1
  have h4 : i ≤ 100000 := by omega
  rw [k7 h0 h2 (by omega) (by omega) h4, c51 h.2.1.1.2 (RV_img h)]
  by_cases g0 : 0 ≤ μ 1 0 (i + 1) ∧ μ 1 0 (i + 1) < μ 0 0 10
  · by_cases g1 : 0 ≤ μ 1 0 (i + 2) ∧ μ 1 0 (i + 2) ≤ 1
    · rw [if_pos g0, if_pos g1, b155_v, e7 h0 (by rw [mu_g (by decide)]; exact h2) h4, mu_g (k' := 1) (by decide), rf7 (RV_o h)]
      rw [hds_c (μ := μ) (mu_g (by decide)) (mu_g (by decide)) (mu_g (by decide))]
      simp (disch := decide) only [mu_g]
      rw [if_pos g0, if_pos g1]
      exact r7 thr_e (fun _ => thr_o) (q _ _ _ _ _ (RV_1 (RV_t (RV_o h))) (by omega) (by omega))
    · rw [if_pos g0, if_neg g1, b155_0, e7 h0 h2 h4, rf7 h, if_pos g0, if_neg g1]
      exact r7 thr_e (fun z => absurd z (by decide)) (q _ _ _ _ _ (RV_1 (RV_t h)) (by omega) (by omega))
  · rw [if_neg g0, b155_1, e7 h0 h2 h4, rf7 h, if_neg g0]
    exact r7 thr_e (fun z => absurd z (by decide)) (q _ _ _ _ _ (RV_1 (RV_t h)) (by omega) (by omega))
theorem cm19 (h : RV L t μ) (h0 : 0 ≤ i) (h1 : i + 4 < L) (hL : L ≤ 2560) (hck : 13 ≤ ck) (hsk : 406 ≤ sk) (q : KT L t i ck sk Q) : G 174 1491 [zR 1 0, zR 2 0, zR 100 0, zR 200 0, zI i, x5, x6] [] (HM μ) ck sk Q := by
  have h2 : i + 4 < μ 0 2 0 := by rw [h.1]; exact h1
  have h4 : i ≤ 100000 := by omega
  rw [k19 h0 h2 (by omega) (by omega) h4, c63 (RV_job h) (RV_bld h)]
  by_cases g0 : 0 ≤ μ 1 0 (i + 1) ∧ μ 1 0 (i + 1) < μ 0 0 40
  · by_cases g1 : 0 ≤ μ 1 0 (i + 2) ∧ μ 1 0 (i + 2) ≤ 6
    · rw [if_pos g0, if_pos g1, b167_v, e19 h0 (by rw [mu_g (by decide)]; exact h2) h4, mu_g (k' := 1) (by decide), rf19 (RV_o h)]
      rw [tlb_c (μ := μ) (mu_g (by decide)) (mu_g (by decide))]
      simp (disch := decide) only [mu_g]
      rw [if_pos g0, if_pos g1]
      exact r19 thr_e (fun _ => thr_o) (q _ _ _ _ _ (RV_1 (RV_t (RV_o h))) (by omega) (by omega))
    · rw [if_pos g0, if_neg g1, b167_0, e19 h0 h2 h4, rf19 h, if_pos g0, if_neg g1]
      exact r19 thr_e (fun z => absurd z (by decide)) (q _ _ _ _ _ (RV_1 (RV_t h)) (by omega) (by omega))
  · rw [if_neg g0, b167_1, e19 h0 h2 h4, rf19 h, if_neg g0]
    exact r19 thr_e (fun z => absurd z (by decide)) (q _ _ _ _ _ (RV_1 (RV_t h)) (by omega) (by omega))
theorem cm20 (h : RV L t μ) (h0 : 0 ≤ i) (h1 : i + 4 < L) (hL : L ≤ 2560) (hck : 13 ≤ ck) (hsk : 406 ≤ sk) (q : KT L t i ck sk Q) : G 174 1559 [zR 1 0, zR 2 0, zR 100 0, zR 200 0, zI i, x5, x6] [] (HM μ) ck sk Q := by
  have h2 : i + 4 < μ 0 2 0 := by rw [h.1]; exact h1
  have h4 : i ≤ 100000 := by omega
  rw [k20 h0 h2 (by omega) (by omega) h4, c64 (RV_job h) (RV_bld h)]
  by_cases g0 : (0 ≤ μ 1 0 (i + 1) ∧ μ 1 0 (i + 1) < μ 0 0 40) ∧ 0 ≤ μ 1 0 (i + 2)
  · by_cases g1 : 0 ≤ μ 1 0 (i + 3) ∧ μ 1 0 (i + 3) ≤ 4
    · rw [if_pos g0, if_pos g1, b168_v, e20 h0 (by rw [mu_g (by decide)]; exact h2) h4, mu_g (k' := 1) (by decide), rf20 (RV_o h)]
      rw [tll_c (μ := μ) (mu_g (by decide)) (mu_g (by decide)) (mu_g (by decide)) (mu_g (by decide)) (mu_g (by decide)) (mu_g (by decide))]
      simp (disch := decide) only [mu_g]
      rw [if_pos g0, if_pos g1]
      exact r20 thr_e (fun _ => thr_o) (q _ _ _ _ _ (RV_1 (RV_t (RV_o h))) (by omega) (by omega))
    · rw [if_pos g0, if_neg g1, b168_0, e20 h0 h2 h4, rf20 h, if_pos g0, if_neg g1]
      exact r20 thr_e (fun z => absurd z (by decide)) (q _ _ _ _ _ (RV_1 (RV_t h)) (by omega) (by omega))
  · rw [if_neg g0, b168_1, e20 h0 h2 h4, rf20 h, if_neg g0]
    exact r20 thr_e (fun z => absurd z (by decide)) (q _ _ _ _ _ (RV_1 (RV_t h)) (by omega) (by omega))
theorem cm21 (h : RV L t μ) (h0 : 0 ≤ i) (h1 : i + 4 < L) (hL : L ≤ 2560) (hck : 13 ≤ ck) (hsk : 406 ≤ sk) (q : KT L t i ck sk Q) : G 174 1639 [zR 1 0, zR 2 0, zR 100 0, zR 200 0, zI i, x5, x6] [] (HM μ) ck sk Q := by
  have h2 : i + 4 < μ 0 2 0 := by rw [h.1]; exact h1
  have h4 : i ≤ 100000 := by omega
  rw [k21 h0 h2 (by omega) (by omega) h4, c65 (RV_job h) (RV_bld h)]
  by_cases g0 : (0 ≤ μ 1 0 (i + 1) ∧ μ 1 0 (i + 1) < μ 0 0 40) ∧ 0 ≤ μ 1 0 (i + 2)
  · rw [if_pos g0, b169_v, e21 h0 (by rw [mu_g (by decide)]; exact h2) h4, mu_g (k' := 1) (by decide), rf21 (RV_o h)]
    simp (disch := decide) only [mu_g]
    rw [if_pos g0]
    exact r21 thr_e (fun _ => thr_o) (q _ _ _ _ _ (RV_1 (RV_t (RV_o h))) (by omega) (by omega))
  · rw [if_neg g0, b169_1, e21 h0 h2 h4, rf21 h, if_neg g0]
    exact r21 thr_e (fun z => absurd z (by decide)) (q _ _ _ _ _ (RV_1 (RV_t h)) (by omega) (by omega))
theorem cm24 (h : RV L t μ) (h0 : 0 ≤ i) (h1 : i + 4 < L) (hL : L ≤ 2560) (hck : 13 ≤ ck) (hsk : 406 ≤ sk) (q : KT L t i ck sk Q) : G 174 1831 [zR 1 0, zR 2 0, zR 100 0, zR 200 0, zI i, x5, x6] [] (HM μ) ck sk Q := by
  have h2 : i + 4 < μ 0 2 0 := by rw [h.1]; exact h1
  have h4 : i ≤ 100000 := by omega
  rw [k24 h0 h2 (by omega) (by omega) h4, c68 (RV_job h) (RV_bld h)]
  by_cases g0 : (0 ≤ μ 1 0 (i + 1) ∧ μ 1 0 (i + 1) < μ 0 0 40) ∧ 0 ≤ μ 1 0 (i + 2) ∧ μ 1 0 (i + 2) < μ 0 0 40
  · rw [if_pos g0, b172_v, e24 h0 (by rw [mu_g (by decide)]; exact h2) h4, mu_g (k' := 1) (by decide), rf24 (RV_o h)]
    rw [pul_c (μ := μ) (mu_g (by decide)) (mu_g (by decide)) (mu_g (by decide)) (mu_g (by decide)) (mu_g (by decide))]
    simp (disch := decide) only [mu_g]
    rw [if_pos g0]
    exact r24 thr_e (fun _ => thr_o) (q _ _ _ _ _ (RV_1 (RV_t (RV_o h))) (by omega) (by omega))
  · rw [if_neg g0, b172_1, e24 h0 h2 h4, rf24 h, if_neg g0]
    exact r24 thr_e (fun z => absurd z (by decide)) (q _ _ _ _ _ (RV_1 (RV_t h)) (by omega) (by omega))
end ZCM
