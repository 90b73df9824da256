/-! ===== making: raw heaps ===== -/
section ZDA
variable {h h' : ZH} {k k' : Nat} {i i' : Int} {e e' : ZE} {c : Nat} {f : Nat → ZV} {F : (Nat → ZV) → Prop} {A : Nat → (Int → ZV) → Prop} {B : FieldType → Nat → (Int → ZV) → Prop} {t : FieldType} {n : Nat} {g : Int → ZV}
theorem zset_at : zset h k i e k i = some e := if_pos ⟨rfl, rfl⟩
theorem zset_k (hk : k' ≠ k) : zset h k i e k' i' = h k' i' := if_neg fun z => hk z.1
theorem zGF_s : zGF (zset h k i (.inl (c, f))) k i c F ↔ F f := by
  unfold zGF
  rw [zset_at]
  exact ⟨fun q => q.2, fun q => ⟨rfl, q⟩⟩
theorem zGF_n (hk : k' ≠ k) : zGF (zset h k i e) k' i' c F ↔ zGF h k' i' c F := by
  unfold zGF
  rw [zset_k hk]
theorem zGF_o (ho : h k i = some (.inl (c, f))) : zGF h k i c F ↔ F f := by
  unfold zGF
  rw [ho]
  exact ⟨fun q => q.2, fun q => ⟨rfl, q⟩⟩
theorem zAR_s : zAR (zset h k i (.inr (t, n, g))) k i t A ↔ A n g := by
  unfold zAR
  rw [zset_at]
  exact ⟨fun q => q.2, fun q => ⟨rfl, q⟩⟩
theorem zAR_n (hk : k' ≠ k) : zAR (zset h k i e) k' i' t A ↔ zAR h k' i' t A := by
  unfold zAR
  rw [zset_k hk]
theorem zAY_s : zAY (zset h k i (.inr (t, n, g))) k i B ↔ B t n g := by
  unfold zAY
  rw [zset_at]
theorem zAY_n (hk : k' ≠ k) : zAY (zset h k i e) k' i' B ↔ zAY h k' i' B := by
  unfold zAY
  rw [zset_k hk]
theorem zGO_s : zGO (zset h k i (.inl (c, f))) k i c ↔ True := ⟨fun _ => trivial, fun _ => ⟨f, zset_at⟩⟩
theorem zGO_n (hk : k' ≠ k) : zGO (zset h k i e) k' i' c ↔ zGO h k' i' c := by
  unfold zGO
  rw [zset_k hk]
theorem zGO_o (ho : h k i = some (.inl (c, f))) : zGO h k i c ↔ True := ⟨fun _ => trivial, fun _ => ⟨f, ho⟩⟩
theorem zset_zset : zset (zset h k i e) k i e' = zset h k i e' := by
  funext p q
  unfold zset
  by_cases hp : p = k ∧ q = i
  · rw [if_pos hp, if_pos hp]
  · rw [if_neg hp, if_neg hp, if_neg hp]
theorem zset_comm (hk : k < k') : zset (zset h k' i' e') k i e = zset (zset h k i e) k' i' e' := by
  funext p q
  unfold zset
  by_cases h1 : p = k ∧ q = i
  · have h2 : ¬ (p = k' ∧ q = i') := fun z => by omega
    rw [if_pos h1, if_neg h2, if_pos h1]
  · rw [if_neg h1, if_neg h1]
theorem zset_pt (h1 : h' k i = some e) (h2 : ¬ (k' = k ∧ i' = i) → h k' i' = h' k' i') : zset h k i e k' i' = h' k' i' := by
  unfold zset
  by_cases hp : k' = k ∧ i' = i
  · obtain ⟨rfl, rfl⟩ := hp
    rw [if_pos ⟨rfl, rfl⟩, h1]
  · rw [if_neg hp]
    exact h2 hp
theorem zupN_s {j : Nat} {v : ZV} : zupN f j v j = v := if_pos rfl
theorem zupN_n {j j' : Nat} {v : ZV} (hj : j' ≠ j) : zupN f j v j' = f j' := if_neg hj
theorem zkl_mem {α : Type} {x : α} : ∀ {L : List (Nat × α)}, zkl L k = some x → (k, x) ∈ L
  | (p, y) :: r, h => by
    unfold zkl at h
    split at h
    · rename_i q
      have e := Nat.eq_of_beq_eq_true q
      cases h
      subst e
      exact List.mem_cons_self
    · exact List.mem_cons_of_mem _ (zkl_mem h)
end ZDA
/-- zero for the cells of the kinds ks with the number n -/
def mzs (ks : List Nat) (n : Int) (μ : ZU) : ZU := fun k i j => if k ∈ ks ∧ i = n then 0 else μ k i j
section ZDB
variable {μ ν : ZU} {ks : List Nat} {n i j v : Int} {k C : Nat}
theorem mzs_g (h : k ∉ ks) : mzs ks n μ k = μ k := by
  funext i j
  exact if_neg fun z => h z.1
theorem mzs_z (h : k ∈ ks) : mzs ks n μ k n j = 0 := if_pos ⟨h, rfl⟩
theorem mzs_i (h : i ≠ n) : mzs ks n μ k i j = μ k i j := if_neg fun z => h z.2
theorem zbd_mu (hC : C ≠ 0) (c : Nat) : zbd (mu μ 0 0 (C : Int) v) c = if c = C then v else zbd μ c := by
  match c with
  | 0 => rw [if_neg (fun z => hC z.symm)]; rfl
  | c + 1 =>
    show mu μ 0 0 (C : Int) v 0 0 ((c + 1 : Nat) : Int) = _
    by_cases h : c + 1 = C
    · rw [if_pos h, h, mu_at]
    · rw [if_neg h, mu_j (by omega)]
      rfl
/-- a cell that is as it was -/
theorem HM_same (hA : ∀ t m c, zkl zKA k = some (t, m, c) → (i < zbd ν c ↔ i < zbd μ c)) (hO : ∀ c m, zkl zKO k = some (c, m) → (i < zbd ν m ↔ i < zbd μ m)) (hB : ∀ c m e, zkl zKB k = some (c, m, e) → i = 0 → ν 0 0 e = μ 0 0 e) (h8 : k = 8 → i = 0 → ν 0 0 50 = μ 0 0 50) (h1 : k = 1 → ν 0 2 0 = μ 0 2 0) (h26 : k = 26 → ν 0 1 i = μ 0 1 i ∧ (i < ν 0 0 26 ↔ i < μ 0 0 26)) (hj : k ≠ 0 → ∀ j, ν k i j = μ k i j) : HM μ k i = HM ν k i := by
  by_cases hk0 : k = 0
  · subst hk0
    rfl
  have hj := hj hk0
  have e1 : ∀ t m c, zkl zKA k = some (t, m, c) → (0 ≤ i ∧ i < zbd ν c) = (0 ≤ i ∧ i < zbd μ c) := fun t m c h => by rw [propext (hA t m c h)]
  have e2 : ∀ c m, zkl zKO k = some (c, m) → (0 ≤ i ∧ i < zbd ν m) = (0 ≤ i ∧ i < zbd μ m) := fun c m h => by rw [propext (hO c m h)]
  unfold HM
  split
  · rename_i t m c h
    simp only [e1 t m c h, hj]
  · split
    · rename_i c m h
      by_cases h8i : k = 8 ∧ i ≠ 0
      · obtain ⟨rfl, hi⟩ := h8i
        have e8 : zkl zKO 8 = some (6, 0) := rfl
        rw [e8] at h
        cases h
        show (if 0 ≤ i ∧ i < 1 then _ else none) = (if 0 ≤ i ∧ i < 1 then _ else none)
        rw [if_neg (by omega), if_neg (by omega)]
      · have ef : zfl ν k i = zfl μ k i := by
          funext s
          unfold zfl
          split <;> first | rfl | (simp only [hj]) | (rw [h8 rfl (by omega)])
        simp only [e2 c m h, ef]
    · split
      · rename_i c m e h
        by_cases hi : 0 ≤ i ∧ i < 1
        · rw [hB c m e h (by omega)]
        · rw [if_neg hi, if_neg hi]
      · split
        · by_cases hi : 0 ≤ i ∧ i < 1
          · have e : i = 0 := by omega
            subst e
            rw [if_pos hi, if_pos hi, h1 rfl]
            simp only [hj]
          · rw [if_neg hi, if_neg hi]
        · obtain ⟨q1, q2⟩ := h26 rfl
          have q3 : (0 ≤ i ∧ i < ν 0 0 26) = (0 ≤ i ∧ i < μ 0 0 26) := by rw [propext q2]
          simp only [q1, q3, hj]
        · rfl
theorem kA_10 {t : FieldType} {m : Nat} (h : zkl zKA k = some (t, m, 10)) : k = 12 ∨ k = 13 ∨ k = 14 :=
  (show ∀ x ∈ zKA, x.2.2.2 = 10 → x.1 = 12 ∨ x.1 = 13 ∨ x.1 = 14 by decide) _ (zkl_mem h) rfl
theorem kO_10 {m : Nat} (h : zkl zKO k = some (m, 10)) : k = 10 ∨ k = 11 :=
  (show ∀ x ∈ zKO, x.2.2 = 10 → x.1 = 10 ∨ x.1 = 11 by decide) _ (zkl_mem h) rfl
theorem kB_10 {c m : Nat} (h : zkl zKB k = some (c, m, 10)) : k = 3 :=
  (show ∀ x ∈ zKB, x.2.2.2 = 10 → x.1 = 3 by decide) _ (zkl_mem h) rfl
theorem kA_20 {t : FieldType} {m : Nat} (h : zkl zKA k = some (t, m, 20)) : k = 22 ∨ k = 23 ∨ k = 24 :=
  (show ∀ x ∈ zKA, x.2.2.2 = 20 → x.1 = 22 ∨ x.1 = 23 ∨ x.1 = 24 by decide) _ (zkl_mem h) rfl
theorem kO_20 {m : Nat} (h : zkl zKO k = some (m, 20)) : k = 20 ∨ k = 21 :=
  (show ∀ x ∈ zKO, x.2.2 = 20 → x.1 = 20 ∨ x.1 = 21 by decide) _ (zkl_mem h) rfl
theorem kB_20 {c m : Nat} (h : zkl zKB k = some (c, m, 20)) : k = 4 :=
  (show ∀ x ∈ zKB, x.2.2.2 = 20 → x.1 = 4 by decide) _ (zkl_mem h) rfl
theorem kA_30 {t : FieldType} {m : Nat} (h : zkl zKA k = some (t, m, 30)) : k = 31 ∨ k = 32 ∨ k = 33 ∨ k = 34 ∨ k = 35 :=
  (show ∀ x ∈ zKA, x.2.2.2 = 30 → x.1 = 31 ∨ x.1 = 32 ∨ x.1 = 33 ∨ x.1 = 34 ∨ x.1 = 35 by decide) _ (zkl_mem h) rfl
theorem kO_30 {m : Nat} (h : zkl zKO k = some (m, 30)) : k = 30 :=
  (show ∀ x ∈ zKO, x.2.2 = 30 → x.1 = 30 by decide) _ (zkl_mem h) rfl
theorem kB_30 {c m : Nat} (h : zkl zKB k = some (c, m, 30)) : k = 5 :=
  (show ∀ x ∈ zKB, x.2.2.2 = 30 → x.1 = 5 by decide) _ (zkl_mem h) rfl
theorem kA_40 {t : FieldType} {m : Nat} (h : zkl zKA k = some (t, m, 40)) : False :=
  (show ∀ x ∈ zKA, x.2.2.2 = 40 → False by decide) _ (zkl_mem h) rfl
theorem kO_40 {m : Nat} (h : zkl zKO k = some (m, 40)) : k = 40 :=
  (show ∀ x ∈ zKO, x.2.2 = 40 → x.1 = 40 by decide) _ (zkl_mem h) rfl
theorem kB_40 {c m : Nat} (h : zkl zKB k = some (c, m, 40)) : k = 6 :=
  (show ∀ x ∈ zKB, x.2.2.2 = 40 → x.1 = 6 by decide) _ (zkl_mem h) rfl
theorem kA_41 {t : FieldType} {m : Nat} (h : zkl zKA k = some (t, m, 41)) : False :=
  (show ∀ x ∈ zKA, x.2.2.2 = 41 → False by decide) _ (zkl_mem h) rfl
theorem kO_41 {m : Nat} (h : zkl zKO k = some (m, 41)) : k = 41 :=
  (show ∀ x ∈ zKO, x.2.2 = 41 → x.1 = 41 by decide) _ (zkl_mem h) rfl
theorem kB_41 {c m : Nat} (h : zkl zKB k = some (c, m, 41)) : False :=
  (show ∀ x ∈ zKB, x.2.2.2 = 41 → False by decide) _ (zkl_mem h) rfl
theorem kA_50 {t : FieldType} {m : Nat} (h : zkl zKA k = some (t, m, 50)) : 51 ≤ k ∧ k ≤ 56 :=
  (show ∀ x ∈ zKA, x.2.2.2 = 50 → 51 ≤ x.1 ∧ x.1 ≤ 56 by decide) _ (zkl_mem h) rfl
theorem kO_50 {m : Nat} (h : zkl zKO k = some (m, 50)) : k = 50 :=
  (show ∀ x ∈ zKO, x.2.2 = 50 → x.1 = 50 by decide) _ (zkl_mem h) rfl
theorem kB_50 {c m : Nat} (h : zkl zKB k = some (c, m, 50)) : False :=
  (show ∀ x ∈ zKB, x.2.2.2 = 50 → False by decide) _ (zkl_mem h) rfl
theorem kA_26 {t : FieldType} {m : Nat} (h : zkl zKA k = some (t, m, 26)) : False :=
  (show ∀ x ∈ zKA, x.2.2.2 = 26 → False by decide) _ (zkl_mem h) rfl
theorem kO_26 {m : Nat} (h : zkl zKO k = some (m, 26)) : False :=
  (show ∀ x ∈ zKO, x.2.2 = 26 → False by decide) _ (zkl_mem h) rfl
theorem kB_26 {c m : Nat} (h : zkl zKB k = some (c, m, 26)) : False :=
  (show ∀ x ∈ zKB, x.2.2.2 = 26 → False by decide) _ (zkl_mem h) rfl
end ZDB
