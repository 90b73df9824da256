/-! ===== runs without fuel ===== -/
section ZGL
variable {P : ZP} {m pc : Nat} {ls st : List ZV} {h : ZH} {ck sk : Nat} {Q Q' : ZO → ZH → Prop} {K K' : Nat → ZS → (ZO → ZH → Prop) → Prop}
theorem zback_mono (hK : ∀ m s Q Q', (∀ o h, Q o h → Q' o h) → K m s Q → K' m s Q') (hQ : ∀ o h, Q o h → Q' o h) {pc' nt : Nat} {rest : List ZV} : ∀ o h, zback P K Q m pc pc' nt ck sk ls rest o h → zback P K' Q' m pc pc' nt ck sk ls rest o h := by
  intro o h q
  match o, q with
  | .inl v, q => exact hK _ _ _ _ hQ q
  | .inr E, q =>
    refine ⟨q.1, ?_⟩
    have q := q.2
    split at q
    · exact hK _ _ _ _ hQ q
    · exact hQ _ _ q
theorem zdo_mono (hK : ∀ m s Q Q', (∀ o h, Q o h → Q' o h) → K m s Q → K' m s Q') (hQ : ∀ o h, Q o h → Q' o h) : ∀ A : ZA, zdo P K m pc ls h ck sk Q A → zdo P K' m pc ls h ck sk Q' A := by
  intro A q
  match A, q with
  | .inl (c, s), q => exact ⟨q.1, hK _ _ _ _ hQ q.2⟩
  | .inr (.inl (c, pc', ls', st', e, w)), ⟨q1, q2, q3, k, i, q4, q5, q6⟩ => exact ⟨q1, q2, q3, k, i, q4, q5, hK _ _ _ _ hQ q6⟩
  | .inr (.inr (.inl (c, f, av, rest, pc', nt))), q => exact ⟨q.1, q.2.1, q.2.2.1, hK _ _ _ _ (zback_mono hK hQ) q.2.2.2⟩
  | .inr (.inr (.inr (c, o))), q => exact ⟨q.1, hQ _ _ q.2⟩
theorem zrun_mono : ∀ {n n' : Nat}, n ≤ n' → ∀ {m : Nat} {s : ZS} {Q Q' : ZO → ZH → Prop}, (∀ o h, Q o h → Q' o h) → zrun P n m s Q → zrun P n' m s Q'
  | 0, _, _, _, _, _, _, _, q => q.elim
  | n + 1, 0, h, _, _, _, _, _, _ => absurd h (Nat.not_succ_le_zero n)
  | n + 1, n' + 1, h, m, (pc, ls, st, hp, ck, sk), Q, Q', hQ, q => by
    unfold zrun at q ⊢
    split at q
    · exact q.elim
    · exact zdo_mono (K := fun m s Q => zrun P n m s Q) (K' := fun m s Q => zrun P n' m s Q) (fun m s Q Q' hQ q => zrun_mono (Nat.le_of_succ_le_succ h) hQ q) hQ _ q
theorem zpick : ∀ {n m : Nat} {s : ZS} {Q : ZO → ZH → Prop}, zrun P n m s Q → ∃ o h, Q o h ∧ ∀ Q' : ZO → ZH → Prop, Q' o h → zrun P n m s Q'
  | 0, _, _, _, q => q.elim
  | n + 1, m, (pc, ls, st, hp, ck, sk), Q, q => by
    unfold zrun at q ⊢
    split at q
    · exact q.elim
    · rename_i ig len a b e
      generalize zact P m pc ig len a b ls st hp ck sk = A at q
      match A, q with
      | .inl (c, s), q =>
        obtain ⟨o, h, h1, h2⟩ := zpick q.2
        exact ⟨o, h, h1, fun Q' hQ' => ⟨q.1, h2 Q' hQ'⟩⟩
      | .inr (.inl (c, pc', ls', st', e, w)), ⟨q1, q2, q3, k, i, q4, q5, q6⟩ =>
        obtain ⟨o, h, h1, h2⟩ := zpick q6
        exact ⟨o, h, h1, fun Q' hQ' => ⟨q1, q2, q3, k, i, q4, q5, h2 Q' hQ'⟩⟩
      | .inr (.inr (.inl (c, f, av, rest, pc', nt))), ⟨q1, q2, q3, q4⟩ =>
        obtain ⟨o, h, h1, h2⟩ := zpick q4
        match o, h1, h2 with
        | .inl v, h1, h2 =>
          obtain ⟨o', h', h3, h4⟩ := zpick (show zrun P n m _ Q from h1)
          exact ⟨o', h', h3, fun Q' hQ' => ⟨q1, q2, q3, h2 _ (h4 Q' hQ')⟩⟩
        | .inr E, h1, h2 =>
          obtain ⟨h0, h1⟩ := h1
          cases hz : zcatch (zhd P m) pc E with
          | some t =>
            rw [hz] at h1
            obtain ⟨o', h', h3, h4⟩ := zpick (show zrun P n m _ Q from h1)
            exact ⟨o', h', h3, fun Q' hQ' => ⟨q1, q2, q3, h2 _ ⟨h0, by rw [hz]; exact h4 Q' hQ'⟩⟩⟩
          | none =>
            rw [hz] at h1
            exact ⟨.inr E, h, h1, fun Q' hQ' => ⟨q1, q2, q3, h2 _ ⟨h0, by rw [hz]; exact hQ'⟩⟩⟩
      | .inr (.inr (.inr (c, o))), q => exact ⟨o, hp, q.2, fun Q' hQ' => ⟨q.1, hQ'⟩⟩
/-- a run without fuel -/
def GK (m : Nat) (s : ZS) (Q : ZO → ZH → Prop) : Prop := ∃ n, zrun zPr n m s Q
def G (m pc : Nat) (ls st : List ZV) (h : ZH) (ck sk : Nat) (Q : ZO → ZH → Prop) : Prop := GK m (pc, ls, st, h, ck, sk) Q
def gback (m pc pc' nt ck sk : Nat) (ls rest : List ZV) (Q : ZO → ZH → Prop) : ZO → ZH → Prop := zback zPr GK Q m pc pc' nt ck sk ls rest
theorem GK.mono {s : ZS} (hQ : ∀ o h, Q o h → Q' o h) (q : GK m s Q) : GK m s Q' := by
  obtain ⟨n, q⟩ := q
  exact ⟨n, zrun_mono (Nat.le_refl n) hQ q⟩
theorem G.mono (q : G m pc ls st h ck sk Q) (hQ : ∀ o h, Q o h → Q' o h) : G m pc ls st h ck sk Q' := GK.mono hQ q
theorem G_iff {ig : Instr} {len a b : Nat} (hc : zPr.1 m pc = some (ig, len, a, b)) : G m pc ls st h ck sk Q ↔ zdo zPr GK m pc ls h ck sk Q (zact zPr m pc ig len a b ls st h ck sk) := by
  constructor
  · rintro ⟨n, q⟩
    match n, q with
    | 0, q => exact q.elim
    | n + 1, q =>
      unfold zrun at q
      rw [hc] at q
      exact zdo_mono (fun m s Q Q' hQ q => ⟨n, zrun_mono (Nat.le_refl n) hQ q⟩) (fun _ _ z => z) _ q
  · intro q
    generalize hA : zact zPr m pc ig len a b ls st h ck sk = A at q
    have fin : ∀ n, zdo zPr (fun m s Q => zrun zPr n m s Q) m pc ls h ck sk Q A → G m pc ls st h ck sk Q := by
      intro n q
      refine ⟨n + 1, ?_⟩
      unfold zrun
      rw [hc]
      show zdo zPr (fun m s Q => zrun zPr n m s Q) m pc ls h ck sk Q (zact zPr m pc ig len a b ls st h ck sk)
      rw [hA]
      exact q
    match A, q with
    | .inl (c, s), ⟨q1, n, q2⟩ => exact fin n ⟨q1, q2⟩
    | .inr (.inl (c, pc', ls', st', e, w)), ⟨q1, q2, q3, k, i, q4, q5, n, q6⟩ => exact fin n ⟨q1, q2, q3, k, i, q4, q5, q6⟩
    | .inr (.inr (.inl (c, f, av, rest, pc', nt))), ⟨q1, q2, q3, n, q4⟩ =>
      obtain ⟨o, h', h1, h2⟩ := zpick q4
      match o, h1, h2 with
      | .inl v, ⟨n', h1⟩, h2 =>
        refine fin (max n n') ⟨q1, q2, q3, zrun_mono (Nat.le_max_left n n') (fun _ _ z => z) (h2 _ ?_)⟩
        exact zrun_mono (Nat.le_max_right n n') (fun _ _ z => z) h1
      | .inr E, h1, h2 =>
        obtain ⟨h0, h1⟩ := h1
        cases hz : zcatch (zhd zPr m) pc E with
        | some t =>
          rw [hz] at h1
          obtain ⟨n', h1⟩ := h1
          refine fin (max n n') ⟨q1, q2, q3, zrun_mono (Nat.le_max_left n n') (fun _ _ z => z) (h2 _ ⟨h0, ?_⟩)⟩
          rw [hz]
          exact zrun_mono (Nat.le_max_right n n') (fun _ _ z => z) h1
        | none =>
          rw [hz] at h1
          refine fin n ⟨q1, q2, q3, h2 _ ⟨h0, ?_⟩⟩
          rw [hz]
          exact h1
    | .inr (.inr (.inr (c, o))), q => exact fin 0 q
/-! rules -/
def zGF (h : ZH) (k : Nat) (i : Int) (c : Nat) (F : (Nat → ZV) → Prop) : Prop := match h k i with
  | some (.inl (c', f)) => c' = c ∧ F f
  | _ => False
def zAR (h : ZH) (k : Nat) (i : Int) (t : FieldType) (F : Nat → (Int → ZV) → Prop) : Prop := match h k i with
  | some (.inr (t', n, f)) => t' = t ∧ F n f
  | _ => False
def zAY (h : ZH) (k : Nat) (i : Int) (F : FieldType → Nat → (Int → ZV) → Prop) : Prop := match h k i with
  | some (.inr (t', n, f)) => F t' n f
  | _ => False
def zGO (h : ZH) (k : Nat) (i : Int) (c : Nat) : Prop := ∃ f, h k i = some (.inl (c, f))
variable {ig : Instr} {len a b : Nat} {pc' : Nat} {ls' st' : List ZV} {h' : ZH} {ck' sk' : Nat}
theorem gGo (hc : zPr.1 m pc = some (ig, len, a, b)) (he : zact zPr m pc ig len a b ls st h ck sk = zgo True pc' ls' st' h' ck' sk') : G m pc ls st h ck sk Q ↔ G m pc' ls' st' h' ck' sk' Q := by
  rw [G_iff hc, he]
  exact ⟨fun q => q.2, fun q => ⟨trivial, q⟩⟩
theorem gGoC {c : Prop} (hc : zPr.1 m pc = some (ig, len, a, b)) (he : zact zPr m pc ig len a b ls st h ck sk = zgo c pc' ls' st' h' ck' sk') (h0 : c) : G m pc ls st h ck sk Q ↔ G m pc' ls' st' h' ck' sk' Q := by
  rw [G_iff hc, he]
  exact ⟨fun q => q.2, fun q => ⟨h0, q⟩⟩
theorem gIf {t : Bool} {p : Prop} [Decidable p] (hc : zPr.1 m pc = some (ig, len, a, b)) (he : zact zPr m pc ig len a b ls st h ck sk = zgo True (if t = true then a else pc') ls' st' h' ck' sk') (ht : t = true ↔ p) : G m pc ls st h ck sk Q ↔ if p then G m a ls' st' h' ck' sk' Q else G m pc' ls' st' h' ck' sk' Q := by
  rw [G_iff hc, he]
  by_cases hp : p
  · rw [if_pos hp, if_pos (ht.mpr hp)]
    exact ⟨fun q => q.2, fun q => ⟨trivial, q⟩⟩
  · rw [if_neg hp, if_neg (fun z => hp (ht.mp z))]
    exact ⟨fun q => q.2, fun q => ⟨trivial, q⟩⟩
theorem gIfP {p : Prop} [Decidable p] {x y : Nat} (hc : zPr.1 m pc = some (ig, len, a, b)) (he : zact zPr m pc ig len a b ls st h ck sk = zgo True (if p then x else y) ls' st' h' ck' sk') : G m pc ls st h ck sk Q ↔ if p then G m x ls' st' h' ck' sk' Q else G m y ls' st' h' ck' sk' Q := by
  rw [G_iff hc, he]
  by_cases hp : p
  · rw [if_pos hp, if_pos hp]
    exact ⟨fun q => q.2, fun q => ⟨trivial, q⟩⟩
  · rw [if_neg hp, if_neg hp]
    exact ⟨fun q => q.2, fun q => ⟨trivial, q⟩⟩
theorem gEnd {c : Prop} {o : ZO} (hc : zPr.1 m pc = some (ig, len, a, b)) (he : zact zPr m pc ig len a b ls st h ck sk = .inr (.inr (.inr (c, o)))) : G m pc ls st h ck sk Q ↔ c ∧ Q o h := by
  rw [G_iff hc, he]
  exact Iff.rfl
theorem gEndT {c : Prop} {o : ZO} (hc : zPr.1 m pc = some (ig, len, a, b)) (he : zact zPr m pc ig len a b ls st h ck sk = .inr (.inr (.inr (c, o)))) (h0 : c) : G m pc ls st h ck sk Q ↔ Q o h := by
  rw [G_iff hc, he]
  exact ⟨fun q => q.2, fun q => ⟨h0, q⟩⟩
theorem gGet {k : Nat} {i : Int} {j : Nat} {r : List ZV} (hc : zPr.1 m pc = some (.getfield j, 3, a, b)) : G m pc ls (zR k i :: r) h ck sk Q ↔ zGF h k i a (fun f => G m (pc + 3) ls (f b :: r) h ck sk Q) := by
  rw [G_iff hc]
  show zdo zPr GK m pc ls h ck sk Q (zob h k i fun c f => zgo (c = a) (pc + 3) ls (f b :: r) h ck sk) ↔ _
  unfold zob zGF
  generalize h k i = e
  match e with
  | some (.inl (c', f)) =>
    exact Iff.rfl
  | some (.inr x) => exact ⟨fun q => q.1.elim, fun q => q.elim⟩
  | none => exact ⟨fun q => q.1.elim, fun q => q.elim⟩
theorem gPutI {k : Nat} {i z : Int} {j : Nat} {r : List ZV} (hc : zPr.1 m pc = some (.putfield j, 3, a, b)) (hb : b < 1000) : G m pc ls (zI z :: zR k i :: r) h ck sk Q ↔ zGF h k i a (fun f => k ≠ 1 ∧ G m (pc + 3) ls r (zset h k i (.inl (a, zupN f b (zI z)))) ck sk Q) := by
  rw [G_iff hc]
  have e : zact zPr m pc (.putfield j) 3 a b ls (zI z :: zR k i :: r) h ck sk = zob h k i fun c f => zgo (c = a ∧ k ≠ 1) (pc + 3) ls r (zset h k i (.inl (c, zupN f b (zI z)))) ck sk := if_pos hb
  rw [e]
  unfold zob zGF
  generalize h k i = e
  match e with
  | some (.inl (c', f)) =>
    constructor
    · rintro ⟨⟨rfl, q1⟩, q2⟩
      exact ⟨rfl, q1, q2⟩
    · rintro ⟨rfl, q1, q2⟩
      exact ⟨⟨rfl, q1⟩, q2⟩
  | some (.inr x) => exact ⟨fun q => q.1.elim, fun q => q.elim⟩
  | none => exact ⟨fun q => q.1.elim, fun q => q.elim⟩
theorem gPutR {k k2 : Nat} {i i2 : Int} {j s : Nat} {r : List ZV} (hc : zPr.1 m pc = some (.putfield j, 3, a, b)) (hs : b = 1000 + s) : G m pc ls (zR k2 i2 :: zR k i :: r) h ck sk Q ↔ zGF h k i a (fun f => k ≠ 1 ∧ G m (pc + 3) ls r (zset h k i (.inl (a, zupN f s (zR k2 i2)))) ck sk Q) := by
  have hb : ¬ b < 1000 := by omega
  have hb2 : s = b - 1000 := by omega
  rw [hb2]
  rw [G_iff hc]
  have e : zact zPr m pc (.putfield j) 3 a b ls (zR k2 i2 :: zR k i :: r) h ck sk = zob h k i fun c f => zgo (c = a ∧ k ≠ 1) (pc + 3) ls r (zset h k i (.inl (c, zupN f (b - 1000) (zR k2 i2)))) ck sk := if_neg hb
  rw [e]
  unfold zob zGF
  generalize h k i = e
  match e with
  | some (.inl (c', f)) =>
    constructor
    · rintro ⟨⟨rfl, q1⟩, q2⟩
      exact ⟨rfl, q1, q2⟩
    · rintro ⟨rfl, q1, q2⟩
      exact ⟨⟨rfl, q1⟩, q2⟩
  | some (.inr x) => exact ⟨fun q => q.1.elim, fun q => q.elim⟩
  | none => exact ⟨fun q => q.1.elim, fun q => q.elim⟩
/-- a read of an array, its element's type by its instruction -/
theorem gRead {k : Nat} {i j : Int} {t : FieldType} {r : List ZV} (hc : zPr.1 m pc = some (ig, len, a, b)) (he : ∀ H : ZH, zact zPr m pc ig len a b ls (zI j :: zR k i :: r) H ck sk = zar H k i fun t' n f => zgo (t' = t ∧ 0 ≤ j ∧ j < n) pc' ls (f j :: r) H ck sk) :
    G m pc ls (zI j :: zR k i :: r) h ck sk Q ↔ zAR h k i t (fun n f => (0 ≤ j ∧ j < n) ∧ G m pc' ls (f j :: r) h ck sk Q) := by
  rw [G_iff hc, he]
  unfold zar zAR
  generalize h k i = e
  match e with
  | some (.inr (t', n, f)) =>
    constructor
    · rintro ⟨⟨rfl, q1⟩, q2⟩
      exact ⟨rfl, q1, q2⟩
    · rintro ⟨rfl, q1, q2⟩
      exact ⟨⟨rfl, q1⟩, q2⟩
  | some (.inl x) => exact ⟨fun q => q.1.elim, fun q => q.elim⟩
  | none => exact ⟨fun q => q.1.elim, fun q => q.elim⟩
theorem gReadA {k : Nat} {i j : Int} {r : List ZV} (hc : zPr.1 m pc = some (.aaload, 1, a, b)) :
    G m pc ls (zI j :: zR k i :: r) h ck sk Q ↔ zAY h k i (fun t n f => (t.isReference = true ∧ 0 ≤ j ∧ j < n) ∧ G m (pc + 1) ls (f j :: r) h ck sk Q) := by
  rw [G_iff hc]
  show zdo zPr GK m pc ls h ck sk Q (zar h k i fun t n f => zgo (t.isReference = true ∧ 0 ≤ j ∧ j < n) (pc + 1) ls (f j :: r) h ck sk) ↔ _
  unfold zar zAY
  generalize h k i = e
  match e with
  | some (.inr (t, n, f)) =>
    exact Iff.rfl
  | some (.inl x) => exact ⟨fun q => q.1.elim, fun q => q.elim⟩
  | none => exact ⟨fun q => q.1.elim, fun q => q.elim⟩
theorem gLen {k : Nat} {i : Int} {r : List ZV} (hc : zPr.1 m pc = some (.arraylength, 1, a, b)) :
    G m pc ls (zR k i :: r) h ck sk Q ↔ zAY h k i (fun _ n _ => G m (pc + 1) ls (zI n :: r) h ck sk Q) := by
  rw [G_iff hc]
  show zdo zPr GK m pc ls h ck sk Q (zar h k i fun _ n _ => zgo True (pc + 1) ls (zI n :: r) h ck sk) ↔ _
  unfold zar zAY
  generalize h k i = e
  match e with
  | some (.inr (t, n, f)) =>
    exact ⟨fun q => q.2, fun q => ⟨trivial, q⟩⟩
  | some (.inl x) => exact ⟨fun q => q.1.elim, fun q => q.elim⟩
  | none => exact ⟨fun q => q.1.elim, fun q => q.elim⟩
theorem gWrite {k : Nat} {i j z : Int} {t : FieldType} {r : List ZV} {c : Prop} (hc : zPr.1 m pc = some (ig, len, a, b)) (he : ∀ H : ZH, zact zPr m pc ig len a b ls (zI z :: zI j :: zR k i :: r) H ck sk = zar H k i fun t' n f => zgo (k ≠ 1 ∧ t' = t ∧ 0 ≤ j ∧ j < n ∧ c) pc' ls r (zset H k i (.inr (t', n, zup f j (zI z)))) ck sk) :
    G m pc ls (zI z :: zI j :: zR k i :: r) h ck sk Q ↔ zAR h k i t (fun n f => (k ≠ 1 ∧ 0 ≤ j ∧ j < n ∧ c) ∧ G m pc' ls r (zset h k i (.inr (t, n, zup f j (zI z)))) ck sk Q) := by
  rw [G_iff hc, he]
  unfold zar zAR
  generalize h k i = e
  match e with
  | some (.inr (t', n, f)) =>
    constructor
    · rintro ⟨⟨q0, rfl, q1⟩, q2⟩
      exact ⟨rfl, ⟨q0, q1⟩, q2⟩
    · rintro ⟨rfl, ⟨q0, q1⟩, q2⟩
      exact ⟨⟨q0, rfl, q1⟩, q2⟩
  | some (.inl x) => exact ⟨fun q => q.1.elim, fun q => q.elim⟩
  | none => exact ⟨fun q => q.1.elim, fun q => q.elim⟩
theorem gWriteI {k : Nat} {i j z : Int} {r : List ZV} (hc : zPr.1 m pc = some (.iastore, 1, a, b)) :
    G m pc ls (zI z :: zI j :: zR k i :: r) h ck sk Q ↔ zAR h k i .int (fun n f => (k ≠ 1 ∧ 0 ≤ j ∧ j < n) ∧ G m (pc + 1) ls r (zset h k i (.inr (.int, n, zup f j (zI z)))) ck sk Q) := by
  rw [G_iff hc]
  show zdo zPr GK m pc ls h ck sk Q (zar h k i fun t n f => zgo (k ≠ 1 ∧ t = .int ∧ 0 ≤ j ∧ j < n) (pc + 1) ls r (zset h k i (.inr (t, n, zup f j (zI z)))) ck sk) ↔ _
  unfold zar zAR
  generalize h k i = e
  match e with
  | some (.inr (t', n, f)) =>
    constructor
    · rintro ⟨⟨q0, rfl, q1⟩, q2⟩
      exact ⟨rfl, ⟨q0, q1⟩, q2⟩
    · rintro ⟨rfl, ⟨q0, q1⟩, q2⟩
      exact ⟨⟨q0, rfl, q1⟩, q2⟩
  | some (.inl x) => exact ⟨fun q => q.1.elim, fun q => q.elim⟩
  | none => exact ⟨fun q => q.1.elim, fun q => q.elim⟩
theorem gWriteB {k : Nat} {i j z : Int} {r : List ZV} (hc : zPr.1 m pc = some (.bastore, 1, a, b)) :
    G m pc ls (zI z :: zI j :: zR k i :: r) h ck sk Q ↔ zAR h k i .boolean (fun n f => (k ≠ 1 ∧ 0 ≤ j ∧ j < n ∧ (z = 0 ∨ z = 1)) ∧ G m (pc + 1) ls r (zset h k i (.inr (.boolean, n, zup f j (zI z)))) ck sk Q) := gWrite hc (fun _ => rfl)
theorem gWriteL {k : Nat} {i j : Int} {x : Int64} {r : List ZV} (hc : zPr.1 m pc = some (.lastore, 1, a, b)) :
    G m pc ls (zL x :: zI j :: zR k i :: r) h ck sk Q ↔ zAR h k i .long (fun n f => (k ≠ 1 ∧ 0 ≤ j ∧ j < n) ∧ G m (pc + 1) ls r (zset h k i (.inr (.long, n, zup f j (zL x)))) ck sk Q) := by
  rw [G_iff hc]
  show zdo zPr GK m pc ls h ck sk Q (zar h k i fun t n f => zgo (k ≠ 1 ∧ t = .long ∧ 0 ≤ j ∧ j < n) (pc + 1) ls r (zset h k i (.inr (t, n, zup f j (zL x)))) ck sk) ↔ _
  unfold zar zAR
  generalize h k i = e
  match e with
  | some (.inr (t', n, f)) =>
    constructor
    · rintro ⟨⟨q0, rfl, q1⟩, q2⟩
      exact ⟨rfl, ⟨q0, q1⟩, q2⟩
    · rintro ⟨rfl, ⟨q0, q1⟩, q2⟩
      exact ⟨⟨q0, rfl, q1⟩, q2⟩
  | some (.inl x) => exact ⟨fun q => q.1.elim, fun q => q.elim⟩
  | none => exact ⟨fun q => q.1.elim, fun q => q.elim⟩
theorem gWriteA {k k2 : Nat} {i j i2 : Int} {r : List ZV} (hc : zPr.1 m pc = some (.aastore, 1, a, b)) :
    G m pc ls (zR k2 i2 :: zI j :: zR k i :: r) h ck sk Q ↔ zAY h k i (fun t n f => ∃ c, c < vwCl.length ∧ zGO h k2 i2 c ∧ k2 ≠ 0 ∧ k ≠ 1 ∧ t = .object (zcn c) ∧ 0 ≤ j ∧ j < n ∧ G m (pc + 1) ls r (zset h k i (.inr (t, n, zup f j (zR k2 i2)))) ck sk Q) := by
  rw [G_iff hc]
  show zdo zPr GK m pc ls h ck sk Q (zar h k i fun t n f => zob h k2 i2 fun c _ => zgo (k ≠ 1 ∧ k2 ≠ 0 ∧ c < vwCl.length ∧ t = .object (zcn c) ∧ 0 ≤ j ∧ j < n) (pc + 1) ls r (zset h k i (.inr (t, n, zup f j (zR k2 i2)))) ck sk) ↔ _
  unfold zar zAY
  generalize h k i = e
  match e with
  | some (.inr (t, n, f)) =>
    constructor
    · intro q
      obtain ⟨c, g, e, q⟩ := zdo_ob q
      obtain ⟨⟨q1, q2, q3, q4, q5, q6⟩, q7⟩ := q
      exact ⟨c, q3, ⟨g, e⟩, q2, q1, q4, q5, q6, q7⟩
    · rintro ⟨c, q3, ⟨g, e⟩, q2, q1, q4, q5, q6, q7⟩
      have e2 : ∀ F : Nat → (Nat → ZV) → ZA, zob h k2 i2 F = F c g := fun F => by unfold zob; rw [e]
      show zdo zPr GK m pc ls h ck sk Q (zob h k2 i2 _)
      rw [e2]
      exact ⟨⟨q1, q2, q3, q4, q5, q6⟩, q7⟩
  | some (.inl x) => exact ⟨fun q => q.1.elim, fun q => q.elim⟩
  | none => exact ⟨fun q => q.1.elim, fun q => q.elim⟩
theorem gNew {e : ZE} {w : Nat} {c : Prop} (hc : zPr.1 m pc = some (ig, len, a, b)) (he : zact zPr m pc ig len a b ls st h ck sk = .inr (.inl (c, pc', ls', st', e, w))) :
    G m pc ls st h ck sk Q ↔ (c ∧ 1 ≤ ck ∧ w ≤ sk) ∧ ∃ (k : Nat) (i : Int), 2 ≤ k ∧ h k i = none ∧ G m pc' ls' (zR k i :: st') (zset h k i e) (ck - 1) (sk - w) Q := by
  rw [G_iff hc, he]
  exact ⟨fun ⟨q1, q2, q3, q4⟩ => ⟨⟨q1, q2, q3⟩, q4⟩, fun ⟨⟨q1, q2, q3⟩, q4⟩ => ⟨q1, q2, q3, q4⟩⟩
theorem gCall {f nt : Nat} {av : List ZV} {r : List ZV} (hc : zPr.1 m pc = some (ig, len, a, b)) (he : zact zPr m pc ig len a b ls st h ck sk = zcall zPr f nt pc st h) (hs : st = av.reverse ++ r) (h1 : zna zPr f = av.length) (h2 : znoj av) (h3 : (zent av).length ≤ zmaxL zPr f) (h4 : zlgk 0 (zentry (zmaxL zPr f) av) (zlg zPr f)) (hf : ¬ (f = 18 ∨ f = 86 ∨ f = 95) := by decide) :
    G m pc ls st h ck sk Q ↔ (zmc zPr f ≤ ck ∧ zms zPr f ≤ sk ∧ r.length ≤ 4 ∧ zrecv h (zrc zPr f) av) ∧ G f 0 (zentry (zmaxL zPr f) av) [] h (zmc zPr f) (zms zPr f) (gback m pc (pc + 3) nt (ck - zmc zPr f) (sk - zms zPr f) ls r Q) := by
  rw [G_iff hc, he]
  have e1 : (st.take (zna zPr f)).reverse = av := by
    rw [hs, h1, List.take_left' (by simp), List.reverse_reverse]
  have e2 : st.drop (zna zPr f) = r := by
    rw [hs, h1, List.drop_left' (by simp)]
  have e3 : zna zPr f ≤ st.length := by rw [hs, h1]; simp
  unfold zcall
  rw [e1, e2]
  constructor
  · rintro ⟨⟨_, q1, _, _, _, q2⟩, q3, q4, q5⟩
    exact ⟨⟨q3, q4, q1.elim id (fun z => absurd z.1 hf), q2⟩, q5⟩
  · rintro ⟨⟨q3, q4, q1, q2⟩, q5⟩
    exact ⟨⟨e3, Or.inl q1, h2, h3, h4, q2⟩, q3, q4, q5⟩
theorem gCallW {f nt : Nat} {av : List ZV} {r : List ZV} (hc : zPr.1 m pc = some (ig, len, a, b)) (he : zact zPr m pc ig len a b ls st h ck sk = zcall zPr f nt pc st h) (hs : st = av.reverse ++ r) (h1 : zna zPr f = av.length) (h2 : znoj av) (h3 : (zent av).length ≤ zmaxL zPr f) (h4 : zlgk 0 (zentry (zmaxL zPr f) av) (zlg zPr f)) (hf : f = 18 ∨ f = 86 ∨ f = 95) (hr : r.length ≤ 8 ∧ znl r) :
    G m pc ls st h ck sk Q ↔ (zmc zPr f ≤ ck ∧ zms zPr f ≤ sk ∧ zrecv h (zrc zPr f) av) ∧ G f 0 (zentry (zmaxL zPr f) av) [] h (zmc zPr f) (zms zPr f) (gback m pc (pc + 3) nt (ck - zmc zPr f) (sk - zms zPr f) ls r Q) := by
  rw [G_iff hc, he]
  have e1 : (st.take (zna zPr f)).reverse = av := by
    rw [hs, h1, List.take_left' (by simp), List.reverse_reverse]
  have e2 : st.drop (zna zPr f) = r := by
    rw [hs, h1, List.drop_left' (by simp)]
  have e3 : zna zPr f ≤ st.length := by rw [hs, h1]; simp
  unfold zcall
  rw [e1, e2]
  constructor
  · rintro ⟨⟨_, _, _, _, _, q2⟩, q3, q4, q5⟩
    exact ⟨⟨q3, q4, q2⟩, q5⟩
  · rintro ⟨⟨q3, q4, q2⟩, q5⟩
    exact ⟨⟨e3, Or.inr ⟨hf, hr.1, hr.2⟩, h2, h3, h4, q2⟩, q3, q4, q5⟩
theorem gback_v {pc' nt : Nat} {r : List ZV} {v : ZV} : gback m pc pc' nt ck sk ls r Q (.inl (some v)) h ↔ G m pc' ls (v :: r) h ck sk Q := Iff.rfl
theorem gback_n {pc' nt : Nat} {r : List ZV} : gback m pc pc' nt ck sk ls r Q (.inl none) h ↔ G m pc' ls r h ck sk Q := Iff.rfl
theorem gback_e {pc' : Nat} {r : List ZV} {E : Nat} (hh : zcatch (zhd zPr m) pc E = none) : gback m pc pc' 0 ck sk ls r Q (.inr E) h ↔ Q (.inr E) h := by
  show (0 = 0 ∧ match zcatch (zhd zPr m) pc E with
    | some t => GK m (t, ls, [zJ], h, ck, sk) Q
    | none => Q (.inr E) h) ↔ _
  rw [hh]
  exact ⟨fun q => q.2, fun q => ⟨rfl, q⟩⟩
theorem gback_c {pc' : Nat} {r : List ZV} {E t : Nat} (hh : zcatch (zhd zPr m) pc E = some t) : gback m pc pc' 0 ck sk ls r Q (.inr E) h ↔ G m t ls [zJ] h ck sk Q := by
  show (0 = 0 ∧ match zcatch (zhd zPr m) pc E with
    | some t => GK m (t, ls, [zJ], h, ck, sk) Q
    | none => Q (.inr E) h) ↔ _
  rw [hh]
  exact ⟨fun q => q.2, fun q => ⟨rfl, q⟩⟩
theorem gIfN {t : Bool} {p : Prop} [Decidable p] (hc : zPr.1 m pc = some (ig, len, a, b)) (he : zact zPr m pc ig len a b ls st h ck sk = zgo True (if t = true then a else pc') ls' st' h' ck' sk') (ht : t = true ↔ ¬ p) : G m pc ls st h ck sk Q ↔ if p then G m pc' ls' st' h' ck' sk' Q else G m a ls' st' h' ck' sk' Q := by
  rw [G_iff hc, he]
  by_cases hp : p
  · rw [if_pos hp, if_neg (fun z => ht.mp z hp)]
    exact ⟨fun q => q.2, fun q => ⟨trivial, q⟩⟩
  · rw [if_neg hp, if_pos (ht.mpr hp)]
    exact ⟨fun q => q.2, fun q => ⟨trivial, q⟩⟩
theorem gIfQ {p q : Prop} [Decidable p] {inst : Decidable q} {x y : Nat} (hc : zPr.1 m pc = some (ig, len, a, b)) (he : zact zPr m pc ig len a b ls st h ck sk = zgo True (@ite _ q inst x y) ls' st' h' ck' sk') (hq : q ↔ p) : G m pc ls st h ck sk Q ↔ if p then G m x ls' st' h' ck' sk' Q else G m y ls' st' h' ck' sk' Q := by
  rw [G_iff hc, he]
  by_cases hp : p
  · rw [if_pos hp, if_pos (hq.mpr hp)]
    exact ⟨fun q => q.2, fun q => ⟨trivial, q⟩⟩
  · rw [if_neg hp, if_neg (fun z => hp (hq.mp z))]
    exact ⟨fun q => q.2, fun q => ⟨trivial, q⟩⟩
theorem gAcmpNe {k1 k2 : Nat} {i1 i2 : Int} {o : Int} {r : List ZV} (hc : zPr.1 m pc = some (.if_acmp .ne o, 3, a, b)) : G m pc ls (zR k2 i2 :: zR k1 i1 :: r) h ck sk Q ↔ if (k1 = k2 ∧ (k1 = 0 ∨ i1 = i2)) then G m (pc + 3) ls r h ck sk Q else G m a ls r h ck sk Q := by
  rw [gIfQ (p := ¬ (k1 = k2 ∧ (k1 = 0 ∨ i1 = i2))) hc rfl ⟨fun z p => (by cases z.mp p), fun z => ⟨fun p => absurd p z, fun p => (by cases p)⟩⟩]
  by_cases hp : k1 = k2 ∧ (k1 = 0 ∨ i1 = i2)
  · rw [if_pos hp, if_neg (fun z => z hp)]
  · rw [if_neg hp, if_pos hp]
theorem gAcmpEq {k1 k2 : Nat} {i1 i2 : Int} {o : Int} {r : List ZV} (hc : zPr.1 m pc = some (.if_acmp .eq o, 3, a, b)) : G m pc ls (zR k2 i2 :: zR k1 i1 :: r) h ck sk Q ↔ if (k1 = k2 ∧ (k1 = 0 ∨ i1 = i2)) then G m a ls r h ck sk Q else G m (pc + 3) ls r h ck sk Q :=
  gIfQ hc rfl ⟨fun z => z.mpr rfl, fun z => ⟨fun _ => rfl, fun _ => z⟩⟩
theorem gRetB {z : Int} (hc : zPr.1 m pc = some (.ireturn, 1, a, b)) (hk : zrk zPr m = 2) : G m pc ls [zI z] h ck sk Q ↔ (z = 0 ∨ z = 1) ∧ Q (.inl (some (zI z))) h := by
  rw [G_iff hc]
  show ((zrk zPr m = 1 ∨ (zrk zPr m = 2 ∧ (z = 0 ∨ z = 1))) ∧ Q (.inl (some (zI z))) h) ↔ _
  rw [hk]
  exact ⟨fun q => ⟨q.1.elim (fun z => by cases z) (fun z => z.2), q.2⟩, fun q => ⟨Or.inr ⟨rfl, q.1⟩, q.2⟩⟩
theorem gCall0 {f nt : Nat} {av : List ZV} {r : List ZV} (hc : zPr.1 m pc = some (ig, len, a, b)) (he : zact zPr m pc ig len a b ls st h ck sk = zcall zPr f nt pc st h) (hs : st = av.reverse ++ r) (h1 : zna zPr f = av.length) (h2 : znoj av) (h3 : (zent av).length ≤ zmaxL zPr f) (h4 : zlgk 0 (zentry (zmaxL zPr f) av) (zlg zPr f)) (h5 : zmc zPr f = 0) (h6 : zms zPr f = 0) (hf : ¬ (f = 18 ∨ f = 86 ∨ f = 95) := by decide) :
    G m pc ls st h ck sk Q ↔ (r.length ≤ 4 ∧ zrecv h (zrc zPr f) av) ∧ G f 0 (zentry (zmaxL zPr f) av) [] h 0 0 (gback m pc (pc + 3) nt ck sk ls r Q) := by
  rw [gCall hc he hs h1 h2 h3 h4 hf, h5, h6]
  exact ⟨fun q => ⟨q.1.2.2, q.2⟩, fun q => ⟨⟨Nat.zero_le _, Nat.zero_le _, q.1⟩, q.2⟩⟩
end ZGL
