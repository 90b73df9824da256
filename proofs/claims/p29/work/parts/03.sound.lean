/-! ===== the small machine is the machine ===== -/
abbrev ZRI : Type := String × MethodName × ByteArray × Option FieldType × List (Nat × Nat × Nat × Nat) × Nat × Nat
/-- of each method: its class, name, code, result, table, frames, words; the words; nest mates' links; texts; what can't be cast -/
abbrev ZT : Type := (Nat → ZRI) × List Jvm.Cond × List (String × Nat × MethodName × String) × List (String × Nat × String) × List (String × String) × List String
def zdcl : List String := ["java/lang/RuntimeException", "java/lang/Exception", "java/lang/Throwable"]
def zen (E : Nat) : String := match E with
  | 0 => "java/lang/IllegalArgumentException"
  | 1 => "java/lang/IndexOutOfBoundsException"
  | _ => "java/lang/IllegalStateException"
def zown (Z : ZT) (k : Nat) : String := (Z.1 k).1
def zyn (Z : ZT) (k : Nat) : MethodName := (Z.1 k).2.1
def zcc (Z : ZT) (k : Nat) : ByteArray := (Z.1 k).2.2.1
def zret (Z : ZT) (k : Nat) : Option FieldType := (Z.1 k).2.2.2.1
def zhh (Z : ZT) (k : Nat) : List (Nat × Nat × Nat × Nat) := (Z.1 k).2.2.2.2.1
def zfr (Z : ZT) (k : Nat) : Nat := (Z.1 k).2.2.2.2.2.1
def zlo (Z : ZT) (k : Nat) : Nat := (Z.1 k).2.2.2.2.2.2
def zV (ρ : Nat → Int → Nat) (h : ZH) (v : ZV) (w : Value) : Prop := match v with
  | .inl z => w = .int (Int32.ofInt z) ∧ zInR z
  | .inr (.inl x) => w = .long x
  | .inr (.inr (.inl (k, i))) => (k = 0 ∧ w = .null) ∨ (k ≠ 0 ∧ w = .ref (ρ k i) ∧ (h k i).isSome = true)
  | .inr (.inr (.inr _)) => ∃ a, w = .ref a
def zC (D : va_G) (U : State) (ρ : Nat → Int → Nat) (h : ZH) (a : Nat) (e : ZE) (H : Heap) : Prop := match e with
  | .inl (ci, f) => ∃ (r : vw_C) (cell : Cell), vwCl[ci]? = some r ∧ H[a]? = some cell ∧ cell.cls = D.1 ci ∧ cell.vm = .none ∧ ∀ k, k < r.2.2 → ∃ w, cell.slots[D.2 ci k]? = some w ∧ zV ρ h (f k) w
  | .inr (t, n, f) => ∃ cell : Cell, H[a]? = some cell ∧ U.isArrayOf cell t ∧ cell.vm ≠ .unknown ∧ (∀ C, t = .object C → va_RA U cell.cls (.object C)) ∧ cell.slots.size = n ∧ n < 2147483648 ∧ ∀ j : Nat, j < n → ∃ w, cell.slots[j]? = some w ∧ zV ρ h (f j) w
def zRel (D : va_G) (lo : Nat) (U : State) (ρ : Nat → Int → Nat) (h : ZH) (H : Heap) : Prop :=
  (∀ i, h 0 i = none) ∧ (∀ k i e, h k i = some e → (k = 1 ∨ lo ≤ ρ k i) ∧ zC D U ρ h (ρ k i) e H) ∧ ∀ k i k' i', (h k i).isSome = true → (h k' i').isSome = true → ρ k i = ρ k' i' → k = k' ∧ i = i'
def zStk (ρ : Nat → Int → Nat) (h : ZH) : List ZV → List Value → Prop
  | [], [] => True
  | v :: r, w :: r' => zV ρ h v w ∧ zStk ρ h r r'
  | _, _ => False
def zLoc (ρ : Nat → Int → Nat) (h : ZH) (nL : Nat) (lg : List Nat) (ls : List ZV) (L : Array Slot) : Prop :=
  ∃ lw, lv_has L nL lw ∧ ls.length = nL ∧ (∀ (i : Nat) (x : Int64), ls[i]? = some (zL x) → i ∈ lg) ∧ ∀ (i : Nat) (v : ZV), ls[i]? = some v → v ≠ zJ → ∃ w, (i, w) ∈ lw ∧ zV ρ h v w
def zExt (ρ : Nat → Int → Nat) (h : ZH) (ρ' : Nat → Int → Nat) (h' : ZH) : Prop := ∀ k i, (h k i).isSome = true → (h' k i).isSome = true ∧ ρ' k i = ρ k i
theorem zExt.rf {ρ : Nat → Int → Nat} {h : ZH} : zExt ρ h ρ h := fun _ _ h => ⟨h, rfl⟩
theorem zExt.trans {ρ ρ' ρ'' : Nat → Int → Nat} {h h' h'' : ZH} (a : zExt ρ h ρ' h') (b : zExt ρ' h' ρ'' h'') : zExt ρ h ρ'' h'' := fun k i q =>
  ⟨(b k i (a k i q).1).1, ((b k i (a k i q).1).2).trans (a k i q).2⟩
theorem zV.ext {ρ ρ' : Nat → Int → Nat} {h h' : ZH} (x : zExt ρ h ρ' h') {v : ZV} {w : Value} (q : zV ρ h v w) : zV ρ' h' v w := by
  match v, q with
  | .inl _, q => exact q
  | .inr (.inl _), q => exact q
  | .inr (.inr (.inl (k, i))), q =>
    rcases q with q | ⟨q1, q2, q3⟩
    · exact Or.inl q
    · exact Or.inr ⟨q1, by rw [(x k i q3).2]; exact q2, (x k i q3).1⟩
  | .inr (.inr (.inr _)), q => exact q
theorem zStk.ext {ρ ρ' : Nat → Int → Nat} {h h' : ZH} (x : zExt ρ h ρ' h') : ∀ {st : List ZV} {ST : List Value}, zStk ρ h st ST → zStk ρ' h' st ST
  | [], [], _ => trivial
  | _ :: _, _ :: _, q => ⟨q.1.ext x, zStk.ext x q.2⟩
  | [], _ :: _, q => q.elim
  | _ :: _, [], q => q.elim
theorem zLoc.ext {ρ ρ' : Nat → Int → Nat} {h h' : ZH} (x : zExt ρ h ρ' h') {nL : Nat} {lg : List Nat} {ls : List ZV} {L : Array Slot} (q : zLoc ρ h nL lg ls L) : zLoc ρ' h' nL lg ls L := by
  obtain ⟨lw, a, b, c, d⟩ := q
  exact ⟨lw, a, b, c, fun i v hi hv => by obtain ⟨w, h1, h2⟩ := d i v hi hv; exact ⟨w, h1, h2.ext x⟩⟩
theorem zStk.cons {ρ : Nat → Int → Nat} {h : ZH} {v : ZV} {r : List ZV} : ∀ {ST : List Value}, zStk ρ h (v :: r) ST → ∃ w ST', ST = w :: ST' ∧ zV ρ h v w ∧ zStk ρ h r ST'
  | [], q => q.elim
  | w :: ST', q => ⟨w, ST', rfl, q.1, q.2⟩
theorem zStk.nil {ρ : Nat → Int → Nat} {h : ZH} : ∀ {ST : List Value}, zStk ρ h [] ST → ST = []
  | [], _ => rfl
  | _ :: _, q => q.elim
theorem zStk.i {ρ : Nat → Int → Nat} {h : ZH} {z : Int} {r : List ZV} {ST : List Value} (q : zStk ρ h (zI z :: r) ST) : ∃ ST', ST = .int (Int32.ofInt z) :: ST' ∧ zInR z ∧ zStk ρ h r ST' := by
  obtain ⟨w, ST', rfl, ⟨rfl, h2⟩, h3⟩ := q.cons
  exact ⟨ST', rfl, h2, h3⟩
theorem zStk.l {ρ : Nat → Int → Nat} {h : ZH} {x : Int64} {r : List ZV} {ST : List Value} (q : zStk ρ h (zL x :: r) ST) : ∃ ST', ST = .long x :: ST' ∧ zStk ρ h r ST' := by
  obtain ⟨w, ST', rfl, h2, h3⟩ := q.cons
  cases h2
  exact ⟨ST', rfl, h3⟩
theorem zStk.r {ρ : Nat → Int → Nat} {h : ZH} {k : Nat} {i : Int} {r : List ZV} {ST : List Value} (q : zStk ρ h (zR k i :: r) ST) : ∃ (x : Option Nat) (ST' : List Value), ST = va_rf x :: ST' ∧ zStk ρ h r ST' ∧ ((k = 0 ∧ x = none) ∨ (k ≠ 0 ∧ x = some (ρ k i) ∧ (h k i).isSome = true)) := by
  obtain ⟨w, ST', rfl, h2, h3⟩ := q.cons
  rcases h2 with ⟨h4, rfl⟩ | ⟨h4, rfl, h5⟩
  · exact ⟨none, ST', rfl, h3, Or.inl ⟨h4, rfl⟩⟩
  · exact ⟨some (ρ k i), ST', rfl, h3, Or.inr ⟨h4, rfl, h5⟩⟩
theorem zV.ref {ρ : Nat → Int → Nat} {h : ZH} {k : Nat} {i : Int} {x : Option Nat} (q : (k = 0 ∧ x = none) ∨ (k ≠ 0 ∧ x = some (ρ k i) ∧ (h k i).isSome = true)) : zV ρ h (zR k i) (va_rf x) := by
  rcases q with ⟨h1, rfl⟩ | ⟨h1, rfl, h2⟩
  · exact Or.inl ⟨h1, rfl⟩
  · exact Or.inr ⟨h1, rfl, h2⟩
theorem zV.cat1 {ρ : Nat → Int → Nat} {h : ZH} {v : ZV} {w : Value} (q : zV ρ h v w) (hv : ∀ x, v ≠ zL x) : w.category = 1 := by
  match v, q with
  | .inl _, q => rw [q.1]; rfl
  | .inr (.inl x), _ => exact absurd rfl (hv x)
  | .inr (.inr (.inl (k, i))), q => rcases q with ⟨-, rfl⟩ | ⟨-, rfl, -⟩ <;> rfl
  | .inr (.inr (.inr _)), q => obtain ⟨a, rfl⟩ := q; rfl
theorem zV.long {ρ : Nat → Int → Nat} {h : ZH} {v : ZV} {w : Value} (q : zV ρ h v w) (hw : w.category = 2) : ∃ x, v = zL x := by
  match v, q with
  | .inl _, q => rw [q.1] at hw; cases hw
  | .inr (.inl x), _ => exact ⟨x, rfl⟩
  | .inr (.inr (.inl (k, i))), q => rcases q with ⟨-, rfl⟩ | ⟨-, rfl, -⟩ <;> cases hw
  | .inr (.inr (.inr _)), q => obtain ⟨a, rfl⟩ := q; cases hw
theorem zLoc.get {ρ : Nat → Int → Nat} {h : ZH} {nL : Nat} {lg : List Nat} {ls : List ZV} {L : Array Slot} (q : zLoc ρ h nL lg ls L) {i : Nat} {v : ZV} (hi : ls[i]? = some v) (hv : v ≠ zJ) : ∃ w, L[i]? = some (.val w) ∧ zV ρ h v w := by
  obtain ⟨lw, a, b, c, d⟩ := q
  obtain ⟨w, h1, h2⟩ := d i v hi hv
  exact ⟨w, a.2.2 (i, w) h1, h2⟩
/-- storing a value of one slot -/
theorem zLoc.put {ρ : Nat → Int → Nat} {h : ZH} {nL : Nat} {lg : List Nat} {ls : List ZV} {L : Array Slot} (q : zLoc ρ h nL lg ls L) {i : Nat} {v : ZV} {w : Value} (hv : zV ρ h v w) (h1 : ∀ x, v ≠ zL x) (hi : i < nL) (hlg : ∀ j, j + 1 = i → ∀ x : Int64, ls[j]? ≠ some (zL x)) :
    ∃ lw, lv_has L nL lw ∧ ∀ L' : Array Slot, lv_has L' nL ((i, w) :: lw.filter (fun q => !(q.1 == i) && !(q.1 + 1 == i && q.2.category == 2))) → zLoc ρ h nL lg (ls.set i v) L' := by
  obtain ⟨lw, a, b, c, d⟩ := q
  refine ⟨lw, a, fun L' hL' => ⟨_, hL', by rw [List.length_set]; exact b, fun j x hj => ?_, fun j u hj hu => ?_⟩⟩
  · by_cases e : i = j
    · subst e
      rw [List.getElem?_set_self (by omega)] at hj
      exact absurd (Option.some.inj hj) (h1 x)
    · rw [List.getElem?_set_ne e] at hj
      exact c j x hj
  · by_cases e : i = j
    · subst e
      rw [List.getElem?_set_self (by omega)] at hj
      cases hj
      exact ⟨w, List.mem_cons_self, hv⟩
    · rw [List.getElem?_set_ne e] at hj
      obtain ⟨w', g1, g2⟩ := d j u hj hu
      refine ⟨w', List.mem_cons_of_mem _ (List.mem_filter.mpr ⟨g1, ?_⟩), g2⟩
      have e1 : (j == i) = false := by simp; exact fun z => e z.symm
      have e2 : (j + 1 == i && w'.category == 2) = false := by
        by_cases e3 : j + 1 = i
        · have e4 : ¬ w'.category = 2 := fun z => by
            obtain ⟨x, rfl⟩ := g2.long z
            exact hlg j e3 x hj
          simp [e4]
        · simp [e3]
      simp [e1, e2]
theorem zLoc.nl {ρ : Nat → Int → Nat} {h : ZH} {nL : Nat} {lg : List Nat} {ls : List ZV} {L : Array Slot} (q : zLoc ρ h nL lg ls L) {i a : Nat} (hi : a = 0 → ∀ j, j + 1 = i → j ∉ lg) (hd : zdy a ls i) : ∀ j, j + 1 = i → ∀ x : Int64, ls[j]? ≠ some (zL x) := by
  match a, hi, hd with
  | 0, hi, _ =>
    obtain ⟨lw, a, b, c, d⟩ := q
    exact fun j e x hx => hi rfl j e (c j x hx)
  | _ + 1, _, hd => exact hd
/-- storing a long -/
theorem zLoc.putL {ρ : Nat → Int → Nat} {h : ZH} {nL : Nat} {lg : List Nat} {ls : List ZV} {L : Array Slot} (q : zLoc ρ h nL lg ls L) {i : Nat} {x : Int64} (hi : i + 1 < nL) (hin : i ∈ lg) (hlg : ∀ j, j + 1 = i → j ∉ lg) :
    ∃ lw, lv_has L nL lw ∧ ∀ L' : Array Slot, lv_has L' nL ((i, Value.long x) :: lw.filter (fun q => !(q.1 == i) && (!(q.1 == i + 1) && !(q.1 + 1 == i && q.2.category == 2)))) → zLoc ρ h nL lg ((ls.set i (zL x)).set (i + 1) zJ) L' := by
  obtain ⟨lw, a, b, c, d⟩ := q
  refine ⟨lw, a, fun L' hL' => ⟨_, hL', by rw [List.length_set, List.length_set]; exact b, fun j y hj => ?_, fun j u hj hu => ?_⟩⟩
  · by_cases e1 : i + 1 = j
    · subst e1
      rw [List.getElem?_set_self (by rw [List.length_set]; omega)] at hj
      cases hj
    · rw [List.getElem?_set_ne e1] at hj
      by_cases e : i = j
      · subst e
        exact hin
      · rw [List.getElem?_set_ne e] at hj
        exact c j y hj
  · by_cases e1 : i + 1 = j
    · subst e1
      rw [List.getElem?_set_self (by rw [List.length_set]; omega)] at hj
      exact absurd (Option.some.inj hj).symm hu
    · rw [List.getElem?_set_ne e1] at hj
      by_cases e : i = j
      · subst e
        rw [List.getElem?_set_self (by omega)] at hj
        cases hj
        exact ⟨_, List.mem_cons_self, rfl⟩
      · rw [List.getElem?_set_ne e] at hj
        obtain ⟨w', g1, g2⟩ := d j u hj hu
        refine ⟨w', List.mem_cons_of_mem _ (List.mem_filter.mpr ⟨g1, ?_⟩), g2⟩
        have e2 : (j == i) = false := by simp; exact fun z => e z.symm
        have e3 : (j == i + 1) = false := by simp; exact fun z => e1 z.symm
        have e4 : (j + 1 == i && w'.category == 2) = false := by
          by_cases e5 : j + 1 = i
          · have e6 : ¬ w'.category = 2 := fun z => by
              obtain ⟨y, rfl⟩ := g2.long z
              exact hlg j e5 (c j y hj)
            simp [e6]
          · simp [e5]
        simp [e2, e3, e4]
def zWS (Z : ZT) (D : va_G) (s : State) : Prop := va_K D vwCl [] s ∧ (∀ q ∈ Z.2.2.1, va_Nw (.methodLinkNest q.1 q.2.1 q.2.2.1 q.2.2.2) s) ∧ (∀ q ∈ Z.2.2.2.1, ∃ a, vk_R q.1 q.2.1 q.2.2 a s) ∧ (∀ q ∈ Z.2.2.2.2.1, va_Nc q.1 q.2 s) ∧ ((∀ E, E < 3 → va_Nw (.castable (zen E) (zen E)) s) ∧ ∀ Y ∈ zdcl, va_Nw (.declares (Bundle.initS Y)) s) ∧ ∀ q ∈ Z.2.2.2.2.2, va_AO q s
def zWH (lo : Nat) (s : State) (H : Heap) : Prop := lo ≤ H.size ∧ vx_Zq Bundle.tN "UNASSIGNED_STACK" Bundle.steD (fun q => lo ≤ q) s H ∧ vx_Zq Bundle.tN "SUPPRESSED_SENTINEL" Bundle.listD (fun q => lo ≤ q) s H
def zCtx (P : ZP) (Z : ZT) (D : va_G) (lo k : Nat) (p : Program) (s : State) (m : MethodId) (args : Array Value) (meth : Method) (c : Code) : Prop :=
  p.tables.exec = Jvm.exec ∧ c.code = zcc Z k ∧ meth.sig.returnType = zret Z k ∧ c.maxLocals = zmaxL P k ∧ s.vm.findClass (zown Z k) = some m.cls ∧ (∀ w ∈ Z.2.1, w.before args s = true) ∧ meth.locks = false ∧ ((zyn Z k).name = "<init>" → meth.name = "<init>") ∧ c.exceptionTable.toList = tableOf (zhh Z k) ∧ zWS Z D s ∧ zWH lo s s.heap
def zInv (P : ZP) (D : va_G) (lo k : Nat) (s : State) (MC MS : Nat) (ρ0 : Nat → Int → Nat) (h0 : ZH) (ρ : Nat → Int → Nat) (ls st : List ZV) (h : ZH) (ck sk : Nat) (H : Heap) (locs : List Loc) (cells slots : Nat) (L : Array Slot) (ST : List Value) : Prop :=
  zRel D lo s ρ h H ∧ zLoc ρ h (zmaxL P k) (zlg P k) ls L ∧ zStk ρ h st ST ∧ va_S (fun q => lo ≤ q) s.heap H locs ∧ cells + ck ≤ MC ∧ slots + sk ≤ MS ∧ zExt ρ0 h0 ρ h
def zIH (P : ZP) (D : va_G) (lo k MC MS : Nat) (ρ0 : Nat → Int → Nat) (h0 : ZH) (K : Nat → ZS → (ZO → ZH → Prop) → Prop) (Qm : ZO → ZH → Prop) (p : Program) (l : Launch) (e : Env) (R : Room) (s : State) (m : MethodId) (args : Array Value) (below : List Frame) (meth : Method) (c : Code) (Q : State → Prop) : Prop :=
  ∀ (pc : Nat) (ls st : List ZV) (h : ZH) (ck sk : Nat) (ρ : Nat → Int → Nat) (H : Heap) (locs : List Loc) (cells slots : Nat) (L : Array Slot) (ST : List Value), K k (pc, ls, st, h, ck, sk) Qm → zInv P D lo k s MC MS ρ0 h0 ρ ls st h ck sk H locs cells slots L ST → W p l e R s m args below meth c H locs cells slots Q (F0 m pc L ST)
theorem zti {z : Int} (h : zInR z) : (Int32.ofInt z).toInt = z := Int32.toInt_ofInt_of_le h.1 h.2
theorem zII (x : Int32) : zInR x.toInt := ⟨Int32.le_toInt x, Int32.toInt_lt x⟩
theorem zlt {x y : Int} (hx : zInR x) (hy : zInR y) : Int32.ofInt x < Int32.ofInt y ↔ x < y := by rw [Int32.lt_iff_toInt_lt, zti hx, zti hy]
theorem zle {x y : Int} (hx : zInR x) (hy : zInR y) : Int32.ofInt x ≤ Int32.ofInt y ↔ x ≤ y := by rw [Int32.le_iff_toInt_le, zti hx, zti hy]
theorem zeq {x y : Int} (hx : zInR x) (hy : zInR y) : Int32.ofInt x = Int32.ofInt y ↔ x = y := ⟨fun h => by rw [← zti hx, ← zti hy, h], fun h => by rw [h]⟩
theorem zInR0 : zInR 0 := ⟨by decide, by decide⟩
theorem zof0 : Int32.ofInt 0 = 0 := by decide
theorem zeq0 {x : Int} (hx : zInR x) : Int32.ofInt x = 0 ↔ x = 0 := by rw [← zof0]; exact zeq hx zInR0
theorem zlt0 {x : Int} (hx : zInR x) : Int32.ofInt x < 0 ↔ x < 0 := by rw [← zof0]; exact zlt hx zInR0
theorem zgt0 {x : Int} (hx : zInR x) : 0 < Int32.ofInt x ↔ 0 < x := by rw [← zof0]; exact zlt zInR0 hx
theorem zle0 {x : Int} (hx : zInR x) : Int32.ofInt x ≤ 0 ↔ x ≤ 0 := by rw [← zof0]; exact zle hx zInR0
theorem zge0 {x : Int} (hx : zInR x) : 0 ≤ Int32.ofInt x ↔ 0 ≤ x := by rw [← zof0]; exact zle zInR0 hx
theorem zlcmp_in (x y : Int64) : zInR (zlcmp x y) := by
  unfold zlcmp
  split
  · exact ⟨by decide, by decide⟩
  · split
    · exact ⟨by decide, by decide⟩
    · exact ⟨by decide, by decide⟩
section ZSN
variable {p : Program} {l : Launch} {e : Env} {R : Room} {s : State} {m : MethodId} {args : Array Value} {below : List Frame} {meth : Method} {c : Code} {H : Heap} {locs : List Loc} {cells slots : Nat} {Q : State → Prop}
variable {P : ZP} {Z : ZT} {D : va_G} {lo k MC MS : Nat} {ρ0 ρ : Nat → Int → Nat} {h0 h : ZH} {K : Nat → ZS → (ZO → ZH → Prop) → Prop} {Qm : ZO → ZH → Prop} {pc a b ck sk : Nat} {ls st : List ZV} {L : Array Slot} {ST : List Value}
theorem zInv.stk {st' : List ZV} {ST' : List Value} (I : zInv P D lo k s MC MS ρ0 h0 ρ ls st h ck sk H locs cells slots L ST) (x : zStk ρ h st' ST') : zInv P D lo k s MC MS ρ0 h0 ρ ls st' h ck sk H locs cells slots L ST' :=
  ⟨I.1, I.2.1, x, I.2.2.2⟩
theorem zInv.loc {ls' : List ZV} {L' : Array Slot} {st' : List ZV} {ST' : List Value} (I : zInv P D lo k s MC MS ρ0 h0 ρ ls st h ck sk H locs cells slots L ST) (x : zLoc ρ h (zmaxL P k) (zlg P k) ls' L') (y : zStk ρ h st' ST') : zInv P D lo k s MC MS ρ0 h0 ρ ls' st' h ck sk H locs cells slots L' ST' :=
  ⟨I.1, x, y, I.2.2.2⟩

theorem Int.emod_le_self' {x y : Int} (h0 : 0 ≤ x) (hy : 0 < y) : x % y ≤ x := by
  have h1 := Int.mul_ediv_add_emod x y
  have h2 : 0 ≤ y * (x / y) := Int.mul_nonneg (by omega) (Int.ediv_nonneg h0 (by omega))
  omega

theorem zs_null  (C : zCtx P Z D lo k p s m args meth c) (G : zIH P D lo k MC MS ρ0 h0 K Qm p l e R s m args below meth c Q) (I : zInv P D lo k s MC MS ρ0 h0 ρ ls st h ck sk H locs cells slots L ST) (hdo : zdo P K k pc ls h ck sk Qm (zact P k pc (.aconst_null) 1 a b ls st h ck sk)) (hd : decode (zcc Z k) pc = .ok (.aconst_null, 1)) : W p l e R s m args below meth c H locs cells slots Q (F0 m pc L ST) := by
  obtain ⟨-, g⟩ := zdo_go hdo
  exact lv_null C.1 C.2.1 hd (G _ _ _ _ _ _ _ _ _ _ _ _ _ g (I.stk ⟨Or.inl ⟨rfl, rfl⟩, I.2.2.1⟩))
theorem zs_iconst {i : Int} (C : zCtx P Z D lo k p s m args meth c) (G : zIH P D lo k MC MS ρ0 h0 K Qm p l e R s m args below meth c Q) (I : zInv P D lo k s MC MS ρ0 h0 ρ ls st h ck sk H locs cells slots L ST) (hdo : zdo P K k pc ls h ck sk Qm (zact P k pc (.iconst i) 1 a b ls st h ck sk)) (hd : decode (zcc Z k) pc = .ok (.iconst i, 1)) (hi : zInR i) : W p l e R s m args below meth c H locs cells slots Q (F0 m pc L ST) := by
  obtain ⟨-, g⟩ := zdo_go hdo
  exact lv_iconst C.1 C.2.1 hd rfl (G _ _ _ _ _ _ _ _ _ _ _ _ _ g (I.stk ⟨⟨rfl, hi⟩, I.2.2.1⟩))
theorem zs_bipush {i : Int} (C : zCtx P Z D lo k p s m args meth c) (G : zIH P D lo k MC MS ρ0 h0 K Qm p l e R s m args below meth c Q) (I : zInv P D lo k s MC MS ρ0 h0 ρ ls st h ck sk H locs cells slots L ST) (hdo : zdo P K k pc ls h ck sk Qm (zact P k pc (.bipush i) 2 a b ls st h ck sk)) (hd : decode (zcc Z k) pc = .ok (.bipush i, 2)) (hi : zInR i ∧ (Int8.ofInt i).toInt32 = Int32.ofInt i) : W p l e R s m args below meth c H locs cells slots Q (F0 m pc L ST) := by
  obtain ⟨-, g⟩ := zdo_go hdo
  refine lv_bipush C.1 C.2.1 hd hi.2 (G _ _ _ _ _ _ _ _ _ _ _ _ _ g (I.stk ⟨⟨rfl, hi.1⟩, I.2.2.1⟩))
theorem zs_sipush {i : Int} (C : zCtx P Z D lo k p s m args meth c) (G : zIH P D lo k MC MS ρ0 h0 K Qm p l e R s m args below meth c Q) (I : zInv P D lo k s MC MS ρ0 h0 ρ ls st h ck sk H locs cells slots L ST) (hdo : zdo P K k pc ls h ck sk Qm (zact P k pc (.sipush i) 3 a b ls st h ck sk)) (hd : decode (zcc Z k) pc = .ok (.sipush i, 3)) (hi : zInR i ∧ (Int16.ofInt i).toInt32 = Int32.ofInt i) : W p l e R s m args below meth c H locs cells slots Q (F0 m pc L ST) := by
  obtain ⟨-, g⟩ := zdo_go hdo
  refine lv_sipush C.1 C.2.1 hd hi.2 (G _ _ _ _ _ _ _ _ _ _ _ _ _ g (I.stk ⟨⟨rfl, hi.1⟩, I.2.2.1⟩))
theorem zs_ldc {i : Nat} (C : zCtx P Z D lo k p s m args meth c) (G : zIH P D lo k MC MS ρ0 h0 K Qm p l e R s m args below meth c Q) (I : zInv P D lo k s MC MS ρ0 h0 ρ ls st h ck sk H locs cells slots L ST) (hdo : zdo P K k pc ls h ck sk Qm (zact P k pc (.ldc i) 2 a b ls st h ck sk)) (hd : decode (zcc Z k) pc = .ok (.ldc i, 2)) (hi : zInR a ∧ Jvm.Cond.constant (zown Z k) i (Int32.ofInt a) ∈ Z.2.1) : W p l e R s m args below meth c H locs cells slots Q (F0 m pc L ST) := by
  obtain ⟨-, g⟩ := zdo_go hdo
  exact lv_ldc C.1 C.2.1 C.2.2.2.2.1 (C.2.2.2.2.2.1 _ hi.2) hd (G _ _ _ _ _ _ _ _ _ _ _ _ _ g (I.stk ⟨⟨rfl, hi.1⟩, I.2.2.1⟩))
theorem zs_ldcw {i : Nat} (C : zCtx P Z D lo k p s m args meth c) (G : zIH P D lo k MC MS ρ0 h0 K Qm p l e R s m args below meth c Q) (I : zInv P D lo k s MC MS ρ0 h0 ρ ls st h ck sk H locs cells slots L ST) (hdo : zdo P K k pc ls h ck sk Qm (zact P k pc (.ldc_w i) 3 a b ls st h ck sk)) (hd : decode (zcc Z k) pc = .ok (.ldc_w i, 3)) (hi : zInR a ∧ Jvm.Cond.constant (zown Z k) i (Int32.ofInt a) ∈ Z.2.1) : W p l e R s m args below meth c H locs cells slots Q (F0 m pc L ST) := by
  obtain ⟨-, g⟩ := zdo_go hdo
  exact lv_ldcw C.1 C.2.1 C.2.2.2.2.1 (C.2.2.2.2.2.1 _ hi.2) hd (G _ _ _ _ _ _ _ _ _ _ _ _ _ g (I.stk ⟨⟨rfl, hi.1⟩, I.2.2.1⟩))
theorem zs_ldc2 {i : Nat} (C : zCtx P Z D lo k p s m args meth c) (G : zIH P D lo k MC MS ρ0 h0 K Qm p l e R s m args below meth c Q) (I : zInv P D lo k s MC MS ρ0 h0 ρ ls st h ck sk H locs cells slots L ST) (hdo : zdo P K k pc ls h ck sk Qm (zact P k pc (.ldc2_w i) 3 a b ls st h ck sk)) (hd : decode (zcc Z k) pc = .ok (.ldc2_w i, 3)) (hi : Jvm.Cond.constantLong (zown Z k) i (Int64.ofNat a) ∈ Z.2.1) : W p l e R s m args below meth c H locs cells slots Q (F0 m pc L ST) := by
  obtain ⟨-, g⟩ := zdo_go hdo
  exact lv_ldc2 C.1 C.2.1 C.2.2.2.2.1 (C.2.2.2.2.2.1 _ hi) hd (G _ _ _ _ _ _ _ _ _ _ _ _ _ g (I.stk ⟨rfl, I.2.2.1⟩))
theorem zs_lconst {n : Fin 2} (C : zCtx P Z D lo k p s m args meth c) (G : zIH P D lo k MC MS ρ0 h0 K Qm p l e R s m args below meth c Q) (I : zInv P D lo k s MC MS ρ0 h0 ρ ls st h ck sk H locs cells slots L ST) (hdo : zdo P K k pc ls h ck sk Qm (zact P k pc (.lconst n) 1 a b ls st h ck sk)) (hd : decode (zcc Z k) pc = .ok (.lconst n, 1)) : W p l e R s m args below meth c H locs cells slots Q (F0 m pc L ST) := by
  obtain ⟨-, g⟩ := zdo_go hdo
  exact lv_lconst C.1 C.2.1 hd rfl (G _ _ _ _ _ _ _ _ _ _ _ _ _ g (I.stk ⟨rfl, I.2.2.1⟩))
theorem zs_iload {i : Nat} (C : zCtx P Z D lo k p s m args meth c) (G : zIH P D lo k MC MS ρ0 h0 K Qm p l e R s m args below meth c Q) (I : zInv P D lo k s MC MS ρ0 h0 ρ ls st h ck sk H locs cells slots L ST) (hdo : zdo P K k pc ls h ck sk Qm (zact P k pc (.iload i) 2 a b ls st h ck sk)) (hd : decode (zcc Z k) pc = .ok (.iload i, 2)) : W p l e R s m args below meth c H locs cells slots Q (F0 m pc L ST) := by
  obtain ⟨z, hz, h1⟩ := zdo_lI hdo
  obtain ⟨-, g⟩ := zdo_go h1
  obtain ⟨w, hw, rfl, h3⟩ := I.2.1.get hz (by simp)
  exact lv_iload C.1 C.2.1 hd hw (G _ _ _ _ _ _ _ _ _ _ _ _ _ g (I.stk ⟨⟨rfl, h3⟩, I.2.2.1⟩))
theorem zs_iload_n {i : Fin 4} (C : zCtx P Z D lo k p s m args meth c) (G : zIH P D lo k MC MS ρ0 h0 K Qm p l e R s m args below meth c Q) (I : zInv P D lo k s MC MS ρ0 h0 ρ ls st h ck sk H locs cells slots L ST) (hdo : zdo P K k pc ls h ck sk Qm (zact P k pc (.iload_n i) 1 a b ls st h ck sk)) (hd : decode (zcc Z k) pc = .ok (.iload_n i, 1)) : W p l e R s m args below meth c H locs cells slots Q (F0 m pc L ST) := by
  obtain ⟨z, hz, h1⟩ := zdo_lI hdo
  obtain ⟨-, g⟩ := zdo_go h1
  obtain ⟨w, hw, rfl, h3⟩ := I.2.1.get hz (by simp)
  exact lv_iload_n C.1 C.2.1 hd rfl hw (G _ _ _ _ _ _ _ _ _ _ _ _ _ g (I.stk ⟨⟨rfl, h3⟩, I.2.2.1⟩))
theorem zs_lload {i : Nat} (C : zCtx P Z D lo k p s m args meth c) (G : zIH P D lo k MC MS ρ0 h0 K Qm p l e R s m args below meth c Q) (I : zInv P D lo k s MC MS ρ0 h0 ρ ls st h ck sk H locs cells slots L ST) (hdo : zdo P K k pc ls h ck sk Qm (zact P k pc (.lload i) 2 a b ls st h ck sk)) (hd : decode (zcc Z k) pc = .ok (.lload i, 2)) : W p l e R s m args below meth c H locs cells slots Q (F0 m pc L ST) := by
  obtain ⟨z, hz, h1⟩ := zdo_lL hdo
  obtain ⟨-, g⟩ := zdo_go h1
  obtain ⟨w, hw, h3⟩ := I.2.1.get hz (by simp)
  cases h3
  exact lv_lload C.1 C.2.1 hd hw (G _ _ _ _ _ _ _ _ _ _ _ _ _ g (I.stk ⟨rfl, I.2.2.1⟩))
theorem zs_lload_n {i : Fin 4} (C : zCtx P Z D lo k p s m args meth c) (G : zIH P D lo k MC MS ρ0 h0 K Qm p l e R s m args below meth c Q) (I : zInv P D lo k s MC MS ρ0 h0 ρ ls st h ck sk H locs cells slots L ST) (hdo : zdo P K k pc ls h ck sk Qm (zact P k pc (.lload_n i) 1 a b ls st h ck sk)) (hd : decode (zcc Z k) pc = .ok (.lload_n i, 1)) : W p l e R s m args below meth c H locs cells slots Q (F0 m pc L ST) := by
  obtain ⟨z, hz, h1⟩ := zdo_lL hdo
  obtain ⟨-, g⟩ := zdo_go h1
  obtain ⟨w, hw, h3⟩ := I.2.1.get hz (by simp)
  cases h3
  exact lv_lload_n C.1 C.2.1 hd rfl hw (G _ _ _ _ _ _ _ _ _ _ _ _ _ g (I.stk ⟨rfl, I.2.2.1⟩))
theorem zs_aload {i : Nat} (C : zCtx P Z D lo k p s m args meth c) (G : zIH P D lo k MC MS ρ0 h0 K Qm p l e R s m args below meth c Q) (I : zInv P D lo k s MC MS ρ0 h0 ρ ls st h ck sk H locs cells slots L ST) (hdo : zdo P K k pc ls h ck sk Qm (zact P k pc (.aload i) 2 a b ls st h ck sk)) (hd : decode (zcc Z k) pc = .ok (.aload i, 2)) : W p l e R s m args below meth c H locs cells slots Q (F0 m pc L ST) := by
  obtain ⟨x, y, hz, h1⟩ := zdo_lR hdo
  obtain ⟨-, g⟩ := zdo_go h1
  obtain ⟨w, hw, h3⟩ := I.2.1.get hz (by simp)
  have I' := I.stk (st' := zR x y :: st) (ST' := w :: ST) ⟨h3, I.2.2.1⟩
  rcases h3 with ⟨-, rfl⟩ | ⟨-, rfl, -⟩
  · exact lv_aloadN C.1 C.2.1 hd hw (G _ _ _ _ _ _ _ _ _ _ _ _ _ g I')
  · exact lv_aload C.1 C.2.1 hd hw (G _ _ _ _ _ _ _ _ _ _ _ _ _ g I')
theorem zs_aload_n {i : Fin 4} (C : zCtx P Z D lo k p s m args meth c) (G : zIH P D lo k MC MS ρ0 h0 K Qm p l e R s m args below meth c Q) (I : zInv P D lo k s MC MS ρ0 h0 ρ ls st h ck sk H locs cells slots L ST) (hdo : zdo P K k pc ls h ck sk Qm (zact P k pc (.aload_n i) 1 a b ls st h ck sk)) (hd : decode (zcc Z k) pc = .ok (.aload_n i, 1)) : W p l e R s m args below meth c H locs cells slots Q (F0 m pc L ST) := by
  obtain ⟨x, y, hz, h1⟩ := zdo_lR hdo
  obtain ⟨-, g⟩ := zdo_go h1
  obtain ⟨w, hw, h3⟩ := I.2.1.get hz (by simp)
  have I' := I.stk (st' := zR x y :: st) (ST' := w :: ST) ⟨h3, I.2.2.1⟩
  rcases h3 with ⟨-, rfl⟩ | ⟨-, rfl, -⟩
  · exact lv_aload_nN C.1 C.2.1 hd rfl hw (G _ _ _ _ _ _ _ _ _ _ _ _ _ g I')
  · exact lv_aload_n C.1 C.2.1 hd rfl hw (G _ _ _ _ _ _ _ _ _ _ _ _ _ g I')
theorem zs_istore {i : Nat} (C : zCtx P Z D lo k p s m args meth c) (G : zIH P D lo k MC MS ρ0 h0 K Qm p l e R s m args below meth c Q) (I : zInv P D lo k s MC MS ρ0 h0 ρ ls st h ck sk H locs cells slots L ST) (hdo : zdo P K k pc ls h ck sk Qm (zact P k pc (.istore i) 2 a b ls st h ck sk)) (hd : decode (zcc Z k) pc = .ok (.istore i, 2)) (hi : i < zmaxL P k ∧ (a = 0 → ∀ j, j + 1 = i → j ∉ zlg P k)) : W p l e R s m args below meth c H locs cells slots Q (F0 m pc L ST) := by
  obtain ⟨z, r, rfl, h1⟩ := zdo_pI hdo
  obtain ⟨hdy, g⟩ := zdo_go h1
  obtain ⟨ST', rfl, h2, h3⟩ := I.2.2.1.i
  obtain ⟨lw, q1, q2⟩ := I.2.1.put (v := zI z) (w := .int (Int32.ofInt z)) ⟨rfl, h2⟩ (fun x q => by cases q) hi.1 (I.2.1.nl hi.2 hdy)
  exact lv_istore C.1 C.2.1 hd q1 hi.1 rfl fun L' hL' => G _ _ _ _ _ _ _ _ _ _ _ _ _ g (I.loc (q2 L' hL') h3)
theorem zs_istore_n {i : Fin 4} (C : zCtx P Z D lo k p s m args meth c) (G : zIH P D lo k MC MS ρ0 h0 K Qm p l e R s m args below meth c Q) (I : zInv P D lo k s MC MS ρ0 h0 ρ ls st h ck sk H locs cells slots L ST) (hdo : zdo P K k pc ls h ck sk Qm (zact P k pc (.istore_n i) 1 a b ls st h ck sk)) (hd : decode (zcc Z k) pc = .ok (.istore_n i, 1)) (hi : i.val < zmaxL P k ∧ (a = 0 → ∀ j, j + 1 = i.val → j ∉ zlg P k)) : W p l e R s m args below meth c H locs cells slots Q (F0 m pc L ST) := by
  obtain ⟨z, r, rfl, h1⟩ := zdo_pI hdo
  obtain ⟨hdy, g⟩ := zdo_go h1
  obtain ⟨ST', rfl, h2, h3⟩ := I.2.2.1.i
  obtain ⟨lw, q1, q2⟩ := I.2.1.put (v := zI z) (w := .int (Int32.ofInt z)) ⟨rfl, h2⟩ (fun x q => by cases q) hi.1 (I.2.1.nl hi.2 hdy)
  exact lv_istore_n C.1 C.2.1 hd rfl q1 hi.1 rfl fun L' hL' => G _ _ _ _ _ _ _ _ _ _ _ _ _ g (I.loc (q2 L' hL') h3)
theorem zs_astore {i : Nat} (C : zCtx P Z D lo k p s m args meth c) (G : zIH P D lo k MC MS ρ0 h0 K Qm p l e R s m args below meth c Q) (I : zInv P D lo k s MC MS ρ0 h0 ρ ls st h ck sk H locs cells slots L ST) (hdo : zdo P K k pc ls h ck sk Qm (zact P k pc (.astore i) 2 a b ls st h ck sk)) (hd : decode (zcc Z k) pc = .ok (.astore i, 2)) (hi : i < zmaxL P k ∧ (a = 0 → ∀ j, j + 1 = i → j ∉ zlg P k)) : W p l e R s m args below meth c H locs cells slots Q (F0 m pc L ST) := by
  simp only [zact] at hdo
  split at hdo
  · rename_i v r
    obtain ⟨hdy, g⟩ := zdo_go hdo
    obtain ⟨w, ST', rfl, h2, h3⟩ := I.2.2.1.cons
    obtain ⟨lw, q1, q2⟩ := I.2.1.put (v := .inr (.inr v)) (w := w) h2 (fun x q => by cases q) hi.1 (I.2.1.nl hi.2 hdy)
    have hw : w = .null ∨ ∃ x, w = .ref x := by
      rcases v with ⟨x, y⟩ | v
      · rcases h2 with ⟨-, rfl⟩ | ⟨-, rfl, -⟩
        · exact Or.inl rfl
        · exact Or.inr ⟨_, rfl⟩
      · exact Or.inr h2
    rcases hw with rfl | ⟨x, rfl⟩
    · exact lv_astoreN C.1 C.2.1 hd q1 hi.1 rfl fun L' hL' => G _ _ _ _ _ _ _ _ _ _ _ _ _ g (I.loc (q2 L' hL') h3)
    · exact lv_astore C.1 C.2.1 hd q1 hi.1 rfl fun L' hL' => G _ _ _ _ _ _ _ _ _ _ _ _ _ g (I.loc (q2 L' hL') h3)
  · exact (zdo_bad hdo).elim
theorem zs_astore_n {i : Fin 4} (C : zCtx P Z D lo k p s m args meth c) (G : zIH P D lo k MC MS ρ0 h0 K Qm p l e R s m args below meth c Q) (I : zInv P D lo k s MC MS ρ0 h0 ρ ls st h ck sk H locs cells slots L ST) (hdo : zdo P K k pc ls h ck sk Qm (zact P k pc (.astore_n i) 1 a b ls st h ck sk)) (hd : decode (zcc Z k) pc = .ok (.astore_n i, 1)) (hi : i.val < zmaxL P k ∧ (a = 0 → ∀ j, j + 1 = i.val → j ∉ zlg P k)) : W p l e R s m args below meth c H locs cells slots Q (F0 m pc L ST) := by
  simp only [zact] at hdo
  split at hdo
  · rename_i v r
    obtain ⟨hdy, g⟩ := zdo_go hdo
    obtain ⟨w, ST', rfl, h2, h3⟩ := I.2.2.1.cons
    obtain ⟨lw, q1, q2⟩ := I.2.1.put (v := .inr (.inr v)) (w := w) h2 (fun x q => by cases q) hi.1 (I.2.1.nl hi.2 hdy)
    have hw : w = .null ∨ ∃ x, w = .ref x := by
      rcases v with ⟨x, y⟩ | v
      · rcases h2 with ⟨-, rfl⟩ | ⟨-, rfl, -⟩
        · exact Or.inl rfl
        · exact Or.inr ⟨_, rfl⟩
      · exact Or.inr h2
    rcases hw with rfl | ⟨x, rfl⟩
    · exact lv_astore_nN C.1 C.2.1 hd rfl q1 hi.1 rfl fun L' hL' => G _ _ _ _ _ _ _ _ _ _ _ _ _ g (I.loc (q2 L' hL') h3)
    · exact lv_astore_n C.1 C.2.1 hd rfl q1 hi.1 rfl fun L' hL' => G _ _ _ _ _ _ _ _ _ _ _ _ _ g (I.loc (q2 L' hL') h3)
  · exact (zdo_bad hdo).elim
theorem zs_iinc {i : Nat} {n : Int} (C : zCtx P Z D lo k p s m args meth c) (G : zIH P D lo k MC MS ρ0 h0 K Qm p l e R s m args below meth c Q) (I : zInv P D lo k s MC MS ρ0 h0 ρ ls st h ck sk H locs cells slots L ST) (hdo : zdo P K k pc ls h ck sk Qm (zact P k pc (.iinc i n) 3 a b ls st h ck sk)) (hd : decode (zcc Z k) pc = .ok (.iinc i n, 3)) (hi : i < zmaxL P k ∧ ∀ j, j + 1 = i → j ∉ zlg P k) : W p l e R s m args below meth c H locs cells slots Q (F0 m pc L ST) := by
  obtain ⟨z, hz, h1⟩ := zdo_lI hdo
  obtain ⟨hr, g⟩ := zdo_go h1
  obtain ⟨lw, q1, q2⟩ := I.2.1.put (v := zI (z + n)) (w := .int (Int32.ofInt z + Int32.ofInt n)) ⟨by rw [Int32.ofInt_add], hr⟩ (fun x q => by cases q) hi.1 (I.2.1.nl (a := 0) (fun _ => hi.2) trivial)
  obtain ⟨w, hw, rfl, h3⟩ := I.2.1.get hz (by simp)
  obtain ⟨L', e', h'⟩ := lv_store1 (v := .int (Int32.ofInt z + Int32.ofInt n)) q1 hi.1 rfl
  have hx := C.1
  have hb := C.2.1
  intro T hT X
  obtain ⟨t, a1, b1⟩ := G _ _ _ _ _ _ _ _ _ _ _ _ _ g (I.loc (q2 L' h') I.2.2.1) T hT X
  refine ⟨t, ?_, b1⟩
  jvm_step X.here [X.here.top, ↓top_set X.here.top, hx, hb, hd, hw, e']
  exact a1
theorem zs_dup  (C : zCtx P Z D lo k p s m args meth c) (G : zIH P D lo k MC MS ρ0 h0 K Qm p l e R s m args below meth c Q) (I : zInv P D lo k s MC MS ρ0 h0 ρ ls st h ck sk H locs cells slots L ST) (hdo : zdo P K k pc ls h ck sk Qm (zact P k pc (.dup) 1 a b ls st h ck sk)) (hd : decode (zcc Z k) pc = .ok (.dup, 1)) : W p l e R s m args below meth c H locs cells slots Q (F0 m pc L ST) := by
  simp only [zact] at hdo
  split at hdo
  · rename_i z r
    obtain ⟨-, g⟩ := zdo_go hdo
    obtain ⟨ST', rfl, h2, h3⟩ := I.2.2.1.i
    exact lv_dup C.1 C.2.1 hd rfl (G _ _ _ _ _ _ _ _ _ _ _ _ _ g (I.stk ⟨⟨rfl, h2⟩, ⟨rfl, h2⟩, h3⟩))
  · rename_i x y r
    obtain ⟨-, g⟩ := zdo_go hdo
    obtain ⟨u, ST', rfl, h2, h3⟩ := I.2.2.1.r
    exact lv_dup C.1 C.2.1 hd (by cases u <;> rfl) (G _ _ _ _ _ _ _ _ _ _ _ _ _ g (I.stk ⟨zV.ref h3, zV.ref h3, h2⟩))
  · exact (zdo_bad hdo).elim
theorem zs_dup2  (C : zCtx P Z D lo k p s m args meth c) (G : zIH P D lo k MC MS ρ0 h0 K Qm p l e R s m args below meth c Q) (I : zInv P D lo k s MC MS ρ0 h0 ρ ls st h ck sk H locs cells slots L ST) (hdo : zdo P K k pc ls h ck sk Qm (zact P k pc (.dup2) 1 a b ls st h ck sk)) (hd : decode (zcc Z k) pc = .ok (.dup2, 1)) : W p l e R s m args below meth c H locs cells slots Q (F0 m pc L ST) := by
  simp only [zact] at hdo
  split at hdo
  · rename_i z x y r
    obtain ⟨-, g⟩ := zdo_go hdo
    obtain ⟨ST1, rfl, h2, h3⟩ := I.2.2.1.i
    obtain ⟨u, ST', rfl, h4, h5⟩ := h3.r
    exact lv_dup2_11 C.1 C.2.1 hd rfl (by cases u <;> rfl) (G _ _ _ _ _ _ _ _ _ _ _ _ _ g (I.stk ⟨⟨rfl, h2⟩, zV.ref h5, ⟨rfl, h2⟩, zV.ref h5, h4⟩))
  · exact (zdo_bad hdo).elim
theorem zs_iadd  (C : zCtx P Z D lo k p s m args meth c) (G : zIH P D lo k MC MS ρ0 h0 K Qm p l e R s m args below meth c Q) (I : zInv P D lo k s MC MS ρ0 h0 ρ ls st h ck sk H locs cells slots L ST) (hdo : zdo P K k pc ls h ck sk Qm (zact P k pc (.iadd) 1 a b ls st h ck sk)) (hd : decode (zcc Z k) pc = .ok (.iadd, 1)) : W p l e R s m args below meth c H locs cells slots Q (F0 m pc L ST) := by
  obtain ⟨y, r1, rfl, h1⟩ := zdo_pI hdo
  obtain ⟨x, r, rfl, h2⟩ := zdo_pI h1
  obtain ⟨hr, g⟩ := zdo_go h2
  obtain ⟨ST1, rfl, hy, h3⟩ := I.2.2.1.i
  obtain ⟨ST', rfl, hx, h4⟩ := h3.i
  exact lv_iadd C.1 C.2.1 hd (G _ _ _ _ _ _ _ _ _ _ _ _ _ g (I.stk ⟨⟨by rw [Int32.ofInt_add], hr⟩, h4⟩))
theorem zs_isub  (C : zCtx P Z D lo k p s m args meth c) (G : zIH P D lo k MC MS ρ0 h0 K Qm p l e R s m args below meth c Q) (I : zInv P D lo k s MC MS ρ0 h0 ρ ls st h ck sk H locs cells slots L ST) (hdo : zdo P K k pc ls h ck sk Qm (zact P k pc (.isub) 1 a b ls st h ck sk)) (hd : decode (zcc Z k) pc = .ok (.isub, 1)) : W p l e R s m args below meth c H locs cells slots Q (F0 m pc L ST) := by
  obtain ⟨y, r1, rfl, h1⟩ := zdo_pI hdo
  obtain ⟨x, r, rfl, h2⟩ := zdo_pI h1
  obtain ⟨hr, g⟩ := zdo_go h2
  obtain ⟨ST1, rfl, hy, h3⟩ := I.2.2.1.i
  obtain ⟨ST', rfl, hx, h4⟩ := h3.i
  exact lv_isub C.1 C.2.1 hd (G _ _ _ _ _ _ _ _ _ _ _ _ _ g (I.stk ⟨⟨by rw [Int32.ofInt_sub], hr⟩, h4⟩))
theorem zs_imul  (C : zCtx P Z D lo k p s m args meth c) (G : zIH P D lo k MC MS ρ0 h0 K Qm p l e R s m args below meth c Q) (I : zInv P D lo k s MC MS ρ0 h0 ρ ls st h ck sk H locs cells slots L ST) (hdo : zdo P K k pc ls h ck sk Qm (zact P k pc (.imul) 1 a b ls st h ck sk)) (hd : decode (zcc Z k) pc = .ok (.imul, 1)) : W p l e R s m args below meth c H locs cells slots Q (F0 m pc L ST) := by
  obtain ⟨y, r1, rfl, h1⟩ := zdo_pI hdo
  obtain ⟨x, r, rfl, h2⟩ := zdo_pI h1
  obtain ⟨hr, g⟩ := zdo_go h2
  obtain ⟨ST1, rfl, hy, h3⟩ := I.2.2.1.i
  obtain ⟨ST', rfl, hx, h4⟩ := h3.i
  exact lv_imul C.1 C.2.1 hd (G _ _ _ _ _ _ _ _ _ _ _ _ _ g (I.stk ⟨⟨by rw [Int32.ofInt_mul], hr⟩, h4⟩))
theorem zs_iand  (C : zCtx P Z D lo k p s m args meth c) (G : zIH P D lo k MC MS ρ0 h0 K Qm p l e R s m args below meth c Q) (I : zInv P D lo k s MC MS ρ0 h0 ρ ls st h ck sk H locs cells slots L ST) (hdo : zdo P K k pc ls h ck sk Qm (zact P k pc (.iand) 1 a b ls st h ck sk)) (hd : decode (zcc Z k) pc = .ok (.iand, 1)) : W p l e R s m args below meth c H locs cells slots Q (F0 m pc L ST) := by
  obtain ⟨y, r1, rfl, h1⟩ := zdo_pI hdo
  obtain ⟨x, r, rfl, h2⟩ := zdo_pI h1
  obtain ⟨hr, g⟩ := zdo_go h2
  obtain ⟨ST1, rfl, hy, h3⟩ := I.2.2.1.i
  obtain ⟨ST', rfl, hx, h4⟩ := h3.i
  exact lv_iand C.1 C.2.1 hd (G _ _ _ _ _ _ _ _ _ _ _ _ _ g (I.stk ⟨⟨by unfold zand; rw [Int32.ofInt_toInt], zII _⟩, h4⟩))
theorem zs_ior  (C : zCtx P Z D lo k p s m args meth c) (G : zIH P D lo k MC MS ρ0 h0 K Qm p l e R s m args below meth c Q) (I : zInv P D lo k s MC MS ρ0 h0 ρ ls st h ck sk H locs cells slots L ST) (hdo : zdo P K k pc ls h ck sk Qm (zact P k pc (.ior) 1 a b ls st h ck sk)) (hd : decode (zcc Z k) pc = .ok (.ior, 1)) : W p l e R s m args below meth c H locs cells slots Q (F0 m pc L ST) := by
  obtain ⟨y, r1, rfl, h1⟩ := zdo_pI hdo
  obtain ⟨x, r, rfl, h2⟩ := zdo_pI h1
  obtain ⟨hr, g⟩ := zdo_go h2
  obtain ⟨ST1, rfl, hy, h3⟩ := I.2.2.1.i
  obtain ⟨ST', rfl, hx, h4⟩ := h3.i
  exact lv_ior C.1 C.2.1 hd (G _ _ _ _ _ _ _ _ _ _ _ _ _ g (I.stk ⟨⟨by unfold zor; rw [Int32.ofInt_toInt], zII _⟩, h4⟩))
theorem zs_ixor  (C : zCtx P Z D lo k p s m args meth c) (G : zIH P D lo k MC MS ρ0 h0 K Qm p l e R s m args below meth c Q) (I : zInv P D lo k s MC MS ρ0 h0 ρ ls st h ck sk H locs cells slots L ST) (hdo : zdo P K k pc ls h ck sk Qm (zact P k pc (.ixor) 1 a b ls st h ck sk)) (hd : decode (zcc Z k) pc = .ok (.ixor, 1)) : W p l e R s m args below meth c H locs cells slots Q (F0 m pc L ST) := by
  obtain ⟨y, r1, rfl, h1⟩ := zdo_pI hdo
  obtain ⟨x, r, rfl, h2⟩ := zdo_pI h1
  obtain ⟨hr, g⟩ := zdo_go h2
  obtain ⟨ST1, rfl, hy, h3⟩ := I.2.2.1.i
  obtain ⟨ST', rfl, hx, h4⟩ := h3.i
  exact lv_ixor C.1 C.2.1 hd (G _ _ _ _ _ _ _ _ _ _ _ _ _ g (I.stk ⟨⟨by unfold zxor; rw [Int32.ofInt_toInt], zII _⟩, h4⟩))
theorem zs_ishl  (C : zCtx P Z D lo k p s m args meth c) (G : zIH P D lo k MC MS ρ0 h0 K Qm p l e R s m args below meth c Q) (I : zInv P D lo k s MC MS ρ0 h0 ρ ls st h ck sk H locs cells slots L ST) (hdo : zdo P K k pc ls h ck sk Qm (zact P k pc (.ishl) 1 a b ls st h ck sk)) (hd : decode (zcc Z k) pc = .ok (.ishl, 1)) : W p l e R s m args below meth c H locs cells slots Q (F0 m pc L ST) := by
  obtain ⟨y, r1, rfl, h1⟩ := zdo_pI hdo
  obtain ⟨x, r, rfl, h2⟩ := zdo_pI h1
  obtain ⟨hr, g⟩ := zdo_go h2
  obtain ⟨ST1, rfl, hy, h3⟩ := I.2.2.1.i
  obtain ⟨ST', rfl, hx, h4⟩ := h3.i
  exact lv_ishl C.1 C.2.1 hd (G _ _ _ _ _ _ _ _ _ _ _ _ _ g (I.stk ⟨⟨by unfold zshl; rw [Int32.ofInt_toInt], zII _⟩, h4⟩))
theorem zs_ishr  (C : zCtx P Z D lo k p s m args meth c) (G : zIH P D lo k MC MS ρ0 h0 K Qm p l e R s m args below meth c Q) (I : zInv P D lo k s MC MS ρ0 h0 ρ ls st h ck sk H locs cells slots L ST) (hdo : zdo P K k pc ls h ck sk Qm (zact P k pc (.ishr) 1 a b ls st h ck sk)) (hd : decode (zcc Z k) pc = .ok (.ishr, 1)) : W p l e R s m args below meth c H locs cells slots Q (F0 m pc L ST) := by
  obtain ⟨y, r1, rfl, h1⟩ := zdo_pI hdo
  obtain ⟨x, r, rfl, h2⟩ := zdo_pI h1
  obtain ⟨hr, g⟩ := zdo_go h2
  obtain ⟨ST1, rfl, hy, h3⟩ := I.2.2.1.i
  obtain ⟨ST', rfl, hx, h4⟩ := h3.i
  exact lv_ishr C.1 C.2.1 hd (G _ _ _ _ _ _ _ _ _ _ _ _ _ g (I.stk ⟨⟨by unfold zshr; rw [Int32.ofInt_toInt], zII _⟩, h4⟩))
theorem zs_irem  (C : zCtx P Z D lo k p s m args meth c) (G : zIH P D lo k MC MS ρ0 h0 K Qm p l e R s m args below meth c Q) (I : zInv P D lo k s MC MS ρ0 h0 ρ ls st h ck sk H locs cells slots L ST) (hdo : zdo P K k pc ls h ck sk Qm (zact P k pc (.irem) 1 a b ls st h ck sk)) (hd : decode (zcc Z k) pc = .ok (.irem, 1)) : W p l e R s m args below meth c H locs cells slots Q (F0 m pc L ST) := by
  obtain ⟨y, r1, rfl, h1⟩ := zdo_pI hdo
  obtain ⟨x, r, rfl, h2⟩ := zdo_pI h1
  obtain ⟨hr, g⟩ := zdo_go h2
  obtain ⟨ST1, rfl, hy, h3⟩ := I.2.2.1.i
  obtain ⟨ST', rfl, hx, h4⟩ := h3.i
  have hy0 : ¬ Int32.ofInt y = 0 := fun q => by
    rw [← zof0, zeq hy zInR0] at q
    omega
  have hm1 : 0 ≤ x % y := Int.emod_nonneg _ (by omega)
  have hm2 : x % y ≤ x := Int.emod_le_self' hr.1 hr.2
  refine lv_irem C.1 C.2.1 hd hy0 (G _ _ _ _ _ _ _ _ _ _ _ _ _ g (I.stk ⟨⟨?_, by unfold zInR at *; omega⟩, h4⟩))
  congr 1
  apply Int32.toInt_inj.mp
  have hd0 : (Int32.ofInt x / Int32.ofInt y) = Int32.ofInt (x / y) := by
    rw [← Int32.ofInt_tdiv (by unfold zInR at hx; rw [show Int32.minValue.toInt = -2147483648 from rfl]; omega) (by unfold zInR at hx; rw [show Int32.maxValue.toInt = 2147483647 from rfl]; omega) (by unfold zInR at hy; rw [show Int32.minValue.toInt = -2147483648 from rfl]; omega) (by unfold zInR at hy; rw [show Int32.maxValue.toInt = 2147483647 from rfl]; omega), Int.tdiv_eq_ediv_of_nonneg hr.1]
  rw [hd0, ← Int32.ofInt_mul, ← Int32.ofInt_sub, Int.emod_def, Int.mul_comm y]
theorem zs_ladd  (C : zCtx P Z D lo k p s m args meth c) (G : zIH P D lo k MC MS ρ0 h0 K Qm p l e R s m args below meth c Q) (I : zInv P D lo k s MC MS ρ0 h0 ρ ls st h ck sk H locs cells slots L ST) (hdo : zdo P K k pc ls h ck sk Qm (zact P k pc (.ladd) 1 a b ls st h ck sk)) (hd : decode (zcc Z k) pc = .ok (.ladd, 1)) : W p l e R s m args below meth c H locs cells slots Q (F0 m pc L ST) := by
  obtain ⟨y, r1, rfl, h1⟩ := zdo_pL hdo
  obtain ⟨x, r, rfl, h2⟩ := zdo_pL h1
  obtain ⟨-, g⟩ := zdo_go h2
  obtain ⟨ST1, rfl, h3⟩ := I.2.2.1.l
  obtain ⟨ST', rfl, h4⟩ := h3.l
  exact lv_ladd C.1 C.2.1 hd (G _ _ _ _ _ _ _ _ _ _ _ _ _ g (I.stk ⟨rfl, h4⟩))
theorem zs_lsub  (C : zCtx P Z D lo k p s m args meth c) (G : zIH P D lo k MC MS ρ0 h0 K Qm p l e R s m args below meth c Q) (I : zInv P D lo k s MC MS ρ0 h0 ρ ls st h ck sk H locs cells slots L ST) (hdo : zdo P K k pc ls h ck sk Qm (zact P k pc (.lsub) 1 a b ls st h ck sk)) (hd : decode (zcc Z k) pc = .ok (.lsub, 1)) : W p l e R s m args below meth c H locs cells slots Q (F0 m pc L ST) := by
  obtain ⟨y, r1, rfl, h1⟩ := zdo_pL hdo
  obtain ⟨x, r, rfl, h2⟩ := zdo_pL h1
  obtain ⟨-, g⟩ := zdo_go h2
  obtain ⟨ST1, rfl, h3⟩ := I.2.2.1.l
  obtain ⟨ST', rfl, h4⟩ := h3.l
  exact lv_lsub C.1 C.2.1 hd (G _ _ _ _ _ _ _ _ _ _ _ _ _ g (I.stk ⟨rfl, h4⟩))
theorem zs_lmul  (C : zCtx P Z D lo k p s m args meth c) (G : zIH P D lo k MC MS ρ0 h0 K Qm p l e R s m args below meth c Q) (I : zInv P D lo k s MC MS ρ0 h0 ρ ls st h ck sk H locs cells slots L ST) (hdo : zdo P K k pc ls h ck sk Qm (zact P k pc (.lmul) 1 a b ls st h ck sk)) (hd : decode (zcc Z k) pc = .ok (.lmul, 1)) : W p l e R s m args below meth c H locs cells slots Q (F0 m pc L ST) := by
  obtain ⟨y, r1, rfl, h1⟩ := zdo_pL hdo
  obtain ⟨x, r, rfl, h2⟩ := zdo_pL h1
  obtain ⟨-, g⟩ := zdo_go h2
  obtain ⟨ST1, rfl, h3⟩ := I.2.2.1.l
  obtain ⟨ST', rfl, h4⟩ := h3.l
  exact lv_lmul C.1 C.2.1 hd (G _ _ _ _ _ _ _ _ _ _ _ _ _ g (I.stk ⟨rfl, h4⟩))
theorem zs_ldiv  (C : zCtx P Z D lo k p s m args meth c) (G : zIH P D lo k MC MS ρ0 h0 K Qm p l e R s m args below meth c Q) (I : zInv P D lo k s MC MS ρ0 h0 ρ ls st h ck sk H locs cells slots L ST) (hdo : zdo P K k pc ls h ck sk Qm (zact P k pc (.ldiv) 1 a b ls st h ck sk)) (hd : decode (zcc Z k) pc = .ok (.ldiv, 1)) : W p l e R s m args below meth c H locs cells slots Q (F0 m pc L ST) := by
  obtain ⟨y, r1, rfl, h1⟩ := zdo_pL hdo
  obtain ⟨x, r, rfl, h2⟩ := zdo_pL h1
  obtain ⟨hy, g⟩ := zdo_go h2
  obtain ⟨ST1, rfl, h3⟩ := I.2.2.1.l
  obtain ⟨ST', rfl, h4⟩ := h3.l
  exact lv_ldiv C.1 C.2.1 hd hy (G _ _ _ _ _ _ _ _ _ _ _ _ _ g (I.stk ⟨rfl, h4⟩))
theorem zs_lrem  (C : zCtx P Z D lo k p s m args meth c) (G : zIH P D lo k MC MS ρ0 h0 K Qm p l e R s m args below meth c Q) (I : zInv P D lo k s MC MS ρ0 h0 ρ ls st h ck sk H locs cells slots L ST) (hdo : zdo P K k pc ls h ck sk Qm (zact P k pc (.lrem) 1 a b ls st h ck sk)) (hd : decode (zcc Z k) pc = .ok (.lrem, 1)) : W p l e R s m args below meth c H locs cells slots Q (F0 m pc L ST) := by
  obtain ⟨y, r1, rfl, h1⟩ := zdo_pL hdo
  obtain ⟨x, r, rfl, h2⟩ := zdo_pL h1
  obtain ⟨hy, g⟩ := zdo_go h2
  obtain ⟨ST1, rfl, h3⟩ := I.2.2.1.l
  obtain ⟨ST', rfl, h4⟩ := h3.l
  exact lv_lrem C.1 C.2.1 hd hy (G _ _ _ _ _ _ _ _ _ _ _ _ _ g (I.stk ⟨rfl, h4⟩))
theorem zs_idiv  (C : zCtx P Z D lo k p s m args meth c) (G : zIH P D lo k MC MS ρ0 h0 K Qm p l e R s m args below meth c Q) (I : zInv P D lo k s MC MS ρ0 h0 ρ ls st h ck sk H locs cells slots L ST) (hdo : zdo P K k pc ls h ck sk Qm (zact P k pc (.idiv) 1 a b ls st h ck sk)) (hd : decode (zcc Z k) pc = .ok (.idiv, 1)) : W p l e R s m args below meth c H locs cells slots Q (F0 m pc L ST) := by
  obtain ⟨y, r1, rfl, h1⟩ := zdo_pI hdo
  obtain ⟨x, r, rfl, h2⟩ := zdo_pI h1
  obtain ⟨hr, g⟩ := zdo_go h2
  obtain ⟨ST1, rfl, hy, h3⟩ := I.2.2.1.i
  obtain ⟨ST', rfl, hx, h4⟩ := h3.i
  have hy0 : ¬ Int32.ofInt y = 0 := fun q => by
    rw [← zof0, zeq hy zInR0] at q
    omega
  have hm1 : 0 ≤ x / y := Int.ediv_nonneg hr.1 (by omega)
  have hm2 : x / y ≤ x := Int.ediv_le_self _ hr.1
  refine lv_idiv C.1 C.2.1 hd hy0 (G _ _ _ _ _ _ _ _ _ _ _ _ _ g (I.stk ⟨⟨?_, by unfold zInR at *; omega⟩, h4⟩))
  congr 1
  rw [← Int32.ofInt_tdiv (by unfold zInR at hx; rw [show Int32.minValue.toInt = -2147483648 from rfl]; omega) (by unfold zInR at hx; rw [show Int32.maxValue.toInt = 2147483647 from rfl]; omega) (by unfold zInR at hy; rw [show Int32.minValue.toInt = -2147483648 from rfl]; omega) (by unfold zInR at hy; rw [show Int32.maxValue.toInt = 2147483647 from rfl]; omega), Int.tdiv_eq_ediv_of_nonneg hr.1]
theorem zs_lstore {i : Nat} (C : zCtx P Z D lo k p s m args meth c) (G : zIH P D lo k MC MS ρ0 h0 K Qm p l e R s m args below meth c Q) (I : zInv P D lo k s MC MS ρ0 h0 ρ ls st h ck sk H locs cells slots L ST) (hdo : zdo P K k pc ls h ck sk Qm (zact P k pc (.lstore i) 2 a b ls st h ck sk)) (hd : decode (zcc Z k) pc = .ok (.lstore i, 2)) (hi : i + 1 < zmaxL P k ∧ i ∈ zlg P k ∧ ∀ j, j + 1 = i → j ∉ zlg P k) : W p l e R s m args below meth c H locs cells slots Q (F0 m pc L ST) := by
  obtain ⟨x, r, rfl, h1⟩ := zdo_pL hdo
  obtain ⟨-, g⟩ := zdo_go h1
  obtain ⟨ST', rfl, h3⟩ := I.2.2.1.l
  obtain ⟨lw, q1, q2⟩ := I.2.1.putL (x := x) hi.1 hi.2.1 hi.2.2
  exact lv_lstore C.1 C.2.1 hd q1 hi.1 rfl fun L' hL' => G _ _ _ _ _ _ _ _ _ _ _ _ _ g (I.loc (q2 L' hL') h3)
theorem zs_land  (C : zCtx P Z D lo k p s m args meth c) (G : zIH P D lo k MC MS ρ0 h0 K Qm p l e R s m args below meth c Q) (I : zInv P D lo k s MC MS ρ0 h0 ρ ls st h ck sk H locs cells slots L ST) (hdo : zdo P K k pc ls h ck sk Qm (zact P k pc (.land) 1 a b ls st h ck sk)) (hd : decode (zcc Z k) pc = .ok (.land, 1)) : W p l e R s m args below meth c H locs cells slots Q (F0 m pc L ST) := by
  obtain ⟨y, r1, rfl, h1⟩ := zdo_pL hdo
  obtain ⟨x, r, rfl, h2⟩ := zdo_pL h1
  obtain ⟨-, g⟩ := zdo_go h2
  obtain ⟨ST1, rfl, h3⟩ := I.2.2.1.l
  obtain ⟨ST', rfl, h4⟩ := h3.l
  exact lv_land C.1 C.2.1 hd (G _ _ _ _ _ _ _ _ _ _ _ _ _ g (I.stk ⟨rfl, h4⟩))
theorem zs_lor  (C : zCtx P Z D lo k p s m args meth c) (G : zIH P D lo k MC MS ρ0 h0 K Qm p l e R s m args below meth c Q) (I : zInv P D lo k s MC MS ρ0 h0 ρ ls st h ck sk H locs cells slots L ST) (hdo : zdo P K k pc ls h ck sk Qm (zact P k pc (.lor) 1 a b ls st h ck sk)) (hd : decode (zcc Z k) pc = .ok (.lor, 1)) : W p l e R s m args below meth c H locs cells slots Q (F0 m pc L ST) := by
  obtain ⟨y, r1, rfl, h1⟩ := zdo_pL hdo
  obtain ⟨x, r, rfl, h2⟩ := zdo_pL h1
  obtain ⟨-, g⟩ := zdo_go h2
  obtain ⟨ST1, rfl, h3⟩ := I.2.2.1.l
  obtain ⟨ST', rfl, h4⟩ := h3.l
  exact lv_lor C.1 C.2.1 hd (G _ _ _ _ _ _ _ _ _ _ _ _ _ g (I.stk ⟨rfl, h4⟩))
theorem zs_lshl  (C : zCtx P Z D lo k p s m args meth c) (G : zIH P D lo k MC MS ρ0 h0 K Qm p l e R s m args below meth c Q) (I : zInv P D lo k s MC MS ρ0 h0 ρ ls st h ck sk H locs cells slots L ST) (hdo : zdo P K k pc ls h ck sk Qm (zact P k pc (.lshl) 1 a b ls st h ck sk)) (hd : decode (zcc Z k) pc = .ok (.lshl, 1)) : W p l e R s m args below meth c H locs cells slots Q (F0 m pc L ST) := by
  obtain ⟨y, r1, rfl, h1⟩ := zdo_pI hdo
  obtain ⟨x, r, rfl, h2⟩ := zdo_pL h1
  obtain ⟨-, g⟩ := zdo_go h2
  obtain ⟨ST1, rfl, hy, h3⟩ := I.2.2.1.i
  obtain ⟨ST', rfl, h4⟩ := h3.l
  exact lv_lshl C.1 C.2.1 hd rfl (G _ _ _ _ _ _ _ _ _ _ _ _ _ g (I.stk ⟨rfl, h4⟩))
theorem zs_lshr  (C : zCtx P Z D lo k p s m args meth c) (G : zIH P D lo k MC MS ρ0 h0 K Qm p l e R s m args below meth c Q) (I : zInv P D lo k s MC MS ρ0 h0 ρ ls st h ck sk H locs cells slots L ST) (hdo : zdo P K k pc ls h ck sk Qm (zact P k pc (.lshr) 1 a b ls st h ck sk)) (hd : decode (zcc Z k) pc = .ok (.lshr, 1)) : W p l e R s m args below meth c H locs cells slots Q (F0 m pc L ST) := by
  obtain ⟨y, r1, rfl, h1⟩ := zdo_pI hdo
  obtain ⟨x, r, rfl, h2⟩ := zdo_pL h1
  obtain ⟨-, g⟩ := zdo_go h2
  obtain ⟨ST1, rfl, hy, h3⟩ := I.2.2.1.i
  obtain ⟨ST', rfl, h4⟩ := h3.l
  exact lv_lshr C.1 C.2.1 hd rfl (G _ _ _ _ _ _ _ _ _ _ _ _ _ g (I.stk ⟨rfl, h4⟩))
theorem zs_lushr  (C : zCtx P Z D lo k p s m args meth c) (G : zIH P D lo k MC MS ρ0 h0 K Qm p l e R s m args below meth c Q) (I : zInv P D lo k s MC MS ρ0 h0 ρ ls st h ck sk H locs cells slots L ST) (hdo : zdo P K k pc ls h ck sk Qm (zact P k pc (.lushr) 1 a b ls st h ck sk)) (hd : decode (zcc Z k) pc = .ok (.lushr, 1)) : W p l e R s m args below meth c H locs cells slots Q (F0 m pc L ST) := by
  obtain ⟨y, r1, rfl, h1⟩ := zdo_pI hdo
  obtain ⟨x, r, rfl, h2⟩ := zdo_pL h1
  obtain ⟨-, g⟩ := zdo_go h2
  obtain ⟨ST1, rfl, hy, h3⟩ := I.2.2.1.i
  obtain ⟨ST', rfl, h4⟩ := h3.l
  exact lv_lushr C.1 C.2.1 hd rfl (G _ _ _ _ _ _ _ _ _ _ _ _ _ g (I.stk ⟨rfl, h4⟩))
theorem zs_lcmp  (C : zCtx P Z D lo k p s m args meth c) (G : zIH P D lo k MC MS ρ0 h0 K Qm p l e R s m args below meth c Q) (I : zInv P D lo k s MC MS ρ0 h0 ρ ls st h ck sk H locs cells slots L ST) (hdo : zdo P K k pc ls h ck sk Qm (zact P k pc (.lcmp) 1 a b ls st h ck sk)) (hd : decode (zcc Z k) pc = .ok (.lcmp, 1)) : W p l e R s m args below meth c H locs cells slots Q (F0 m pc L ST) := by
  obtain ⟨y, r1, rfl, h1⟩ := zdo_pL hdo
  obtain ⟨x, r, rfl, h2⟩ := zdo_pL h1
  obtain ⟨-, g⟩ := zdo_go h2
  obtain ⟨ST1, rfl, h3⟩ := I.2.2.1.l
  obtain ⟨ST', rfl, h4⟩ := h3.l
  have e1 : Int32.ofInt (zlcmp x y) = lg_cmp x y := by
    unfold zlcmp lg_cmp
    split
    · rfl
    · split <;> rfl
  refine W.lcmp C.1 C.2.1 hd ?_
  exact G _ _ _ _ _ _ _ _ _ _ _ _ _ g (I.stk ⟨⟨by rw [e1], zlcmp_in x y⟩, h4⟩)
theorem zs_i2l  (C : zCtx P Z D lo k p s m args meth c) (G : zIH P D lo k MC MS ρ0 h0 K Qm p l e R s m args below meth c Q) (I : zInv P D lo k s MC MS ρ0 h0 ρ ls st h ck sk H locs cells slots L ST) (hdo : zdo P K k pc ls h ck sk Qm (zact P k pc (.i2l) 1 a b ls st h ck sk)) (hd : decode (zcc Z k) pc = .ok (.i2l, 1)) : W p l e R s m args below meth c H locs cells slots Q (F0 m pc L ST) := by
  obtain ⟨x, r, rfl, h2⟩ := zdo_pI hdo
  obtain ⟨-, g⟩ := zdo_go h2
  obtain ⟨ST', rfl, hx, h4⟩ := I.2.2.1.i
  refine lv_i2l C.1 C.2.1 hd (v := Int64.ofInt x) ?_ (G _ _ _ _ _ _ _ _ _ _ _ _ _ g (I.stk ⟨rfl, h4⟩))
  exact Int32.toInt64_ofInt (by unfold zInR at hx; rw [show Int32.minValue.toInt = -2147483648 from rfl]; omega) (by unfold zInR at hx; rw [show Int32.maxValue.toInt = 2147483647 from rfl]; omega)
theorem zs_l2i  (C : zCtx P Z D lo k p s m args meth c) (G : zIH P D lo k MC MS ρ0 h0 K Qm p l e R s m args below meth c Q) (I : zInv P D lo k s MC MS ρ0 h0 ρ ls st h ck sk H locs cells slots L ST) (hdo : zdo P K k pc ls h ck sk Qm (zact P k pc (.l2i) 1 a b ls st h ck sk)) (hd : decode (zcc Z k) pc = .ok (.l2i, 1)) : W p l e R s m args below meth c H locs cells slots Q (F0 m pc L ST) := by
  obtain ⟨x, r, rfl, h2⟩ := zdo_pL hdo
  obtain ⟨-, g⟩ := zdo_go h2
  obtain ⟨ST', rfl, h4⟩ := I.2.2.1.l
  exact lv_l2i C.1 C.2.1 hd rfl (G _ _ _ _ _ _ _ _ _ _ _ _ _ g (I.stk ⟨⟨by unfold zl2i; rw [Int32.ofInt_toInt], zII _⟩, h4⟩))
theorem zs_goto {o : Int} (C : zCtx P Z D lo k p s m args meth c) (G : zIH P D lo k MC MS ρ0 h0 K Qm p l e R s m args below meth c Q) (I : zInv P D lo k s MC MS ρ0 h0 ρ ls st h ck sk H locs cells slots L ST) (hdo : zdo P K k pc ls h ck sk Qm (zact P k pc (.goto o) 3 a b ls st h ck sk)) (hd : decode (zcc Z k) pc = .ok (.goto o, 3)) (ht : (pc : Int) + o = (a : Int)) : W p l e R s m args below meth c H locs cells slots Q (F0 m pc L ST) := by
  obtain ⟨-, g⟩ := zdo_go hdo
  exact lv_goto C.1 C.2.1 hd ht (G _ _ _ _ _ _ _ _ _ _ _ _ _ g I)
theorem zs_if_eq {o : Int} (C : zCtx P Z D lo k p s m args meth c) (G : zIH P D lo k MC MS ρ0 h0 K Qm p l e R s m args below meth c Q) (I : zInv P D lo k s MC MS ρ0 h0 ρ ls st h ck sk H locs cells slots L ST) (hdo : zdo P K k pc ls h ck sk Qm (zact P k pc (.ifCond .eq o) 3 a b ls st h ck sk)) (hd : decode (zcc Z k) pc = .ok (.ifCond .eq o, 3)) (ht : (pc : Int) + o = (a : Int)) : W p l e R s m args below meth c H locs cells slots Q (F0 m pc L ST) := by
  obtain ⟨x, r, rfl, h2⟩ := zdo_pI hdo
  obtain ⟨-, g⟩ := zdo_go h2
  obtain ⟨ST', rfl, hx, h4⟩ := I.2.2.1.i
  refine lv_if_eq C.1 C.2.1 hd ht (fun q => ?_) (fun q => ?_)
  · have e1 : zcmp .eq x 0 = true := by
      simpa [zcmp, zeq0 hx, zlt0 hx, zgt0 hx, zle0 hx, zge0 hx] using q
    rw [if_pos e1] at g
    exact G _ _ _ _ _ _ _ _ _ _ _ _ _ g (I.stk h4)
  · have e1 : ¬ zcmp .eq x 0 = true := by
      simpa [zcmp, zeq0 hx, zlt0 hx, zgt0 hx, zle0 hx, zge0 hx] using q
    rw [if_neg e1] at g
    exact G _ _ _ _ _ _ _ _ _ _ _ _ _ g (I.stk h4)
theorem zs_icmp_eq {o : Int} (C : zCtx P Z D lo k p s m args meth c) (G : zIH P D lo k MC MS ρ0 h0 K Qm p l e R s m args below meth c Q) (I : zInv P D lo k s MC MS ρ0 h0 ρ ls st h ck sk H locs cells slots L ST) (hdo : zdo P K k pc ls h ck sk Qm (zact P k pc (.if_icmp .eq o) 3 a b ls st h ck sk)) (hd : decode (zcc Z k) pc = .ok (.if_icmp .eq o, 3)) (ht : (pc : Int) + o = (a : Int)) : W p l e R s m args below meth c H locs cells slots Q (F0 m pc L ST) := by
  obtain ⟨y, r1, rfl, h1⟩ := zdo_pI hdo
  obtain ⟨x, r, rfl, h2⟩ := zdo_pI h1
  obtain ⟨-, g⟩ := zdo_go h2
  obtain ⟨ST1, rfl, hy, h3⟩ := I.2.2.1.i
  obtain ⟨ST', rfl, hx, h4⟩ := h3.i
  refine lv_icmp_eq C.1 C.2.1 hd ht (fun q => ?_) (fun q => ?_)
  · have e1 : zcmp .eq x y = true := by
      simpa [zcmp, zeq hx hy, zlt hx hy, zlt hy hx, zle hx hy, zle hy hx] using q
    rw [if_pos e1] at g
    exact G _ _ _ _ _ _ _ _ _ _ _ _ _ g (I.stk h4)
  · have e1 : ¬ zcmp .eq x y = true := by
      simpa [zcmp, zeq hx hy, zlt hx hy, zlt hy hx, zle hx hy, zle hy hx] using q
    rw [if_neg e1] at g
    exact G _ _ _ _ _ _ _ _ _ _ _ _ _ g (I.stk h4)
theorem zs_if_ne {o : Int} (C : zCtx P Z D lo k p s m args meth c) (G : zIH P D lo k MC MS ρ0 h0 K Qm p l e R s m args below meth c Q) (I : zInv P D lo k s MC MS ρ0 h0 ρ ls st h ck sk H locs cells slots L ST) (hdo : zdo P K k pc ls h ck sk Qm (zact P k pc (.ifCond .ne o) 3 a b ls st h ck sk)) (hd : decode (zcc Z k) pc = .ok (.ifCond .ne o, 3)) (ht : (pc : Int) + o = (a : Int)) : W p l e R s m args below meth c H locs cells slots Q (F0 m pc L ST) := by
  obtain ⟨x, r, rfl, h2⟩ := zdo_pI hdo
  obtain ⟨-, g⟩ := zdo_go h2
  obtain ⟨ST', rfl, hx, h4⟩ := I.2.2.1.i
  refine lv_if_ne C.1 C.2.1 hd ht (fun q => ?_) (fun q => ?_)
  · have e1 : zcmp .ne x 0 = true := by
      simpa [zcmp, zeq0 hx, zlt0 hx, zgt0 hx, zle0 hx, zge0 hx] using q
    rw [if_pos e1] at g
    exact G _ _ _ _ _ _ _ _ _ _ _ _ _ g (I.stk h4)
  · have e1 : ¬ zcmp .ne x 0 = true := by
      simpa [zcmp, zeq0 hx, zlt0 hx, zgt0 hx, zle0 hx, zge0 hx] using q
    rw [if_neg e1] at g
    exact G _ _ _ _ _ _ _ _ _ _ _ _ _ g (I.stk h4)
theorem zs_icmp_ne {o : Int} (C : zCtx P Z D lo k p s m args meth c) (G : zIH P D lo k MC MS ρ0 h0 K Qm p l e R s m args below meth c Q) (I : zInv P D lo k s MC MS ρ0 h0 ρ ls st h ck sk H locs cells slots L ST) (hdo : zdo P K k pc ls h ck sk Qm (zact P k pc (.if_icmp .ne o) 3 a b ls st h ck sk)) (hd : decode (zcc Z k) pc = .ok (.if_icmp .ne o, 3)) (ht : (pc : Int) + o = (a : Int)) : W p l e R s m args below meth c H locs cells slots Q (F0 m pc L ST) := by
  obtain ⟨y, r1, rfl, h1⟩ := zdo_pI hdo
  obtain ⟨x, r, rfl, h2⟩ := zdo_pI h1
  obtain ⟨-, g⟩ := zdo_go h2
  obtain ⟨ST1, rfl, hy, h3⟩ := I.2.2.1.i
  obtain ⟨ST', rfl, hx, h4⟩ := h3.i
  refine lv_icmp_ne C.1 C.2.1 hd ht (fun q => ?_) (fun q => ?_)
  · have e1 : zcmp .ne x y = true := by
      simpa [zcmp, zeq hx hy, zlt hx hy, zlt hy hx, zle hx hy, zle hy hx] using q
    rw [if_pos e1] at g
    exact G _ _ _ _ _ _ _ _ _ _ _ _ _ g (I.stk h4)
  · have e1 : ¬ zcmp .ne x y = true := by
      simpa [zcmp, zeq hx hy, zlt hx hy, zlt hy hx, zle hx hy, zle hy hx] using q
    rw [if_neg e1] at g
    exact G _ _ _ _ _ _ _ _ _ _ _ _ _ g (I.stk h4)
theorem zs_if_lt {o : Int} (C : zCtx P Z D lo k p s m args meth c) (G : zIH P D lo k MC MS ρ0 h0 K Qm p l e R s m args below meth c Q) (I : zInv P D lo k s MC MS ρ0 h0 ρ ls st h ck sk H locs cells slots L ST) (hdo : zdo P K k pc ls h ck sk Qm (zact P k pc (.ifCond .lt o) 3 a b ls st h ck sk)) (hd : decode (zcc Z k) pc = .ok (.ifCond .lt o, 3)) (ht : (pc : Int) + o = (a : Int)) : W p l e R s m args below meth c H locs cells slots Q (F0 m pc L ST) := by
  obtain ⟨x, r, rfl, h2⟩ := zdo_pI hdo
  obtain ⟨-, g⟩ := zdo_go h2
  obtain ⟨ST', rfl, hx, h4⟩ := I.2.2.1.i
  refine lv_if_lt C.1 C.2.1 hd ht (fun q => ?_) (fun q => ?_)
  · have e1 : zcmp .lt x 0 = true := by
      simpa [zcmp, zeq0 hx, zlt0 hx, zgt0 hx, zle0 hx, zge0 hx] using q
    rw [if_pos e1] at g
    exact G _ _ _ _ _ _ _ _ _ _ _ _ _ g (I.stk h4)
  · have e1 : ¬ zcmp .lt x 0 = true := by
      simpa [zcmp, zeq0 hx, zlt0 hx, zgt0 hx, zle0 hx, zge0 hx] using q
    rw [if_neg e1] at g
    exact G _ _ _ _ _ _ _ _ _ _ _ _ _ g (I.stk h4)
theorem zs_icmp_lt {o : Int} (C : zCtx P Z D lo k p s m args meth c) (G : zIH P D lo k MC MS ρ0 h0 K Qm p l e R s m args below meth c Q) (I : zInv P D lo k s MC MS ρ0 h0 ρ ls st h ck sk H locs cells slots L ST) (hdo : zdo P K k pc ls h ck sk Qm (zact P k pc (.if_icmp .lt o) 3 a b ls st h ck sk)) (hd : decode (zcc Z k) pc = .ok (.if_icmp .lt o, 3)) (ht : (pc : Int) + o = (a : Int)) : W p l e R s m args below meth c H locs cells slots Q (F0 m pc L ST) := by
  obtain ⟨y, r1, rfl, h1⟩ := zdo_pI hdo
  obtain ⟨x, r, rfl, h2⟩ := zdo_pI h1
  obtain ⟨-, g⟩ := zdo_go h2
  obtain ⟨ST1, rfl, hy, h3⟩ := I.2.2.1.i
  obtain ⟨ST', rfl, hx, h4⟩ := h3.i
  refine lv_icmp_lt C.1 C.2.1 hd ht (fun q => ?_) (fun q => ?_)
  · have e1 : zcmp .lt x y = true := by
      simpa [zcmp, zeq hx hy, zlt hx hy, zlt hy hx, zle hx hy, zle hy hx] using q
    rw [if_pos e1] at g
    exact G _ _ _ _ _ _ _ _ _ _ _ _ _ g (I.stk h4)
  · have e1 : ¬ zcmp .lt x y = true := by
      simpa [zcmp, zeq hx hy, zlt hx hy, zlt hy hx, zle hx hy, zle hy hx] using q
    rw [if_neg e1] at g
    exact G _ _ _ _ _ _ _ _ _ _ _ _ _ g (I.stk h4)
theorem zs_if_ge {o : Int} (C : zCtx P Z D lo k p s m args meth c) (G : zIH P D lo k MC MS ρ0 h0 K Qm p l e R s m args below meth c Q) (I : zInv P D lo k s MC MS ρ0 h0 ρ ls st h ck sk H locs cells slots L ST) (hdo : zdo P K k pc ls h ck sk Qm (zact P k pc (.ifCond .ge o) 3 a b ls st h ck sk)) (hd : decode (zcc Z k) pc = .ok (.ifCond .ge o, 3)) (ht : (pc : Int) + o = (a : Int)) : W p l e R s m args below meth c H locs cells slots Q (F0 m pc L ST) := by
  obtain ⟨x, r, rfl, h2⟩ := zdo_pI hdo
  obtain ⟨-, g⟩ := zdo_go h2
  obtain ⟨ST', rfl, hx, h4⟩ := I.2.2.1.i
  refine lv_if_ge C.1 C.2.1 hd ht (fun q => ?_) (fun q => ?_)
  · have e1 : zcmp .ge x 0 = true := by
      simpa [zcmp, zeq0 hx, zlt0 hx, zgt0 hx, zle0 hx, zge0 hx] using q
    rw [if_pos e1] at g
    exact G _ _ _ _ _ _ _ _ _ _ _ _ _ g (I.stk h4)
  · have e1 : ¬ zcmp .ge x 0 = true := by
      simpa [zcmp, zeq0 hx, zlt0 hx, zgt0 hx, zle0 hx, zge0 hx] using q
    rw [if_neg e1] at g
    exact G _ _ _ _ _ _ _ _ _ _ _ _ _ g (I.stk h4)
theorem zs_icmp_ge {o : Int} (C : zCtx P Z D lo k p s m args meth c) (G : zIH P D lo k MC MS ρ0 h0 K Qm p l e R s m args below meth c Q) (I : zInv P D lo k s MC MS ρ0 h0 ρ ls st h ck sk H locs cells slots L ST) (hdo : zdo P K k pc ls h ck sk Qm (zact P k pc (.if_icmp .ge o) 3 a b ls st h ck sk)) (hd : decode (zcc Z k) pc = .ok (.if_icmp .ge o, 3)) (ht : (pc : Int) + o = (a : Int)) : W p l e R s m args below meth c H locs cells slots Q (F0 m pc L ST) := by
  obtain ⟨y, r1, rfl, h1⟩ := zdo_pI hdo
  obtain ⟨x, r, rfl, h2⟩ := zdo_pI h1
  obtain ⟨-, g⟩ := zdo_go h2
  obtain ⟨ST1, rfl, hy, h3⟩ := I.2.2.1.i
  obtain ⟨ST', rfl, hx, h4⟩ := h3.i
  refine lv_icmp_ge C.1 C.2.1 hd ht (fun q => ?_) (fun q => ?_)
  · have e1 : zcmp .ge x y = true := by
      simpa [zcmp, zeq hx hy, zlt hx hy, zlt hy hx, zle hx hy, zle hy hx] using q
    rw [if_pos e1] at g
    exact G _ _ _ _ _ _ _ _ _ _ _ _ _ g (I.stk h4)
  · have e1 : ¬ zcmp .ge x y = true := by
      simpa [zcmp, zeq hx hy, zlt hx hy, zlt hy hx, zle hx hy, zle hy hx] using q
    rw [if_neg e1] at g
    exact G _ _ _ _ _ _ _ _ _ _ _ _ _ g (I.stk h4)
theorem zs_if_gt {o : Int} (C : zCtx P Z D lo k p s m args meth c) (G : zIH P D lo k MC MS ρ0 h0 K Qm p l e R s m args below meth c Q) (I : zInv P D lo k s MC MS ρ0 h0 ρ ls st h ck sk H locs cells slots L ST) (hdo : zdo P K k pc ls h ck sk Qm (zact P k pc (.ifCond .gt o) 3 a b ls st h ck sk)) (hd : decode (zcc Z k) pc = .ok (.ifCond .gt o, 3)) (ht : (pc : Int) + o = (a : Int)) : W p l e R s m args below meth c H locs cells slots Q (F0 m pc L ST) := by
  obtain ⟨x, r, rfl, h2⟩ := zdo_pI hdo
  obtain ⟨-, g⟩ := zdo_go h2
  obtain ⟨ST', rfl, hx, h4⟩ := I.2.2.1.i
  refine lv_if_gt C.1 C.2.1 hd ht (fun q => ?_) (fun q => ?_)
  · have e1 : zcmp .gt x 0 = true := by
      simpa [zcmp, zeq0 hx, zlt0 hx, zgt0 hx, zle0 hx, zge0 hx] using q
    rw [if_pos e1] at g
    exact G _ _ _ _ _ _ _ _ _ _ _ _ _ g (I.stk h4)
  · have e1 : ¬ zcmp .gt x 0 = true := by
      simpa [zcmp, zeq0 hx, zlt0 hx, zgt0 hx, zle0 hx, zge0 hx] using q
    rw [if_neg e1] at g
    exact G _ _ _ _ _ _ _ _ _ _ _ _ _ g (I.stk h4)
theorem zs_icmp_gt {o : Int} (C : zCtx P Z D lo k p s m args meth c) (G : zIH P D lo k MC MS ρ0 h0 K Qm p l e R s m args below meth c Q) (I : zInv P D lo k s MC MS ρ0 h0 ρ ls st h ck sk H locs cells slots L ST) (hdo : zdo P K k pc ls h ck sk Qm (zact P k pc (.if_icmp .gt o) 3 a b ls st h ck sk)) (hd : decode (zcc Z k) pc = .ok (.if_icmp .gt o, 3)) (ht : (pc : Int) + o = (a : Int)) : W p l e R s m args below meth c H locs cells slots Q (F0 m pc L ST) := by
  obtain ⟨y, r1, rfl, h1⟩ := zdo_pI hdo
  obtain ⟨x, r, rfl, h2⟩ := zdo_pI h1
  obtain ⟨-, g⟩ := zdo_go h2
  obtain ⟨ST1, rfl, hy, h3⟩ := I.2.2.1.i
  obtain ⟨ST', rfl, hx, h4⟩ := h3.i
  refine lv_icmp_gt C.1 C.2.1 hd ht (fun q => ?_) (fun q => ?_)
  · have e1 : zcmp .gt x y = true := by
      simpa [zcmp, zeq hx hy, zlt hx hy, zlt hy hx, zle hx hy, zle hy hx] using q
    rw [if_pos e1] at g
    exact G _ _ _ _ _ _ _ _ _ _ _ _ _ g (I.stk h4)
  · have e1 : ¬ zcmp .gt x y = true := by
      simpa [zcmp, zeq hx hy, zlt hx hy, zlt hy hx, zle hx hy, zle hy hx] using q
    rw [if_neg e1] at g
    exact G _ _ _ _ _ _ _ _ _ _ _ _ _ g (I.stk h4)
theorem zs_if_le {o : Int} (C : zCtx P Z D lo k p s m args meth c) (G : zIH P D lo k MC MS ρ0 h0 K Qm p l e R s m args below meth c Q) (I : zInv P D lo k s MC MS ρ0 h0 ρ ls st h ck sk H locs cells slots L ST) (hdo : zdo P K k pc ls h ck sk Qm (zact P k pc (.ifCond .le o) 3 a b ls st h ck sk)) (hd : decode (zcc Z k) pc = .ok (.ifCond .le o, 3)) (ht : (pc : Int) + o = (a : Int)) : W p l e R s m args below meth c H locs cells slots Q (F0 m pc L ST) := by
  obtain ⟨x, r, rfl, h2⟩ := zdo_pI hdo
  obtain ⟨-, g⟩ := zdo_go h2
  obtain ⟨ST', rfl, hx, h4⟩ := I.2.2.1.i
  refine lv_if_le C.1 C.2.1 hd ht (fun q => ?_) (fun q => ?_)
  · have e1 : zcmp .le x 0 = true := by
      simpa [zcmp, zeq0 hx, zlt0 hx, zgt0 hx, zle0 hx, zge0 hx] using q
    rw [if_pos e1] at g
    exact G _ _ _ _ _ _ _ _ _ _ _ _ _ g (I.stk h4)
  · have e1 : ¬ zcmp .le x 0 = true := by
      simpa [zcmp, zeq0 hx, zlt0 hx, zgt0 hx, zle0 hx, zge0 hx] using q
    rw [if_neg e1] at g
    exact G _ _ _ _ _ _ _ _ _ _ _ _ _ g (I.stk h4)
theorem zs_icmp_le {o : Int} (C : zCtx P Z D lo k p s m args meth c) (G : zIH P D lo k MC MS ρ0 h0 K Qm p l e R s m args below meth c Q) (I : zInv P D lo k s MC MS ρ0 h0 ρ ls st h ck sk H locs cells slots L ST) (hdo : zdo P K k pc ls h ck sk Qm (zact P k pc (.if_icmp .le o) 3 a b ls st h ck sk)) (hd : decode (zcc Z k) pc = .ok (.if_icmp .le o, 3)) (ht : (pc : Int) + o = (a : Int)) : W p l e R s m args below meth c H locs cells slots Q (F0 m pc L ST) := by
  obtain ⟨y, r1, rfl, h1⟩ := zdo_pI hdo
  obtain ⟨x, r, rfl, h2⟩ := zdo_pI h1
  obtain ⟨-, g⟩ := zdo_go h2
  obtain ⟨ST1, rfl, hy, h3⟩ := I.2.2.1.i
  obtain ⟨ST', rfl, hx, h4⟩ := h3.i
  refine lv_icmp_le C.1 C.2.1 hd ht (fun q => ?_) (fun q => ?_)
  · have e1 : zcmp .le x y = true := by
      simpa [zcmp, zeq hx hy, zlt hx hy, zlt hy hx, zle hx hy, zle hy hx] using q
    rw [if_pos e1] at g
    exact G _ _ _ _ _ _ _ _ _ _ _ _ _ g (I.stk h4)
  · have e1 : ¬ zcmp .le x y = true := by
      simpa [zcmp, zeq hx hy, zlt hx hy, zlt hy hx, zle hx hy, zle hy hx] using q
    rw [if_neg e1] at g
    exact G _ _ _ _ _ _ _ _ _ _ _ _ _ g (I.stk h4)
theorem zs_ifnull {o : Int} (C : zCtx P Z D lo k p s m args meth c) (G : zIH P D lo k MC MS ρ0 h0 K Qm p l e R s m args below meth c Q) (I : zInv P D lo k s MC MS ρ0 h0 ρ ls st h ck sk H locs cells slots L ST) (hdo : zdo P K k pc ls h ck sk Qm (zact P k pc (.ifnull o) 3 a b ls st h ck sk)) (hd : decode (zcc Z k) pc = .ok (.ifnull o, 3)) (ht : (pc : Int) + o = (a : Int)) : W p l e R s m args below meth c H locs cells slots Q (F0 m pc L ST) := by
  obtain ⟨x, i, r, rfl, h2⟩ := zdo_pR hdo
  obtain ⟨-, g⟩ := zdo_go h2
  obtain ⟨u, ST', rfl, h4, h5⟩ := I.2.2.1.r
  rcases h5 with ⟨e1, rfl⟩ | ⟨e1, rfl, -⟩
  · rw [if_pos e1] at g
    exact lv_ifnullN C.1 C.2.1 hd ht (G _ _ _ _ _ _ _ _ _ _ _ _ _ g (I.stk h4))
  · rw [if_neg e1] at g
    exact lv_ifnull C.1 C.2.1 hd (G _ _ _ _ _ _ _ _ _ _ _ _ _ g (I.stk h4))
theorem zs_ifnonnull {o : Int} (C : zCtx P Z D lo k p s m args meth c) (G : zIH P D lo k MC MS ρ0 h0 K Qm p l e R s m args below meth c Q) (I : zInv P D lo k s MC MS ρ0 h0 ρ ls st h ck sk H locs cells slots L ST) (hdo : zdo P K k pc ls h ck sk Qm (zact P k pc (.ifnonnull o) 3 a b ls st h ck sk)) (hd : decode (zcc Z k) pc = .ok (.ifnonnull o, 3)) (ht : (pc : Int) + o = (a : Int)) : W p l e R s m args below meth c H locs cells slots Q (F0 m pc L ST) := by
  obtain ⟨x, i, r, rfl, h2⟩ := zdo_pR hdo
  obtain ⟨-, g⟩ := zdo_go h2
  obtain ⟨u, ST', rfl, h4, h5⟩ := I.2.2.1.r
  rcases h5 with ⟨e1, rfl⟩ | ⟨e1, rfl, -⟩
  · rw [if_pos e1] at g
    exact lv_ifnonnullN C.1 C.2.1 hd (G _ _ _ _ _ _ _ _ _ _ _ _ _ g (I.stk h4))
  · rw [if_neg e1] at g
    exact lv_ifnonnull C.1 C.2.1 hd ht (G _ _ _ _ _ _ _ _ _ _ _ _ _ g (I.stk h4))
theorem zs_acmp_eq {o : Int} (C : zCtx P Z D lo k p s m args meth c) (G : zIH P D lo k MC MS ρ0 h0 K Qm p l e R s m args below meth c Q) (I : zInv P D lo k s MC MS ρ0 h0 ρ ls st h ck sk H locs cells slots L ST) (hdo : zdo P K k pc ls h ck sk Qm (zact P k pc (.if_acmp .eq o) 3 a b ls st h ck sk)) (hd : decode (zcc Z k) pc = .ok (.if_acmp .eq o, 3)) (ht : (pc : Int) + o = (a : Int)) : W p l e R s m args below meth c H locs cells slots Q (F0 m pc L ST) := by
  obtain ⟨x2, i2, r1, rfl, h1⟩ := zdo_pR hdo
  obtain ⟨x1, i1, r, rfl, h2⟩ := zdo_pR h1
  obtain ⟨-, g⟩ := zdo_go h2
  obtain ⟨u2, ST1, rfl, h3, h5⟩ := I.2.2.1.r
  obtain ⟨u1, ST', rfl, h4, h6⟩ := h3.r
  have key : u1 = u2 ↔ (x1 = x2 ∧ (x1 = 0 ∨ i1 = i2)) := by
    rcases h5 with ⟨e2, rfl⟩ | ⟨e2, rfl, f2⟩ <;> rcases h6 with ⟨e1, rfl⟩ | ⟨e1, rfl, f1⟩
    · simp [e1, e2]
    · simp only [reduceCtorEq, false_iff]
      omega
    · simp only [reduceCtorEq, false_iff]
      omega
    · constructor
      · intro q
        obtain ⟨q1, q2⟩ := I.1.2.2 _ _ _ _ f1 f2 (Option.some.inj q)
        exact ⟨q1, Or.inr q2⟩
      · rintro ⟨rfl, q | rfl⟩
        · exact absurd q e1
        · rfl
  refine lv_acmp_eq C.1 C.2.1 hd ht (fun q => ?_) (fun q => ?_)
  · rw [if_pos (iff_of_true (key.mp q) rfl)] at g
    exact G _ _ _ _ _ _ _ _ _ _ _ _ _ g (I.stk h4)
  · rw [if_neg (fun z => q (key.mpr (z.mpr rfl)))] at g
    exact G _ _ _ _ _ _ _ _ _ _ _ _ _ g (I.stk h4)
theorem zs_acmp_ne {o : Int} (C : zCtx P Z D lo k p s m args meth c) (G : zIH P D lo k MC MS ρ0 h0 K Qm p l e R s m args below meth c Q) (I : zInv P D lo k s MC MS ρ0 h0 ρ ls st h ck sk H locs cells slots L ST) (hdo : zdo P K k pc ls h ck sk Qm (zact P k pc (.if_acmp .ne o) 3 a b ls st h ck sk)) (hd : decode (zcc Z k) pc = .ok (.if_acmp .ne o, 3)) (ht : (pc : Int) + o = (a : Int)) : W p l e R s m args below meth c H locs cells slots Q (F0 m pc L ST) := by
  obtain ⟨x2, i2, r1, rfl, h1⟩ := zdo_pR hdo
  obtain ⟨x1, i1, r, rfl, h2⟩ := zdo_pR h1
  obtain ⟨-, g⟩ := zdo_go h2
  obtain ⟨u2, ST1, rfl, h3, h5⟩ := I.2.2.1.r
  obtain ⟨u1, ST', rfl, h4, h6⟩ := h3.r
  have key : u1 = u2 ↔ (x1 = x2 ∧ (x1 = 0 ∨ i1 = i2)) := by
    rcases h5 with ⟨e2, rfl⟩ | ⟨e2, rfl, f2⟩ <;> rcases h6 with ⟨e1, rfl⟩ | ⟨e1, rfl, f1⟩
    · simp [e1, e2]
    · simp only [reduceCtorEq, false_iff]
      omega
    · simp only [reduceCtorEq, false_iff]
      omega
    · constructor
      · intro q
        obtain ⟨q1, q2⟩ := I.1.2.2 _ _ _ _ f1 f2 (Option.some.inj q)
        exact ⟨q1, Or.inr q2⟩
      · rintro ⟨rfl, q | rfl⟩
        · exact absurd q e1
        · rfl
  refine lv_acmp_ne C.1 C.2.1 hd ht (fun q => ?_) (fun q => ?_)
  · rw [if_pos (iff_of_false (fun z => q (key.mpr z)) (by decide))] at g
    exact G _ _ _ _ _ _ _ _ _ _ _ _ _ g (I.stk h4)
  · rw [if_neg (fun z => absurd (z.mp (key.mp q)) (by decide))] at g
    exact G _ _ _ _ _ _ _ _ _ _ _ _ _ g (I.stk h4)
theorem zs_table {d0 l0 h1 : Int} {offs : Array Int} {len : Nat} (C : zCtx P Z D lo k p s m args meth c) (G : zIH P D lo k MC MS ρ0 h0 K Qm p l e R s m args below meth c Q) (I : zInv P D lo k s MC MS ρ0 h0 ρ ls st h ck sk H locs cells slots L ST) (hdo : zdo P K k pc ls h ck sk Qm (zact P k pc (.tableswitch d0 l0 h1 offs) len a b ls st h ck sk)) (hd : decode (zcc Z k) pc = .ok (.tableswitch d0 l0 h1 offs, len)) (ht : ∀ o, (o = d0 ∨ o ∈ offs) → 0 ≤ (pc : Int) + o) : W p l e R s m args below meth c H locs cells slots Q (F0 m pc L ST) := by
  obtain ⟨x, r, rfl, h2⟩ := zdo_pI hdo
  obtain ⟨⟨hl, hs⟩, g⟩ := zdo_go h2
  obtain ⟨ST', rfl, hx, h4⟩ := I.2.2.1.i
  have e0 := zti hx
  by_cases q1 : x < l0
  · have e2 : zoff offs x l0 d0 = d0 := by simp [zoff, q1]
    rw [e2] at g
    exact lv_tableOut C.1 C.2.1 hd (Or.inl (by rw [e0]; exact q1)) (by have := ht d0 (Or.inl rfl); omega) (G _ _ _ _ _ _ _ _ _ _ _ _ _ g (I.stk h4))
  · by_cases q2 : h1 < x
    · have e2 : zoff offs x l0 d0 = d0 := by
        have : offs[(x - l0).toNat]? = none := by rw [Array.getElem?_eq_none_iff]; omega
        simp [zoff, q1, this]
      rw [e2] at g
      exact lv_tableOut C.1 C.2.1 hd (Or.inr (by rw [e0]; exact q2)) (by have := ht d0 (Or.inl rfl); omega) (G _ _ _ _ _ _ _ _ _ _ _ _ _ g (I.stk h4))
    · cases ho : offs[(x - l0).toNat]? with
      | none => exact absurd (Array.getElem?_eq_none_iff.mp ho) (by omega)
      | some o =>
        have e2 : zoff offs x l0 d0 = o := by simp [zoff, q1, ho]
        rw [e2] at g
        exact lv_tableIn C.1 C.2.1 hd (by rw [e0]; exact q1) (by rw [e0]; exact q2) (by rw [e0]; exact ho) (by have := ht o (Or.inr (Array.mem_of_getElem? ho)); omega) (G _ _ _ _ _ _ _ _ _ _ _ _ _ g (I.stk h4))
theorem zC.ext {ρ' : Nat → Int → Nat} {h' : ZH} {H' : Heap} {x : Nat} {e0 : ZE} (q : zC D s ρ h x e0 H) (y : zExt ρ h ρ' h') (hh : H'[x]? = H[x]?) : zC D s ρ' h' x e0 H' := by
  match e0, q with
  | .inl (ci, f), q =>
    obtain ⟨r, cell, h1, h2, h3, h4, h5⟩ := q
    exact ⟨r, cell, h1, by rw [hh]; exact h2, h3, h4, fun k hk => by obtain ⟨w, g1, g2⟩ := h5 k hk; exact ⟨w, g1, g2.ext y⟩⟩
  | .inr (t, n, f), q =>
    obtain ⟨cell, h2, h3, h4, h5, h6, h7, h8⟩ := q
    exact ⟨cell, by rw [hh]; exact h2, h3, h4, h5, h6, h7, fun k hk => by obtain ⟨w, g1, g2⟩ := h8 k hk; exact ⟨w, g1, g2.ext y⟩⟩
theorem zC.lt {x : Nat} {e0 : ZE} (q : zC D s ρ h x e0 H) : x < H.size := by
  match e0, q with
  | .inl (ci, f), q =>
    obtain ⟨r, cell, h1, h2, -⟩ := q
    exact (Array.getElem?_eq_some_iff.mp h2).1
  | .inr (t, n, f), q =>
    obtain ⟨cell, h2, -⟩ := q
    exact (Array.getElem?_eq_some_iff.mp h2).1
theorem zset_some {x : Nat} {i : Int} {e1 : ZE} {x' : Nat} {i' : Int} (h1 : (h x i).isSome = true) : (zset h x i e1 x' i').isSome = (h x' i').isSome := by
  unfold zset
  split
  · rename_i q
    rw [q.1, q.2, h1]
    rfl
  · rfl
theorem zExt.set {x : Nat} {i : Int} {e1 : ZE} (h1 : (h x i).isSome = true) : zExt ρ h ρ (zset h x i e1) := fun k' i' q => ⟨by rw [zset_some h1]; exact q, rfl⟩
theorem zRel.set (r : zRel D lo s ρ h H) {x : Nat} {i : Int} {e0 e1 : ZE} {H' : Heap} (hx : h x i = some e0) (hc : zC D s ρ (zset h x i e1) (ρ x i) e1 H') (oq : ∀ q, q ≠ ρ x i → H'[q]? = H[q]?) : zRel D lo s ρ (zset h x i e1) H' := by
  have hs : (h x i).isSome = true := by rw [hx]; rfl
  refine ⟨fun j => ?_, fun k' i' e2 h2 => ?_, fun k1 i1 k2 i2 a1 a2 a3 => ?_⟩
  · unfold zset
    rw [if_neg]
    · exact r.1 j
    · rintro ⟨rfl, -⟩
      rw [r.1 i] at hx
      cases hx
  · by_cases q : k' = x ∧ i' = i
    · obtain ⟨rfl, rfl⟩ := q
      have h3 : zset h k' i' e1 k' i' = some e1 := by simp [zset]
      rw [h3] at h2
      cases h2
      exact ⟨(r.2.1 _ _ _ hx).1, hc⟩
    · have h3 : zset h x i e1 k' i' = h k' i' := by simp [zset, q]
      rw [h3] at h2
      obtain ⟨g1, g2⟩ := r.2.1 _ _ _ h2
      refine ⟨g1, g2.ext (zExt.set hs) (oq _ fun z => q ?_)⟩
      exact r.2.2 _ _ _ _ (by rw [h2]; rfl) hs z
  · rw [zset_some hs] at a1 a2
    exact r.2.2 _ _ _ _ a1 a2 a3
def zadd (ρ : Nat → Int → Nat) (x : Nat) (i : Int) (q : Nat) : Nat → Int → Nat := fun k' i' => if k' = x ∧ i' = i then q else ρ k' i'
theorem zExt.new {x : Nat} {i : Int} {e1 : ZE} {q : Nat} (hn : h x i = none) : zExt ρ h (zadd ρ x i q) (zset h x i e1) := fun k' i' a1 => by
  have hne : ¬ (k' = x ∧ i' = i) := by
    rintro ⟨rfl, rfl⟩
    rw [hn] at a1
    cases a1
  exact ⟨by unfold zset; rw [if_neg hne]; exact a1, by unfold zadd; rw [if_neg hne]⟩
theorem zRel.new (r : zRel D lo s ρ h H) {x : Nat} {i : Int} {e1 : ZE} {H' : Heap} (hn : h x i = none) (hx : 2 ≤ x) (hlo : lo ≤ H.size) (hc : zC D s (zadd ρ x i H.size) (zset h x i e1) H.size e1 H') (oq : ∀ q, q < H.size → H'[q]? = H[q]?) : zRel D lo s (zadd ρ x i H.size) (zset h x i e1) H' := by
  have hself : zadd ρ x i H.size x i = H.size := by simp [zadd]
  have hlt : ∀ k' i', (h k' i').isSome = true → ρ k' i' < H.size := fun k' i' a1 => by
    obtain ⟨e2, h2⟩ := Option.isSome_iff_exists.mp a1
    exact (r.2.1 _ _ _ h2).2.lt
  have hoff : ∀ k' i', ¬ (k' = x ∧ i' = i) → zset h x i e1 k' i' = h k' i' ∧ zadd ρ x i H.size k' i' = ρ k' i' := fun k' i' q => ⟨by simp [zset, q], by simp [zadd, q]⟩
  refine ⟨fun j => ?_, fun k' i' e2 h2 => ?_, fun k1 i1 k2 i2 a1 a2 a3 => ?_⟩
  · rw [(hoff 0 j (by omega)).1]
    exact r.1 j
  · by_cases q : k' = x ∧ i' = i
    · obtain ⟨rfl, rfl⟩ := q
      have h3 : zset h k' i' e1 k' i' = some e1 := by simp [zset]
      rw [h3] at h2
      cases h2
      rw [hself]
      exact ⟨Or.inr hlo, hc⟩
    · rw [(hoff _ _ q).1] at h2
      rw [(hoff _ _ q).2]
      obtain ⟨g1, g2⟩ := r.2.1 _ _ _ h2
      exact ⟨g1, g2.ext (zExt.new hn) (oq _ g2.lt)⟩
  · by_cases q1 : k1 = x ∧ i1 = i <;> by_cases q2 : k2 = x ∧ i2 = i
    · exact ⟨q1.1.trans q2.1.symm, q1.2.trans q2.2.symm⟩
    · obtain ⟨rfl, rfl⟩ := q1
      rw [(hoff _ _ q2).1] at a2
      rw [hself, (hoff _ _ q2).2] at a3
      have := hlt _ _ a2
      omega
    · obtain ⟨rfl, rfl⟩ := q2
      rw [(hoff _ _ q1).1] at a1
      rw [hself, (hoff _ _ q1).2] at a3
      have := hlt _ _ a1
      omega
    · rw [(hoff _ _ q1).1] at a1
      rw [(hoff _ _ q2).1] at a2
      rw [(hoff _ _ q1).2, (hoff _ _ q2).2] at a3
      exact r.2.2 _ _ _ _ a1 a2 a3
theorem zInv.set (I : zInv P D lo k s MC MS ρ0 h0 ρ ls st h ck sk H locs cells slots L ST) {x : Nat} {i : Int} {e0 e1 : ZE} {H' : Heap} {st' : List ZV} {ST' : List Value} {j : Nat} (hx : h x i = some e0) (hk : x ≠ 1) (hc : zC D s ρ (zset h x i e1) (ρ x i) e1 H') (hz : H'.size = H.size) (oq : ∀ q, q ≠ ρ x i → H'[q]? = H[q]?) (y : zStk ρ h st' ST') :
    zInv P D lo k s MC MS ρ0 h0 ρ ls st' (zset h x i e1) ck sk H' (locs ++ [⟨ρ x i, j⟩]) cells slots L ST' := by
  have hs : (h x i).isSome = true := by rw [hx]; rfl
  obtain ⟨i1, i2, i3, i4, i5, i6, i7⟩ := I
  exact ⟨i1.set hx hc oq, i2.ext (zExt.set hs), y.ext (zExt.set hs), i4.put hz oq ((i1.2.1 _ _ _ hx).1.resolve_left hk), i5, i6, i7.trans (zExt.set hs)⟩
theorem zInv.new (I : zInv P D lo k s MC MS ρ0 h0 ρ ls st h ck sk H locs cells slots L ST) {x : Nat} {i : Int} {e1 : ZE} {H' : Heap} {st' : List ZV} {ST' : List Value} {w : Nat} (hn : h x i = none) (hx : 2 ≤ x) (hlo : lo ≤ H.size) (hc : zC D s (zadd ρ x i H.size) (zset h x i e1) H.size e1 H') (hz : H'.size = H.size + 1) (oq : ∀ q, q < H.size → H'[q]? = H[q]?) (hck : 1 ≤ ck) (hsk : w ≤ sk) (y : zStk ρ h st' ST') :
    zInv P D lo k s MC MS ρ0 h0 (zadd ρ x i H.size) ls (zR x i :: st') (zset h x i e1) (ck - 1) (sk - w) H' locs (cells + 1) (slots + w) L (.ref H.size :: ST') := by
  obtain ⟨i1, i2, i3, i4, i5, i6, i7⟩ := I
  refine ⟨i1.new hn hx hlo hc oq, i2.ext (zExt.new hn), ⟨Or.inr ⟨by omega, by simp [zadd], by simp [zset]⟩, y.ext (zExt.new hn)⟩, ⟨by have := i4.1; omega, fun q h1 h2 => ?_, i4.2.2⟩, by omega, by omega, i7.trans (zExt.new hn)⟩
  rw [oq q (by have := i4.1; omega)]
  exact i4.2.1 q h1 h2
def zCLS (P : ZP) (Z : ZT) : Prop := ∀ (c : Nat) (q : vw_C), vwCl[c]? = some q → (∀ w ∈ u_ws q.1 q.2.1 q.2.2, w ∈ Z.2.1) ∧ (∀ k, k < q.2.2 → (q.2.1 k).1 = q.1) ∧ (∀ k, k < q.2.2 → ∃ ty, parseFieldDescriptor (q.2.1 k).2.2.1 = some ty ∧ ((ty = .int ∧ P.2.2 c k = zI 0) ∨ (((∃ C, ty = .object C) ∨ ∃ t, ty = .array t) ∧ P.2.2 c k = zN))) ∧ ∀ a, a < q.2.2 → ∀ b, b < q.2.2 → a ≠ b → (q.2.1 a).2.1 ≠ (q.2.1 b).2.1

theorem zs_getfield {i : Nat} (C : zCtx P Z D lo k p s m args meth c) (G : zIH P D lo k MC MS ρ0 h0 K Qm p l e R s m args below meth c Q) (I : zInv P D lo k s MC MS ρ0 h0 ρ ls st h ck sk H locs cells slots L ST) (hdo : zdo P K k pc ls h ck sk Qm (zact P k pc (.getfield i) 3 a b ls st h ck sk)) (hd : decode (zcc Z k) pc = .ok (.getfield i, 3)) (hW : zCLS P Z) (hi : ∃ r : vw_C, vwCl[a]? = some r ∧ b < r.2.2 ∧ Jvm.Cond.fieldLink (zown Z k) i r.1 (r.2.1 b).2.1 (r.2.1 b).2.2.1 ∈ Z.2.1) : W p l e R s m args below meth c H locs cells slots Q (F0 m pc L ST) := by
  obtain ⟨x, y, r, rfl, h1⟩ := zdo_pR hdo
  obtain ⟨cn, f, hxy, h2⟩ := zdo_ob h1
  obtain ⟨rfl, g⟩ := zdo_go h2
  obtain ⟨u, ST', rfl, h4, h5⟩ := I.2.2.1.r
  obtain ⟨q, hq, hb, hl⟩ := hi
  obtain ⟨w1, w2, -, -⟩ := hW _ _ hq
  obtain ⟨-, q', cell, g1, g2, g3, g4, g5⟩ := I.1.2.1 _ _ _ hxy
  cases hq.symm.trans g1
  rcases h5 with ⟨rfl, -⟩ | ⟨e1, rfl, -⟩
  · rw [I.1.1 y] at hxy
    cases hxy
  obtain ⟨hS, hfc, kC, hkC, hkind⟩ := C.2.2.2.2.2.2.2.2.2.1.1.1 _ _ hq
  obtain ⟨cf, kf, fi, fd, hfd, hsl⟩ := hS b hb
  obtain ⟨w, s1, s2⟩ := g5 b hb
  have hfd' := hfd
  rw [w2 b hb] at hfd'
  refine W.getf C.1 C.2.1 C.2.2.2.2.1 (C.2.2.2.2.2.1 _ hl) hfd' (u_facts hfc hkC (u_lays C.2.2.2.2.2.1 w1 hb) hfd).1 g2 (by rw [g4]; exact fun z => by cases z) (v := w) (by rw [hsl]; exact s1) rfl rfl hd ?_
  exact G _ _ _ _ _ _ _ _ _ _ _ _ _ g (I.stk ⟨s2, h4⟩)
theorem zslots {cell : Cell} {i j : Nat} {v : Value} : (cell.setSlot i v).slots[j]? = if j = i then (if i < cell.slots.size then some v else none) else cell.slots[j]? := by
  by_cases e : j = i
  · subst e
    by_cases q : j < cell.slots.size
    · simp [Cell.setSlot, q]
    · simp [Cell.setSlot, q]
  · rw [if_neg e]
    exact slot_ne cell v (fun z => e z.symm)
theorem zput {x : Nat} {y : Int} {v : ZV} {w : Value} {r0 : List ZV} {i : Nat} {ty : FieldType} {bb : Nat} {f : Nat → ZV} (C : zCtx P Z D lo k p s m args meth c) (G : zIH P D lo k MC MS ρ0 h0 K Qm p l e R s m args below meth c Q)
    {ST' : List Value} (I : zInv P D lo k s MC MS ρ0 h0 ρ ls st h ck sk H locs cells slots L ST) (hv : zV ρ h v w) (hst : zStk ρ h r0 ST') (hxy : h x y = some (.inl (a, f))) (hx1 : x ≠ 0)
    (hW : zCLS P Z) (q : vw_C) (hq : vwCl[a]? = some q) (hb : bb < q.2.2) (hty : parseFieldDescriptor (q.2.1 bb).2.2.1 = some ty) (hn : narrow ty w = w) (hf : fits ty w = true)
    (hl : Jvm.Cond.fieldLink (zown Z k) i q.1 (q.2.1 bb).2.1 (q.2.1 bb).2.2.1 ∈ Z.2.1) (hfin : (q.2.1 bb).2.2.2 = true → (zyn Z k).name = "<init>" ∧ zown Z k = q.1) (hk1 : x ≠ 1)
    (hd : decode (zcc Z k) pc = .ok (.putfield i, 3)) (g : K k (pc + 3, ls, r0, zset h x y (.inl (a, zupN f bb v)), ck, sk) Qm) : W p l e R s m args below meth c H locs cells slots Q (F0 m pc L (w :: .ref (ρ x y) :: ST')) := by
  obtain ⟨w1, w2, w3, w4⟩ := hW _ _ hq
  obtain ⟨-, q', cell, g1, g2, g3, g4, g5⟩ := I.1.2.1 _ _ _ hxy
  cases hq.symm.trans g1
  have hK := C.2.2.2.2.2.2.2.2.2.1.1
  have hts := C.2.2.2.2.2.1
  obtain ⟨hS, hfc, kC, hkC, hkind⟩ := hK.1 _ _ hq
  obtain ⟨cf, kf, fi, fd, hfd, hsl⟩ := hS bb hb
  have hlay := hts _ (w1 _ (u_in_lay hb))
  have hlz := u_lays hts w1 hb
  have hst2 := (u_facts hfc hkC hlz hfd).1
  have h6 := u_fits hfc hkC hkind hlz hfd hty hn hf
  have hfin2 : hasFlag fd.accessFlags Acc.final = false ∨ (m.cls = cf ∧ meth.name = "<init>") := by
    unfold u_lay at hlay
    by_cases e9 : (q.2.1 bb).2.2.2 = true
    · rw [if_pos e9] at hlay
      obtain ⟨z1, z2⟩ := hfin e9
      refine Or.inr ⟨?_, C.2.2.2.2.2.2.2.1 z1⟩
      obtain ⟨_, _, c', _, _, _, -, -, hf', -, -, -, hown2, -⟩ := Cond.laysFinal_spec hlay
      have e1 : c' = cf := by have := hfd.symm.trans hf'; simp at this; exact this.1.symm
      rw [w2 bb hb, ← z2] at hown2
      rw [← e1]; exact Option.some.inj (C.2.2.2.2.1.symm.trans hown2)
    · rw [if_neg e9] at hlay
      obtain ⟨_, _, _, _, _, fd', -, -, hi', -, hfi, -⟩ := Cond.lays_spec hlay
      cases hfd.symm.trans hi'
      exact Or.inl hfi
  obtain ⟨w0, s1, -⟩ := g5 bb hb
  have hlt : fd.slot < cell.slots.size := by rw [hsl]; exact k2_hasslot s1
  have ha : ρ x y < H.size := (Array.getElem?_eq_some_iff.mp g2).1
  have hfd' := hfd
  rw [w2 bb hb] at hfd'
  refine W.putf C.1 C.2.1 C.2.2.2.2.1 (hts _ hl) hfd' hst2 hfin2 g2 (by rw [g4]; exact fun z => by cases z) hlt h6.1 (by rw [g4, g3]; exact h6.2) rfl rfl hd ?_
  refine G _ _ _ _ _ _ _ _ _ _ _ _ _ g (I.set hxy hk1 ?_ (by simp) (fun q9 h9 => by simp [Array.getElem?_setIfInBounds, Ne.symm h9]) hst)
  have hs : (h x y).isSome = true := by rw [hxy]; rfl
  refine ⟨q, cell.setSlot fd.slot w, hq, by simp [Array.getElem?_setIfInBounds, ha], g3, g4, fun j hj => ?_⟩
  rw [zslots]
  by_cases e1 : j = bb
  · subst e1
    rw [if_pos hsl.symm, if_pos hlt]
    refine ⟨w, rfl, ?_⟩
    simp only [zupN, if_true]
    exact hv.ext (zExt.set hs)
  · have hap : D.2 a j ≠ fd.slot := by
      obtain ⟨_, _, _, fb, hib, eb⟩ := hS j hj
      obtain ⟨ty2, hty2, -⟩ := w3 j hj
      rw [← eb]
      refine u_apart (u_lays hts w1 hj) hlz hib hfd ?_
      rw [(State.fieldFound?_type hib hty2).1, (State.fieldFound?_type hfd hty).1]
      exact w4 j hj bb hb e1
    rw [if_neg hap]
    obtain ⟨w', n1, n2⟩ := g5 j hj
    refine ⟨w', n1, ?_⟩
    simp only [zupN, if_neg e1]
    exact n2.ext (zExt.set hs)
theorem zidx {j : Int} {n : Nat} (h1 : 0 ≤ j) (h2 : j < n) (hn : n < 2147483648) : (Int32.ofInt j).toNatClampNeg = j.toNat ∧ ¬ (Int32.ofInt j < 0 ∨ n ≤ (Int32.ofInt j).toNatClampNeg) := by
  have hj : zInR j := ⟨by omega, by omega⟩
  have e1 : (Int32.ofInt j).toNatClampNeg = j.toNat := Int32.toNatClampNeg_ofInt_of_le hj.1 hj.2
  refine ⟨e1, ?_⟩
  rw [e1, zlt0 hj]
  omega
theorem zC.arr {x : Nat} {y j : Int} {t : FieldType} {n : Nat} {f : Int → ZV} {v : ZV} {w : Value} {cell : Cell} {H' : Heap} (hv : zV ρ h v w) (hxy : h x y = some (.inr (t, n, f))) (hj : 0 ≤ j ∧ j < n) (h3 : s.isArrayOf cell t) (h4 : cell.vm ≠ .unknown) (h5 : ∀ C, t = .object C → va_RA s cell.cls (.object C)) (h6 : cell.slots.size = n) (h7 : n < 2147483648) (h8 : ∀ j : Nat, j < n → ∃ w, cell.slots[j]? = some w ∧ zV ρ h (f j) w)
    (h2 : H'[ρ x y]? = some (cell.setSlot j.toNat w)) : zC D s ρ (zset h x y (.inr (t, n, zup f j v))) (ρ x y) (.inr (t, n, zup f j v)) H' := by
  have hs : (h x y).isSome = true := by rw [hxy]; rfl
  refine ⟨cell.setSlot j.toNat w, h2, h3, h4, h5, by rw [k2_slotsz]; exact h6, h7, fun i hi => ?_⟩
  rw [zslots]
  by_cases e1 : i = j.toNat
  · rw [if_pos e1, if_pos (by omega)]
    refine ⟨w, rfl, ?_⟩
    have e2 : (i : Int) = j := by omega
    simp only [zup, e2, if_true]
    exact hv.ext (zExt.set hs)
  · rw [if_neg e1]
    obtain ⟨w', n1, n2⟩ := h8 i hi
    have e2 : ¬ (i : Int) = j := by omega
    refine ⟨w', n1, ?_⟩
    simp only [zup, if_neg e2]
    exact n2.ext (zExt.set hs)

theorem zs_putI {i : Nat} (C : zCtx P Z D lo k p s m args meth c) (G : zIH P D lo k MC MS ρ0 h0 K Qm p l e R s m args below meth c Q) (I : zInv P D lo k s MC MS ρ0 h0 ρ ls st h ck sk H locs cells slots L ST) (hdo : zdo P K k pc ls h ck sk Qm (zact P k pc (.putfield i) 3 a b ls st h ck sk)) (hd : decode (zcc Z k) pc = .ok (.putfield i, 3)) (hW : zCLS P Z) (hb0 : b < 1000) (hi : ∃ r : vw_C, vwCl[a]? = some r ∧ b < r.2.2 ∧ P.2.2 a b = zI 0 ∧ Jvm.Cond.fieldLink (zown Z k) i r.1 (r.2.1 b).2.1 (r.2.1 b).2.2.1 ∈ Z.2.1 ∧ ((r.2.1 b).2.2.2 = true → (zyn Z k).name = "<init>" ∧ zown Z k = r.1)) : W p l e R s m args below meth c H locs cells slots Q (F0 m pc L ST) := by
  simp only [zact, if_pos hb0] at hdo
  obtain ⟨z, r1, rfl, h1⟩ := zdo_pI hdo
  obtain ⟨x, y, r, rfl, h2⟩ := zdo_pR h1
  obtain ⟨cn, f, hxy, h3⟩ := zdo_ob h2
  obtain ⟨⟨rfl, hx1⟩, g⟩ := zdo_go h3
  obtain ⟨ST1, rfl, hz, h4⟩ := I.2.2.1.i
  obtain ⟨u, ST', rfl, h5, h6⟩ := h4.r
  obtain ⟨q, hq, hb, hp, hl, hfin⟩ := hi
  obtain ⟨w1, w2, w3, w4⟩ := hW _ _ hq
  obtain ⟨ty, hty, ht⟩ := w3 b hb
  have hti : ty = .int := by
    rcases ht with ⟨e1, -⟩ | ⟨-, e2⟩
    · exact e1
    · rw [hp] at e2
      cases e2
  subst hti
  rcases h6 with ⟨rfl, -⟩ | ⟨e1, rfl, -⟩
  · rw [I.1.1 y] at hxy
    cases hxy
  exact zput (v := zI z) C G I ⟨rfl, hz⟩ h5 hxy e1 hW q hq hb hty rfl rfl hl hfin hx1 hd g
theorem zs_putR {i : Nat} (C : zCtx P Z D lo k p s m args meth c) (G : zIH P D lo k MC MS ρ0 h0 K Qm p l e R s m args below meth c Q) (I : zInv P D lo k s MC MS ρ0 h0 ρ ls st h ck sk H locs cells slots L ST) (hdo : zdo P K k pc ls h ck sk Qm (zact P k pc (.putfield i) 3 a b ls st h ck sk)) (hd : decode (zcc Z k) pc = .ok (.putfield i, 3)) (hW : zCLS P Z) (hb0 : 1000 ≤ b) (hi : ∃ r : vw_C, vwCl[a]? = some r ∧ b - 1000 < r.2.2 ∧ P.2.2 a (b - 1000) = zN ∧ Jvm.Cond.fieldLink (zown Z k) i r.1 (r.2.1 (b - 1000)).2.1 (r.2.1 (b - 1000)).2.2.1 ∈ Z.2.1 ∧ ((r.2.1 (b - 1000)).2.2.2 = true → (zyn Z k).name = "<init>" ∧ zown Z k = r.1)) : W p l e R s m args below meth c H locs cells slots Q (F0 m pc L ST) := by
  simp only [zact, if_neg (show ¬ b < 1000 by omega)] at hdo
  obtain ⟨x2, y2, r1, rfl, h1⟩ := zdo_pR hdo
  obtain ⟨x, y, r, rfl, h2⟩ := zdo_pR h1
  obtain ⟨cn, f, hxy, h3⟩ := zdo_ob h2
  obtain ⟨⟨rfl, hx1⟩, g⟩ := zdo_go h3
  obtain ⟨u2, ST1, rfl, h4, hz⟩ := I.2.2.1.r
  obtain ⟨u, ST', rfl, h5, h6⟩ := h4.r
  obtain ⟨q, hq, hb, hp, hl, hfin⟩ := hi
  obtain ⟨w1, w2, w3, w4⟩ := hW _ _ hq
  obtain ⟨ty, hty, ht⟩ := w3 _ hb
  have hti : (∃ C, ty = .object C) ∨ ∃ t, ty = .array t := by
    rcases ht with ⟨-, e2⟩ | ⟨e1, -⟩
    · rw [hp] at e2
      cases e2
    · exact e1
  rcases h6 with ⟨rfl, -⟩ | ⟨e1, rfl, -⟩
  · rw [I.1.1 y] at hxy
    cases hxy
  have hv := zV.ref hz
  refine zput (v := zR x2 y2) (w := va_rf u2) C G I hv h5 hxy e1 hW q hq hb hty ?_ ?_ hl hfin hx1 hd g
  · rcases hti with ⟨C0, rfl⟩ | ⟨t0, rfl⟩ <;> cases u2 <;> rfl
  · rcases hti with ⟨C0, rfl⟩ | ⟨t0, rfl⟩ <;> cases u2 <;> rfl
theorem zs_iaload  (C : zCtx P Z D lo k p s m args meth c) (G : zIH P D lo k MC MS ρ0 h0 K Qm p l e R s m args below meth c Q) (I : zInv P D lo k s MC MS ρ0 h0 ρ ls st h ck sk H locs cells slots L ST) (hdo : zdo P K k pc ls h ck sk Qm (zact P k pc (.iaload) 1 a b ls st h ck sk)) (hd : decode (zcc Z k) pc = .ok (.iaload, 1)) : W p l e R s m args below meth c H locs cells slots Q (F0 m pc L ST) := by
  obtain ⟨j, r1, rfl, h1⟩ := zdo_pI hdo
  obtain ⟨x, y, r, rfl, h2⟩ := zdo_pR h1
  obtain ⟨t, n, f, hxy, h4⟩ := zdo_ar h2
  obtain ⟨hr, g⟩ := zdo_go h4
  obtain ⟨ST1, rfl, hz, h5⟩ := I.2.2.1.i
  obtain ⟨u, ST', rfl, h6, h7⟩ := h5.r
  rcases h7 with ⟨rfl, -⟩ | ⟨e1, rfl, -⟩
  · rw [I.1.1 y] at hxy
    cases hxy
  obtain ⟨-, cell, g1, h3, g2, -, g4, g5, g6⟩ := I.1.2.1 _ _ _ hxy
  obtain ⟨q1, q2⟩ := zidx hr.2.1 hr.2.2 g5
  obtain ⟨w, n1, n2⟩ := g6 j.toNat (by have := hr.2; omega)
  have e2 : ((j.toNat : Nat) : Int) = j := by have := hr.2; omega
  rw [e2] at n2
  obtain ⟨rfl, hr⟩ := hr
  refine W.iald C.1 C.2.1 g1 h3 g2 (by rw [g4]; exact q2) (v := w) (by rw [q1]; exact n1) rfl rfl hd ?_
  exact G _ _ _ _ _ _ _ _ _ _ _ _ _ g (I.stk ⟨n2, h6⟩)
theorem zs_laload  (C : zCtx P Z D lo k p s m args meth c) (G : zIH P D lo k MC MS ρ0 h0 K Qm p l e R s m args below meth c Q) (I : zInv P D lo k s MC MS ρ0 h0 ρ ls st h ck sk H locs cells slots L ST) (hdo : zdo P K k pc ls h ck sk Qm (zact P k pc (.laload) 1 a b ls st h ck sk)) (hd : decode (zcc Z k) pc = .ok (.laload, 1)) : W p l e R s m args below meth c H locs cells slots Q (F0 m pc L ST) := by
  obtain ⟨j, r1, rfl, h1⟩ := zdo_pI hdo
  obtain ⟨x, y, r, rfl, h2⟩ := zdo_pR h1
  obtain ⟨t, n, f, hxy, h4⟩ := zdo_ar h2
  obtain ⟨hr, g⟩ := zdo_go h4
  obtain ⟨ST1, rfl, hz, h5⟩ := I.2.2.1.i
  obtain ⟨u, ST', rfl, h6, h7⟩ := h5.r
  rcases h7 with ⟨rfl, -⟩ | ⟨e1, rfl, -⟩
  · rw [I.1.1 y] at hxy
    cases hxy
  obtain ⟨-, cell, g1, h3, g2, -, g4, g5, g6⟩ := I.1.2.1 _ _ _ hxy
  obtain ⟨q1, q2⟩ := zidx hr.2.1 hr.2.2 g5
  obtain ⟨w, n1, n2⟩ := g6 j.toNat (by have := hr.2; omega)
  have e2 : ((j.toNat : Nat) : Int) = j := by have := hr.2; omega
  rw [e2] at n2
  obtain ⟨rfl, hr⟩ := hr
  refine W.lald C.1 C.2.1 g1 h3 g2 (by rw [g4]; exact q2) (v := w) (by rw [q1]; exact n1) rfl rfl hd ?_
  exact G _ _ _ _ _ _ _ _ _ _ _ _ _ g (I.stk ⟨n2, h6⟩)
theorem zs_baload  (C : zCtx P Z D lo k p s m args meth c) (G : zIH P D lo k MC MS ρ0 h0 K Qm p l e R s m args below meth c Q) (I : zInv P D lo k s MC MS ρ0 h0 ρ ls st h ck sk H locs cells slots L ST) (hdo : zdo P K k pc ls h ck sk Qm (zact P k pc (.baload) 1 a b ls st h ck sk)) (hd : decode (zcc Z k) pc = .ok (.baload, 1)) : W p l e R s m args below meth c H locs cells slots Q (F0 m pc L ST) := by
  obtain ⟨j, r1, rfl, h1⟩ := zdo_pI hdo
  obtain ⟨x, y, r, rfl, h2⟩ := zdo_pR h1
  obtain ⟨t, n, f, hxy, h4⟩ := zdo_ar h2
  obtain ⟨hr, g⟩ := zdo_go h4
  obtain ⟨ST1, rfl, hz, h5⟩ := I.2.2.1.i
  obtain ⟨u, ST', rfl, h6, h7⟩ := h5.r
  rcases h7 with ⟨rfl, -⟩ | ⟨e1, rfl, -⟩
  · rw [I.1.1 y] at hxy
    cases hxy
  obtain ⟨-, cell, g1, h3, g2, -, g4, g5, g6⟩ := I.1.2.1 _ _ _ hxy
  obtain ⟨q1, q2⟩ := zidx hr.2.1 hr.2.2 g5
  obtain ⟨w, n1, n2⟩ := g6 j.toNat (by have := hr.2; omega)
  have e2 : ((j.toNat : Nat) : Int) = j := by have := hr.2; omega
  rw [e2] at n2
  obtain ⟨rfl, hr⟩ := hr
  refine W.zald C.1 C.2.1 g1 h3 g2 (by rw [g4]; exact q2) (v := w) (by rw [q1]; exact n1) rfl rfl hd ?_
  exact G _ _ _ _ _ _ _ _ _ _ _ _ _ g (I.stk ⟨n2, h6⟩)
theorem zs_aaload  (C : zCtx P Z D lo k p s m args meth c) (G : zIH P D lo k MC MS ρ0 h0 K Qm p l e R s m args below meth c Q) (I : zInv P D lo k s MC MS ρ0 h0 ρ ls st h ck sk H locs cells slots L ST) (hdo : zdo P K k pc ls h ck sk Qm (zact P k pc (.aaload) 1 a b ls st h ck sk)) (hd : decode (zcc Z k) pc = .ok (.aaload, 1)) : W p l e R s m args below meth c H locs cells slots Q (F0 m pc L ST) := by
  obtain ⟨j, r1, rfl, h1⟩ := zdo_pI hdo
  obtain ⟨x, y, r, rfl, h2⟩ := zdo_pR h1
  obtain ⟨t, n, f, hxy, h4⟩ := zdo_ar h2
  obtain ⟨hr, g⟩ := zdo_go h4
  obtain ⟨ST1, rfl, hz, h5⟩ := I.2.2.1.i
  obtain ⟨u, ST', rfl, h6, h7⟩ := h5.r
  rcases h7 with ⟨rfl, -⟩ | ⟨e1, rfl, -⟩
  · rw [I.1.1 y] at hxy
    cases hxy
  obtain ⟨-, cell, g1, h3, g2, -, g4, g5, g6⟩ := I.1.2.1 _ _ _ hxy
  obtain ⟨q1, q2⟩ := zidx hr.2.1 hr.2.2 g5
  obtain ⟨w, n1, n2⟩ := g6 j.toNat (by have := hr.2; omega)
  have e2 : ((j.toNat : Nat) : Int) = j := by have := hr.2; omega
  rw [e2] at n2
  refine W.aald C.1 C.2.1 g1 h3 hr.1 g2 (by rw [g4]; exact q2) (v := w) (by rw [q1]; exact n1) rfl rfl hd ?_
  exact G _ _ _ _ _ _ _ _ _ _ _ _ _ g (I.stk ⟨n2, h6⟩)
theorem zs_alen  (C : zCtx P Z D lo k p s m args meth c) (G : zIH P D lo k MC MS ρ0 h0 K Qm p l e R s m args below meth c Q) (I : zInv P D lo k s MC MS ρ0 h0 ρ ls st h ck sk H locs cells slots L ST) (hdo : zdo P K k pc ls h ck sk Qm (zact P k pc (.arraylength) 1 a b ls st h ck sk)) (hd : decode (zcc Z k) pc = .ok (.arraylength, 1)) : W p l e R s m args below meth c H locs cells slots Q (F0 m pc L ST) := by
  obtain ⟨x, y, r, rfl, h2⟩ := zdo_pR hdo
  obtain ⟨t, n, f, hxy, h4⟩ := zdo_ar h2
  obtain ⟨-, g⟩ := zdo_go h4
  obtain ⟨u, ST', rfl, h6, h7⟩ := I.2.2.1.r
  rcases h7 with ⟨rfl, -⟩ | ⟨e1, rfl, -⟩
  · rw [I.1.1 y] at hxy
    cases hxy
  obtain ⟨-, cell, g1, h3, g2, -, g4, g5, g6⟩ := I.1.2.1 _ _ _ hxy
  refine W.alen C.1 C.2.1 g1 h3 (n := Int32.ofInt n) (by rw [g4, Int32.ofInt_eq_ofNat]) rfl rfl hd ?_
  exact G _ _ _ _ _ _ _ _ _ _ _ _ _ g (I.stk ⟨⟨rfl, by omega, by omega⟩, h6⟩)
theorem zs_iastore  (C : zCtx P Z D lo k p s m args meth c) (G : zIH P D lo k MC MS ρ0 h0 K Qm p l e R s m args below meth c Q) (I : zInv P D lo k s MC MS ρ0 h0 ρ ls st h ck sk H locs cells slots L ST) (hdo : zdo P K k pc ls h ck sk Qm (zact P k pc (.iastore) 1 a b ls st h ck sk)) (hd : decode (zcc Z k) pc = .ok (.iastore, 1)) : W p l e R s m args below meth c H locs cells slots Q (F0 m pc L ST) := by
  obtain ⟨z, r0, rfl, h0⟩ := zdo_pI hdo
  obtain ⟨j, r1, rfl, h1⟩ := zdo_pI h0
  obtain ⟨x, y, r, rfl, h2⟩ := zdo_pR h1
  obtain ⟨t, n, f, hxy, h4⟩ := zdo_ar h2
  obtain ⟨⟨hx1, rfl, hr⟩, g⟩ := zdo_go h4
  obtain ⟨ST0, rfl, hz0, h50⟩ := I.2.2.1.i
  obtain ⟨ST1, rfl, hz, h5⟩ := h50.i
  obtain ⟨u, ST', rfl, h6, h7⟩ := h5.r
  rcases h7 with ⟨rfl, -⟩ | ⟨e1, rfl, -⟩
  · rw [I.1.1 y] at hxy
    cases hxy
  obtain ⟨-, cell, g1, h3, g2, g3, g4, g5, g6⟩ := I.1.2.1 _ _ _ hxy
  have hj : 0 ≤ j ∧ j < n := ⟨hr.1, hr.2⟩
  obtain ⟨q1, q2⟩ := zidx hj.1 hj.2 g5
  refine W.iast C.1 C.2.1 g1 h3 g2 (by rw [g4]; exact q2) rfl rfl hd fun H' b1 b2 b3 => ?_
  rw [q1] at b1 ⊢
  
  exact G _ _ _ _ _ _ _ _ _ _ _ _ _ g (I.set hxy hx1 (zC.arr (v := zI z) (w := .int (Int32.ofInt z)) ⟨rfl, hz0⟩ hxy hj h3 g2 g3 g4 g5 g6 b1) b2 b3 h6)
theorem zs_lastore  (C : zCtx P Z D lo k p s m args meth c) (G : zIH P D lo k MC MS ρ0 h0 K Qm p l e R s m args below meth c Q) (I : zInv P D lo k s MC MS ρ0 h0 ρ ls st h ck sk H locs cells slots L ST) (hdo : zdo P K k pc ls h ck sk Qm (zact P k pc (.lastore) 1 a b ls st h ck sk)) (hd : decode (zcc Z k) pc = .ok (.lastore, 1)) : W p l e R s m args below meth c H locs cells slots Q (F0 m pc L ST) := by
  obtain ⟨z, r0, rfl, h0⟩ := zdo_pL hdo
  obtain ⟨j, r1, rfl, h1⟩ := zdo_pI h0
  obtain ⟨x, y, r, rfl, h2⟩ := zdo_pR h1
  obtain ⟨t, n, f, hxy, h4⟩ := zdo_ar h2
  obtain ⟨⟨hx1, rfl, hr⟩, g⟩ := zdo_go h4
  obtain ⟨ST0, rfl, h50⟩ := I.2.2.1.l
  obtain ⟨ST1, rfl, hz, h5⟩ := h50.i
  obtain ⟨u, ST', rfl, h6, h7⟩ := h5.r
  rcases h7 with ⟨rfl, -⟩ | ⟨e1, rfl, -⟩
  · rw [I.1.1 y] at hxy
    cases hxy
  obtain ⟨-, cell, g1, h3, g2, g3, g4, g5, g6⟩ := I.1.2.1 _ _ _ hxy
  have hj : 0 ≤ j ∧ j < n := ⟨hr.1, hr.2⟩
  obtain ⟨q1, q2⟩ := zidx hj.1 hj.2 g5
  refine W.last C.1 C.2.1 g1 h3 g2 (by rw [g4]; exact q2) rfl rfl hd fun H' b1 b2 b3 => ?_
  rw [q1] at b1 ⊢
  
  exact G _ _ _ _ _ _ _ _ _ _ _ _ _ g (I.set hxy hx1 (zC.arr (v := zL z) (w := .long z) rfl hxy hj h3 g2 g3 g4 g5 g6 b1) b2 b3 h6)
theorem zs_bastore  (C : zCtx P Z D lo k p s m args meth c) (G : zIH P D lo k MC MS ρ0 h0 K Qm p l e R s m args below meth c Q) (I : zInv P D lo k s MC MS ρ0 h0 ρ ls st h ck sk H locs cells slots L ST) (hdo : zdo P K k pc ls h ck sk Qm (zact P k pc (.bastore) 1 a b ls st h ck sk)) (hd : decode (zcc Z k) pc = .ok (.bastore, 1)) : W p l e R s m args below meth c H locs cells slots Q (F0 m pc L ST) := by
  obtain ⟨z, r0, rfl, h0⟩ := zdo_pI hdo
  obtain ⟨j, r1, rfl, h1⟩ := zdo_pI h0
  obtain ⟨x, y, r, rfl, h2⟩ := zdo_pR h1
  obtain ⟨t, n, f, hxy, h4⟩ := zdo_ar h2
  obtain ⟨⟨hx1, rfl, hr⟩, g⟩ := zdo_go h4
  obtain ⟨ST0, rfl, hz0, h50⟩ := I.2.2.1.i
  obtain ⟨ST1, rfl, hz, h5⟩ := h50.i
  obtain ⟨u, ST', rfl, h6, h7⟩ := h5.r
  rcases h7 with ⟨rfl, -⟩ | ⟨e1, rfl, -⟩
  · rw [I.1.1 y] at hxy
    cases hxy
  obtain ⟨-, cell, g1, h3, g2, g3, g4, g5, g6⟩ := I.1.2.1 _ _ _ hxy
  have hj : 0 ≤ j ∧ j < n := ⟨hr.1, hr.2.1⟩
  obtain ⟨q1, q2⟩ := zidx hj.1 hj.2 g5
  have hnar : narrow .boolean (.int (Int32.ofInt z)) = .int (Int32.ofInt z) := by
    rcases hr.2.2 with rfl | rfl <;> rfl
  refine W.zast C.1 C.2.1 g1 h3 g2 (by rw [g4]; exact q2) rfl rfl hd fun H' b1 b2 b3 => ?_
  rw [q1] at b1 ⊢
  rw [hnar] at b1
  exact G _ _ _ _ _ _ _ _ _ _ _ _ _ g (I.set hxy hx1 (zC.arr (v := zI z) (w := .int (Int32.ofInt z)) ⟨rfl, hz0⟩ hxy hj h3 g2 g3 g4 g5 g6 b1) b2 b3 h6)
theorem zs_aastore  (C : zCtx P Z D lo k p s m args meth c) (G : zIH P D lo k MC MS ρ0 h0 K Qm p l e R s m args below meth c Q) (I : zInv P D lo k s MC MS ρ0 h0 ρ ls st h ck sk H locs cells slots L ST) (hdo : zdo P K k pc ls h ck sk Qm (zact P k pc (.aastore) 1 a b ls st h ck sk)) (hd : decode (zcc Z k) pc = .ok (.aastore, 1)) : W p l e R s m args below meth c H locs cells slots Q (F0 m pc L ST) := by
  obtain ⟨x2, y2, r0, rfl, h0⟩ := zdo_pR hdo
  obtain ⟨j, r1, rfl, h1⟩ := zdo_pI h0
  obtain ⟨x, y, r, rfl, h2⟩ := zdo_pR h1
  obtain ⟨t, n, f, hxy, h4⟩ := zdo_ar h2
  obtain ⟨c2, f2, hxy2, h4b⟩ := zdo_ob h4
  obtain ⟨⟨hx1, hx2, hcl, rfl, hj⟩, g⟩ := zdo_go h4b
  obtain ⟨u2, ST0, rfl, h50, h70⟩ := I.2.2.1.r
  obtain ⟨ST1, rfl, hz, h5⟩ := h50.i
  obtain ⟨u, ST', rfl, h6, h7⟩ := h5.r
  have hv := zV.ref h70
  rcases h7 with ⟨rfl, -⟩ | ⟨e1, rfl, -⟩
  · rw [I.1.1 y] at hxy
    cases hxy
  rcases h70 with ⟨rfl, -⟩ | ⟨e2, rfl, -⟩
  · exact absurd rfl hx2
  obtain ⟨-, cell, g1, h3, g2, g3, g4, g5, g6⟩ := I.1.2.1 _ _ _ hxy
  obtain ⟨-, q', cellV, v1, v2, v3, v4, -⟩ := I.1.2.1 _ _ _ hxy2
  obtain ⟨q1, q2⟩ := zidx hj.1 hj.2 g5
  have hcn : zcn c2 = q'.1 := by simp [zcn, v1]
  obtain ⟨kA, comp, k1, k2, k3, -⟩ := g3 _ rfl
  have hcls := (C.2.2.2.2.2.2.2.2.2.1.1.1 _ _ v1).2
  rw [hcn] at k3
  have hcomp : comp = D.1 c2 := Option.some.inj (k3.symm.trans hcls.1)
  subst hcomp
  obtain ⟨kC, hkC, -⟩ := hcls.2
  refine W.aast C.1 C.2.1 g1 h3.1 g2 k1 k2 rfl hkC ⟨fun z => q2 (Or.inl z), by rw [g4]; exact Nat.not_le.mp fun z => q2 (Or.inr z)⟩ v2 (fun q h => by rw [v4] at h; cases h) (by rw [v3]; exact hkC) (by rw [v3]; exact va_assign hcls) rfl rfl hd fun H' b1 b2 b3 => ?_
  rw [q1] at b1 ⊢
  exact G _ _ _ _ _ _ _ _ _ _ _ _ _ g (I.set hxy hx1 (zC.arr (v := zR x2 y2) (w := .ref (ρ x2 y2)) hv hxy hj h3 g2 g3 g4 g5 g6 b1) b2 b3 h6)
theorem zhlo (C : zCtx P Z D lo k p s m args meth c) (I : zInv P D lo k s MC MS ρ0 h0 ρ ls st h ck sk H locs cells slots L ST) : lo ≤ H.size := Nat.le_trans C.2.2.2.2.2.2.2.2.2.2.1 I.2.2.2.1.1
theorem zold {x : Nat} {y : Int} {e1 : ZE} : zset h x y e1 x y = some e1 := by simp [zset]
theorem zs_newarray {t : ArrayType} (C : zCtx P Z D lo k p s m args meth c) (G : zIH P D lo k MC MS ρ0 h0 K Qm p l e R s m args below meth c Q) (I : zInv P D lo k s MC MS ρ0 h0 ρ ls st h ck sk H locs cells slots L ST) (hdo : zdo P K k pc ls h ck sk Qm (zact P k pc (.newarray t) 2 a b ls st h ck sk)) (hd : decode (zcc Z k) pc = .ok (.newarray t, 2)) (hM : MC ≤ R.cells ∧ MS ≤ R.slots) (hi : Jvm.Cond.arrayClass (Op.newarray.typeOf t) ∈ Z.2.1 ∧ (t = .int ∨ t = .long ∨ t = .boolean)) : W p l e R s m args below meth c H locs cells slots Q (F0 m pc L ST) := by
  obtain ⟨z, r, rfl, h1⟩ := zdo_pI hdo
  obtain ⟨hz, hck, hsk, x, y, hx, hn, g⟩ := h1
  obtain ⟨ST', rfl, hzr, h4⟩ := I.2.2.1.i
  have e1 : (Int32.ofInt z).toNatClampNeg = z.toNat := Int32.toNatClampNeg_ofInt_of_le hzr.1 hzr.2
  have hb : z.toNat * componentBytes (Op.newarray.typeOf t) ≤ 536870912 := by
    have : componentBytes (Op.newarray.typeOf t) ≤ 8 := by rcases hi.2 with rfl | rfl | rfl <;> decide
    have h9 := Nat.mul_le_mul (show z.toNat ≤ 20000 by omega) this
    omega
  have hcc := I.2.2.2.2.1
  have hss := I.2.2.2.2.2.1
  refine W.newaK C.1 C.2.1 (C.2.2.2.2.2.1 _ hi.1) rfl hd rfl (by rw [zlt0 hzr]; omega) e1 hb (by omega) (by omega) rfl fun H' cA b1 b2 b3 b4 => ?_
  refine G _ _ _ _ _ _ _ _ _ _ _ _ _ g (I.new hn hx (zhlo C I) ?_ b2 b3 hck hsk h4)
  refine ⟨_, b1, b4 _ _, fun q => (by cases q), fun C0 q => ?_, arrV_size _ _ _, by omega, fun j hj => ⟨_, arrV_read _ _ hj, ?_⟩⟩
  · rcases hi.2 with rfl | rfl | rfl <;> cases q
  · rcases hi.2 with rfl | rfl | rfl
    · exact ⟨rfl, zInR0⟩
    · exact rfl
    · exact ⟨rfl, zInR0⟩
theorem zs_anewarray {i : Nat} (C : zCtx P Z D lo k p s m args meth c) (G : zIH P D lo k MC MS ρ0 h0 K Qm p l e R s m args below meth c Q) (I : zInv P D lo k s MC MS ρ0 h0 ρ ls st h ck sk H locs cells slots L ST) (hdo : zdo P K k pc ls h ck sk Qm (zact P k pc (.anewarray i) 3 a b ls st h ck sk)) (hd : decode (zcc Z k) pc = .ok (.anewarray i, 3)) (hM : MC ≤ R.cells ∧ MS ≤ R.slots) (hi : Jvm.Cond.classLink (zown Z k) i (zcn a) ∈ Z.2.1 ∧ zcn a ∈ Z.2.2.2.2.2) : W p l e R s m args below meth c H locs cells slots Q (F0 m pc L ST) := by
  obtain ⟨z, r, rfl, h1⟩ := zdo_pI hdo
  obtain ⟨hz, hck, hsk, x, y, hx, hn, g⟩ := h1
  obtain ⟨ST', rfl, hzr, h4⟩ := I.2.2.1.i
  have e1 : (Int32.ofInt z).toNatClampNeg = z.toNat := Int32.toNatClampNeg_ofInt_of_le hzr.1 hzr.2
  have hcc := I.2.2.2.2.1
  have hss := I.2.2.2.2.2.1
  refine W.anew C.1 C.2.1 C.2.2.2.2.1 (C.2.2.2.2.2.1 _ hi.1) (va_AO.use (C.2.2.2.2.2.2.2.2.2.1.2.2.2.2.2 _ hi.2)) rfl hd rfl (by rw [zlt0 hzr]; omega) (by rw [e1]; omega) (by omega) (by rw [e1]; omega) fun cA kA comp f1 f2 f3 f4 => ?_
  rw [e1, arrV_new]
  refine G _ _ _ _ _ _ _ _ _ _ _ _ _ g (I.new hn hx (zhlo C I) ?_ (by simp) (fun q hq => by rw [Array.getElem?_push, if_neg (Nat.ne_of_lt hq)]) hck hsk h4)
  refine ⟨_, by simp, ⟨fun q w => (by cases w), kA, f2, comp, f3⟩, fun q => (by cases q), fun C0 q => ?_, arrV_size _ _ _, by omega, fun j hj => ⟨_, arrV_read _ _ hj, Or.inl ⟨rfl, rfl⟩⟩⟩
  cases q
  exact ⟨kA, comp, f2, f3, f4, f1⟩
theorem zs_new {i : Nat} (C : zCtx P Z D lo k p s m args meth c) (G : zIH P D lo k MC MS ρ0 h0 K Qm p l e R s m args below meth c Q) (I : zInv P D lo k s MC MS ρ0 h0 ρ ls st h ck sk H locs cells slots L ST) (hdo : zdo P K k pc ls h ck sk Qm (zact P k pc (.new i) 3 a b ls st h ck sk)) (hd : decode (zcc Z k) pc = .ok (.new i, 3)) (hM : MC ≤ R.cells ∧ MS ≤ R.slots) (hW : zCLS P Z) (ha : a < 1000) (hi : ∃ r : vw_C, vwCl[a]? = some r ∧ r.2.2 ≤ b ∧ Jvm.Cond.classLink (zown Z k) i r.1 ∈ Z.2.1 ∧ Jvm.Cond.instantiable r.1 b ∈ Z.2.1 ∧ Jvm.Cond.initialized r.1 ∈ Z.2.1) : W p l e R s m args below meth c H locs cells slots Q (F0 m pc L ST) := by
  simp only [zact, if_pos ha] at hdo
  obtain ⟨-, hck, hsk, x, y, hx, hn, g⟩ := hdo
  obtain ⟨q, hq, hN, h1, h2, h3⟩ := hi
  obtain ⟨w1, w2, w3, w4⟩ := hW _ _ hq
  have hcc := I.2.2.2.2.1
  have hss := I.2.2.2.2.2.1
  have hK := C.2.2.2.2.2.2.2.2.2.1.1
  have hts := C.2.2.2.2.2.1
  obtain ⟨hS, hfc, -⟩ := hK.1 _ _ hq
  refine W.newcK C.1 C.2.1 C.2.2.2.2.1 (hts _ h1) (hts _ h2) (hts _ h3) rfl hd (by omega) (by omega) hfc rfl fun H' kC b1 b2 b3 b4 => ?_
  refine G _ _ _ _ _ _ _ _ _ _ _ _ _ g (I.new hn hx (zhlo C I) ?_ b3 b4 hck hsk I.2.2.1)
  refine ⟨q, _, hq, b2, rfl, rfl, fun j hj => ?_⟩
  obtain ⟨ty, hty, ht⟩ := w3 j hj
  obtain ⟨cf, kf, fi, fd, hfd, hsl⟩ := hS j hj
  have h5 := (u_facts hfc b1 (u_lays hts w1 hj) hfd).2.2
  rw [(State.fieldFound?_type hfd hty).2] at h5
  rw [← hsl]
  refine ⟨_, k2_blank h5, ?_⟩
  rcases ht with ⟨rfl, e2⟩ | ⟨ht, e2⟩
  · rw [e2]
    exact ⟨rfl, zInR0⟩
  · rw [e2]
    rcases ht with ⟨C0, rfl⟩ | ⟨t0, rfl⟩
    · exact Or.inl ⟨rfl, rfl⟩
    · exact Or.inl ⟨rfl, rfl⟩
end ZSN
