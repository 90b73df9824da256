/-! ===== calls, returns, throws; a method's contract out of a run ===== -/
def zOV (ρ : Nat → Int → Nat) (h : ZH) : Option ZV → Option Value → Prop
  | none, none => True
  | some v, some w => zV ρ h v w
  | _, _ => False
def zPc (Z : ZT) (D : va_G) (lo : Nat) (ρ : Nat → Int → Nat) (h : ZH) (av : List ZV) : Array Value → State → Prop := fun a U => (∃ aw : List Value, a = aw.toArray ∧ zStk ρ h av aw) ∧ zRel D lo U ρ h U.heap ∧ zWS Z D U ∧ zWH lo U U.heap
def zQc (D : va_G) (lo : Nat) (ρ : Nat → Int → Nat) (h : ZH) (Q : ZO → ZH → Prop) : Array Value → State → Outcome → State → Prop := fun _ st o t =>
  ∃ (v : Option ZV) (w : Option Value) (ρ' : Nat → Int → Nat) (h' : ZH), o = .returned w ∧ zOV ρ' h' v w ∧ Q (.inl v) h' ∧ zExt ρ h ρ' h' ∧ zRel D lo t ρ' h' t.heap ∧ va_F (fun q => lo ≤ q) st t
def zXC (D : va_G) (lo : Nat) (ρ : Nat → Int → Nat) (h : ZH) (Q : ZO → ZH → Prop) : String → State → State → Prop := fun E st t =>
  ∃ (x : Nat) (ρ' : Nat → Int → Nat) (h' : ZH), x < 3 ∧ E = zen x ∧ Q (.inr x) h' ∧ zExt ρ h ρ' h' ∧ zRel D lo t ρ' h' t.heap ∧ va_F (fun q => lo ≤ q) st t
def zrm (P : ZP) (Z : ZT) (f : Nat) : Room := { frames := zfr Z f, cells := zmc P f, slots := zms P f, locals := zlo Z f }
def zcode (P : ZP) (Z : ZT) (f : Nat) : Jvm.Cond := if zhh Z f = [] then .code (zyn Z f) (zcc Z f) (zmaxL P f) (zret Z f) else .codeWith (zyn Z f) (zcc Z f) (zmaxL P f) (zret Z f) (zhh Z f)
def zMet (l : Launch) (P : ZP) (Z : ZT) (D : va_G) (lo f : Nat) (ρ : Nat → Int → Nat) (h : ZH) (av : List ZV) (Q : ZO → ZH → Prop) : Prop :=
  vx_Met l (zyn Z f) (zcode P Z f :: Z.2.1) (zrm P Z f) (zPc Z D lo ρ h av) (zQc D lo ρ h Q) (zXC D lo ρ h Q) (zmc P f) (zms P f) (fun q => lo ≤ q)
section ZMV
variable {D : va_G} {lo : Nat} {ρ : Nat → Int → Nat} {h : ZH} {H : Heap} {u U : State} {Z : ZT}
theorem zC.moved {x : Nat} {e0 : ZE} (hvm : u.vm.Alike U.vm) (q : zC D u ρ h x e0 H) : zC D U ρ h x e0 H := by
  match e0, q with
  | .inl (ci, f), q => exact q
  | .inr (t, n, f), q =>
    obtain ⟨cell, h2, h3, h4, h5, h6, h7, h8⟩ := q
    exact ⟨cell, h2, State.isArrayOf_alike hvm h3, h4, fun C e => (h5 C e).moved hvm, h6, h7, h8⟩
theorem zRel.moved (hvm : u.vm.Alike U.vm) (q : zRel D lo u ρ h H) : zRel D lo U ρ h H := ⟨q.1, fun k i e he => ⟨(q.2.1 k i e he).1, (q.2.1 k i e he).2.moved hvm⟩, q.2.2⟩
theorem zWS.moved (hW : u.WarmedH U.vm) (q : zWS Z D u) : zWS Z D U :=
  ⟨q.1.moved hW.alike, fun x hx => va_Nw.warmM hW (q.2.1 x hx), fun x hx => by obtain ⟨a, ha⟩ := q.2.2.1 x hx; exact ⟨a, vk_R.warm hW ha⟩, fun x hx => va_Nc.moved hW.alike (q.2.2.2.1 x hx), ⟨fun x hx => va_Nw.warmC hW (q.2.2.2.2.1.1 x hx), fun x hx => va_Nw.warmD hW (q.2.2.2.2.1.2 x hx)⟩, fun x hx => va_AO.moved hW.alike (q.2.2.2.2.2 x hx)⟩
theorem zWH.moved (hW : u.WarmedH U.vm) (q : zWH lo u H) : zWH lo U H := ⟨q.1, vx_Zq.moved hW.alike q.2.1, vx_Zq.moved hW.alike q.2.2⟩
theorem zPc.blind {av : List ZV} : FrameBlind (zPc Z D lo ρ h av) := by
  intro a U g mk q
  obtain ⟨q1, q2, q3, q4⟩ := q
  have hW : U.WarmedH (U.calling g mk a).vm := State.WarmedH.refl U
  exact ⟨q1, q2.moved hW.alike, q3.moved hW, q4.moved hW⟩
end ZMV
theorem zquiet {l : Launch} {y : MethodName} {ws : List Jvm.Cond} {rm : Room} {Pc : Array Value → State → Prop} {Qc : Array Value → State → Outcome → State → Prop} {XC : String → State → State → Prop} {mc ms : Nat} {free : Addr → Prop} (q : vx_Met l y ws rm Pc Qc XC mc ms free) (hX : ∀ E s t, ¬ XC E s t) : Met l y ws rm Pc Qc mc ms free := by
  intro p e ha hc hk s m args below hf happ hP hK
  obtain ⟨n, o, h1, h2, h3, h4⟩ := q p e ha hc hk s m args below hf happ hP hK
  refine ⟨n, o, h1, h2, h3, ?_⟩
  rcases h4 with h4 | ⟨q, -, E, ce, L, hx, -⟩
  · exact h4
  · exact (hX _ _ _ hx).elim
def zHDr (own : String) (TB : List Jvm.Cond) : List (Nat × Nat × Nat × Nat) → List (Nat × Nat × Nat × Nat) → Prop
  | [], [] => True
  | (s, e, t, x) :: r, (s', e', t', ct) :: r' => s = s' ∧ e = e' ∧ t = t' ∧ x < 3 ∧ ct ≠ 0 ∧ Jvm.Cond.classLink own ct (zen x) ∈ TB ∧ zHDr own TB r r'
  | _, _ => False
def zpass (own : String) (TB : List Jvm.Cond) (pc E : Nat) (z : ExceptionTableEntry) : Prop := covers z pc = false ∨ (z.catchType ≠ 0 ∧ ∃ x, x < 3 ∧ x ≠ E ∧ Jvm.Cond.classLink own z.catchType (zen x) ∈ TB)
theorem zcatch_some {own : String} {TB : List Jvm.Cond} {pc E t : Nat} : ∀ {a b : List (Nat × Nat × Nat × Nat)}, zHDr own TB a b → zcatch a pc E = some t → ∃ (pre : List ExceptionTableEntry) (x : ExceptionTableEntry) (suf : List ExceptionTableEntry), tableOf b = pre ++ x :: suf ∧ (∀ z ∈ pre, zpass own TB pc E z) ∧ covers x pc = true ∧ x.catchType ≠ 0 ∧ Jvm.Cond.classLink own x.catchType (zen E) ∈ TB ∧ x.handlerPc = t
  | [], [], _, h => by cases h
  | (s, e, t', x) :: r, (s', e', t'', ct) :: r', q, h => by
    obtain ⟨rfl, rfl, rfl, hx, hct, hl, hr⟩ := q
    unfold zcatch at h
    split at h
    · rename_i q9
      obtain ⟨q1, q2, rfl⟩ := q9
      have h := Option.some.inj h
      subst h
      exact ⟨[], ⟨s, e, t', ct⟩, tableOf r', rfl, fun z hz => absurd hz List.not_mem_nil, by simp [covers, q1, q2], hct, hl, rfl⟩
    · rename_i q9
      obtain ⟨pre, y, suf, h1, h2, h3⟩ := zcatch_some hr h
      refine ⟨⟨s, e, t', ct⟩ :: pre, y, suf, by simp [tableOf] at h1 ⊢; exact h1, fun z hz => ?_, h3⟩
      rcases List.mem_cons.mp hz with rfl | hz
      · by_cases e1 : s ≤ pc ∧ pc < e
        · exact Or.inr ⟨hct, x, hx, fun z => q9 ⟨e1.1, e1.2, z⟩, hl⟩
        · exact Or.inl (by simp [covers]; omega)
      · exact h2 z hz
  | [], _ :: _, q, _ => q.elim
  | _ :: _, [], q, _ => q.elim
theorem zcatch_none {own : String} {TB : List Jvm.Cond} {pc E : Nat} : ∀ {a b : List (Nat × Nat × Nat × Nat)}, zHDr own TB a b → zcatch a pc E = none → ∀ z ∈ tableOf b, zpass own TB pc E z
  | [], [], _, _ => fun z hz => by cases hz
  | (s, e, t', x) :: r, (s', e', t'', ct) :: r', q, h => by
    obtain ⟨rfl, rfl, rfl, hx, hct, hl, hr⟩ := q
    unfold zcatch at h
    split at h
    · cases h
    · rename_i q9
      intro z hz
      rcases List.mem_cons.mp (show z ∈ (⟨s, e, t', ct⟩ : ExceptionTableEntry) :: tableOf r' from hz) with rfl | hz
      · by_cases e1 : s ≤ pc ∧ pc < e
        · exact Or.inr ⟨hct, x, hx, fun z => q9 ⟨e1.1, e1.2, z⟩, hl⟩
        · exact Or.inl (by simp [covers]; omega)
      · exact zcatch_none hr h z hz
  | [], _ :: _, q, _ => q.elim
  | _ :: _, [], q, _ => q.elim
section ZCL
variable {p : Program} {l : Launch} {e : Env} {R : Room} {s : State} {m : MethodId} {args : Array Value} {below : List Frame} {meth : Method} {c : Code} {H : Heap} {locs : List Loc} {cells slots : Nat} {Q : State → Prop}
variable {P : ZP} {Z : ZT} {D : va_G} {lo k MC MS : Nat} {ρ0 ρ : Nat → Int → Nat} {h0 h : ZH} {K : Nat → ZS → (ZO → ZH → Prop) → Prop} {Qm : ZO → ZH → Prop} {pc a b ck sk : Nat} {ls st : List ZV} {L : Array Slot} {ST : List Value}
/-- what is owed where an exception leaves the method, that was thrown by a callee -/
def zTHR (P : ZP) (Z : ZT) (D : va_G) (lo k MC MS : Nat) (ρ0 : Nat → Int → Nat) (h0 : ZH) (Qm : ZO → ZH → Prop) (p : Program) (l : Launch) (e : Env) (R : Room) (s : State) (m : MethodId) (args : Array Value) (below : List Frame) (meth : Method) (c : Code) (Q : State → Prop) : Prop :=
  ∀ (E : Nat) (ρ : Nat → Int → Nat) (h : ZH) (H : Heap) (locs : List Loc) (cells slots pc : Nat) (L : Array Slot) (rest : List Value) (q : Addr) (ce : Cell), E < 3 → Qm (.inr E) h → zRel D lo s ρ h H → zExt ρ0 h0 ρ h → va_S (fun q => lo ≤ q) s.heap H locs → cells ≤ MC → slots ≤ MS → H[q]? = some ce → ce.vm = .none → s.vm.findClass (zen E) = some ce.cls → (∀ z ∈ tableOf (zhh Z k), zpass (zown Z k) Z.2.1 pc E z) → vx_W p l e R s m args below meth c H locs cells slots Q (F0 m pc L rest) q
theorem zpass.real {E pc : Nat} {z : ExceptionTableEntry} (C : zCtx P Z D lo k p s m args meth c) (hNC : ∀ E x, E < 3 → x < 3 → x ≠ E → (zen E, zen x) ∈ Z.2.2.2.2.1) (hE : E < 3) (q : zpass (zown Z k) Z.2.1 pc E z) :
    covers z pc = false ∨ (z.catchType ≠ 0 ∧ ∃ nm : String, (Jvm.Cond.classLink (zown Z k) z.catchType nm).before args s = true ∧ va_Nc (zen E) nm s) := by
  rcases q with q | ⟨q1, x, hx, hne, hl⟩
  · exact Or.inl q
  · exact Or.inr ⟨q1, zen x, C.2.2.2.2.2.1 _ hl, C.2.2.2.2.2.2.2.2.2.1.2.2.2.1 _ (hNC E x hE hx hne)⟩
/-- behind a call that may throw -/
theorem zback_W {rest : List ZV} {ST' : List Value} {f nt : Nat} {av : List ZV} {avr : List Value} {g0 : JFrame} (C : zCtx P Z D lo k p s m args meth c) (G : zIH P D lo k MC MS ρ0 h0 K Qm p l e R s m args below meth c Q) (TH : zTHR P Z D lo k MC MS ρ0 h0 Qm p l e R s m args below meth c Q)
    (hNC : ∀ E x, E < 3 → x < 3 → x ≠ E → (zen E, zen x) ∈ Z.2.2.2.2.1) (hHD : zHDr (zown Z k) Z.2.1 (zhd P k) (zhh Z k))
    (I : zInv P D lo k s MC MS ρ0 h0 ρ ls st h ck sk H locs cells slots L ST) (hst : zStk ρ h rest ST') (hck : zmc P f ≤ ck) (hsk : zms P f ≤ sk) {aa : Array Value}
    (hr : vx_Run p l e R s m args below meth c H locs cells slots (zmc P f) (zms P f) (F0 m pc L ST) ST' (zQc D lo ρ h (zback P K Qm k pc (pc + 3) nt (ck - zmc P f) (sk - zms P f) ls rest) aa) (zXC D lo ρ h (zback P K Qm k pc (pc + 3) nt (ck - zmc P f) (sk - zms P f) ls rest)) (fun q => lo ≤ q)) :
    W p l e R s m args below meth c H locs cells slots Q (F0 m pc L ST) := by
  obtain ⟨i1, i2, i3, i4, i5, i6, i7⟩ := I
  intro T hT X
  rcases hr T hT X with ⟨v, st₀, t, T', LL, g1, X', hL, e1, e2, hQ, stp⟩ | ⟨q, st₀, t, T', LL, E, ce, g1, X', hL, e1, e2, hx, hce, hcv, hcl, stp⟩
  · obtain ⟨v', w, ρ', h', ho, hov, hz, hex, hrel, hF⟩ := hQ
    cases ho
    have hal : t.vm.Alike s.vm := by rw [← e2]; exact X'.warmed.alike.symm
    have hrel' : zRel D lo s ρ' h' T'.heap := by rw [e1]; exact hrel.moved hal
    have hS' := (vx_keep g1 e1 i4 (fun _ _ z => z) (fun _ z => z) hL hF).2.2
    have hstk : zStk ρ' h' (v'.toList ++ rest) (v.toList ++ ST') := by
      match v', v, hov with
      | none, none, _ => exact hst.ext hex
      | some _, some _, hov => exact ⟨hov, hst.ext hex⟩
    obtain ⟨t2, a1, b1⟩ := G _ _ _ _ _ _ _ _ _ _ _ _ _ hz ⟨hrel', i2.ext hex, hstk, hS', by omega, by omega, i7.trans hex⟩ T' rfl X'
    exact ⟨t2, stp t2 a1, b1⟩
  · obtain ⟨x, ρ', h', hx3, rfl, hz, hex, hrel, hF⟩ := hx
    have hal : t.vm.Alike s.vm := by rw [← e2]; exact X'.warmed.alike.symm
    have hrel' : zRel D lo s ρ' h' T'.heap := by rw [e1]; exact hrel.moved hal
    have hS' := (vx_keep g1 e1 i4 (fun _ _ z => z) (fun _ z => z) hL hF).2.2
    have hce' : T'.heap[q]? = some ce := by rw [e1]; exact hce
    have hw : vx_W p l e R s m args below meth c T'.heap (locs ++ LL) (cells + zmc P f) (slots + zms P f) Q (F0 m pc L ST') q := by
      obtain ⟨-, hz⟩ := hz
      cases hcat : zcatch (zhd P k) pc x with
      | none =>
        rw [hcat] at hz
        exact TH x ρ' h' _ _ _ _ pc L ST' q ce hx3 hz hrel' (i7.trans hex) hS' (by omega) (by omega) hce' hcv hcl (zcatch_none hHD hcat)
      | some tg =>
        rw [hcat] at hz
        obtain ⟨pre, y, suf, h1, h2, h3, h4, h5, h6⟩ := zcatch_some hHD hcat
        have hsplit : c.exceptionTable.toList = pre ++ y :: suf := C.2.2.2.2.2.2.2.2.1.trans h1
        refine vx_catch C.2.2.2.2.1 pre y suf hsplit (fun z hz => (h2 z hz).real C hNC hx3) h3 h4 (C.2.2.2.2.2.1 _ h5) (va_Nw.use rfl (C.2.2.2.2.2.2.2.2.2.1.2.2.2.2.1.1 x hx3)) hce' hcv hcl ?_
        rw [h6]
        exact G _ _ _ _ _ _ _ _ _ _ _ _ _ hz ⟨hrel', i2.ext hex, ⟨⟨q, rfl⟩, trivial⟩, hS', by omega, by omega, i7.trans hex⟩
    obtain ⟨t2, a1, b1⟩ := hw T' rfl X'
    exact ⟨t2, stp.trans a1, b1⟩
/-- behind a call that doesn't throw -/
theorem zback_Q {rest : List ZV} {ST' : List Value} {f nt : Nat} (G : zIH P D lo k MC MS ρ0 h0 K Qm p l e R s m args below meth c Q)
    (I : zInv P D lo k s MC MS ρ0 h0 ρ ls st h ck sk H locs cells slots L ST) (hst : zStk ρ h rest ST') (hck : zmc P f ≤ ck) (hsk : zms P f ≤ sk) {aa : Array Value}
    (hr : va_Run p l e R s m args below meth c H locs cells slots (zmc P f) (zms P f) (F0 m pc L ST) ST' (zQc D lo ρ h (zback P K Qm k pc (pc + 3) nt (ck - zmc P f) (sk - zms P f) ls rest) aa) (fun q => lo ≤ q)) :
    W p l e R s m args below meth c H locs cells slots Q (F0 m pc L ST) := by
  obtain ⟨i1, i2, i3, i4, i5, i6, i7⟩ := I
  intro T hT X
  obtain ⟨v, st₀, t, T', LL, g1, X', hL, e1, e2, hQ, stp⟩ := hr T hT X
  obtain ⟨v', w, ρ', h', ho, hov, hz, hex, hrel, hF⟩ := hQ
  cases ho
  have hal : t.vm.Alike s.vm := by rw [← e2]; exact X'.warmed.alike.symm
  have hrel' : zRel D lo s ρ' h' T'.heap := by rw [e1]; exact hrel.moved hal
  have hS' := (vx_keep g1 e1 i4 (fun _ _ z => z) (fun _ z => z) hL hF).2.2
  have hstk : zStk ρ' h' (v'.toList ++ rest) (v.toList ++ ST') := by
    match v', v, hov with
    | none, none, _ => exact hst.ext hex
    | some _, some _, hov => exact ⟨hov, hst.ext hex⟩
  obtain ⟨t2, a1, b1⟩ := G _ _ _ _ _ _ _ _ _ _ _ _ _ hz ⟨hrel', i2.ext hex, hstk, hS', by omega, by omega, i7.trans hex⟩ T' rfl X'
  exact ⟨t2, stp t2 a1, b1⟩
end ZCL
theorem zStk.app {ρ : Nat → Int → Nat} {h : ZH} : ∀ {a b : List ZV} {ST : List Value}, zStk ρ h (a ++ b) ST → ∃ A B, ST = A ++ B ∧ zStk ρ h a A ∧ zStk ρ h b B
  | [], b, ST, q => ⟨[], ST, rfl, trivial, q⟩
  | v :: a, b, [], q => q.elim
  | v :: a, b, w :: ST, q => by
    obtain ⟨A, B, rfl, h1, h2⟩ := zStk.app q.2
    exact ⟨w :: A, B, rfl, ⟨q.1, h1⟩, h2⟩
theorem zStk.join {ρ : Nat → Int → Nat} {h : ZH} : ∀ {a b : List ZV} {A B : List Value}, zStk ρ h a A → zStk ρ h b B → zStk ρ h (a ++ b) (A ++ B)
  | [], _, [], _, _, q => q
  | [], _, _ :: _, _, q, _ => q.elim
  | _ :: _, _, [], _, q, _ => q.elim
  | _ :: _, _, _ :: _, _, q, r => ⟨q.1, zStk.join q.2 r⟩
theorem zStk.rev {ρ : Nat → Int → Nat} {h : ZH} : ∀ {a : List ZV} {A : List Value}, zStk ρ h a A → zStk ρ h a.reverse A.reverse
  | [], [], _ => trivial
  | [], _ :: _, q => q.elim
  | _ :: _, [], q => q.elim
  | v :: a, w :: A, q => by
    rw [List.reverse_cons, List.reverse_cons]
    exact zStk.join (zStk.rev q.2) ⟨q.1, trivial⟩
theorem zStk.len {ρ : Nat → Int → Nat} {h : ZH} : ∀ {a : List ZV} {A : List Value}, zStk ρ h a A → A.length = a.length
  | [], [], _ => rfl
  | [], _ :: _, q => q.elim
  | _ :: _, [], q => q.elim
  | v :: a, w :: A, q => by rw [List.length_cons, List.length_cons, zStk.len q.2]
theorem zcats : ∀ A : List Value, (A.map fun v => v.category).sum ≤ 2 * A.length
  | [] => Nat.le_refl _
  | w :: A => by
    have h1 := zcats A
    have h2 : w.category ≤ 2 := by rcases lv_cat w with q | q <;> omega
    simp only [List.map_cons, List.sum_cons, List.length_cons]
    omega
theorem zcats4 {A : List Value} {pc : Nat} {m : MethodId} {L : Array Slot} {ST : List Value} (h : (A.map fun v => v.category).sum ≤ 8) : 2 * (F0 m pc L ST).monitorRoom + (A.map fun v => v.category).sum ≤ 8 := lv_room h
theorem zcatl {ρ : Nat → Int → Nat} {h : ZH} : ∀ {a : List ZV} {A : List Value}, zStk ρ h a A → znl a → (A.map fun v => v.category).sum = a.length
  | [], [], _, _ => rfl
  | [], _ :: _, q, _ => q.elim
  | _ :: _, [], q, _ => q.elim
  | v :: a, w :: A, q, n => by
    have h1 := zcatl q.2 n.2
    have h2 : w.category = 1 := zV.cat1 q.1 (fun x e => by
      have n1 := n.1
      rw [e] at n1
      exact n1)
    simp only [List.map_cons, List.sum_cons, List.length_cons]
    omega
/-- callees -/
def zIM (l : Launch) (P : ZP) (Z : ZT) (D : va_G) (lo : Nat) (K : Nat → ZS → (ZO → ZH → Prop) → Prop) : Prop :=
  ∀ (f : Nat) (ρ : Nat → Int → Nat) (h : ZH) (av : List ZV) (Q : ZO → ZH → Prop), K f (0, zentry (zmaxL P f) av, [], h, zmc P f, zms P f) Q → znoj av → (zent av).length ≤ zmaxL P f → zlgk 0 (zentry (zmaxL P f) av) (zlg P f) → zMet l P Z D lo f ρ h av Q
/-- what a call asks of the tables -/
def zcok (P : ZP) (Z : ZT) (k f : Nat) : Prop :=
  zcode P Z f ∈ Z.2.1 ∧ Jvm.Cond.initialized (zyn Z f).cls ∈ Z.2.1 ∧ ((zyn Z f).cls ≠ "java/lang/invoke/MethodHandle" ∧ (zyn Z f).cls ≠ "java/lang/invoke/VarHandle") ∧ zfr Z f + 1 ≤ zfr Z k ∧ 8 + (zmaxL P f + 11) + zlo Z f ≤ zlo Z k
section ZCM
variable {p : Program} {l : Launch} {e : Env} {R : Room} {s : State} {m : MethodId} {args : Array Value} {below : List Frame} {meth : Method} {c : Code} {H : Heap} {locs : List Loc} {cells slots : Nat} {Q : State → Prop}
variable {P : ZP} {Z : ZT} {D : va_G} {lo k MC MS : Nat} {ρ0 ρ : Nat → Int → Nat} {h0 h : ZH} {K : Nat → ZS → (ZO → ZH → Prop) → Prop} {Qm : ZO → ZH → Prop} {pc a b ck sk : Nat} {ls st : List ZV} {L : Array Slot} {ST : List Value}
theorem zpre {av : List ZV} {aw : List Value} (C : zCtx P Z D lo k p s m args meth c) (I : zInv P D lo k s MC MS ρ0 h0 ρ ls st h ck sk H locs cells slots L ST) (ha : zStk ρ h av aw) : FrameBlind (zPc Z D lo ρ h av) ∧ ∀ U : State, U.heap = H → s.WarmedH U.vm → zPc Z D lo ρ h av aw.toArray U := by
  refine ⟨zPc.blind, fun U hU hW => ⟨⟨aw, rfl, ha⟩, by rw [hU]; exact I.1.moved hW.alike, C.2.2.2.2.2.2.2.2.2.1.moved hW, ?_⟩⟩
  have hw := C.2.2.2.2.2.2.2.2.2.2
  have hS := I.2.2.2.1
  have hw' : zWH lo s H := ⟨Nat.le_trans hw.1 hS.1, hw.2.1.kept hS.2.1, hw.2.2.kept hS.2.1⟩
  rw [hU]
  exact hw'.moved hW
/-- the stack at a call: the arguments, the rest -/
theorem zargs {na : Nat} {X : Prop} (I : zInv P D lo k s MC MS ρ0 h0 ρ ls st h ck sk H locs cells slots L ST) (hna : na ≤ st.length) (hr : (st.drop na).length ≤ 4 ∨ (X ∧ (st.drop na).length ≤ 8 ∧ znl (st.drop na))) :
    ∃ AW RW, ST = AW.reverse ++ RW ∧ zStk ρ h (st.take na).reverse AW ∧ zStk ρ h (st.drop na) RW ∧ AW.length = na ∧ (RW.map fun v => v.category).sum ≤ 8 := by
  have h1 := I.2.2.1
  rw [← List.take_append_drop na st] at h1
  obtain ⟨A, B, rfl, h2, h3⟩ := h1.app
  refine ⟨A.reverse, B, by rw [List.reverse_reverse], h2.rev, h3, ?_, ?_⟩
  · rw [List.length_reverse, h2.len, List.length_take]
    omega
  · rcases hr with hr | ⟨-, hr, hn⟩
    · have h4 := zcats B
      have h5 := h3.len
      omega
    · have h4 := zcatl h3 hn
      omega
theorem zs_invV {i : Nat} (C : zCtx P Z D lo k p s m args meth c) (G : zIH P D lo k MC MS ρ0 h0 K Qm p l e R s m args below meth c Q) (I : zInv P D lo k s MC MS ρ0 h0 ρ ls st h ck sk H locs cells slots L ST) (TH : zTHR P Z D lo k MC MS ρ0 h0 Qm p l e R s m args below meth c Q) (IM : zIM l P Z D lo K)
    (hNC : ∀ E x, E < 3 → x < 3 → x ≠ E → (zen E, zen x) ∈ Z.2.2.2.2.1) (hHD : zHDr (zown Z k) Z.2.1 (zhd P k) (zhh Z k)) (hgood : ∀ w ∈ Z.2.1, goodWord w = true)
    (hM : MC ≤ R.cells ∧ MS ≤ R.slots) (hF : zfr Z k ≤ R.frames ∧ zlo Z k ≤ R.locals)
    (hdo : zdo P K k pc ls h ck sk Qm (zact P k pc (.invokevirtual i) 3 a b ls st h ck sk)) (hd : decode (zcc Z k) pc = .ok (.invokevirtual i, 3))
    (hc : zcok P Z k a) (hi : zhh Z a = [] ∧ (∃ r : vw_C, 1 ≤ zrc P a ∧ vwCl[zrc P a - 1]? = some r ∧ r.1 = (zyn Z a).cls) ∧ Jvm.Cond.methodLink (zown Z k) i (zyn Z a) ∈ Z.2.1 ∧ Jvm.Cond.instanceMethod (zyn Z a) ∈ Z.2.1 ∧ Jvm.Cond.selects (zyn Z a).cls (zyn Z a) (zyn Z a) ∈ Z.2.1 ∧ (parseMethodDescriptor (zyn Z a).desc).map (fun d => d.parameters.length + 1) = some (zna P a)) :
    W p l e R s m args below meth c H locs cells slots Q (F0 m pc L ST) := by
  obtain ⟨⟨c1, c2, c3, c4, c5, c6⟩, hck, hsk, hK⟩ := hdo
  obtain ⟨AW, RW, rfl, q1, q2, q3, q4⟩ := zargs I c1 c2
  obtain ⟨hi1, ⟨r, hrc, hr1, hr2⟩, hi2, hi3, hi4, hi5⟩ := hi
  obtain ⟨d1, d2, d3, d4, d5⟩ := hc
  have hcode : zcode P Z a = .code (zyn Z a) (zcc Z a) (zmaxL P a) (zret Z a) := by unfold zcode; rw [if_pos hi1]
  have hmet := IM a ρ h _ _ hK c3 c4 c5
  obtain ⟨cn, hcn⟩ : ∃ n, zrc P a = n + 1 := ⟨zrc P a - 1, by omega⟩
  rw [hcn] at c6 hr1
  generalize (st.take (zna P a)).reverse = av at *
  match av, AW, q1 with
  | [], _, _ => exact c6.elim
  | v :: av', [], q1 => exact q1.elim
  | v :: av', w :: As, q1 =>
    obtain ⟨x, y, rfl⟩ : ∃ x y, v = zR x y := by
      match v, c6 with
      | .inr (.inr (.inl (x, y))), _ => exact ⟨x, y, rfl⟩
    obtain ⟨f, hxy⟩ := c6
    obtain ⟨-, q', cell, v1, v2, v3, v4, -⟩ := I.1.2.1 _ _ _ hxy
    cases hr1.symm.trans v1
    have hw : w = .ref (ρ x y) := by
      rcases q1.1 with ⟨rfl, -⟩ | ⟨-, rfl, -⟩
      · rw [I.1.1 y] at hxy
        cases hxy
      · rfl
    subst hw
    obtain ⟨n, hn⟩ : ∃ n, zna P a = n + 1 := ⟨As.length, by rw [← q3, List.length_cons]⟩
    rw [hn] at hi5
    have hdesc : (parseMethodDescriptor (zyn Z a).desc).map (fun d => d.parameters.length) = some n := by
      cases hp : parseMethodDescriptor (zyn Z a).desc with
      | none => rw [hp] at hi5; cases hi5
      | some d =>
        rw [hp] at hi5
        have : d.parameters.length + 1 = n + 1 := Option.some.inj hi5
        simp only [Option.map_some, Option.some.injEq]
        omega
    have hpre := zpre C I q1
    have hGI : GoodIn Z.2.1 (zcode P Z a :: Z.2.1) := fun w hw => by
      have hm : w ∈ Z.2.1 := by
        rcases List.mem_cons.mp hw with rfl | hw
        · exact d1
        · exact hw
      exact ⟨hm, good_of_word (hgood w hm)⟩
    have hts := C.2.2.2.2.2.1
    have hRw := vx_runV (cc := zcc Z k) (nL := zmaxL P k) (Ts := Z.2.1) (own := zown Z k) (C := (zyn Z a).cls) (b := ρ x y) (As := As) (rest := RW) (index := i) (bytes := zcc Z a) (maxL := zmaxL P a) (ret := zret Z a) (n := n) (g := F0 m pc L ((Value.ref (ρ x y) :: As).reverse ++ RW))
      ⟨C.1, C.2.1, C.2.2.2.1, C.2.2.2.2.1, hts⟩ hmet
      ⟨callB_of n hts hGI (by rw [hcode]) rfl rfl (hts _ d2) (hts _ hi2) ⟨d3.1, d3.2, hdesc⟩ ⟨by show zfr Z a + 1 ≤ R.frames; omega, by show 8 + (zmaxL P a + 11) + zlo Z a ≤ R.locals; omega⟩, hts _ hi3, hts _ hi4⟩
      ⟨hpre.1, ⟨cell, v2, by rw [v4]; rfl, by rw [← hr2, v3]; exact (C.2.2.2.2.2.2.2.2.2.1.1.1 _ _ v1).2.1⟩, hpre.2⟩ rfl
      (by rw [List.length_cons] at q3; omega) (by obtain ⟨lw, z, -⟩ := I.2.1; exact z.1) (by simp) (zcats4 q4) hd (by have := I.2.2.2.2.1; have := I.2.2.2.2.2.1; omega) (H := H) (locs := locs) (cells := cells) (slots := slots) (R := R) (l := l) (e := e) (below := below) (meth := meth)
    exact zback_W C G TH hNC hHD I q2 hck hsk hRw (av := []) (avr := []) (g0 := F0 m pc L [])
theorem zs_invS {i : Nat} (C : zCtx P Z D lo k p s m args meth c) (G : zIH P D lo k MC MS ρ0 h0 K Qm p l e R s m args below meth c Q) (I : zInv P D lo k s MC MS ρ0 h0 ρ ls st h ck sk H locs cells slots L ST) (TH : zTHR P Z D lo k MC MS ρ0 h0 Qm p l e R s m args below meth c Q) (IM : zIM l P Z D lo K)
    (hNC : ∀ E x, E < 3 → x < 3 → x ≠ E → (zen E, zen x) ∈ Z.2.2.2.2.1) (hHD : zHDr (zown Z k) Z.2.1 (zhd P k) (zhh Z k)) (hgood : ∀ w ∈ Z.2.1, goodWord w = true) (hM : MC ≤ R.cells ∧ MS ≤ R.slots) (hF : zfr Z k ≤ R.frames ∧ zlo Z k ≤ R.locals)
    (hdo : zdo P K k pc ls h ck sk Qm (zact P k pc (.invokestatic i) 3 a b ls st h ck sk)) (hd : decode (zcc Z k) pc = .ok (.invokestatic i, 3)) (hb : b = 0)
    (hc : zcok P Z k a) (hi : Jvm.Cond.methodLink (zown Z k) i (zyn Z a) ∈ Z.2.1 ∧ Jvm.Cond.static (zyn Z a) ∈ Z.2.1 ∧ (parseMethodDescriptor (zyn Z a).desc).map (fun d => d.parameters.length) = some (zna P a)) :
    W p l e R s m args below meth c H locs cells slots Q (F0 m pc L ST) := by
  subst hb
  obtain ⟨⟨c1, c2, c3, c4, c5, c6⟩, hck, hsk, hK⟩ := hdo
  obtain ⟨AW, RW, rfl, q1, q2, q3, q4⟩ := zargs I c1 c2
  obtain ⟨hi2, hi3, hdesc⟩ := hi
  obtain ⟨d1, d2, d3, d4, d5⟩ := hc
  have hmet := IM a ρ h _ _ hK c3 c4 c5
  have hpre := zpre C I q1
  have hGI : GoodIn Z.2.1 (zcode P Z a :: Z.2.1) := fun w hw => by
    have hm : w ∈ Z.2.1 := by
      rcases List.mem_cons.mp hw with rfl | hw
      · exact d1
      · exact hw
    exact ⟨hm, good_of_word (hgood w hm)⟩
  have hts := C.2.2.2.2.2.1
  by_cases hhe : zhh Z a = []
  · have hcode : zcode P Z a = .code (zyn Z a) (zcc Z a) (zmaxL P a) (zret Z a) := by unfold zcode; rw [if_pos hhe]
    have hRw := vx_runS (cc := zcc Z k) (nL := zmaxL P k) (Ts := Z.2.1) (own := zown Z k) (As := AW) (rest := RW) (index := i) (bytes := zcc Z a) (maxL := zmaxL P a) (ret := zret Z a) (n := zna P a) (g := F0 m pc L (AW.reverse ++ RW))
      ⟨C.1, C.2.1, C.2.2.2.1, C.2.2.2.2.1, hts⟩ hmet
      ⟨callB_of (zna P a) hts hGI (by rw [hcode]) rfl rfl (hts _ d2) (hts _ hi2) ⟨d3.1, d3.2, hdesc⟩ ⟨by show zfr Z a + 1 ≤ R.frames; omega, by show 8 + (zmaxL P a + 11) + zlo Z a ≤ R.locals; omega⟩, hts _ hi3⟩
      hpre rfl q3 (by obtain ⟨lw, z, -⟩ := I.2.1; exact z.1) rfl (zcats4 q4) hd (by have := I.2.2.2.2.1; have := I.2.2.2.2.2.1; omega) (H := H) (locs := locs) (cells := cells) (slots := slots) (R := R) (l := l) (e := e) (below := below) (meth := meth)
    exact zback_W C G TH hNC hHD I q2 hck hsk hRw (av := []) (avr := []) (g0 := F0 m pc L [])
  · have hcode : zcode P Z a = .codeWith (zyn Z a) (zcc Z a) (zmaxL P a) (zret Z a) (zhh Z a) := by unfold zcode; rw [if_neg hhe]
    have hRw := vx_runSX (cc := zcc Z k) (nL := zmaxL P k) (Ts := Z.2.1) (own := zown Z k) (As := AW) (rest := RW) (index := i) (bytes := zcc Z a) (maxL := zmaxL P a) (ret := zret Z a) (hh := zhh Z a) (n := zna P a) (g := F0 m pc L (AW.reverse ++ RW))
      ⟨C.1, C.2.1, C.2.2.2.1, C.2.2.2.2.1, hts⟩ hmet
      ⟨⟨rfl, rfl, by show zfr Z a + 1 ≤ R.frames; omega, by show 8 + (zmaxL P a + 11) + zlo Z a ≤ R.locals; omega, pay_in hts hGI, by rw [← hcode]; exact List.mem_cons_self⟩, by rw [← hcode]; exact hts _ d1, hts _ d2, d3, fun sig hs => by rw [hs] at hdesc; exact (Option.some.inj hdesc).symm, hts _ hi2, hts _ hi3⟩
      hpre rfl q3 (by obtain ⟨lw, z, -⟩ := I.2.1; exact z.1) rfl (zcats4 q4) hd (by have := I.2.2.2.2.1; have := I.2.2.2.2.2.1; omega) (H := H) (locs := locs) (cells := cells) (slots := slots) (R := R) (l := l) (e := e) (below := below) (meth := meth)
    exact zback_W C G TH hNC hHD I q2 hck hsk hRw (av := []) (avr := []) (g0 := F0 m pc L [])
theorem zXC_quiet {f pc' nt : Nat} {ck' sk' : Nat} {rest : List ZV} (hnt : nt ≠ 0) : ∀ E s0 t, ¬ zXC D lo ρ h (zback P K Qm k pc pc' nt ck' sk' ls rest) E s0 t := by
  rintro E s0 t ⟨x, ρ', h', -, -, q, -⟩
  exact hnt q.1
theorem zs_invI {i : Nat} (C : zCtx P Z D lo k p s m args meth c) (G : zIH P D lo k MC MS ρ0 h0 K Qm p l e R s m args below meth c Q) (I : zInv P D lo k s MC MS ρ0 h0 ρ ls st h ck sk H locs cells slots L ST) (IM : zIM l P Z D lo K) (hgood : ∀ w ∈ Z.2.1, goodWord w = true) (hM : MC ≤ R.cells ∧ MS ≤ R.slots) (hF : zfr Z k ≤ R.frames ∧ zlo Z k ≤ R.locals)
    (hdo : zdo P K k pc ls h ck sk Qm (zact P k pc (.invokespecial i) 3 a b ls st h ck sk)) (hd : decode (zcc Z k) pc = .ok (.invokespecial i, 3)) (hb : b = 1 ∨ b = 2)
    (hc : zcok P Z k a) (hi : zhh Z a = [] ∧ zret Z a = none ∧ (zyn Z a).name = "<init>" ∧ Jvm.Cond.instanceMethod (zyn Z a) ∈ Z.2.1 ∧ ((b = 1 ∧ Jvm.Cond.methodLink (zown Z k) i (zyn Z a) ∈ Z.2.1) ∨ (b = 2 ∧ ∃ ho, (zown Z k, i, zyn Z a, ho) ∈ Z.2.2.1)) ∧ 1 ≤ zrc P a ∧ (parseMethodDescriptor (zyn Z a).desc).map (fun d => d.parameters.length + 1) = some (zna P a)) :
    W p l e R s m args below meth c H locs cells slots Q (F0 m pc L ST) := by
  have hdo : zdo P K k pc ls h ck sk Qm (zcall P a b pc st h) := by
    rcases hb with rfl | rfl <;> exact hdo
  obtain ⟨⟨c1, c2, c3, c4, c5, c6⟩, hck, hsk, hK⟩ := hdo
  obtain ⟨AW, RW, rfl, q1, q2, q3, q4⟩ := zargs I c1 c2
  obtain ⟨hhe, hret, hini, hi3, hlink, hrc, hi5⟩ := hi
  obtain ⟨d1, d2, d3, d4, d5⟩ := hc
  have hcode : zcode P Z a = .code (zyn Z a) (zcc Z a) (zmaxL P a) none := by unfold zcode; rw [if_pos hhe, hret]
  have hmet := zquiet (IM a ρ h _ _ hK c3 c4 c5) (zXC_quiet (f := a) (by omega))
  obtain ⟨cn, hcn⟩ : ∃ n, zrc P a = n + 1 := ⟨zrc P a - 1, by omega⟩
  rw [hcn] at c6
  generalize (st.take (zna P a)).reverse = av at *
  match av, AW, q1 with
  | [], _, _ => exact c6.elim
  | v :: av', [], q1 => exact q1.elim
  | v :: av', w :: As, q1 =>
    obtain ⟨x, y, rfl⟩ : ∃ x y, v = zR x y := by
      match v, c6 with
      | .inr (.inr (.inl (x, y))), _ => exact ⟨x, y, rfl⟩
    obtain ⟨f, hxy⟩ := c6
    have hw : w = .ref (ρ x y) := by
      rcases q1.1 with ⟨rfl, -⟩ | ⟨-, rfl, -⟩
      · rw [I.1.1 y] at hxy
        cases hxy
      · rfl
    subst hw
    obtain ⟨n, hn⟩ : ∃ n, zna P a = n + 1 := ⟨As.length, by rw [← q3, List.length_cons]⟩
    rw [hn] at hi5
    have hdesc : (parseMethodDescriptor (zyn Z a).desc).map (fun d => d.parameters.length) = some n := by
      cases hp : parseMethodDescriptor (zyn Z a).desc with
      | none => rw [hp] at hi5; cases hi5
      | some d =>
        rw [hp] at hi5
        have : d.parameters.length + 1 = n + 1 := Option.some.inj hi5
        simp only [Option.map_some, Option.some.injEq]
        omega
    have hpre := zpre C I q1
    have hGI : GoodIn Z.2.1 (zcode P Z a :: Z.2.1) := fun w hw => by
      have hm : w ∈ Z.2.1 := by
        rcases List.mem_cons.mp hw with rfl | hw
        · exact d1
        · exact hw
      exact ⟨hm, good_of_word (hgood w hm)⟩
    have hts := C.2.2.2.2.2.1
    have hR2 : zfr Z a + 1 ≤ R.frames ∧ 8 + (zmaxL P a + 11) + zlo Z a ≤ R.locals := by omega
    rcases hlink with ⟨rfl, hl⟩ | ⟨rfl, ho, hl⟩
    · have hRw := va_runI (cc := zcc Z k) (nL := zmaxL P k) (Ts := Z.2.1) (own := zown Z k) (b := ρ x y) (As := As) (rest := RW) (index := i) (bytes := zcc Z a) (maxL := zmaxL P a) (n := n) (g := F0 m pc L ((Value.ref (ρ x y) :: As).reverse ++ RW))
        ⟨C.1, C.2.1, C.2.2.2.1, C.2.2.2.2.1, hts⟩ hmet
        ⟨callB_of n hts hGI (by rw [hcode]) rfl rfl (hts _ d2) (hts _ hl) ⟨d3.1, d3.2, hdesc⟩ hR2, hini, hts _ hi3⟩
        hpre rfl (by rw [List.length_cons] at q3; omega) (by obtain ⟨lw, z, -⟩ := I.2.1; exact z.1) (by simp) (zcats4 q4) hd (by have := I.2.2.2.2.1; have := I.2.2.2.2.2.1; omega) (H := H) (locs := locs) (cells := cells) (slots := slots) (R := R) (l := l) (e := e) (below := below) (meth := meth)
      exact zback_Q G I q2 hck hsk hRw
    · have hRw := va_runIN (cc := zcc Z k) (nL := zmaxL P k) (Ts := Z.2.1) (own := zown Z k) (host := ho) (b := ρ x y) (As := As) (rest := RW) (index := i) (bytes := zcc Z a) (maxL := zmaxL P a) (n := n) (g := F0 m pc L ((Value.ref (ρ x y) :: As).reverse ++ RW))
        ⟨C.1, C.2.1, C.2.2.2.1, C.2.2.2.2.1, hts⟩ hmet
        ⟨va_cnB n hts hGI (by rw [hcode]) rfl rfl (C.2.2.2.2.2.2.2.2.2.1.2.1 _ hl) (hts _ d2) ⟨d3.1, d3.2, hdesc⟩ hR2, hini, hts _ hi3⟩
        hpre rfl (by rw [List.length_cons] at q3; omega) (by obtain ⟨lw, z, -⟩ := I.2.1; exact z.1) (by simp) (zcats4 q4) hd (by have := I.2.2.2.2.1; have := I.2.2.2.2.2.1; omega) (H := H) (locs := locs) (cells := cells) (slots := slots) (R := R) (l := l) (e := e) (below := below) (meth := meth)
      exact zback_Q G I q2 hck hsk hRw
theorem zs_invSN {i : Nat} (C : zCtx P Z D lo k p s m args meth c) (G : zIH P D lo k MC MS ρ0 h0 K Qm p l e R s m args below meth c Q) (I : zInv P D lo k s MC MS ρ0 h0 ρ ls st h ck sk H locs cells slots L ST) (IM : zIM l P Z D lo K) (hgood : ∀ w ∈ Z.2.1, goodWord w = true) (hM : MC ≤ R.cells ∧ MS ≤ R.slots) (hF : zfr Z k ≤ R.frames ∧ zlo Z k ≤ R.locals)
    (hdo : zdo P K k pc ls h ck sk Qm (zact P k pc (.invokestatic i) 3 a b ls st h ck sk)) (hd : decode (zcc Z k) pc = .ok (.invokestatic i, 3)) (hb : b = 1)
    (hc : zcok P Z k a) (hi : zhh Z a = [] ∧ (∃ ho, (zown Z k, i, zyn Z a, ho) ∈ Z.2.2.1) ∧ Jvm.Cond.static (zyn Z a) ∈ Z.2.1 ∧ (parseMethodDescriptor (zyn Z a).desc).map (fun d => d.parameters.length) = some (zna P a)) :
    W p l e R s m args below meth c H locs cells slots Q (F0 m pc L ST) := by
  subst hb
  obtain ⟨⟨c1, c2, c3, c4, c5, c6⟩, hck, hsk, hK⟩ := hdo
  obtain ⟨AW, RW, rfl, q1, q2, q3, q4⟩ := zargs I c1 c2
  obtain ⟨hhe, ⟨ho, hl⟩, hi3, hdesc⟩ := hi
  obtain ⟨d1, d2, d3, d4, d5⟩ := hc
  have hcode : zcode P Z a = .code (zyn Z a) (zcc Z a) (zmaxL P a) (zret Z a) := by unfold zcode; rw [if_pos hhe]
  have hmet := zquiet (IM a ρ h _ _ hK c3 c4 c5) (zXC_quiet (f := a) (by omega))
  have hpre := zpre C I q1
  have hGI : GoodIn Z.2.1 (zcode P Z a :: Z.2.1) := fun w hw => by
    have hm : w ∈ Z.2.1 := by
      rcases List.mem_cons.mp hw with rfl | hw
      · exact d1
      · exact hw
    exact ⟨hm, good_of_word (hgood w hm)⟩
  have hts := C.2.2.2.2.2.1
  have hRw := va_runSN (cc := zcc Z k) (nL := zmaxL P k) (Ts := Z.2.1) (own := zown Z k) (host := ho) (As := AW) (rest := RW) (index := i) (bytes := zcc Z a) (maxL := zmaxL P a) (ret := zret Z a) (n := zna P a) (g := F0 m pc L (AW.reverse ++ RW))
    ⟨C.1, C.2.1, C.2.2.2.1, C.2.2.2.2.1, hts⟩ hmet
    ⟨va_cnB (zna P a) hts hGI (by rw [hcode]) rfl rfl (C.2.2.2.2.2.2.2.2.2.1.2.1 _ hl) (hts _ d2) ⟨d3.1, d3.2, hdesc⟩ ⟨by show zfr Z a + 1 ≤ R.frames; omega, by show 8 + (zmaxL P a + 11) + zlo Z a ≤ R.locals; omega⟩, hts _ hi3, trivial⟩
    hpre rfl q3 (by obtain ⟨lw, z, -⟩ := I.2.1; exact z.1) rfl (zcats4 q4) hd (by have := I.2.2.2.2.1; have := I.2.2.2.2.2.1; omega) (H := H) (locs := locs) (cells := cells) (slots := slots) (R := R) (l := l) (e := e) (below := below) (meth := meth)
  exact zback_Q G I q2 hck hsk hRw
theorem zs_objInit {i : Nat} (C : zCtx P Z D lo k p s m args meth c) (G : zIH P D lo k MC MS ρ0 h0 K Qm p l e R s m args below meth c Q) (I : zInv P D lo k s MC MS ρ0 h0 ρ ls st h ck sk H locs cells slots L ST) (hgood : ∀ w ∈ Z.2.1, goodWord w = true) (hM : MC ≤ R.cells ∧ MS ≤ R.slots) (hF : zfr Z k ≤ R.frames ∧ zlo Z k ≤ R.locals)
    (hdo : zdo P K k pc ls h ck sk Qm (zact P k pc (.invokespecial i) 3 a b ls st h ck sk)) (hd : decode (zcc Z k) pc = .ok (.invokespecial i, 3)) (hb : b = 8)
    (hi : Jvm.Cond.methodLink (zown Z k) i Lib.objectInit ∈ Z.2.1 ∧ Jvm.Cond.instanceMethod Lib.objectInit ∈ Z.2.1 ∧ Jvm.Cond.code Lib.objectInit ⟨#[0xb1]⟩ 1 none ∈ Z.2.1 ∧ 1 ≤ zfr Z k ∧ 20 ≤ zlo Z k) :
    W p l e R s m args below meth c H locs cells slots Q (F0 m pc L ST) := by
  subst hb
  obtain ⟨x, y, r, rfl, h1⟩ := zdo_pR hdo
  obtain ⟨⟨hx0, hl⟩, g⟩ := zdo_go h1
  obtain ⟨u, ST', rfl, h4, h5⟩ := I.2.2.1.r
  obtain ⟨i1, i2, i3, i4, i5⟩ := hi
  have hts := C.2.2.2.2.2.1
  rcases h5 with ⟨rfl, rfl⟩ | ⟨e1, rfl, -⟩
  · exact absurd rfl hx0
  · have h6 := zcats ST'
    have h7 := h4.len
    refine W.objInit C.1 C.2.1 C.2.2.2.2.1 (hts _ i1) (hts _ i2) (hts _ i3) rfl (by obtain ⟨lw, z, -⟩ := I.2.1; rw [C.2.2.2.1]; exact z.1) rfl hd (by omega) (by show 2 * 0 + _ + 12 ≤ _; omega) ?_
    exact G _ _ _ _ _ _ _ _ _ _ _ _ _ g (I.stk h4)
theorem zs_min {i : Nat} (C : zCtx P Z D lo k p s m args meth c) (G : zIH P D lo k MC MS ρ0 h0 K Qm p l e R s m args below meth c Q) (I : zInv P D lo k s MC MS ρ0 h0 ρ ls st h ck sk H locs cells slots L ST) (hgood : ∀ w ∈ Z.2.1, goodWord w = true) (hM : MC ≤ R.cells ∧ MS ≤ R.slots) (hF : zfr Z k ≤ R.frames ∧ zlo Z k ≤ R.locals)
    (hdo : zdo P K k pc ls h ck sk Qm (zact P k pc (.invokestatic i) 3 a b ls st h ck sk)) (hd : decode (zcc Z k) pc = .ok (.invokestatic i, 3)) (hb : b = 6)
    (hi : Jvm.Cond.methodLink (zown Z k) i Lib.Math.min.name ∈ Z.2.1 ∧ Jvm.Cond.static Lib.Math.min.name ∈ Z.2.1 ∧ Jvm.Cond.initialized "java/lang/Math" ∈ Z.2.1 ∧ Jvm.Cond.code Lib.Math.min.name Lib.Math.min.code 2 (some .int) ∈ Z.2.1 ∧ 1 ≤ zfr Z k ∧ 21 ≤ zlo Z k) :
    W p l e R s m args below meth c H locs cells slots Q (F0 m pc L ST) := by
  subst hb
  obtain ⟨y, r1, rfl, h1⟩ := zdo_pI hdo
  obtain ⟨x, r, rfl, h2⟩ := zdo_pI h1
  obtain ⟨hl, g⟩ := zdo_go h2
  obtain ⟨ST1, rfl, hy, h3⟩ := I.2.2.1.i
  obtain ⟨ST', rfl, hx, h4⟩ := h3.i
  obtain ⟨i1, i2, i3, i4, i5, i6⟩ := hi
  have hts := C.2.2.2.2.2.1
  have h6 := zcats ST'
  have h7 := h4.len
  refine va_mmin C.1 C.2.1 (by obtain ⟨lw, z, -⟩ := I.2.1; rw [C.2.2.2.1]; exact z.1.symm) C.2.2.2.2.1 (hts _ i1) (hts _ i2) (hts _ i3) (hts _ i4) (by omega) (by omega) (by have := I.2.2.2.2.1; omega) (by have := I.2.2.2.2.2.1; omega) hd ?_
  refine G _ _ _ _ _ _ _ _ _ _ _ _ _ g (I.stk ⟨⟨?_, ?_⟩, h4⟩)
  · by_cases q : y < x
    · rw [if_pos ((zlt hy hx).mpr q), Int.min_eq_right (by omega)]
    · rw [if_neg (fun z => q ((zlt hy hx).mp z)), Int.min_eq_left (by omega)]
  · unfold zInR at *
    omega
theorem zs_max {i : Nat} (C : zCtx P Z D lo k p s m args meth c) (G : zIH P D lo k MC MS ρ0 h0 K Qm p l e R s m args below meth c Q) (I : zInv P D lo k s MC MS ρ0 h0 ρ ls st h ck sk H locs cells slots L ST) (hgood : ∀ w ∈ Z.2.1, goodWord w = true) (hM : MC ≤ R.cells ∧ MS ≤ R.slots) (hF : zfr Z k ≤ R.frames ∧ zlo Z k ≤ R.locals)
    (hdo : zdo P K k pc ls h ck sk Qm (zact P k pc (.invokestatic i) 3 a b ls st h ck sk)) (hd : decode (zcc Z k) pc = .ok (.invokestatic i, 3)) (hb : b = 7)
    (hi : Jvm.Cond.methodLink (zown Z k) i Lib.Math.max.name ∈ Z.2.1 ∧ Jvm.Cond.static Lib.Math.max.name ∈ Z.2.1 ∧ Jvm.Cond.initialized "java/lang/Math" ∈ Z.2.1 ∧ Jvm.Cond.code Lib.Math.max.name Lib.Math.max.code 2 (some .int) ∈ Z.2.1 ∧ 1 ≤ zfr Z k ∧ 21 ≤ zlo Z k) :
    W p l e R s m args below meth c H locs cells slots Q (F0 m pc L ST) := by
  subst hb
  obtain ⟨y, r1, rfl, h1⟩ := zdo_pI hdo
  obtain ⟨x, r, rfl, h2⟩ := zdo_pI h1
  obtain ⟨hl, g⟩ := zdo_go h2
  obtain ⟨ST1, rfl, hy, h3⟩ := I.2.2.1.i
  obtain ⟨ST', rfl, hx, h4⟩ := h3.i
  obtain ⟨i1, i2, i3, i4, i5, i6⟩ := hi
  have hts := C.2.2.2.2.2.1
  have h6 := zcats ST'
  have h7 := h4.len
  refine va_mmax C.1 C.2.1 (by obtain ⟨lw, z, -⟩ := I.2.1; rw [C.2.2.2.1]; exact z.1.symm) C.2.2.2.2.1 (hts _ i1) (hts _ i2) (hts _ i3) (hts _ i4) (by omega) (by omega) (by have := I.2.2.2.2.1; omega) (by have := I.2.2.2.2.2.1; omega) hd ?_
  refine G _ _ _ _ _ _ _ _ _ _ _ _ _ g (I.stk ⟨⟨?_, ?_⟩, h4⟩)
  · by_cases q : x < y
    · rw [if_pos ((zlt hx hy).mpr q), Int.max_eq_right (by omega)]
    · rw [if_neg (fun z => q ((zlt hx hy).mp z)), Int.max_eq_left (by omega)]
  · unfold zInR at *
    omega
end ZCM
