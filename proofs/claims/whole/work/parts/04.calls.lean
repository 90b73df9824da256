/-! ===== calls, returns, throws; a method's contract out of a run ===== -/
def zen (E : Nat) : String := match E with
  | 0 => "java/lang/IllegalArgumentException"
  | 1 => "java/lang/IndexOutOfBoundsException"
  | _ => "java/lang/IllegalStateException"
def zOV (ρ : Nat → Int → Nat) (h : ZH) : Option ZV → Option Value → Prop
  | none, none => True
  | some v, some w => zV ρ h v w
  | _, _ => False
def zPc (Z : ZT) (D : va_G) (lo : Nat) (ρ : Nat → Int → Nat) (h : ZH) (av : List ZV) : Array Value → State → Prop := fun a U => (∃ aw : List Value, a = aw.toArray ∧ zStk ρ h av aw) ∧ zRel D lo U ρ h U.heap ∧ zWS Z D U ∧ zWH lo U U.heap
def zQc (D : va_G) (lo : Nat) (ρ : Nat → Int → Nat) (h : ZH) (Q : ZO → ZH → Prop) : Array Value → State → Outcome → State → Prop := fun _ st o t =>
  ∃ (v : Option ZV) (w : Option Value) (ρ' : Nat → Int → Nat) (h' : ZH), o = .returned w ∧ zOV ρ' h' v w ∧ Q (.inl v) h' ∧ zExt ρ h ρ' h' ∧ zRel D lo t ρ' h' t.heap ∧ va_F (fun q => lo ≤ q) st t
def zXC (D : va_G) (lo : Nat) (ρ : Nat → Int → Nat) (h : ZH) (Q : ZO → ZH → Prop) : String → State → State → Prop := fun E st t =>
  ∃ (x : Nat) (ρ' : Nat → Int → Nat) (h' : ZH), x < 3 ∧ E = zen x ∧ Q (.inr x) h' ∧ zExt ρ h ρ' h' ∧ zRel D lo t ρ' h' t.heap ∧ va_F (fun q => lo ≤ q) st t
def zrm (P : ZP) (Z : ZT) (f : Nat) : Room := { frames := zfr Z f, cells := zmc P f, slots := zms P f, locals := zlo Z f }
def zcode (P : ZP) (Z : ZT) (f : Nat) : Jvm.Cond := if zhh Z f = [] then .code (zyn Z f) (zcc Z f) (zmaxL P f) (zret Z f) else .codeWith (zyn Z f) (zcc Z f) (zmaxL P f) (zret Z f) (zhh Z f)
def zMet (l : Launch) (P : ZP) (Z : ZT) (D : va_G) (lo f : Nat) (ρ : Nat → Int → Nat) (h : ZH) (av : List ZV) (Q : ZO → ZH → Prop) : Prop :=
  vx_Met l (zyn Z f) (zcode P Z f :: Z.2.1) (zrm P Z f) (zPc Z D lo ρ h av) (zQc D lo ρ h Q) (zXC D lo ρ h Q) (zmc P f) (zms P f) (fun q => lo ≤ q)
section ZMV
variable {D : va_G} {lo : Nat} {ρ : Nat → Int → Nat} {h : ZH} {H : Heap} {u U : State} {Z : ZT}
theorem zC.moved {x : Nat} {e0 : ZE} (hvm : u.vm.Alike U.vm) (q : zC D u ρ h x e0 H) : zC D U ρ h x e0 H := by
  match e0, q with
  | .inl (ci, f), q => exact q
  | .inr (t, n, f), q =>
    obtain ⟨cell, h2, h3, h4, h5, h6, h7, h8⟩ := q
    exact ⟨cell, h2, State.isArrayOf_alike hvm h3, h4, fun C e => (h5 C e).moved hvm, h6, h7, h8⟩
theorem zRel.moved (hvm : u.vm.Alike U.vm) (q : zRel D lo u ρ h H) : zRel D lo U ρ h H := ⟨q.1, fun k i e he => ⟨(q.2.1 k i e he).1, (q.2.1 k i e he).2.moved hvm⟩, q.2.2⟩
theorem zWS.moved (hW : u.WarmedH U.vm) (q : zWS Z D u) : zWS Z D U :=
  ⟨q.1.moved hW.alike, fun x hx => va_Nw.warmM hW (q.2.1 x hx), fun x hx => by obtain ⟨a, ha⟩ := q.2.2.1 x hx; exact ⟨a, vk_R.warm hW ha⟩, fun x hx => va_Nc.moved hW.alike (q.2.2.2 x hx)⟩
theorem zWH.moved (hW : u.WarmedH U.vm) (q : zWH lo u H) : zWH lo U H := ⟨q.1, vx_Zq.moved hW.alike q.2.1, vx_Zq.moved hW.alike q.2.2⟩
theorem zPc.blind {av : List ZV} : FrameBlind (zPc Z D lo ρ h av) := by
  intro a U g mk q
  obtain ⟨q1, q2, q3, q4⟩ := q
  have hW : U.WarmedH (U.calling g mk a).vm := State.WarmedH.refl U
  exact ⟨q1, q2.moved hW.alike, q3.moved hW, q4.moved hW⟩
end ZMV
theorem zMet.quiet {l : Launch} {y : MethodName} {ws : List Jvm.Cond} {rm : Room} {Pc : Array Value → State → Prop} {Qc : Array Value → State → Outcome → State → Prop} {XC : String → State → State → Prop} {mc ms : Nat} {free : Addr → Prop} (q : vx_Met l y ws rm Pc Qc XC mc ms free) (hX : ∀ E s t, ¬ XC E s t) : Met l y ws rm Pc Qc mc ms free := by
  intro p e ha hc hk s m args below hf happ hP hK
  obtain ⟨n, o, h1, h2, h3, h4⟩ := q p e ha hc hk s m args below hf happ hP hK
  refine ⟨n, o, h1, h2, h3, ?_⟩
  rcases h4 with h4 | ⟨q, -, E, ce, L, hx, -⟩
  · exact h4
  · exact (hX _ _ _ hx).elim
def zHDr (own : String) (TB : List Jvm.Cond) : List (Nat × Nat × Nat × Nat) → List (Nat × Nat × Nat × Nat) → Prop
  | [], [] => True
  | (s, e, t, x) :: r, (s', e', t', ct) :: r' => s = s' ∧ e = e' ∧ t = t' ∧ x < 3 ∧ ct ≠ 0 ∧ Jvm.Cond.classLink own ct (zen x) ∈ TB ∧ zHDr own TB r r'
  | _, _ => False
def zpass (own : String) (TB : List Jvm.Cond) (pc E : Nat) (z : ExceptionTableEntry) : Prop := covers z pc = false ∨ (z.catchType ≠ 0 ∧ ∃ x, x < 3 ∧ x ≠ E ∧ Jvm.Cond.classLink own z.catchType (zen x) ∈ TB)
theorem zcatch_some {own : String} {TB : List Jvm.Cond} {pc E t : Nat} : ∀ {a b : List (Nat × Nat × Nat × Nat)}, zHDr own TB a b → zcatch a pc E = some t → ∃ (pre : List ExceptionTableEntry) (x : ExceptionTableEntry) (suf : List ExceptionTableEntry), tableOf b = pre ++ x :: suf ∧ (∀ z ∈ pre, zpass own TB pc E z) ∧ covers x pc = true ∧ x.catchType ≠ 0 ∧ Jvm.Cond.classLink own x.catchType (zen E) ∈ TB ∧ x.handlerPc = t
  | [], [], _, h => by cases h
  | (s, e, t', x) :: r, (s', e', t'', ct) :: r', q, h => by
    obtain ⟨rfl, rfl, rfl, hx, hct, hl, hr⟩ := q
    unfold zcatch at h
    split at h
    · rename_i q9
      obtain ⟨q1, q2, rfl⟩ := q9
      have h := Option.some.inj h
      subst h
      exact ⟨[], ⟨s, e, t', ct⟩, tableOf r', rfl, fun z hz => absurd hz List.not_mem_nil, by simp [covers, q1, q2], hct, hl, rfl⟩
    · rename_i q9
      obtain ⟨pre, y, suf, h1, h2, h3⟩ := zcatch_some hr h
      refine ⟨⟨s, e, t', ct⟩ :: pre, y, suf, by simp [tableOf] at h1 ⊢; exact h1, fun z hz => ?_, h3⟩
      rcases List.mem_cons.mp hz with rfl | hz
      · by_cases e1 : s ≤ pc ∧ pc < e
        · exact Or.inr ⟨hct, x, hx, fun z => q9 ⟨e1.1, e1.2, z⟩, hl⟩
        · exact Or.inl (by simp [covers]; omega)
      · exact h2 z hz
  | [], _ :: _, q, _ => q.elim
  | _ :: _, [], q, _ => q.elim
theorem zcatch_none {own : String} {TB : List Jvm.Cond} {pc E : Nat} : ∀ {a b : List (Nat × Nat × Nat × Nat)}, zHDr own TB a b → zcatch a pc E = none → ∀ z ∈ tableOf b, zpass own TB pc E z
  | [], [], _, _ => fun z hz => by cases hz
  | (s, e, t', x) :: r, (s', e', t'', ct) :: r', q, h => by
    obtain ⟨rfl, rfl, rfl, hx, hct, hl, hr⟩ := q
    unfold zcatch at h
    split at h
    · cases h
    · rename_i q9
      intro z hz
      rcases List.mem_cons.mp (show z ∈ (⟨s, e, t', ct⟩ : ExceptionTableEntry) :: tableOf r' from hz) with rfl | hz
      · by_cases e1 : s ≤ pc ∧ pc < e
        · exact Or.inr ⟨hct, x, hx, fun z => q9 ⟨e1.1, e1.2, z⟩, hl⟩
        · exact Or.inl (by simp [covers]; omega)
      · exact zcatch_none hr h z hz
  | [], _ :: _, q, _ => q.elim
  | _ :: _, [], q, _ => q.elim
section ZCL
variable {p : Program} {l : Launch} {e : Env} {R : Room} {s : State} {m : MethodId} {args : Array Value} {below : List Frame} {meth : Method} {c : Code} {H : Heap} {locs : List Loc} {cells slots : Nat} {Q : State → Prop}
variable {P : ZP} {Z : ZT} {D : va_G} {lo k MC MS : Nat} {ρ0 ρ : Nat → Int → Nat} {h0 h : ZH} {K : Nat → ZS → (ZO → ZH → Prop) → Prop} {Qm : ZO → ZH → Prop} {pc a b ck sk : Nat} {ls st : List ZV} {L : Array Slot} {ST : List Value}
/-- what is owed where an exception leaves the method, that was thrown by a callee -/
def zTHR (P : ZP) (Z : ZT) (D : va_G) (lo k MC MS : Nat) (ρ0 : Nat → Int → Nat) (h0 : ZH) (Qm : ZO → ZH → Prop) (p : Program) (l : Launch) (e : Env) (R : Room) (s : State) (m : MethodId) (args : Array Value) (below : List Frame) (meth : Method) (c : Code) (Q : State → Prop) : Prop :=
  ∀ (E : Nat) (ρ : Nat → Int → Nat) (h : ZH) (H : Heap) (locs : List Loc) (cells slots pc : Nat) (L : Array Slot) (rest : List Value) (q : Addr) (ce : Cell), E < 3 → Qm (.inr E) h → zRel D lo s ρ h H → zExt ρ0 h0 ρ h → va_S (fun q => lo ≤ q) s.heap H locs → cells ≤ MC → slots ≤ MS → H[q]? = some ce → ce.vm = .none → s.vm.findClass (zen E) = some ce.cls → (∀ z ∈ tableOf (zhh Z k), zpass (zown Z k) Z.2.1 pc E z) → vx_W p l e R s m args below meth c H locs cells slots Q (F0 m pc L rest) q
theorem zpass.real {E pc : Nat} {z : ExceptionTableEntry} (C : zCtx P Z D lo k p s m args meth c) (hNC : ∀ E x, E < 3 → x < 3 → x ≠ E → (zen E, zen x) ∈ Z.2.2.2.2) (hE : E < 3) (q : zpass (zown Z k) Z.2.1 pc E z) :
    covers z pc = false ∨ (z.catchType ≠ 0 ∧ ∃ nm : String, (Jvm.Cond.classLink (zown Z k) z.catchType nm).before args s = true ∧ va_Nc (zen E) nm s) := by
  rcases q with q | ⟨q1, x, hx, hne, hl⟩
  · exact Or.inl q
  · exact Or.inr ⟨q1, zen x, C.2.2.2.2.2.1 _ hl, C.2.2.2.2.2.2.2.2.2.1.2.2.2 _ (hNC E x hE hx hne)⟩
/-- behind a call that may throw -/
theorem zback_W {rest : List ZV} {ST' : List Value} {f nt : Nat} {av : List ZV} {avr : List Value} {g0 : JFrame} (C : zCtx P Z D lo k p s m args meth c) (G : zIH P D lo k MC MS ρ0 h0 K Qm p l e R s m args below meth c Q) (TH : zTHR P Z D lo k MC MS ρ0 h0 Qm p l e R s m args below meth c Q)
    (hNC : ∀ E x, E < 3 → x < 3 → x ≠ E → (zen E, zen x) ∈ Z.2.2.2.2) (hCA : ∀ E, E < 3 → Jvm.Cond.castable (zen E) (zen E) ∈ Z.2.1) (hHD : zHDr (zown Z k) Z.2.1 (zhd P k) (zhh Z k))
    (I : zInv P D lo k s MC MS ρ0 h0 ρ ls st h ck sk H locs cells slots L ST) (hst : zStk ρ h rest ST') (hck : zmc P f ≤ ck) (hsk : zms P f ≤ sk) {aa : Array Value}
    (hr : vx_Run p l e R s m args below meth c H locs cells slots (zmc P f) (zms P f) (F0 m pc L ST) ST' (zQc D lo ρ h (zback P K Qm k pc (pc + 3) nt (ck - zmc P f) (sk - zms P f) ls rest) aa) (zXC D lo ρ h (zback P K Qm k pc (pc + 3) nt (ck - zmc P f) (sk - zms P f) ls rest)) (fun q => lo ≤ q)) :
    W p l e R s m args below meth c H locs cells slots Q (F0 m pc L ST) := by
  obtain ⟨i1, i2, i3, i4, i5, i6, i7⟩ := I
  intro T hT X
  rcases hr T hT X with ⟨v, st₀, t, T', LL, g1, X', hL, e1, e2, hQ, stp⟩ | ⟨q, st₀, t, T', LL, E, ce, g1, X', hL, e1, e2, hx, hce, hcv, hcl, stp⟩
  · obtain ⟨v', w, ρ', h', ho, hov, hz, hex, hrel, hF⟩ := hQ
    cases ho
    have hal : t.vm.Alike s.vm := by rw [← e2]; exact X'.warmed.alike.symm
    have hrel' : zRel D lo s ρ' h' T'.heap := by rw [e1]; exact hrel.moved hal
    have hS' := (vx_keep g1 e1 i4 (fun _ _ z => z) (fun _ z => z) hL hF).2.2
    have hstk : zStk ρ' h' (v'.toList ++ rest) (v.toList ++ ST') := by
      match v', v, hov with
      | none, none, _ => exact hst.ext hex
      | some _, some _, hov => exact ⟨hov, hst.ext hex⟩
    obtain ⟨t2, a1, b1⟩ := G _ _ _ _ _ _ _ _ _ _ _ _ _ hz ⟨hrel', i2.ext hex, hstk, hS', by omega, by omega, i7.trans hex⟩ T' rfl X'
    exact ⟨t2, stp t2 a1, b1⟩
  · obtain ⟨x, ρ', h', hx3, rfl, hz, hex, hrel, hF⟩ := hx
    have hal : t.vm.Alike s.vm := by rw [← e2]; exact X'.warmed.alike.symm
    have hrel' : zRel D lo s ρ' h' T'.heap := by rw [e1]; exact hrel.moved hal
    have hS' := (vx_keep g1 e1 i4 (fun _ _ z => z) (fun _ z => z) hL hF).2.2
    have hce' : T'.heap[q]? = some ce := by rw [e1]; exact hce
    have hw : vx_W p l e R s m args below meth c T'.heap (locs ++ LL) (cells + zmc P f) (slots + zms P f) Q (F0 m pc L ST') q := by
      obtain ⟨-, hz⟩ := hz
      cases hcat : zcatch (zhd P k) pc x with
      | none =>
        rw [hcat] at hz
        exact TH x ρ' h' _ _ _ _ pc L ST' q ce hx3 hz hrel' (i7.trans hex) hS' (by omega) (by omega) hce' hcv hcl (zcatch_none hHD hcat)
      | some tg =>
        rw [hcat] at hz
        obtain ⟨pre, y, suf, h1, h2, h3, h4, h5, h6⟩ := zcatch_some hHD hcat
        have hsplit : c.exceptionTable.toList = pre ++ y :: suf := C.2.2.2.2.2.2.2.2.1.trans h1
        refine vx_catch C.2.2.2.2.1 pre y suf hsplit (fun z hz => (h2 z hz).real C hNC hx3) h3 h4 (C.2.2.2.2.2.1 _ h5) (C.2.2.2.2.2.1 _ (hCA x hx3)) hce' hcv hcl ?_
        rw [h6]
        exact G _ _ _ _ _ _ _ _ _ _ _ _ _ hz ⟨hrel', i2.ext hex, ⟨⟨q, rfl⟩, trivial⟩, hS', by omega, by omega, i7.trans hex⟩
    obtain ⟨t2, a1, b1⟩ := hw T' rfl X'
    exact ⟨t2, stp.trans a1, b1⟩
/-- behind a call that doesn't throw -/
theorem zback_Q {rest : List ZV} {ST' : List Value} {f nt : Nat} (G : zIH P D lo k MC MS ρ0 h0 K Qm p l e R s m args below meth c Q)
    (I : zInv P D lo k s MC MS ρ0 h0 ρ ls st h ck sk H locs cells slots L ST) (hst : zStk ρ h rest ST') (hck : zmc P f ≤ ck) (hsk : zms P f ≤ sk) {aa : Array Value}
    (hr : va_Run p l e R s m args below meth c H locs cells slots (zmc P f) (zms P f) (F0 m pc L ST) ST' (zQc D lo ρ h (zback P K Qm k pc (pc + 3) nt (ck - zmc P f) (sk - zms P f) ls rest) aa) (fun q => lo ≤ q)) :
    W p l e R s m args below meth c H locs cells slots Q (F0 m pc L ST) := by
  obtain ⟨i1, i2, i3, i4, i5, i6, i7⟩ := I
  intro T hT X
  obtain ⟨v, st₀, t, T', LL, g1, X', hL, e1, e2, hQ, stp⟩ := hr T hT X
  obtain ⟨v', w, ρ', h', ho, hov, hz, hex, hrel, hF⟩ := hQ
  cases ho
  have hal : t.vm.Alike s.vm := by rw [← e2]; exact X'.warmed.alike.symm
  have hrel' : zRel D lo s ρ' h' T'.heap := by rw [e1]; exact hrel.moved hal
  have hS' := (vx_keep g1 e1 i4 (fun _ _ z => z) (fun _ z => z) hL hF).2.2
  have hstk : zStk ρ' h' (v'.toList ++ rest) (v.toList ++ ST') := by
    match v', v, hov with
    | none, none, _ => exact hst.ext hex
    | some _, some _, hov => exact ⟨hov, hst.ext hex⟩
  obtain ⟨t2, a1, b1⟩ := G _ _ _ _ _ _ _ _ _ _ _ _ _ hz ⟨hrel', i2.ext hex, hstk, hS', by omega, by omega, i7.trans hex⟩ T' rfl X'
  exact ⟨t2, stp t2 a1, b1⟩
end ZCL
