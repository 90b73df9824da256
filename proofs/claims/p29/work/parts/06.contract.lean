/-! ===== every run is a contract ===== -/
theorem zent_args {ρ : Nat → Int → Nat} {h : ZH} : ∀ {av : List ZV} {aw : List Value} (j : Nat), zStk ρ h av aw → znoj av → (lg_sl aw).length = (zent av).length ∧ ∀ (i : Nat) (v : ZV), (zent av)[i]? = some v → v ≠ zJ → ∃ w, (j + i, w) ∈ lv_args j aw ∧ zV ρ h v w
  | [], [], j, _, _ => ⟨rfl, fun i v q => by simp [zent] at q⟩
  | [], _ :: _, j, q, _ => q.elim
  | _ :: _, [], j, q, _ => q.elim
  | .inl z :: r, w :: r', j, q, n => by
    obtain ⟨h1, h2⟩ := zent_args (j + 1) q.2 n.2
    have hw : w.category = 1 := q.1.cat1 (fun x e => by cases e)
    refine ⟨?_, fun i v hi hv => ?_⟩
    · simp only [lg_sl, List.flatMap_cons, hw, zent] at h1 ⊢
      simp [h1]
    · match i, hi with
      | 0, hi =>
        have hi := Option.some.inj hi
        subst hi
        exact ⟨w, by simp [lv_args], q.1⟩
      | i + 1, hi =>
        obtain ⟨w', h3, h4⟩ := h2 i v hi hv
        refine ⟨w', ?_, h4⟩
        unfold lv_args
        rw [if_neg (by omega), show j + (i + 1) = j + 1 + i by omega]
        exact List.mem_cons_of_mem _ h3
  | .inr (.inr (.inl y)) :: r, w :: r', j, q, n => by
    obtain ⟨h1, h2⟩ := zent_args (j + 1) q.2 n.2
    have hw : w.category = 1 := q.1.cat1 (fun x e => by cases e)
    refine ⟨?_, fun i v hi hv => ?_⟩
    · simp only [lg_sl, List.flatMap_cons, hw, zent] at h1 ⊢
      simp [h1]
    · match i, hi with
      | 0, hi =>
        have hi := Option.some.inj hi
        subst hi
        exact ⟨w, by simp [lv_args], q.1⟩
      | i + 1, hi =>
        obtain ⟨w', h3, h4⟩ := h2 i v hi hv
        refine ⟨w', ?_, h4⟩
        unfold lv_args
        rw [if_neg (by omega), show j + (i + 1) = j + 1 + i by omega]
        exact List.mem_cons_of_mem _ h3
  | .inr (.inr (.inr _)) :: r, w :: r', j, q, n => n.1.elim
  | .inr (.inl x) :: r, w :: r', j, q, n => by
    obtain ⟨h1, h2⟩ := zent_args (j + 2) q.2 n.2
    have hw : w = .long x := q.1
    subst hw
    refine ⟨?_, fun i v hi hv => ?_⟩
    · simp only [lg_sl, List.flatMap_cons, zent, Value.category] at h1 ⊢
      simp [h1]
    · match i, hi with
      | 0, hi =>
        have hi := Option.some.inj hi
        subst hi
        exact ⟨_, by simp [lv_args], rfl⟩
      | 1, hi =>
        have hi := Option.some.inj hi
        exact absurd hi.symm hv
      | i + 2, hi =>
        obtain ⟨w', h3, h4⟩ := h2 i v hi hv
        refine ⟨w', ?_, h4⟩
        unfold lv_args
        rw [if_pos (show (Value.long x).category = 2 from rfl), show j + (i + 2) = j + 2 + i by omega]
        exact List.mem_cons_of_mem _ h3
theorem zlgk_of {lg : List Nat} : ∀ {ls : List ZV} (j : Nat), zlgk j ls lg → ∀ (i : Nat) (x : Int64), ls[i]? = some (zL x) → j + i ∈ lg
  | [], j, _, i, x, h => by simp at h
  | v :: r, j, q, 0, x, h => by
    have h := Option.some.inj h
    subst h
    exact q.1
  | v :: r, j, q, i + 1, x, h => by
    have := zlgk_of (j + 1) q.2 i x h
    rw [show j + (i + 1) = j + 1 + i by omega]
    exact this
section ZCO
variable {p : Program} {l : Launch} {e : Env} {R : Room} {s : State} {m : MethodId} {args : Array Value} {below : List Frame} {meth : Method} {c : Code} {H : Heap} {locs : List Loc} {cells slots : Nat} {Q : State → Prop}
variable {P : ZP} {Z : ZT} {D : va_G} {lo k MC MS : Nat} {ρ0 ρ : Nat → Int → Nat} {h0 h : ZH} {Qm : ZO → ZH → Prop} {pc a b ck sk : Nat} {ls st : List ZV} {L : Array Slot} {ST : List Value}
theorem zRel.kept {H' : Heap} {U : State} (q : zRel D lo s ρ h H) (hal : s.vm.Alike U.vm) (hq : ∀ x, x < H.size → H'[x]? = H[x]?) : zRel D lo U ρ h H' :=
  ⟨q.1, fun k i e he => ⟨(q.2.1 k i e he).1, ((q.2.1 k i e he).2.ext zExt.rf (hq _ (q.2.1 k i e he).2.lt)).moved hal⟩, q.2.2⟩
theorem zfin (hS : va_S (fun q => lo ≤ q) s.heap H locs) : ∀ z ∈ locs, lo ≤ z.base := hS.2.2
theorem zRET_of (C : zCtx P Z D lo k p s m args meth c) (hT : zTAB P Z) (hk : ∃ pc x, P.1 k pc = some x) :
    zRET P Z D lo k MC MS ρ0 h0 Qm p l e R s m args below meth c (vx_MQ below (zQc D lo ρ0 h0 Qm) (zXC D lo ρ0 h0 Qm) args s MC MS (fun q => lo ≤ q)) := by
  intro v w ρ h H locs cells slots pc L ig hQ hov hrel hex hS hc hs hd hok
  obtain ⟨pc1, ⟨ig1, len1, a1, b1⟩, hk⟩ := hk
  obtain ⟨-, -, -, -, -, t0, t1, t2, t3, t9⟩ := hT.2.2.2 _ _ _ _ _ _ hk
  have hq : ∀ t : State, t.heap = H → s.WarmedH t.vm → zQc D lo ρ0 h0 Qm args s (.returned w) t := fun t ht hW => ⟨v, w, ρ, h, rfl, hov, hQ, hex, by rw [ht]; exact hrel.moved hW.alike, hS.F ht⟩
  have hf := zfin hS
  refine W.widen hc hs (vx_ret ?_)
  rcases hok with ⟨rfl, h1, z, rfl⟩ | ⟨rfl, h1, hz⟩ | ⟨rfl, h1, x, y, rfl⟩ | ⟨rfl, h1, rfl⟩ | ⟨rfl, h1, x, rfl⟩
  · match w, hov with
    | some w, hov =>
      obtain ⟨rfl, -⟩ := hov
      exact W.iret C.1 C.2.1 (C.2.2.1.trans (t1 h1)) hq hf hd C.2.2.2.2.2.2.1
  · rcases hz with rfl | rfl
    · match w, hov with
      | some w, hov =>
        obtain ⟨rfl, -⟩ := hov
        exact W.zret C.1 C.2.1 (C.2.2.1.trans (t2 h1)) rfl hq hf hd C.2.2.2.2.2.2.1
    · match w, hov with
      | some w, hov =>
        obtain ⟨rfl, -⟩ := hov
        exact W.zret C.1 C.2.1 (C.2.2.1.trans (t2 h1)) rfl hq hf hd C.2.2.2.2.2.2.1
  · match w, hov with
    | some w, hov =>
      obtain ⟨rt, t4, t5⟩ := t3 h1
      refine W.aret C.1 C.2.1 (C.2.2.1.trans t4) t5 ?_ hq hf hd C.2.2.2.2.2.2.1
      rcases hov with ⟨-, rfl⟩ | ⟨-, rfl, -⟩
      · exact Or.inl rfl
      · exact Or.inr ⟨_, rfl⟩
  · match w, hov with
    | none, _ => exact W.vret C.1 C.2.1 (C.2.2.1.trans (t0 h1)) hq hf hd C.2.2.2.2.2.2.1
  · match w, hov with
    | some w, hov =>
      have hov : w = .long x := hov
      subst hov
      exact W.lret C.1 C.2.1 (C.2.2.1.trans (t9 h1)) hq hf hd C.2.2.2.2.2.2.1
theorem zTHR_of (C : zCtx P Z D lo k p s m args meth c) (hT : zTAB P Z) :
    zTHR P Z D lo k MC MS ρ0 h0 Qm p l e R s m args below meth c (vx_MQ below (zQc D lo ρ0 h0 Qm) (zXC D lo ρ0 h0 Qm) args s MC MS (fun q => lo ≤ q)) := by
  intro E ρ h H locs cells slots pc L rest q ce hE hQ hrel hex hS hc hs hce hcv hcl hp
  exact vx_outP C.2.2.2.2.1 C.2.2.2.2.2.2.1 (fun z hz => (hp z (by rw [← C.2.2.2.2.2.2.2.2.1]; exact hz)).real C hT.2.2.1 hE) hce hcv hcl
    (fun t ht hal => ⟨E, ρ, h, hE, rfl, hQ, hex, by rw [ht]; exact hrel.moved hal, hS.F ht⟩) (zfin hS) hc hs
theorem zTHO_of (C : zCtx P Z D lo k p s m args meth c) (hl : l.stackTraces = false) (hM : MC ≤ R.cells ∧ MS ≤ R.slots) (hF : zfr Z k ≤ R.frames ∧ zlo Z k ≤ R.locals) :
    zTHO P Z D lo k MC MS ρ0 h0 Qm p l e R s m args below meth c (vx_MQ below (zQc D lo ρ0 h0 Qm) (zXC D lo ρ0 h0 Qm) args s MC MS (fun q => lo ≤ q)) := by
  intro E ρ h H locs cells slots pc L ST hQ hrel hex hS hc hs hsz hST hok
  obtain ⟨ik, is, ic, text, d0, d1, d2, o1, o2, o3, o4, o5, o6, o7, o8, o9, o10, hE⟩ := hok
  have hts := C.2.2.2.2.2.1
  have hWS := C.2.2.2.2.2.2.2.2.2.1
  have hWH := C.2.2.2.2.2.2.2.2.2.2
  obtain ⟨sa, hstr⟩ := hWS.2.2.1 _ o3
  have hat : ∀ w ∈ vx_atS (zown Z k) ic (zen E) znm, w.before args s = true := vx_hat (B := Jvm.Cond.castable (zen E) (zen E) :: zdcl.map fun Y => Jvm.Cond.declares (Bundle.initS Y)) (fun w hw => hts w (o4 w hw)) (fun w hw => by
    rcases o5 w hw with rfl | ⟨Y, hY, rfl⟩
    · exact List.mem_cons_self
    · exact List.mem_cons_of_mem _ (List.mem_map_of_mem hY)) (fun w hw => by
    rcases List.mem_cons.mp hw with rfl | hw
    · exact va_Nw.use rfl (hWS.2.2.2.2.1.1 E hE)
    · obtain ⟨Y, hY, rfl⟩ := List.mem_map.mp hw
      exact va_Nw.use rfl (hWS.2.2.2.2.1.2 Y hY))
  have hgood : ∀ w ∈ Jvm.Cond.classLink (zown Z k) ik (zen E) :: Jvm.Cond.initialized (zen E) :: vx_atS (zown Z k) ic (zen E) znm, vx_ot w = true := fun w hw => by
    rcases List.mem_cons.mp hw with rfl | hw
    · rfl
    · rcases List.mem_cons.mp hw with rfl | hw
      · rfl
      · exact o6 w hw
  have hnames : ∀ n ∈ znm, Bundle.fit n = true := by decide +kernel
  have htab : c.exceptionTable.toList = [] := by rw [C.2.2.2.2.2.2.2.2.1, o10]; rfl
  have h6 := zcats ST
  have hlo : 90 ≤ R.locals := by omega
  have hx : ∀ t : State, s.vm.Alike t.vm → H.size ≤ t.heap.size → (∀ q : Nat, q < H.size → t.heap[q]? = H[q]?) → zXC D lo ρ0 h0 Qm (zen E) s t := fun t hal hz hq => ⟨E, ρ, h, hE, rfl, hQ, hex, hrel.kept hal hq, by
    refine ⟨Nat.le_trans hS.1 hz, fun q h1 h2 => ?_⟩
    rw [hq q (Nat.lt_of_lt_of_le h1 hS.1)]
    exact hS.2.1 q h1 h2⟩
  have hfr : znm.length + 3 < R.frames := by show 2 + 3 < R.frames; omega
  have hls : (ST.map fun v => v.category).sum + (13 * (znm.length + 1) + 43) ≤ R.locals := by show _ + (13 * (2 + 1) + 43) ≤ _; omega
  rcases d2 with ⟨d2, d3, d4⟩ | ⟨d2, d3, d4⟩
  · exact vx_throwS C.1 C.2.1 hl C.2.2.2.2.1 o7 hnames (hts _ o1) (hts _ o2) hstr hat hgood hWH.2.1 hWH.2.2 hS (by rw [C.2.2.2.1]; exact hsz) d0 d1 d2 d3 d4 (fun x hx => by rw [htab] at hx; cases hx) hfr hls (by omega) (by omega) C.2.2.2.2.2.2.1 hx (zfin hS) hc hs
  · exact vx_throwSW C.1 C.2.1 hl C.2.2.2.2.1 o7 hnames (hts _ o1) (hts _ o2) hstr hat hgood hWH.2.1 hWH.2.2 hS (by rw [C.2.2.2.1]; exact hsz) d0 d1 d2 d3 d4 (fun x hx => by rw [htab] at hx; cases hx) hfr hls (by omega) (by omega) C.2.2.2.2.2.2.1 hx (zfin hS) hc hs
end ZCO
/-- THE MACHINE RUNS WHAT THE SMALL MACHINE RUNS: every method's contract, every body -/
theorem zsound {P : ZP} {Z : ZT} {D : va_G} {lo : Nat} {l : Launch} (hT : zTAB P Z) (hl : l.stackTraces = false) : ∀ n : Nat,
    (∀ (k MC MS : Nat) (ρ0 : Nat → Int → Nat) (h0 : ZH) (Qm : ZO → ZH → Prop) (p : Program) (e : Env) (R : Room) (s : State) (m : MethodId) (args : Array Value) (below : List Frame) (meth : Method) (c : Code) (Q : State → Prop),
      zCtx P Z D lo k p s m args meth c → zTHR P Z D lo k MC MS ρ0 h0 Qm p l e R s m args below meth c Q → zTHO P Z D lo k MC MS ρ0 h0 Qm p l e R s m args below meth c Q → zRET P Z D lo k MC MS ρ0 h0 Qm p l e R s m args below meth c Q →
      MC ≤ R.cells ∧ MS ≤ R.slots → zfr Z k ≤ R.frames ∧ zlo Z k ≤ R.locals → zIH P D lo k MC MS ρ0 h0 (fun m s Q => zrun P n m s Q) Qm p l e R s m args below meth c Q) ∧
    zIM l P Z D lo (fun m s Q => zrun P n m s Q) := by
  intro n
  induction n with
  | zero =>
    refine ⟨fun _ _ _ _ _ _ _ _ _ _ _ _ _ _ _ _ _ _ _ _ _ _ => ?_, ?_⟩
    · intro pc ls st h ck sk ρ H locs cells slots L ST q
      exact q.elim
    · intro f ρ h av Q q
      exact q.elim
  | succ n ih =>
    obtain ⟨ihA, ihB⟩ := ih
    have A : ∀ (k MC MS : Nat) (ρ0 : Nat → Int → Nat) (h0 : ZH) (Qm : ZO → ZH → Prop) (p : Program) (e : Env) (R : Room) (s : State) (m : MethodId) (args : Array Value) (below : List Frame) (meth : Method) (c : Code) (Q : State → Prop),
      zCtx P Z D lo k p s m args meth c → zTHR P Z D lo k MC MS ρ0 h0 Qm p l e R s m args below meth c Q → zTHO P Z D lo k MC MS ρ0 h0 Qm p l e R s m args below meth c Q → zRET P Z D lo k MC MS ρ0 h0 Qm p l e R s m args below meth c Q →
      MC ≤ R.cells ∧ MS ≤ R.slots → zfr Z k ≤ R.frames ∧ zlo Z k ≤ R.locals → zIH P D lo k MC MS ρ0 h0 (fun m s Q => zrun P (n + 1) m s Q) Qm p l e R s m args below meth c Q := by
      intro k MC MS ρ0 h0 Qm p e R s m args below meth c Q C TH TO RT hM hF pc ls st h ck sk ρ H locs cells slots L ST q I
      have G := ihA k MC MS ρ0 h0 Qm p e R s m args below meth c Q C TH TO RT hM hF
      unfold zrun at q
      split at q
      · exact q.elim
      · rename_i ig len a b hcode
        exact zstep C G I TH TO RT ihB hT hM hF hcode q
    refine ⟨A, ?_⟩
    intro f ρ h av Q q hnj hlen hlg
    have hk : ∃ pc x, P.1 f pc = some x := by
      have q' := q
      unfold zrun at q'
      split at q'
      · exact q'.elim
      · exact ⟨_, _, by assumption⟩
    obtain ⟨pc1, ⟨ig1, len1, a1, b1⟩, hk1⟩ := id hk
    obtain ⟨-, -, -, hpn, hcls, -⟩ := hT.2.2.2 _ _ _ _ _ _ hk1
    have body : ∀ (p : Program) (e : Env) (s : State) (m : MethodId) (args : Array Value) (below : List Frame) (meth : Method) (c : Code) (s₁ : State), BodyLoose p l (zyn Z f) (headSpec (zcode P Z f :: Z.2.1) (zrm P Z f)) (zcc Z f) (zmaxL P f) (zret Z f) e s m args below meth c s₁ → c.maxLocals = zmaxL P f → c.exceptionTable.toList = tableOf (zhh Z f) → zPc Z D lo ρ h av args s →
        W p l e (headSpec (zcode P Z f :: Z.2.1) (zrm P Z f)).room s m args below meth c s.heap [] 0 0 (vx_MQ below (zQc D lo ρ h Q) (zXC D lo ρ h Q) args s (zmc P f) (zms P f) (fun q => lo ≤ q)) (entryFrame m args (zmaxL P f)) := by
      intro p e s m args below meth c s₁ B hml htab hPc
      obtain ⟨⟨aw, rfl, haw⟩, hrel, hws, hwh⟩ := hPc
      have hts := atoms_spec (ws := zcode P Z f :: Z.2.1) B.pre
      have hown : s.vm.findClass (zyn Z f).cls = some m.cls := findClass_of_methodNamed B.named
      rw [hcls] at hown
      have C : zCtx P Z D lo f p s m aw.toArray meth c := ⟨B.exec, B.bytes, B.returns, hml, hown, fun w hw => hts w (List.mem_cons_of_mem _ hw), B.notSynchronized, fun q => by rw [← q]; exact (name_of_methodNamed B.named B.method).1, htab, hws, hwh⟩
      obtain ⟨g1, g2⟩ := zent_args 0 haw hnj
      have hL := lv_entry aw (n := zmaxL P f) (by omega)
      rw [lg_entry_eq]
      refine A f (zmc P f) (zms P f) ρ h Q p e (zrm P Z f) s m aw.toArray below meth c _ C (zTHR_of C hT) (zTHO_of C hl ⟨Nat.le_refl _, Nat.le_refl _⟩ ⟨Nat.le_refl _, Nat.le_refl _⟩) (zRET_of C hT hk) ⟨Nat.le_refl _, Nat.le_refl _⟩ ⟨Nat.le_refl _, Nat.le_refl _⟩ 0 _ [] h _ _ ρ s.heap [] 0 0 _ [] q ?_
      refine ⟨hrel, ⟨_, hL, ?_, fun i x hi => by have := zlgk_of 0 hlg i x hi; simpa using this, fun i v hi hv => ?_⟩, trivial, va_S.rf, by omega, by omega, zExt.rf⟩
      · unfold zentry
        rw [List.length_append, List.length_replicate]
        omega
      · unfold zentry at hi
        by_cases hi2 : i < (zent av).length
        · rw [List.getElem?_append_left hi2] at hi
          obtain ⟨w, h1, h2⟩ := g2 i v hi hv
          rw [Nat.zero_add] at h1
          exact ⟨w, h1, h2⟩
        · rw [List.getElem?_append_right (by omega), List.getElem?_replicate] at hi
          split at hi
          · exact absurd (Option.some.inj hi).symm hv
          · cases hi
    unfold zMet
    by_cases hhe : zhh Z f = []
    · have hcode : zcode P Z f = .code (zyn Z f) (zcc Z f) (zmaxL P f) (zret Z f) := by unfold zcode; rw [if_pos hhe]
      refine vx_ofW (cc := zcc Z f) (maxL := zmaxL P f) (ret := zret Z f) hpn (by rw [hcode]) ?_
      intro p e s m args below meth c s₁ B hml ht hPc
      refine body p e s m args below meth c s₁ B hml ?_ hPc
      rw [hhe]
      cases hz : c.exceptionTable.toList with
      | nil => rfl
      | cons x r => exact (ht x (by rw [hz]; exact List.mem_cons_self)).elim
    · have hcode : zcode P Z f = .codeWith (zyn Z f) (zcc Z f) (zmaxL P f) (zret Z f) (zhh Z f) := by unfold zcode; rw [if_neg hhe]
      refine vx_ofWH (cc := zcc Z f) (maxL := zmaxL P f) (ret := zret Z f) (hh := zhh Z f) hpn (by rw [hcode]) ?_
      intro p e s m args below meth c s₁ B hml hPc
      refine body p e s m args below meth c s₁ B hml ?_ hPc
      have hts := atoms_spec (ws := zcode P Z f :: Z.2.1) B.pre
      exact vx_table (x := zyn Z f) B (by have := hts _ List.mem_cons_self; rw [hcode] at this; exact this)
