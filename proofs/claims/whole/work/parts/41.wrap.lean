/-! methods with handlers; a row of one long -/
def oE (k : Nat → ClassId) (f : Nat → Int64) : va_E := .inl (k 1, 1, .inr (.inl f))
/-- behind a wrapper: 0 and the answer in out, or the exception's place -/
def hP (k : Nat → ClassId) (o : Nat) (f : Nat → Int64) (L : List Nat) (M : MM) (q : Int → Nat) (S : ST) (K : Int) (val : Int64) : Int → va_W → Prop := fun z w' =>
  (K = 0 ∧ z = 0 ∧ ∃ (f' : Nat → Int64) (q' : Int → Nat) (L' : List Nat) (M' : MM), w' = [(o, oE k f')] ++ pW k L' M' ∧ f' 0 = val ∧ q' 0 = q 0 ∧ CW S q' L' M') ∨ (K ≠ 0 ∧ z = K ∧ w' = [(o, oE k f)] ++ pW k L M)
def HI (l : Launch) (y : MethodName) (cc : ByteArray) (maxL : Nat) (hh : List (Nat × Nat × Nat × Nat)) (rm : Room) (D : va_G) (k : Nat → ClassId) (as : List Value) (w : va_W) (post : Int → va_W → Prop) : Prop :=
  ∀ sz, Met l y (Cond.codeWith y cc maxL (some .int) hh :: WG) rm (sw_Pc D k w sz as) (va_Qi (fun r w' => ∃ z : Int, r = J z ∧ post z w') (sw_B D w sz) (va_A w sz)) rm.cells rm.slots (va_A w sz)
theorem HI.of {l : Launch} {y : MethodName} {cc : ByteArray} {maxL : Nat} {hh : List (Nat × Nat × Nat × Nat)} {rm : Room} {D : va_G} {k : Nat → ClassId} {as : List Value} {w : va_W} {post : Int → va_W → Prop} (hy : plainName y.cls = true) (hlen : (lg_sl as).length ≤ maxL)
    (body : ∀ (p : Program) (e : Env) (s : State) (m : MethodId) (args : Array Value) (below : List Frame) (meth : Method) (c : Code) (A : Nat → Prop) (Q : State → Prop), sw_C p s m args c cc maxL y.cls WG D k A → c.exceptionTable.toList = tableOf hh →
      (∀ (pc cells slots : Nat) (z : Int) (w' : va_W) (lv : List (Nat × Value)), decode cc pc = .ok (.ireturn, 1) → cells ≤ rm.cells → slots ≤ rm.slots → post z w' → SW p l e rm s m args below meth c maxL D A cells slots Q w' pc lv [.int (J z)]) →
      SW p l e rm s m args below meth c maxL D A 0 0 Q w 0 (lv_args 0 as) []) : HI l y cc maxL hh rm D k as w post := by
  intro sz
  refine MetFree.of_bodyS (code := cc) (maxLocals := maxL) (ret := some .int) hy ?_ ?_
  · intro args s m h hn
    obtain ⟨m9, meth, c, hn9, h1, h2, h3, h4, -, h5, h6, -⟩ := Cond.codeWith_spec (atoms_spec (ws := Cond.codeWith y cc maxL (some .int) hh :: WG) h _ List.mem_cons_self)
    cases hn.symm.trans hn9
    exact ⟨meth, c, h1, h2, h3, h4, h5, h6⟩
  · intro p e s m args below meth c s₁ B hml hv _
    have hh0 : s₁.heap = s.heap := by rw [B.state]; rfl
    have htb : c.exceptionTable.toList = tableOf hh := vx_table (x := y) B (atoms_spec (ws := Cond.codeWith y cc maxL (some .int) hh :: WG) B.pre _ List.mem_cons_self)
    obtain ⟨rfl, hsz, hP, hK, hD0, hG⟩ := hv
    have hts : ∀ w ∈ WG, w.before as.toArray s = true := fun w h => atoms_spec (ws := Cond.codeWith y cc maxL (some .int) hh :: WG) B.pre w (List.mem_cons_of_mem _ h)
    have hown : s.vm.findClass y.cls = some m.cls := findClass_of_methodNamed B.named
    subst hsz
    have hl := lv_entry as hlen
    have K9 : W p l e rm s m as.toArray below meth c s.heap [] 0 0 (MQ below (va_Qi (fun r w' => ∃ z : Int, r = J z ∧ post z w') (sw_B D w s.heap.size) (va_A w s.heap.size)) as.toArray s rm.cells rm.slots (va_A w s.heap.size)) (entryFrame m as.toArray maxL) := by
      rw [lg_entry_eq]
      refine body p e s m as.toArray below meth c (va_A w s.heap.size) _ ⟨⟨B.exec, B.bytes, hml, hown, hts⟩, hK, fun q h => Or.inr h, hG⟩ htb ?_ s.heap [] _ hP hD0.self va_S.rf hl
      intro pc cells slots z w' lv hdg hc hs hp H locs ls hP1 hD1 hS1 hl1
      refine W.widen hc hs ?_
      exact W.zret B.exec B.bytes B.returns rfl (fun t ht hW => ⟨⟨J z, w', rfl, ⟨z, rfl, hp⟩, by rw [ht]; exact hP1, hD1⟩, hS1.F ht⟩) hS1.2.2 hdg B.notSynchronized
    obtain ⟨t, a1, o, b1, b2, b3⟩ := K9 s₁ hh0 (Stand.of_body B)
    exact ⟨t, o, a1, b1, b2, ⟨b3.1, b3.2⟩⟩
section HC
variable {p : Program} {l : Launch} {e : Env} {R : Room} {s : State} {m : MethodId} {args : Array Value} {below : List Frame} {meth : Method} {c : Code} {nL : Nat} {D : va_G} {A : Nat → Prop} {cells slots : Nat} {Q : State → Prop}
variable {cc : ByteArray} {own : String} {k : Nat → ClassId} {pc : Nat} {lv : List (Nat × Value)} {st : List Value} {L : List Nat} {M : MM} {w : va_W}
variable {y : MethodName} {bytes : ByteArray} {maxL index n : Nat} {ret : Option FieldType} {rm : Room} {As rest : List Value} {wr : va_W} {px : String → va_W → Prop}
theorem px_hVI {C : String} {b ci : Nat} {post : Int → va_W → Prop} (X : sw_C p s m args c cc nL own WG D k A) (hM : XI l y bytes maxL ret rm D k (.ref b :: As) (pW k L M) post px) (cw : CallW R s args own C index y bytes maxL ret (sw_ws y bytes maxL ret) rm rm.cells rm.slots n)
    (hLb : b ∈ L ∧ M 90 b 0 = (ci : Int)) (h6 : ci < 6) {q : vw_C} (hc : vwCl[ci]? = some q) (hC : q.1 = C) (hdg : decode cc pc = .ok (.invokevirtual index, 3)) (hst : st = As.reverse ++ .ref b :: rest) (hn : As.length = n) (hrest : (rest.map fun v => v.category).sum ≤ 8) (hcs : cells + rm.cells ≤ R.cells ∧ slots + rm.slots ≤ R.slots)
    (kx : ∀ (E : String) (w' : va_W), px E w' → XW p l e R s m args below meth c nL D A (cells + rm.cells) (slots + rm.slots) Q (wr ++ w') pc lv rest E)
    (kk : ∀ (z : Int) (w' : va_W), post z w' → SW p l e R s m args below meth c nL D A (cells + rm.cells) (slots + rm.slots) Q (wr ++ w') (pc + 3) lv (.int (J z) :: rest)) : SW p l e R s m args below meth c nL D A cells slots Q (wr ++ pW k L M) pc lv st := by
  intro H locs ls hP hD hS hl
  obtain ⟨i, hi⟩ := pW_get (k := k) (M := M) hLb.1
  rw [pF_o h6 hLb.2] at hi
  obtain ⟨h1, h2, h3, h4⟩ := sw_part X hP hD hS
  refine vx_calli (vx_runV (As := As) (rest := rest) X.1 (hM H.size) cw ⟨sw_blind D k _ H.size _, by rw [← hC]; exact va_recv X.2.1 h1 hc hi, sw_pre X hP hD hS _⟩ rfl hn hl.1 hst (lv_room hrest) hdg hcs) hS (fun q _ h => h3 q h) h3 (fun q _ h => h3 q h) (fun E ce q9 w' t H1 locs1 ht hvm _ hB hz hk hS1 hce hv hcl => ?_) (fun r w' t H1 locs1 ht hvm hw hB hz hk hS1 => ?_)
  · obtain ⟨hpx, hP1, hD1⟩ := hB
    rw [ht] at hP1
    obtain ⟨hP2, hD2⟩ := sw_join hP hD hk h3 hP1 hD1
    exact kx E w' hpx H1 locs1 ls q9 ce hP2 hD2 hS1 hl hce hv hcl
  · obtain ⟨z, rfl, hp⟩ := hw
    obtain ⟨hP1, hD1⟩ := hB
    rw [ht] at hP1
    obtain ⟨hP2, hD2⟩ := sw_join hP hD hk h3 hP1 hD1
    exact kk z w' hp H1 locs1 ls hP2 hD2 hS1 hl
theorem px_hVV {C : String} {b ci : Nat} {post : va_W → Prop} (X : sw_C p s m args c cc nL own WG D k A) (hM : XV l y bytes maxL ret rm D k (.ref b :: As) (pW k L M) post px) (cw : CallW R s args own C index y bytes maxL ret (sw_ws y bytes maxL ret) rm rm.cells rm.slots n)
    (hLb : b ∈ L ∧ M 90 b 0 = (ci : Int)) (h6 : ci < 6) {q : vw_C} (hc : vwCl[ci]? = some q) (hC : q.1 = C) (hdg : decode cc pc = .ok (.invokevirtual index, 3)) (hst : st = As.reverse ++ .ref b :: rest) (hn : As.length = n) (hrest : (rest.map fun v => v.category).sum ≤ 8) (hcs : cells + rm.cells ≤ R.cells ∧ slots + rm.slots ≤ R.slots)
    (kx : ∀ (E : String) (w' : va_W), px E w' → XW p l e R s m args below meth c nL D A (cells + rm.cells) (slots + rm.slots) Q (wr ++ w') pc lv rest E)
    (kk : ∀ (w' : va_W), post w' → SW p l e R s m args below meth c nL D A (cells + rm.cells) (slots + rm.slots) Q (wr ++ w') (pc + 3) lv rest) : SW p l e R s m args below meth c nL D A cells slots Q (wr ++ pW k L M) pc lv st := by
  intro H locs ls hP hD hS hl
  obtain ⟨i, hi⟩ := pW_get (k := k) (M := M) hLb.1
  rw [pF_o h6 hLb.2] at hi
  obtain ⟨h1, h2, h3, h4⟩ := sw_part X hP hD hS
  refine vx_callv (vx_runV (As := As) (rest := rest) X.1 (hM H.size) cw ⟨sw_blind D k _ H.size _, by rw [← hC]; exact va_recv X.2.1 h1 hc hi, sw_pre X hP hD hS _⟩ rfl hn hl.1 hst (lv_room hrest) hdg hcs) hS (fun q _ h => h3 q h) h3 (fun q _ h => h3 q h) (fun E ce q9 w' t H1 locs1 ht hvm _ hB hz hk hS1 hce hv hcl => ?_) (fun w' t H1 locs1 ht hvm hw hB hz hk hS1 => ?_)
  · obtain ⟨hpx, hP1, hD1⟩ := hB
    rw [ht] at hP1
    obtain ⟨hP2, hD2⟩ := sw_join hP hD hk h3 hP1 hD1
    exact kx E w' hpx H1 locs1 ls q9 ce hP2 hD2 hS1 hl hce hv hcl
  · obtain ⟨hP1, hD1⟩ := hB
    rw [ht] at hP1
    obtain ⟨hP2, hD2⟩ := sw_join hP hD hk h3 hP1 hD1
    exact kk w' hw H1 locs1 ls hP2 hD2 hS1 hl
/-- caught by the handler x, behind those of pre that don't take it -/
theorem sw_catch {E : String} (X : sw_C p s m args c cc nL own WG D k A) {hh : List (Nat × Nat × Nat × Nat)} (htb : c.exceptionTable.toList = tableOf hh) (pre : List ExceptionTableEntry) (x : ExceptionTableEntry) (suf : List ExceptionTableEntry) (hsplit : tableOf hh = pre ++ x :: suf)
    (hE : E ∈ cEx) (hpass : ∀ z ∈ pre, z.catchType ≠ 0 ∧ ∃ nm : String, Cond.classLink own z.catchType nm ∈ WG ∧ nm ∈ cEx ∧ E ≠ nm) (hx : covers x pc = true) (h0 : x.catchType ≠ 0) (hlink : Cond.classLink own x.catchType E ∈ WG)
    (kk : ∀ q : Nat, SW p l e R s m args below meth c nL D A cells slots Q w x.handlerPc lv [.ref q]) : XW p l e R s m args below meth c nL D A cells slots Q w pc lv rest E := by
  intro H locs ls q ce hP hD hS hl hce hv hcl
  refine vx_catch (own := own) (name := E) X.1.2.2.2.1 pre x suf (htb.trans hsplit) (fun z hz => Or.inr ?_) hx h0 (sw_ts X _ hlink) (va_Nw.use rfl (X.2.2.2.2.2.2.2.2.2.2.2.1 _ hE)) hce hv hcl (kk q H locs ls hP hD hS hl)
  obtain ⟨a1, nm, a2, a3, a4⟩ := hpass z hz
  exact ⟨a1, nm, sw_ts X _ a2, X.2.2.2.2.2.2.2.2.2.2.2.2.1 E hE nm a3 a4⟩
theorem sw_i2l (X : sw_C p s m args c cc nL own WG D k A) {z : Int} (hdg : decode cc pc = .ok (.i2l, 1)) (kk : SW p l e R s m args below meth c nL D A cells slots Q w (pc + 1) lv (.long (J z).toInt64 :: st)) : SW p l e R s m args below meth c nL D A cells slots Q w pc lv (.int (J z) :: st) :=
  fun H locs ls hP hD hS hl => lv_i2l X.1.1 X.1.2.1 hdg rfl (kk H locs ls hP hD hS hl)
theorem sw_lconst (X : sw_C p s m args c cc nL own WG D k A) {n : Fin 2} {v : Int64} (hdg : decode cc pc = .ok (.lconst n, 1)) (hv : Int64.ofNat (n : Nat) = v) (kk : SW p l e R s m args below meth c nL D A cells slots Q w (pc + 1) lv (.long v :: st)) : SW p l e R s m args below meth c nL D A cells slots Q w pc lv st :=
  fun H locs ls hP hD hS hl => lv_lconst X.1.1 X.1.2.1 hdg hv (kk H locs ls hP hD hS hl)
theorem sw_last (X : sw_C p s m args c cc nL own WG D k A) {o q0 : Nat} {f : Nat → Int64} {x : Int64} (he : w[q0]? = some (o, oE k f)) {w' : va_W} (hw : w.set q0 (o, oE k (vp_updL f 0 x)) = w') (hdg : decode cc pc = .ok (.lastore, 1))
    (kk : SW p l e R s m args below meth c nL D A cells slots Q w' (pc + 1) lv st) : SW p l e R s m args below meth c nL D A cells slots Q w pc lv (.long x :: .int (J 0) :: .ref o :: st) :=
  fun H locs ls hP hD hS hl => va_last X.1.1 X.1.2.1 X.2.1 hP hD hS q0 1 he rfl (J_in (Int.le_refl 0) (by decide) (by decide)) hdg (fun H locs hP hD hS => kk H locs ls (hw ▸ hP) (hw ▸ hD) hS hl)
theorem sw_lald (X : sw_C p s m args c cc nL own WG D k A) {o q0 : Nat} {f : Nat → Int64} (he : w[q0]? = some (o, oE k f)) (hdg : decode cc pc = .ok (.laload, 1))
    (kk : SW p l e R s m args below meth c nL D A cells slots Q w (pc + 1) lv (.long (f 0) :: st)) : SW p l e R s m args below meth c nL D A cells slots Q w pc lv (.int (J 0) :: .ref o :: st) :=
  fun H locs ls hP hD hS hl => va_lald X.1.1 X.1.2.1 X.2.1 hP q0 1 he rfl (J_in (Int.le_refl 0) (by decide) (by decide)) hdg (kk H locs ls hP hD hS hl)
theorem sw_lcmp (X : sw_C p s m args c cc nL own WG D k A) {x : Int64} (hdg : decode cc pc = .ok (.lcmp, 1)) (kk : SW p l e R s m args below meth c nL D A cells slots Q w (pc + 1) lv (.int (J 0) :: st)) : SW p l e R s m args below meth c nL D A cells slots Q w pc lv (.long x :: .long x :: st) := by
  intro H locs ls hP hD hS hl
  refine W.lcmp X.1.1 X.1.2.1 hdg ?_
  have e : lg_cmp x x = J 0 := by simp [lg_cmp, J]
  rw [e]
  exact kk H locs ls hP hD hS hl
end HC
