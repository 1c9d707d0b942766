/-! contracts: what a method answers, over which world; all of them need the words WG and their own code -/
theorem iw_of {C : String} {T : u_T} {N : Nat} (h : ∀ k, k < N → u_lay C T k ∈ WG) : ∀ w ∈ u_ws C T N, w ∈ WG := fun w hw => by
  obtain ⟨k, hk, rfl⟩ := List.mem_map.mp hw
  exact h k (List.mem_range.mp hk)
def sw_Pc (D : va_G) (k : Nat → ClassId) (w : va_W) (sz : Nat) (as : List Value) : Array Value → State → Prop := va_Pc as (fun U => U.heap.size = sz ∧ va_P D vwCl w U.heap ∧ va_K D vwCl (TYS k) U ∧ va_D (fun _ => True) w ∧ cG (va_A w sz) U U.heap)
theorem sw_blind (D : va_G) (k : Nat → ClassId) (w : va_W) (sz : Nat) (as : List Value) : FrameBlind (sw_Pc D k w sz as) := by
  intro a U g mk q
  obtain ⟨q0, q1, qP, qK, qD, qG⟩ := q
  exact ⟨q0, q1, qP, va_K.moved (u := U) (U := U.calling g mk a) (Vm.Alike.refl U.vm) qK, qD, cG.same (s := U) (U := U.calling g mk a) rfl qG⟩
def sw_B (D : va_G) (w : va_W) (sz : Nat) (w' : va_W) (t : State) : Prop := va_P D vwCl w' t.heap ∧ va_D (va_A w sz) w'
def sw_X (D : va_G) (w : va_W) (sz : Nat) (px : String → va_W → Prop) : String → State → State → Prop := vx_X (fun _ : va_W => True) (fun E w' t => px E w' ∧ sw_B D w sz w' t) (va_A w sz)
abbrev sw_ws (y : MethodName) (cc : ByteArray) (maxL : Nat) (ret : Option FieldType) : List Cond := .code y cc maxL ret :: WG
def CI (l : Launch) (y : MethodName) (cc : ByteArray) (maxL : Nat) (ret : Option FieldType) (rm : Room) (D : va_G) (k : Nat → ClassId) (as : List Value) (w : va_W) (post : Int → va_W → Prop) : Prop :=
  ∀ sz, Met l y (sw_ws y cc maxL ret) rm (sw_Pc D k w sz as) (va_Qi (fun r w' => ∃ z : Int, r = J z ∧ post z w') (sw_B D w sz) (va_A w sz)) rm.cells rm.slots (va_A w sz)
def CV (l : Launch) (y : MethodName) (cc : ByteArray) (maxL : Nat) (ret : Option FieldType) (rm : Room) (D : va_G) (k : Nat → ClassId) (as : List Value) (w : va_W) (post : va_W → Prop) : Prop :=
  ∀ sz, Met l y (sw_ws y cc maxL ret) rm (sw_Pc D k w sz as) (va_Qv (fun w' => post w') (sw_B D w sz) (va_A w sz)) rm.cells rm.slots (va_A w sz)
def CQ (l : Launch) (y : MethodName) (cc : ByteArray) (maxL : Nat) (ret : Option FieldType) (rm : Room) (D : va_G) (k : Nat → ClassId) (as : List Value) (w : va_W) (post : Option Nat → va_W → Prop) : Prop :=
  ∀ sz, Met l y (sw_ws y cc maxL ret) rm (sw_Pc D k w sz as) (va_Qq (fun r w' => post r w') (sw_B D w sz) (va_A w sz)) rm.cells rm.slots (va_A w sz)
def XI (l : Launch) (y : MethodName) (cc : ByteArray) (maxL : Nat) (ret : Option FieldType) (rm : Room) (D : va_G) (k : Nat → ClassId) (as : List Value) (w : va_W) (post : Int → va_W → Prop) (px : String → va_W → Prop) : Prop :=
  ∀ sz, vx_Met l y (sw_ws y cc maxL ret) rm (sw_Pc D k w sz as) (va_Qi (fun r w' => ∃ z : Int, r = J z ∧ post z w') (sw_B D w sz) (va_A w sz)) (sw_X D w sz px) rm.cells rm.slots (va_A w sz)
def XV (l : Launch) (y : MethodName) (cc : ByteArray) (maxL : Nat) (ret : Option FieldType) (rm : Room) (D : va_G) (k : Nat → ClassId) (as : List Value) (w : va_W) (post : va_W → Prop) (px : String → va_W → Prop) : Prop :=
  ∀ sz, vx_Met l y (sw_ws y cc maxL ret) rm (sw_Pc D k w sz as) (va_Qv (fun w' => post w') (sw_B D w sz) (va_A w sz)) (sw_X D w sz px) rm.cells rm.slots (va_A w sz)
def XQ (l : Launch) (y : MethodName) (cc : ByteArray) (maxL : Nat) (ret : Option FieldType) (rm : Room) (D : va_G) (k : Nat → ClassId) (as : List Value) (w : va_W) (post : Option Nat → va_W → Prop) (px : String → va_W → Prop) : Prop :=
  ∀ sz, vx_Met l y (sw_ws y cc maxL ret) rm (sw_Pc D k w sz as) (va_Qq (fun r w' => post r w') (sw_B D w sz) (va_A w sz)) (sw_X D w sz px) rm.cells rm.slots (va_A w sz)
section SWe
variable {l : Launch} {y : MethodName} {cc : ByteArray} {maxL : Nat} {rm : Room} {D : va_G} {k : Nat → ClassId} {as : List Value} {w : va_W}
/-- a body that answers an int (or a boolean, 0 or 1) -/
theorem CI.of {ret : FieldType} {post : Int → va_W → Prop} (hy : plainName y.cls = true) (hlen : (lg_sl as).length ≤ maxL)
    (body : ∀ (p : Program) (e : Env) (s : State) (m : MethodId) (args : Array Value) (below : List Frame) (meth : Method) (c : Code) (A : Nat → Prop) (Q : State → Prop), sw_C p s m args c cc maxL y.cls WG D k A →
      (∀ (pc cells slots : Nat) (z : Int) (w' : va_W) (lv : List (Nat × Value)), decode cc pc = .ok (.ireturn, 1) → cells ≤ rm.cells → slots ≤ rm.slots → narrow ret (.int (J z)) = .int (J z) → post z w' → SW p l e rm s m args below meth c maxL D A cells slots Q w' pc lv [.int (J z)]) →
      SW p l e rm s m args below meth c maxL D A 0 0 Q w 0 (lv_args 0 as) []) : CI l y cc maxL (some ret) rm D k as w post := by
  intro sz
  refine Met.ofW (cc := cc) (maxL := maxL) (ret := some ret) hy rfl ?_
  intro p e s m args below meth c s₁ B hml hv
  obtain ⟨rfl, hsz, hP, hK, hD0, hG⟩ := hv
  have hts : ∀ w ∈ WG, w.before as.toArray s = true := fun w h => atoms_spec (ws := sw_ws y cc maxL (some ret)) B.pre w (List.mem_cons_of_mem _ h)
  have hown : s.vm.findClass y.cls = some m.cls := findClass_of_methodNamed B.named
  subst hsz
  have hl := lv_entry as hlen
  rw [lg_entry_eq]
  refine body p e s m as.toArray below meth c (va_A w s.heap.size) _ ⟨⟨B.exec, B.bytes, hml, hown, hts⟩, hK, fun q h => Or.inr h, hG⟩ ?_ s.heap [] _ hP hD0.self va_S.rf hl
  intro pc cells slots z w' lv hdg hc hs hn hp H locs ls hP1 hD1 hS1 hl1
  refine W.widen hc hs ?_
  exact W.zret B.exec B.bytes B.returns hn (fun t ht hW => ⟨⟨J z, w', rfl, ⟨z, rfl, hp⟩, by rw [ht]; exact hP1, hD1⟩, hS1.F ht⟩) hS1.2.2 hdg B.notSynchronized
theorem CV.of {post : va_W → Prop} (hy : plainName y.cls = true) (hlen : (lg_sl as).length ≤ maxL)
    (body : ∀ (p : Program) (e : Env) (s : State) (m : MethodId) (args : Array Value) (below : List Frame) (meth : Method) (c : Code) (A : Nat → Prop) (Q : State → Prop), sw_C p s m args c cc maxL y.cls WG D k A → meth.name = y.name →
      (∀ (pc cells slots : Nat) (w' : va_W) (lv : List (Nat × Value)), decode cc pc = .ok (.return_, 1) → cells ≤ rm.cells → slots ≤ rm.slots → post w' → SW p l e rm s m args below meth c maxL D A cells slots Q w' pc lv []) →
      SW p l e rm s m args below meth c maxL D A 0 0 Q w 0 (lv_args 0 as) []) : CV l y cc maxL none rm D k as w post := by
  intro sz
  refine Met.ofW (cc := cc) (maxL := maxL) (ret := none) hy rfl ?_
  intro p e s m args below meth c s₁ B hml hv
  obtain ⟨rfl, hsz, hP, hK, hD0, hG⟩ := hv
  have hts : ∀ w ∈ WG, w.before as.toArray s = true := fun w h => atoms_spec (ws := sw_ws y cc maxL none) B.pre w (List.mem_cons_of_mem _ h)
  have hown : s.vm.findClass y.cls = some m.cls := findClass_of_methodNamed B.named
  subst hsz
  have hl := lv_entry as hlen
  rw [lg_entry_eq]
  refine body p e s m as.toArray below meth c (va_A w s.heap.size) _ ⟨⟨B.exec, B.bytes, hml, hown, hts⟩, hK, fun q h => Or.inr h, hG⟩ (name_of_methodNamed B.named B.method).1 ?_ s.heap [] _ hP hD0.self va_S.rf hl
  intro pc cells slots w' lv hdg hc hs hp H locs ls hP1 hD1 hS1 hl1
  refine W.widen hc hs ?_
  exact W.vret B.exec B.bytes B.returns (fun t ht hW => ⟨⟨w', rfl, hp, by rw [ht]; exact hP1, hD1⟩, hS1.F ht⟩) hS1.2.2 hdg B.notSynchronized
theorem sw_rf (r : Option Nat) : va_rf r = .null ∨ ∃ a, va_rf r = .ref a := by
  cases r with
  | none => exact Or.inl rfl
  | some a => exact Or.inr ⟨a, rfl⟩
theorem CQ.of {C : String} {post : Option Nat → va_W → Prop} (hy : plainName y.cls = true) (hlen : (lg_sl as).length ≤ maxL)
    (body : ∀ (p : Program) (e : Env) (s : State) (m : MethodId) (args : Array Value) (below : List Frame) (meth : Method) (c : Code) (A : Nat → Prop) (Q : State → Prop), sw_C p s m args c cc maxL y.cls WG D k A →
      (∀ (pc cells slots : Nat) (r : Option Nat) (w' : va_W) (lv : List (Nat × Value)), decode cc pc = .ok (.areturn, 1) → cells ≤ rm.cells → slots ≤ rm.slots → post r w' → SW p l e rm s m args below meth c maxL D A cells slots Q w' pc lv [va_rf r]) →
      SW p l e rm s m args below meth c maxL D A 0 0 Q w 0 (lv_args 0 as) []) : CQ l y cc maxL (some (.object C)) rm D k as w post := by
  intro sz
  refine Met.ofW (cc := cc) (maxL := maxL) (ret := some (.object C)) hy rfl ?_
  intro p e s m args below meth c s₁ B hml hv
  obtain ⟨rfl, hsz, hP, hK, hD0, hG⟩ := hv
  have hts : ∀ w ∈ WG, w.before as.toArray s = true := fun w h => atoms_spec (ws := sw_ws y cc maxL (some (.object C))) B.pre w (List.mem_cons_of_mem _ h)
  have hown : s.vm.findClass y.cls = some m.cls := findClass_of_methodNamed B.named
  subst hsz
  have hl := lv_entry as hlen
  rw [lg_entry_eq]
  refine body p e s m as.toArray below meth c (va_A w s.heap.size) _ ⟨⟨B.exec, B.bytes, hml, hown, hts⟩, hK, fun q h => Or.inr h, hG⟩ ?_ s.heap [] _ hP hD0.self va_S.rf hl
  intro pc cells slots r w' lv hdg hc hs hp H locs ls hP1 hD1 hS1 hl1
  refine W.widen hc hs ?_
  exact W.aret B.exec B.bytes B.returns (Or.inl ⟨_, rfl⟩) (sw_rf r) (fun t ht hW => ⟨⟨r, w', rfl, hp, by rw [ht]; exact hP1, hD1⟩, hS1.F ht⟩) hS1.2.2 hdg B.notSynchronized
end SWe
/-! calls -/
theorem sw_goodV {own C : String} {index : Nat} {y : MethodName} {bytes : ByteArray} {maxL : Nat} {ret : Option FieldType} (h1 : Cond.methodLink own index y ∈ WG) (h2 : Cond.instanceMethod y ∈ WG) (h3 : Cond.selects C y y ∈ WG) (h4 : Cond.initialized C ∈ WG) (h5 : Cond.code y bytes maxL ret ∈ WG) : GoodIn WG (wsV own index C y (sw_ws y bytes maxL ret)) := by
  have key : ∀ w ∈ wsV own index C y (sw_ws y bytes maxL ret), w ∈ WG := by
    intro w hw
    simp only [wsV, sw_ws, List.cons_append, List.nil_append, List.mem_cons] at hw
    rcases hw with rfl | rfl | rfl | rfl | rfl | hw
    · exact h1
    · exact h2
    · exact h3
    · exact h4
    · exact h5
    · exact hw
  exact fun w hw => ⟨key w hw, good_of_word (WG_good w (key w hw))⟩
theorem sw_goodS {own : String} {index : Nat} {y : MethodName} {bytes : ByteArray} {maxL : Nat} {ret : Option FieldType} (h1 : Cond.methodLink own index y ∈ WG) (h2 : Cond.static y ∈ WG) (h4 : Cond.initialized y.cls ∈ WG) (h5 : Cond.code y bytes maxL ret ∈ WG) : GoodIn WG (va_wsS own index y (sw_ws y bytes maxL ret)) := by
  have key : ∀ w ∈ va_wsS own index y (sw_ws y bytes maxL ret), w ∈ WG := by
    intro w hw
    simp only [va_wsS, sw_ws, List.cons_append, List.nil_append, List.mem_cons] at hw
    rcases hw with rfl | rfl | rfl | rfl | hw
    · exact h1
    · exact h2
    · exact h4
    · exact h5
    · exact hw
  exact fun w hw => ⟨key w hw, good_of_word (WG_good w (key w hw))⟩
theorem sw_getR {wr wc : va_W} {i : Nat} {q : Nat × va_E} (h : wc[i]? = some q) : (wr ++ wc)[wr.length + i]? = some q := by
  rw [List.getElem?_append_right (Nat.le_add_right _ _), Nat.add_sub_cancel_left]
  exact h
theorem sw_getL {wr wc : va_W} {i : Nat} {q : Nat × va_E} (h : wr[i]? = some q) : (wr ++ wc)[i]? = some q := by
  rw [List.getElem?_append_left (List.getElem?_eq_some_iff.mp h).1]
  exact h
theorem sw_join {A : Nat → Prop} {D : va_G} {cl : List vw_C} {wr wc w' : va_W} {H H1 : Heap} (hP : va_P D cl (wr ++ wc) H) (hD : va_D A (wr ++ wc)) (hk : ∀ q : Nat, q < H.size → ¬ va_A wc H.size q → H1[q]? = H[q]?) (hF : ∀ q, va_A wc H.size q → A q) (hP1 : va_P D cl w' H1) (hD1 : va_D (va_A wc H.size) w') : va_P D cl (wr ++ w') H1 ∧ va_D A (wr ++ w') := by
  have apart : ∀ (i : Nat) (q : Nat × va_E), wr[i]? = some q → q.1 < H.size ∧ ¬ va_A wc H.size q.1 := by
    intro i q hq
    have hl := (hP i q (sw_getL hq)).lt
    refine ⟨hl, fun h => ?_⟩
    rcases h with ⟨k2, e, h⟩ | h
    · have h3 := hD.1 i (wr.length + k2) q (q.1, e) (sw_getL hq) (sw_getR h) rfl
      have h4 := (List.getElem?_eq_some_iff.mp hq).1
      omega
    · omega
  refine ⟨va_P.app (fun i q hq => ?_) hP1, va_D.app ⟨fun i j p q hp hq he => hD.1 i j p q (sw_getL hp) (sw_getL hq) he, fun i q hq => hD.2 i q (sw_getL hq)⟩ (hD1.weaken (fun i q _ h => hF q.1 h)) (fun i j x y hx hy hxy => ?_)⟩
  · obtain ⟨g1, g2⟩ := apart i q hq
    exact (hP i q (sw_getL hq)).kept (hk q.1 g1 g2)
  · exact (apart i x hx).2 (by rw [hxy]; exact hD1.2 j y hy)
section SWc
variable {p : Program} {l : Launch} {e : Env} {R : Room} {s : State} {m : MethodId} {args : Array Value} {below : List Frame} {meth : Method} {c : Code} {nL : Nat} {D : va_G} {A : Nat → Prop} {cells slots : Nat} {Q : State → Prop}
variable {cc : ByteArray} {own : String} {k : Nat → ClassId} {pc : Nat} {lv : List (Nat × Value)} {st : List Value}
variable {y : MethodName} {bytes : ByteArray} {maxL index n : Nat} {ret : Option FieldType} {rm : Room} {As rest : List Value} {wr wc : va_W}
/-- the call's part of the world, and what it may write -/
theorem sw_part {Ts : List Cond} {H : Heap} {locs : List Loc} (X : sw_C p s m args c cc nL own Ts D k A) (hP : va_P D vwCl (wr ++ wc) H) (hD : va_D A (wr ++ wc)) (hS : va_S A s.heap H locs) : va_P D vwCl wc H ∧ va_D A wc ∧ (∀ q, va_A wc H.size q → A q) ∧ cG (va_A wc H.size) s H := by
  have h1 : va_P D vwCl wc H := fun i q hq => hP _ q (sw_getR hq)
  have h2 : va_D A wc := ⟨fun i j p q hp hq he => by
    have := hD.1 _ _ p q (sw_getR (wr := wr) hp) (sw_getR (wr := wr) hq) he
    omega, fun i q hq => hD.2 _ q (sw_getR hq)⟩
  have h3 : ∀ q, va_A wc H.size q → A q := by
    intro q h
    rcases h with ⟨i, e, h⟩ | h
    · exact h2.2 i (q, e) h
    · exact X.2.2.1 q (Nat.le_trans hS.1 h)
  exact ⟨h1, h2, h3, (X.2.2.2.kept hS.2.1).narrow h3⟩
theorem sw_pre {Ts : List Cond} {H : Heap} {locs : List Loc} (X : sw_C p s m args c cc nL own Ts D k A) (hP : va_P D vwCl (wr ++ wc) H) (hD : va_D A (wr ++ wc)) (hS : va_S A s.heap H locs) (as : List Value) : ∀ U : State, U.heap = H → s.WarmedH U.vm → sw_Pc D k wc H.size as as.toArray U := by
  intro U hU hW
  obtain ⟨h1, h2, h3, h4⟩ := sw_part X hP hD hS
  exact ⟨rfl, by rw [hU], by rw [hU]; exact h1, va_K.moved hW.alike X.2.1, h2.weaken (fun _ _ _ _ => trivial), by rw [hU]; exact cG.moved hW h4⟩
theorem sw_callVI {C : String} {b : Nat} {post : Int → va_W → Prop} (X : sw_C p s m args c cc nL own WG D k A) (hM : CI l y bytes maxL ret rm D k (.ref b :: As) wc post) (cw : CallW R s args own C index y bytes maxL ret (sw_ws y bytes maxL ret) rm rm.cells rm.slots n)
    (q0 : Nat) {ci : Nat} {q : vw_C} {fs : List Value} (hc : vwCl[ci]? = some q) (he : wc[q0]? = some (b, .inr (ci, fs))) (hC : q.1 = C) (hdg : decode cc pc = .ok (.invokevirtual index, 3)) (hst : st = As.reverse ++ .ref b :: rest) (hn : As.length = n) (hrest : (rest.map fun v => v.category).sum ≤ 8) (hcs : cells + rm.cells ≤ R.cells ∧ slots + rm.slots ≤ R.slots)
    (kk : ∀ (z : Int) (w' : va_W), post z w' → SW p l e R s m args below meth c nL D A (cells + rm.cells) (slots + rm.slots) Q (wr ++ w') (pc + 3) lv (.int (J z) :: rest)) : SW p l e R s m args below meth c nL D A cells slots Q (wr ++ wc) pc lv st := by
  intro H locs ls hP hD hS hl
  obtain ⟨h1, h2, h3, h4⟩ := sw_part X hP hD hS
  refine va_calli (va_runV (As := As) (rest := rest) X.1 (hM H.size) cw ⟨sw_blind D k wc H.size _, by rw [← hC]; exact va_recv X.2.1 h1 hc he, sw_pre X hP hD hS _⟩ rfl hn hl.1 hst (lv_room hrest) hdg hcs) hS (fun q _ h => h3 q h) h3 (fun r w' t H1 locs1 ht hvm hw hB hz hk hS1 => ?_)
  obtain ⟨z, rfl, hp⟩ := hw
  obtain ⟨hP1, hD1⟩ := hB
  rw [ht] at hP1
  obtain ⟨hP2, hD2⟩ := sw_join hP hD hk h3 hP1 hD1
  exact kk z w' hp H1 locs1 ls hP2 hD2 hS1 hl
theorem sw_callVV {C : String} {b : Nat} {post : va_W → Prop} (X : sw_C p s m args c cc nL own WG D k A) (hM : CV l y bytes maxL ret rm D k (.ref b :: As) wc post) (cw : CallW R s args own C index y bytes maxL ret (sw_ws y bytes maxL ret) rm rm.cells rm.slots n)
    (q0 : Nat) {ci : Nat} {q : vw_C} {fs : List Value} (hc : vwCl[ci]? = some q) (he : wc[q0]? = some (b, .inr (ci, fs))) (hC : q.1 = C) (hdg : decode cc pc = .ok (.invokevirtual index, 3)) (hst : st = As.reverse ++ .ref b :: rest) (hn : As.length = n) (hrest : (rest.map fun v => v.category).sum ≤ 8) (hcs : cells + rm.cells ≤ R.cells ∧ slots + rm.slots ≤ R.slots)
    (kk : ∀ (w' : va_W), post w' → SW p l e R s m args below meth c nL D A (cells + rm.cells) (slots + rm.slots) Q (wr ++ w') (pc + 3) lv rest) : SW p l e R s m args below meth c nL D A cells slots Q (wr ++ wc) pc lv st := by
  intro H locs ls hP hD hS hl
  obtain ⟨h1, h2, h3, h4⟩ := sw_part X hP hD hS
  refine va_callv (va_runV (As := As) (rest := rest) X.1 (hM H.size) cw ⟨sw_blind D k wc H.size _, by rw [← hC]; exact va_recv X.2.1 h1 hc he, sw_pre X hP hD hS _⟩ rfl hn hl.1 hst (lv_room hrest) hdg hcs) hS (fun q _ h => h3 q h) h3 (fun w' t H1 locs1 ht hvm hw hB hz hk hS1 => ?_)
  obtain ⟨hP1, hD1⟩ := hB
  rw [ht] at hP1
  obtain ⟨hP2, hD2⟩ := sw_join hP hD hk h3 hP1 hD1
  exact kk w' hw H1 locs1 ls hP2 hD2 hS1 hl
theorem sw_callVQ {C : String} {b : Nat} {post : Option Nat → va_W → Prop} (X : sw_C p s m args c cc nL own WG D k A) (hM : CQ l y bytes maxL ret rm D k (.ref b :: As) wc post) (cw : CallW R s args own C index y bytes maxL ret (sw_ws y bytes maxL ret) rm rm.cells rm.slots n)
    (q0 : Nat) {ci : Nat} {q : vw_C} {fs : List Value} (hc : vwCl[ci]? = some q) (he : wc[q0]? = some (b, .inr (ci, fs))) (hC : q.1 = C) (hdg : decode cc pc = .ok (.invokevirtual index, 3)) (hst : st = As.reverse ++ .ref b :: rest) (hn : As.length = n) (hrest : (rest.map fun v => v.category).sum ≤ 8) (hcs : cells + rm.cells ≤ R.cells ∧ slots + rm.slots ≤ R.slots)
    (kk : ∀ (r : Option Nat) (w' : va_W), post r w' → SW p l e R s m args below meth c nL D A (cells + rm.cells) (slots + rm.slots) Q (wr ++ w') (pc + 3) lv (va_rf r :: rest)) : SW p l e R s m args below meth c nL D A cells slots Q (wr ++ wc) pc lv st := by
  intro H locs ls hP hD hS hl
  obtain ⟨h1, h2, h3, h4⟩ := sw_part X hP hD hS
  refine va_callq (va_runV (As := As) (rest := rest) X.1 (hM H.size) cw ⟨sw_blind D k wc H.size _, by rw [← hC]; exact va_recv X.2.1 h1 hc he, sw_pre X hP hD hS _⟩ rfl hn hl.1 hst (lv_room hrest) hdg hcs) hS (fun q _ h => h3 q h) h3 (fun r w' t H1 locs1 ht hvm hw hB hz hk hS1 => ?_)
  obtain ⟨hP1, hD1⟩ := hB
  rw [ht] at hP1
  obtain ⟨hP2, hD2⟩ := sw_join hP hD hk h3 hP1 hD1
  exact kk r w' hw H1 locs1 ls hP2 hD2 hS1 hl
theorem sw_callSI {post : Int → va_W → Prop} (X : sw_C p s m args c cc nL own WG D k A) (hM : CI l y bytes maxL ret rm D k As wc post) (cw : CallB R s args own index y bytes maxL ret (sw_ws y bytes maxL ret) rm rm.cells rm.slots n ∧ (Cond.static y).before args s = true)
    (hdg : decode cc pc = .ok (.invokestatic index, 3)) (hst : st = As.reverse ++ rest) (hn : As.length = n) (hrest : (rest.map fun v => v.category).sum ≤ 8) (hcs : cells + rm.cells ≤ R.cells ∧ slots + rm.slots ≤ R.slots)
    (kk : ∀ (z : Int) (w' : va_W), post z w' → SW p l e R s m args below meth c nL D A (cells + rm.cells) (slots + rm.slots) Q (wr ++ w') (pc + 3) lv (.int (J z) :: rest)) : SW p l e R s m args below meth c nL D A cells slots Q (wr ++ wc) pc lv st := by
  intro H locs ls hP hD hS hl
  obtain ⟨h1, h2, h3, h4⟩ := sw_part X hP hD hS
  refine va_calli (va_runS (As := As) (rest := rest) X.1 (hM H.size) cw ⟨sw_blind D k wc H.size _, sw_pre X hP hD hS _⟩ rfl hn hl.1 hst (lv_room hrest) hdg hcs) hS (fun q _ h => h3 q h) h3 (fun r w' t H1 locs1 ht hvm hw hB hz hk hS1 => ?_)
  obtain ⟨z, rfl, hp⟩ := hw
  obtain ⟨hP1, hD1⟩ := hB
  rw [ht] at hP1
  obtain ⟨hP2, hD2⟩ := sw_join hP hD hk h3 hP1 hD1
  exact kk z w' hp H1 locs1 ls hP2 hD2 hS1 hl
theorem sw_callIV {b : Nat} {post : va_W → Prop} (X : sw_C p s m args c cc nL own WG D k A) (hM : CV l y bytes maxL none rm D k (.ref b :: As) wc post) (cw : CallB R s args own index y bytes maxL none (sw_ws y bytes maxL none) rm rm.cells rm.slots n ∧ y.name = "<init>" ∧ (Cond.instanceMethod y).before args s = true)
    (hdg : decode cc pc = .ok (.invokespecial index, 3)) (hst : st = As.reverse ++ .ref b :: rest) (hn : As.length = n) (hrest : (rest.map fun v => v.category).sum ≤ 8) (hcs : cells + rm.cells ≤ R.cells ∧ slots + rm.slots ≤ R.slots)
    (kk : ∀ (w' : va_W), post w' → SW p l e R s m args below meth c nL D A (cells + rm.cells) (slots + rm.slots) Q (wr ++ w') (pc + 3) lv rest) : SW p l e R s m args below meth c nL D A cells slots Q (wr ++ wc) pc lv st := by
  intro H locs ls hP hD hS hl
  obtain ⟨h1, h2, h3, h4⟩ := sw_part X hP hD hS
  refine va_callv (va_runI (As := As) (rest := rest) X.1 (hM H.size) cw ⟨sw_blind D k wc H.size _, sw_pre X hP hD hS _⟩ rfl hn hl.1 hst (lv_room hrest) hdg hcs) hS (fun q _ h => h3 q h) h3 (fun w' t H1 locs1 ht hvm hw hB hz hk hS1 => ?_)
  obtain ⟨hP1, hD1⟩ := hB
  rw [ht] at hP1
  obtain ⟨hP2, hD2⟩ := sw_join hP hD hk h3 hP1 hD1
  exact kk w' hw H1 locs1 ls hP2 hD2 hS1 hl
end SWc
