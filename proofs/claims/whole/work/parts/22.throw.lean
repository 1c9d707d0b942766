/-! methods that may throw -/
/-! ===== BEGIN .. of methods that hand back an object of the pool ===== -/
section
variable {p : Program} {l : Launch} {e : Env} {R : Room} {s : State} {m : MethodId} {args : Array Value} {below : List Frame} {meth : Method} {c : Code} {H : Heap} {locs : List Loc} {cells slots : Nat} {Q : State → Prop}
variable {mc ms : Nat} {free : Addr → Prop} {A0 A1 : Nat → Prop} {H0 : Heap} {a : Array Value} {pc : Nat} {ls : Array Slot} {st0 rest : List Value}
theorem vx_callq {S SX : Type} {post : Option Nat → S → Prop} {px : SX → Prop} {B : S → State → Prop} {BX : String → SX → State → Prop} {AX : Nat → Prop} (hr : vx_Run p l e R s m args below meth c H locs cells slots mc ms (F0 m pc ls st0) rest (va_Qq post B A1 a) (vx_X px BX AX) free) (hS : va_S A0 H0 H locs) (hA : ∀ q, q < H.size → A1 q → A0 q) (hf : ∀ q, free q → A0 q) (hAX : ∀ q, q < H.size → AX q → A0 q)
    (kx : ∀ (E : String) (ce : Cell) (q9 : Addr) (u : SX) (t : State) (H1 : Heap) (locs1 : List Loc), t.heap = H1 → s.vm.Alike t.vm → px u → BX E u t → H.size ≤ H1.size → (∀ q : Nat, q < H.size → ¬ AX q → H1[q]? = H[q]?) → va_S A0 H0 H1 locs1 → H1[q9]? = some ce → ce.vm = .none → s.vm.findClass E = some ce.cls → vx_W p l e R s m args below meth c H1 locs1 (cells + mc) (slots + ms) Q (F0 m pc ls rest) q9)
    (kk : ∀ (r : Option Nat) (u : S) (t : State) (H1 : Heap) (locs1 : List Loc), t.heap = H1 → s.vm.Alike t.vm → post r u → B u t → H.size ≤ H1.size → (∀ q : Nat, q < H.size → ¬ A1 q → H1[q]? = H[q]?) → va_S A0 H0 H1 locs1 → W p l e R s m args below meth c H1 locs1 (cells + mc) (slots + ms) Q (F0 m (pc + 3) ls (va_rf r :: rest))) : W p l e R s m args below meth c H locs cells slots Q (F0 m pc ls st0) := by
  intro T hT X
  rcases hr T hT X with ⟨v, st₀, t, T', L, h0, X', hL, e1, e2, ⟨⟨r, u, hv, hp, hb⟩, hF⟩, st⟩ | ⟨q, st₀, t, T', L, E, ce, h0, X', hL, e1, e2, ⟨u, hp, hb, hF⟩, hce, hcv, hcl, st⟩
  · cases hv
    obtain ⟨k1, k2, k3⟩ := vx_keep h0 e1 hS hA hf hL hF
    obtain ⟨t2, a1, b1⟩ := kk r u t T'.heap (locs ++ L) e1.symm (by rw [← e2]; exact X'.warmed.alike) hp hb k1 k2 k3 T' rfl X'
    exact ⟨t2, st t2 a1, b1⟩
  · obtain ⟨k1, k2, k3⟩ := vx_keep h0 e1 hS hAX hf hL hF
    obtain ⟨t2, a1, b1⟩ := kx E ce q u t T'.heap (locs ++ L) e1.symm (by rw [← e2]; exact X'.warmed.alike) hp hb k1 k2 k3 (by rw [e1]; exact hce) hcv hcl T' rfl X'
    exact ⟨t2, st.trans a1, b1⟩
end
/-! ===== END ===== -/
def XW (p : Program) (l : Launch) (e : Env) (R : Room) (s : State) (m : MethodId) (args : Array Value) (below : List Frame) (meth : Method) (c : Code) (nL : Nat) (D : va_G) (A : Nat → Prop) (cells slots : Nat) (Q : State → Prop) (w : va_W) (pc : Nat) (lv : List (Nat × Value)) (rest : List Value) (E : String) : Prop :=
  ∀ (H : Heap) (locs : List Loc) (ls : Array Slot) (q : Addr) (ce : Cell), va_P D vwCl w H → va_D A w → va_S A s.heap H locs → lv_has ls nL lv → H[q]? = some ce → ce.vm = .none → s.vm.findClass E = some ce.cls → vx_W p l e R s m args below meth c H locs cells slots Q (F0 m pc ls rest) q
abbrev thN : List String := ["java/lang/RuntimeException", "java/lang/Exception"]
section XE
variable {l : Launch} {y : MethodName} {cc : ByteArray} {maxL : Nat} {rm : Room} {D : va_G} {k : Nat → ClassId} {as : List Value} {w : va_W} {px : String → va_W → Prop}
/-- what a throwing body may use at its ends: going on with a callee's exception; throwing one itself -/
def XO (l : Launch) (cc : ByteArray) (maxL : Nat) (rm : Room) (D : va_G) (p : Program) (e : Env) (s : State) (m : MethodId) (args : Array Value) (below : List Frame) (meth : Method) (c : Code) (A : Nat → Prop) (Q : State → Prop) (px : String → va_W → Prop) : Prop :=
  ∀ (pc cells slots : Nat) (E : String) (w' : va_W) (lv : List (Nat × Value)) (rest : List Value), cells ≤ rm.cells → slots ≤ rm.slots → px E w' → XW p l e rm s m args below meth c maxL D A cells slots Q w' pc lv rest E
def XT (l : Launch) (cc : ByteArray) (maxL : Nat) (rm : Room) (D : va_G) (p : Program) (e : Env) (s : State) (m : MethodId) (args : Array Value) (below : List Frame) (meth : Method) (c : Code) (A : Nat → Prop) (Q : State → Prop) (px : String → va_W → Prop) : Prop :=
  ∀ (pc cells slots ik is ic : Nat) (cls text : String) (w' : va_W) (lv : List (Nat × Value)) (rest : List Value), Bundle.fit cls = true → (is, text) ∈ cTx → Cond.classLink RX5 ik cls ∈ WG → Cond.initialized cls ∈ WG →
    (∀ w ∈ (vx_atS RX5 ic cls thN).filter goodWord, w ∈ lw_tbl) → (∀ w ∈ (vx_atS RX5 ic cls thN).filter (fun w => !goodWord w), w ∈ Cond.castable cls cls :: cDe.map Cond.declares) → cls ∈ cEx →
    (∀ w ∈ Cond.classLink RX5 ik cls :: Cond.initialized cls :: vx_atS RX5 ic cls thN, vx_ot w = true) →
    decode cc pc = .ok (.new ik, 3) → decode cc (pc + 3) = .ok (.dup, 1) → decode cc (pc + 4) = .ok (.ldc is, 2) → decode cc (pc + 6) = .ok (.invokespecial ic, 3) → decode cc (pc + 9) = .ok (.athrow, 1) →
    5 < rm.frames → (rest.map fun v => v.category).sum + 82 ≤ rm.locals → cells + 1 ≤ rm.cells → slots + 6 ≤ rm.slots → px cls w' → SW p l e rm s m args below meth c maxL D A cells slots Q w' pc lv rest
theorem XO.of {Qc : Array Value → State → Outcome → State → Prop} {p : Program} {e : Env} {s : State} {m : MethodId} {args : Array Value} {below : List Frame} {meth : Method} {c : Code} (ht : ∀ x ∈ c.exceptionTable.toList, False) (hlocks : meth.locks = false) : XO l cc maxL rm D p e s m args below meth c (va_A w s.heap.size) (vx_MQ below Qc (sw_X D w s.heap.size px) args s rm.cells rm.slots (va_A w s.heap.size)) px := by
  intro pc cells slots E w' lv rest hc hs hpx H locs ls q ce hP hD hS hl hce hv hcl
  exact vx_out (fun x hx => (ht x hx).elim) hlocks hce hv hcl (fun t ht hvm => ⟨w', trivial, ⟨hpx, by rw [ht]; exact hP, hD⟩, hS.F ht⟩) hS.2.2 hc hs
theorem XT.of {Qc : Array Value → State → Outcome → State → Prop} {p : Program} {e : Env} {s : State} {m : MethodId} {args : Array Value} {below : List Frame} {meth : Method} {c : Code} (hfl : l.stackTraces = false) (X : sw_C p s m args c cc maxL RX5 WG D k (va_A w s.heap.size)) (ht : ∀ x ∈ c.exceptionTable.toList, False) (hlocks : meth.locks = false) : XT l cc maxL rm D p e s m args below meth c (va_A w s.heap.size) (vx_MQ below Qc (sw_X D w s.heap.size px) args s rm.cells rm.slots (va_A w s.heap.size)) px := by
  intro pc cells slots ik is ic cls text w' lv rest hfit htx hk hini hg hng hex hot d0 d3 d4 d6 d9 hfr hlo hc hs hpx H locs ls hP hD hS hl
  obtain ⟨sa, hsa⟩ := X.2.2.2.2.2.2.2.1 _ htx
  have hat : ∀ w ∈ vx_atS RX5 ic cls thN, w.before args s = true := by
    intro w hw
    by_cases g : goodWord w = true
    · exact sw_ts X w (List.mem_filter.mpr ⟨hg w (List.mem_filter.mpr ⟨hw, g⟩), g⟩)
    · have h2 := hng w (List.mem_filter.mpr ⟨hw, by cases hgw : goodWord w; rfl; exact absurd hgw g⟩)
      rcases List.mem_cons.mp h2 with h3 | h3
      · rw [h3]
        exact va_Nw.use rfl (X.2.2.2.2.2.2.2.2.2.2.2.1 _ hex)
      · obtain ⟨y, hy, rfl⟩ := List.mem_map.mp h3
        exact va_Nw.use rfl (X.2.2.2.2.2.2.2.2.2.2.2.2.2 y hy)
  exact vx_throwS (names := thN) X.1.1 X.1.2.1 hfl X.1.2.2.2.1 hfit (by decide +kernel) (sw_ts X _ hk) (sw_ts X _ hini) hsa hat hot X.2.2.2.1 X.2.2.2.2.1 hS (hl.1.trans X.1.2.2.1.symm) d0 d3 d4 d6 d9 (fun x hx => (ht x hx).elim) hfr hlo (by omega) (by omega) hlocks
    (fun t hvm hsz hk2 => ⟨w', trivial, ⟨hpx, hP.kept (fun i q hq => hk2 q.1 (hP i q hq).lt), hD⟩, ⟨Nat.le_trans hS.1 hsz, fun q h1 h2 => (hk2 q (Nat.lt_of_lt_of_le h1 hS.1)).trans (hS.2.1 q h1 h2)⟩⟩) hS.2.2 hc hs
theorem XI.of {ret : FieldType} {post : Int → va_W → Prop} (hfl : l.stackTraces = false) (hy : plainName y.cls = true) (hy5 : y.cls = RX5) (hlen : (lg_sl as).length ≤ maxL)
    (body : ∀ (p : Program) (e : Env) (s : State) (m : MethodId) (args : Array Value) (below : List Frame) (meth : Method) (c : Code) (A : Nat → Prop) (Q : State → Prop), sw_C p s m args c cc maxL RX5 WG D k A →
      (∀ (pc cells slots : Nat) (z : Int) (w' : va_W) (lv : List (Nat × Value)), decode cc pc = .ok (.ireturn, 1) → cells ≤ rm.cells → slots ≤ rm.slots → narrow ret (.int (J z)) = .int (J z) → post z w' → SW p l e rm s m args below meth c maxL D A cells slots Q w' pc lv [.int (J z)]) →
      XO l cc maxL rm D p e s m args below meth c A Q px → XT l cc maxL rm D p e s m args below meth c A Q px → SW p l e rm s m args below meth c maxL D A 0 0 Q w 0 (lv_args 0 as) []) : XI l y cc maxL (some ret) rm D k as w post px := by
  intro sz
  refine vx_ofW (cc := cc) (maxL := maxL) (ret := some ret) hy rfl ?_
  intro p e s m args below meth c s₁ B hml ht hv
  obtain ⟨rfl, hsz, hP, hK, hD0, hG⟩ := hv
  have hts : ∀ w ∈ WG, w.before as.toArray s = true := fun w h => atoms_spec (ws := sw_ws y cc maxL (some ret)) B.pre w (List.mem_cons_of_mem _ h)
  have hown : s.vm.findClass RX5 = some m.cls := by rw [← hy5]; exact findClass_of_methodNamed B.named
  subst hsz
  have hl := lv_entry as hlen
  rw [lg_entry_eq]
  have X : sw_C p s m as.toArray c cc maxL RX5 WG D k (va_A w s.heap.size) := ⟨⟨B.exec, B.bytes, hml, hown, hts⟩, hK, fun q h => Or.inr h, hG⟩
  refine body p e s m as.toArray below meth c (va_A w s.heap.size) _ X ?_ (XO.of ht B.notSynchronized) (XT.of hfl X ht B.notSynchronized) s.heap [] _ hP hD0.self va_S.rf hl
  intro pc cells slots z w' lv hdg hc hs hn hp H locs ls hP1 hD1 hS1 hl1
  refine W.widen hc hs (vx_ret ?_)
  exact W.zret B.exec B.bytes B.returns hn (fun t ht hW => ⟨⟨J z, w', rfl, ⟨z, rfl, hp⟩, by rw [ht]; exact hP1, hD1⟩, hS1.F ht⟩) hS1.2.2 hdg B.notSynchronized
theorem XV.of {post : va_W → Prop} (hfl : l.stackTraces = false) (hy : plainName y.cls = true) (hy5 : y.cls = RX5) (hlen : (lg_sl as).length ≤ maxL)
    (body : ∀ (p : Program) (e : Env) (s : State) (m : MethodId) (args : Array Value) (below : List Frame) (meth : Method) (c : Code) (A : Nat → Prop) (Q : State → Prop), sw_C p s m args c cc maxL RX5 WG D k A →
      (∀ (pc cells slots : Nat) (w' : va_W) (lv : List (Nat × Value)), decode cc pc = .ok (.return_, 1) → cells ≤ rm.cells → slots ≤ rm.slots → post w' → SW p l e rm s m args below meth c maxL D A cells slots Q w' pc lv []) →
      XO l cc maxL rm D p e s m args below meth c A Q px → XT l cc maxL rm D p e s m args below meth c A Q px → SW p l e rm s m args below meth c maxL D A 0 0 Q w 0 (lv_args 0 as) []) : XV l y cc maxL none rm D k as w post px := by
  intro sz
  refine vx_ofW (cc := cc) (maxL := maxL) (ret := none) hy rfl ?_
  intro p e s m args below meth c s₁ B hml ht hv
  obtain ⟨rfl, hsz, hP, hK, hD0, hG⟩ := hv
  have hts : ∀ w ∈ WG, w.before as.toArray s = true := fun w h => atoms_spec (ws := sw_ws y cc maxL none) B.pre w (List.mem_cons_of_mem _ h)
  have hown : s.vm.findClass RX5 = some m.cls := by rw [← hy5]; exact findClass_of_methodNamed B.named
  subst hsz
  have hl := lv_entry as hlen
  rw [lg_entry_eq]
  have X : sw_C p s m as.toArray c cc maxL RX5 WG D k (va_A w s.heap.size) := ⟨⟨B.exec, B.bytes, hml, hown, hts⟩, hK, fun q h => Or.inr h, hG⟩
  refine body p e s m as.toArray below meth c (va_A w s.heap.size) _ X ?_ (XO.of ht B.notSynchronized) (XT.of hfl X ht B.notSynchronized) s.heap [] _ hP hD0.self va_S.rf hl
  intro pc cells slots w' lv hdg hc hs hp H locs ls hP1 hD1 hS1 hl1
  refine W.widen hc hs (vx_ret ?_)
  exact W.vret B.exec B.bytes B.returns (fun t ht hW => ⟨⟨w', rfl, hp, by rw [ht]; exact hP1, hD1⟩, hS1.F ht⟩) hS1.2.2 hdg B.notSynchronized
theorem XQ.of {C : String} {post : Option Nat → va_W → Prop} (hfl : l.stackTraces = false) (hy : plainName y.cls = true) (hy5 : y.cls = RX5) (hlen : (lg_sl as).length ≤ maxL)
    (body : ∀ (p : Program) (e : Env) (s : State) (m : MethodId) (args : Array Value) (below : List Frame) (meth : Method) (c : Code) (A : Nat → Prop) (Q : State → Prop), sw_C p s m args c cc maxL RX5 WG D k A →
      (∀ (pc cells slots : Nat) (r : Option Nat) (w' : va_W) (lv : List (Nat × Value)), decode cc pc = .ok (.areturn, 1) → cells ≤ rm.cells → slots ≤ rm.slots → post r w' → SW p l e rm s m args below meth c maxL D A cells slots Q w' pc lv [va_rf r]) →
      XO l cc maxL rm D p e s m args below meth c A Q px → XT l cc maxL rm D p e s m args below meth c A Q px → SW p l e rm s m args below meth c maxL D A 0 0 Q w 0 (lv_args 0 as) []) : XQ l y cc maxL (some (.object C)) rm D k as w post px := by
  intro sz
  refine vx_ofW (cc := cc) (maxL := maxL) (ret := some (.object C)) hy rfl ?_
  intro p e s m args below meth c s₁ B hml ht hv
  obtain ⟨rfl, hsz, hP, hK, hD0, hG⟩ := hv
  have hts : ∀ w ∈ WG, w.before as.toArray s = true := fun w h => atoms_spec (ws := sw_ws y cc maxL (some (.object C))) B.pre w (List.mem_cons_of_mem _ h)
  have hown : s.vm.findClass RX5 = some m.cls := by rw [← hy5]; exact findClass_of_methodNamed B.named
  subst hsz
  have hl := lv_entry as hlen
  rw [lg_entry_eq]
  have X : sw_C p s m as.toArray c cc maxL RX5 WG D k (va_A w s.heap.size) := ⟨⟨B.exec, B.bytes, hml, hown, hts⟩, hK, fun q h => Or.inr h, hG⟩
  refine body p e s m as.toArray below meth c (va_A w s.heap.size) _ X ?_ (XO.of ht B.notSynchronized) (XT.of hfl X ht B.notSynchronized) s.heap [] _ hP hD0.self va_S.rf hl
  intro pc cells slots r w' lv hdg hc hs hp H locs ls hP1 hD1 hS1 hl1
  refine W.widen hc hs (vx_ret ?_)
  exact W.aret B.exec B.bytes B.returns (Or.inl ⟨_, rfl⟩) (sw_rf r) (fun t ht hW => ⟨⟨r, w', rfl, hp, by rw [ht]; exact hP1, hD1⟩, hS1.F ht⟩) hS1.2.2 hdg B.notSynchronized
end XE
section XC
variable {p : Program} {l : Launch} {e : Env} {R : Room} {s : State} {m : MethodId} {args : Array Value} {below : List Frame} {meth : Method} {c : Code} {nL : Nat} {D : va_G} {A : Nat → Prop} {cells slots : Nat} {Q : State → Prop}
variable {cc : ByteArray} {own : String} {k : Nat → ClassId} {pc : Nat} {lv : List (Nat × Value)} {st : List Value} {L : List Nat} {M : MM}
variable {y : MethodName} {bytes : ByteArray} {maxL index n : Nat} {ret : Option FieldType} {rm : Room} {As rest : List Value} {w : va_W} {px : String → va_W → Prop}
theorem sw_xSV {post : va_W → Prop} (X : sw_C p s m args c cc nL own WG D k A) (hM : XV l y bytes maxL ret rm D k As w post px) (cw : CallB R s args own index y bytes maxL ret (sw_ws y bytes maxL ret) rm rm.cells rm.slots n ∧ (Cond.static y).before args s = true)
    (hdg : decode cc pc = .ok (.invokestatic index, 3)) (hst : st = As.reverse ++ rest) (hn : As.length = n) (hrest : (rest.map fun v => v.category).sum ≤ 8) (hcs : cells + rm.cells ≤ R.cells ∧ slots + rm.slots ≤ R.slots)
    (kx : ∀ (E : String) (w' : va_W), px E w' → XW p l e R s m args below meth c nL D A (cells + rm.cells) (slots + rm.slots) Q w' pc lv rest E)
    (kk : ∀ (w' : va_W), post w' → SW p l e R s m args below meth c nL D A (cells + rm.cells) (slots + rm.slots) Q w' (pc + 3) lv rest) : SW p l e R s m args below meth c nL D A cells slots Q w pc lv st := by
  intro H locs ls hP hD hS hl
  obtain ⟨h1, h2, h3, h4⟩ := sw_part (wr := []) X hP hD hS
  refine vx_callv (vx_runS (As := As) (rest := rest) X.1 (hM H.size) cw ⟨sw_blind D k w H.size _, sw_pre (wr := []) X hP hD hS _⟩ rfl hn hl.1 hst (lv_room hrest) hdg hcs) hS (fun q _ h => h3 q h) h3 (fun q _ h => h3 q h) (fun E ce q9 w' t H1 locs1 ht hvm _ hB hz hk hS1 hce hv hcl => ?_) (fun w' t H1 locs1 ht hvm hw hB hz hk hS1 => ?_)
  · obtain ⟨hpx, hP1, hD1⟩ := hB
    rw [ht] at hP1
    obtain ⟨hP2, hD2⟩ := sw_join (wr := []) hP hD hk h3 hP1 hD1
    exact kx E w' hpx H1 locs1 ls q9 ce hP2 hD2 hS1 hl hce hv hcl
  · obtain ⟨hP1, hD1⟩ := hB
    rw [ht] at hP1
    obtain ⟨hP2, hD2⟩ := sw_join (wr := []) hP hD hk h3 hP1 hD1
    exact kk w' hw H1 locs1 ls hP2 hD2 hS1 hl
theorem px_xVV {C : String} {b ci : Nat} {post : va_W → Prop} (X : sw_C p s m args c cc nL own WG D k A) (hM : XV l y bytes maxL ret rm D k (.ref b :: As) (pW k L M) post px) (cw : CallW R s args own C index y bytes maxL ret (sw_ws y bytes maxL ret) rm rm.cells rm.slots n)
    (hLb : b ∈ L ∧ M 90 b 0 = (ci : Int)) (h6 : ci < 6) {q : vw_C} (hc : vwCl[ci]? = some q) (hC : q.1 = C) (hdg : decode cc pc = .ok (.invokevirtual index, 3)) (hst : st = As.reverse ++ .ref b :: rest) (hn : As.length = n) (hrest : (rest.map fun v => v.category).sum ≤ 8) (hcs : cells + rm.cells ≤ R.cells ∧ slots + rm.slots ≤ R.slots)
    (kx : ∀ (E : String) (w' : va_W), px E w' → XW p l e R s m args below meth c nL D A (cells + rm.cells) (slots + rm.slots) Q w' pc lv rest E)
    (kk : ∀ (w' : va_W), post w' → SW p l e R s m args below meth c nL D A (cells + rm.cells) (slots + rm.slots) Q w' (pc + 3) lv rest) : SW p l e R s m args below meth c nL D A cells slots Q (pW k L M) pc lv st := by
  intro H locs ls hP hD hS hl
  obtain ⟨i, hi⟩ := pW_get (k := k) (M := M) hLb.1
  rw [pF_o h6 hLb.2] at hi
  obtain ⟨h1, h2, h3, h4⟩ := sw_part (wr := []) X hP hD hS
  refine vx_callv (vx_runV (As := As) (rest := rest) X.1 (hM H.size) cw ⟨sw_blind D k _ H.size _, by rw [← hC]; exact va_recv X.2.1 h1 hc hi, sw_pre (wr := []) X hP hD hS _⟩ rfl hn hl.1 hst (lv_room hrest) hdg hcs) hS (fun q _ h => h3 q h) h3 (fun q _ h => h3 q h) (fun E ce q9 w' t H1 locs1 ht hvm _ hB hz hk hS1 hce hv hcl => ?_) (fun w' t H1 locs1 ht hvm hw hB hz hk hS1 => ?_)
  · obtain ⟨hpx, hP1, hD1⟩ := hB
    rw [ht] at hP1
    obtain ⟨hP2, hD2⟩ := sw_join (wr := []) hP hD hk h3 hP1 hD1
    exact kx E w' hpx H1 locs1 ls q9 ce hP2 hD2 hS1 hl hce hv hcl
  · obtain ⟨hP1, hD1⟩ := hB
    rw [ht] at hP1
    obtain ⟨hP2, hD2⟩ := sw_join (wr := []) hP hD hk h3 hP1 hD1
    exact kk w' hw H1 locs1 ls hP2 hD2 hS1 hl
theorem px_xVI {C : String} {b ci : Nat} {post : Int → va_W → Prop} (X : sw_C p s m args c cc nL own WG D k A) (hM : XI l y bytes maxL ret rm D k (.ref b :: As) (pW k L M) post px) (cw : CallW R s args own C index y bytes maxL ret (sw_ws y bytes maxL ret) rm rm.cells rm.slots n)
    (hLb : b ∈ L ∧ M 90 b 0 = (ci : Int)) (h6 : ci < 6) {q : vw_C} (hc : vwCl[ci]? = some q) (hC : q.1 = C) (hdg : decode cc pc = .ok (.invokevirtual index, 3)) (hst : st = As.reverse ++ .ref b :: rest) (hn : As.length = n) (hrest : (rest.map fun v => v.category).sum ≤ 8) (hcs : cells + rm.cells ≤ R.cells ∧ slots + rm.slots ≤ R.slots)
    (kx : ∀ (E : String) (w' : va_W), px E w' → XW p l e R s m args below meth c nL D A (cells + rm.cells) (slots + rm.slots) Q w' pc lv rest E)
    (kk : ∀ (z : Int) (w' : va_W), post z w' → SW p l e R s m args below meth c nL D A (cells + rm.cells) (slots + rm.slots) Q w' (pc + 3) lv (.int (J z) :: rest)) : SW p l e R s m args below meth c nL D A cells slots Q (pW k L M) pc lv st := by
  intro H locs ls hP hD hS hl
  obtain ⟨i, hi⟩ := pW_get (k := k) (M := M) hLb.1
  rw [pF_o h6 hLb.2] at hi
  obtain ⟨h1, h2, h3, h4⟩ := sw_part (wr := []) X hP hD hS
  refine vx_calli (vx_runV (As := As) (rest := rest) X.1 (hM H.size) cw ⟨sw_blind D k _ H.size _, by rw [← hC]; exact va_recv X.2.1 h1 hc hi, sw_pre (wr := []) X hP hD hS _⟩ rfl hn hl.1 hst (lv_room hrest) hdg hcs) hS (fun q _ h => h3 q h) h3 (fun q _ h => h3 q h) (fun E ce q9 w' t H1 locs1 ht hvm _ hB hz hk hS1 hce hv hcl => ?_) (fun r w' t H1 locs1 ht hvm hw hB hz hk hS1 => ?_)
  · obtain ⟨hpx, hP1, hD1⟩ := hB
    rw [ht] at hP1
    obtain ⟨hP2, hD2⟩ := sw_join (wr := []) hP hD hk h3 hP1 hD1
    exact kx E w' hpx H1 locs1 ls q9 ce hP2 hD2 hS1 hl hce hv hcl
  · obtain ⟨z, rfl, hp⟩ := hw
    obtain ⟨hP1, hD1⟩ := hB
    rw [ht] at hP1
    obtain ⟨hP2, hD2⟩ := sw_join (wr := []) hP hD hk h3 hP1 hD1
    exact kk z w' hp H1 locs1 ls hP2 hD2 hS1 hl
theorem px_xVQ {C : String} {b ci : Nat} {post : Option Nat → va_W → Prop} (X : sw_C p s m args c cc nL own WG D k A) (hM : XQ l y bytes maxL ret rm D k (.ref b :: As) (pW k L M) post px) (cw : CallW R s args own C index y bytes maxL ret (sw_ws y bytes maxL ret) rm rm.cells rm.slots n)
    (hLb : b ∈ L ∧ M 90 b 0 = (ci : Int)) (h6 : ci < 6) {q : vw_C} (hc : vwCl[ci]? = some q) (hC : q.1 = C) (hdg : decode cc pc = .ok (.invokevirtual index, 3)) (hst : st = As.reverse ++ .ref b :: rest) (hn : As.length = n) (hrest : (rest.map fun v => v.category).sum ≤ 8) (hcs : cells + rm.cells ≤ R.cells ∧ slots + rm.slots ≤ R.slots)
    (kx : ∀ (E : String) (w' : va_W), px E w' → XW p l e R s m args below meth c nL D A (cells + rm.cells) (slots + rm.slots) Q w' pc lv rest E)
    (kk : ∀ (r : Option Nat) (w' : va_W), post r w' → SW p l e R s m args below meth c nL D A (cells + rm.cells) (slots + rm.slots) Q w' (pc + 3) lv (va_rf r :: rest)) : SW p l e R s m args below meth c nL D A cells slots Q (pW k L M) pc lv st := by
  intro H locs ls hP hD hS hl
  obtain ⟨i, hi⟩ := pW_get (k := k) (M := M) hLb.1
  rw [pF_o h6 hLb.2] at hi
  obtain ⟨h1, h2, h3, h4⟩ := sw_part (wr := []) X hP hD hS
  refine vx_callq (vx_runV (As := As) (rest := rest) X.1 (hM H.size) cw ⟨sw_blind D k _ H.size _, by rw [← hC]; exact va_recv X.2.1 h1 hc hi, sw_pre (wr := []) X hP hD hS _⟩ rfl hn hl.1 hst (lv_room hrest) hdg hcs) hS (fun q _ h => h3 q h) h3 (fun q _ h => h3 q h) (fun E ce q9 w' t H1 locs1 ht hvm _ hB hz hk hS1 hce hv hcl => ?_) (fun r w' t H1 locs1 ht hvm hw hB hz hk hS1 => ?_)
  · obtain ⟨hpx, hP1, hD1⟩ := hB
    rw [ht] at hP1
    obtain ⟨hP2, hD2⟩ := sw_join (wr := []) hP hD hk h3 hP1 hD1
    exact kx E w' hpx H1 locs1 ls q9 ce hP2 hD2 hS1 hl hce hv hcl
  · obtain ⟨hP1, hD1⟩ := hB
    rw [ht] at hP1
    obtain ⟨hP2, hD2⟩ := sw_join (wr := []) hP hD hk h3 hP1 hD1
    exact kk r w' hw H1 locs1 ls hP2 hD2 hS1 hl
end XC
/-! the four exceptions: their words -/
theorem thA0 : ∀ w ∈ (vx_atS RX5 222 "java/lang/IndexOutOfBoundsException" thN).filter goodWord, w ∈ lw_tbl := by decide +kernel
theorem thB0 : ∀ w ∈ (vx_atS RX5 222 "java/lang/IndexOutOfBoundsException" thN).filter (fun w => !goodWord w), w ∈ Cond.castable "java/lang/IndexOutOfBoundsException" "java/lang/IndexOutOfBoundsException" :: cDe.map Cond.declares := by decide +kernel
theorem thC0 : ∀ w ∈ Cond.classLink RX5 218 "java/lang/IndexOutOfBoundsException" :: Cond.initialized "java/lang/IndexOutOfBoundsException" :: vx_atS RX5 222 "java/lang/IndexOutOfBoundsException" thN, vx_ot w = true := by decide +kernel
theorem thA1 : ∀ w ∈ (vx_atS RX5 227 "java/lang/IllegalArgumentException" thN).filter goodWord, w ∈ lw_tbl := by decide +kernel
theorem thB1 : ∀ w ∈ (vx_atS RX5 227 "java/lang/IllegalArgumentException" thN).filter (fun w => !goodWord w), w ∈ Cond.castable "java/lang/IllegalArgumentException" "java/lang/IllegalArgumentException" :: cDe.map Cond.declares := by decide +kernel
theorem thC1 : ∀ w ∈ Cond.classLink RX5 223 "java/lang/IllegalArgumentException" :: Cond.initialized "java/lang/IllegalArgumentException" :: vx_atS RX5 227 "java/lang/IllegalArgumentException" thN, vx_ot w = true := by decide +kernel
theorem thA2 : ∀ w ∈ (vx_atS RX5 232 "java/lang/IllegalStateException" thN).filter goodWord, w ∈ lw_tbl := by decide +kernel
theorem thB2 : ∀ w ∈ (vx_atS RX5 232 "java/lang/IllegalStateException" thN).filter (fun w => !goodWord w), w ∈ Cond.castable "java/lang/IllegalStateException" "java/lang/IllegalStateException" :: cDe.map Cond.declares := by decide +kernel
theorem thC2 : ∀ w ∈ Cond.classLink RX5 228 "java/lang/IllegalStateException" :: Cond.initialized "java/lang/IllegalStateException" :: vx_atS RX5 232 "java/lang/IllegalStateException" thN, vx_ot w = true := by decide +kernel
