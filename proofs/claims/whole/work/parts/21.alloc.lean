/-! calls on objects of the pool; calls between nest mates; Math; new objects and rows -/
section PC
variable {p : Program} {l : Launch} {e : Env} {R : Room} {s : State} {m : MethodId} {args : Array Value} {below : List Frame} {meth : Method} {c : Code} {nL : Nat} {D : va_G} {A : Nat → Prop} {cells slots : Nat} {Q : State → Prop}
variable {cc : ByteArray} {own : String} {k : Nat → ClassId} {pc : Nat} {lv : List (Nat × Value)} {st : List Value} {L : List Nat} {M : MM}
variable {y : MethodName} {bytes : ByteArray} {maxL index n : Nat} {ret : Option FieldType} {rm : Room} {As rest : List Value}
theorem px_callVI {C : String} {b ci : Nat} {post : Int → va_W → Prop} (X : sw_C p s m args c cc nL own WG D k A) (hM : CI l y bytes maxL ret rm D k (.ref b :: As) (pW k L M) post) (cw : CallW R s args own C index y bytes maxL ret (sw_ws y bytes maxL ret) rm rm.cells rm.slots n)
    (hLb : b ∈ L ∧ M 90 b 0 = (ci : Int)) (h6 : ci < 6) {q : vw_C} (hc : vwCl[ci]? = some q) (hC : q.1 = C) (hdg : decode cc pc = .ok (.invokevirtual index, 3)) (hst : st = As.reverse ++ .ref b :: rest) (hn : As.length = n) (hrest : (rest.map fun v => v.category).sum ≤ 8) (hcs : cells + rm.cells ≤ R.cells ∧ slots + rm.slots ≤ R.slots)
    (kk : ∀ (z : Int) (w' : va_W), post z w' → SW p l e R s m args below meth c nL D A (cells + rm.cells) (slots + rm.slots) Q w' (pc + 3) lv (.int (J z) :: rest)) : SW p l e R s m args below meth c nL D A cells slots Q (pW k L M) pc lv st := by
  obtain ⟨i, hi⟩ := pW_get (k := k) (M := M) hLb.1
  rw [pF_o h6 hLb.2] at hi
  exact sw_callVI0 X hM cw i hc hi hC hdg hst hn hrest hcs kk
theorem px_callVV {C : String} {b ci : Nat} {post : va_W → Prop} (X : sw_C p s m args c cc nL own WG D k A) (hM : CV l y bytes maxL ret rm D k (.ref b :: As) (pW k L M) post) (cw : CallW R s args own C index y bytes maxL ret (sw_ws y bytes maxL ret) rm rm.cells rm.slots n)
    (hLb : b ∈ L ∧ M 90 b 0 = (ci : Int)) (h6 : ci < 6) {q : vw_C} (hc : vwCl[ci]? = some q) (hC : q.1 = C) (hdg : decode cc pc = .ok (.invokevirtual index, 3)) (hst : st = As.reverse ++ .ref b :: rest) (hn : As.length = n) (hrest : (rest.map fun v => v.category).sum ≤ 8) (hcs : cells + rm.cells ≤ R.cells ∧ slots + rm.slots ≤ R.slots)
    (kk : ∀ (w' : va_W), post w' → SW p l e R s m args below meth c nL D A (cells + rm.cells) (slots + rm.slots) Q w' (pc + 3) lv rest) : SW p l e R s m args below meth c nL D A cells slots Q (pW k L M) pc lv st := by
  obtain ⟨i, hi⟩ := pW_get (k := k) (M := M) hLb.1
  rw [pF_o h6 hLb.2] at hi
  exact sw_callVV0 X hM cw i hc hi hC hdg hst hn hrest hcs kk
theorem px_callVQ {C : String} {b ci : Nat} {post : Option Nat → va_W → Prop} (X : sw_C p s m args c cc nL own WG D k A) (hM : CQ l y bytes maxL ret rm D k (.ref b :: As) (pW k L M) post) (cw : CallW R s args own C index y bytes maxL ret (sw_ws y bytes maxL ret) rm rm.cells rm.slots n)
    (hLb : b ∈ L ∧ M 90 b 0 = (ci : Int)) (h6 : ci < 6) {q : vw_C} (hc : vwCl[ci]? = some q) (hC : q.1 = C) (hdg : decode cc pc = .ok (.invokevirtual index, 3)) (hst : st = As.reverse ++ .ref b :: rest) (hn : As.length = n) (hrest : (rest.map fun v => v.category).sum ≤ 8) (hcs : cells + rm.cells ≤ R.cells ∧ slots + rm.slots ≤ R.slots)
    (kk : ∀ (r : Option Nat) (w' : va_W), post r w' → SW p l e R s m args below meth c nL D A (cells + rm.cells) (slots + rm.slots) Q w' (pc + 3) lv (va_rf r :: rest)) : SW p l e R s m args below meth c nL D A cells slots Q (pW k L M) pc lv st := by
  obtain ⟨i, hi⟩ := pW_get (k := k) (M := M) hLb.1
  rw [pF_o h6 hLb.2] at hi
  exact sw_callVQ0 X hM cw i hc hi hC hdg hst hn hrest hcs kk
/-- a nest mate's static method -/
theorem sw_cwSN {host : String} (X : sw_C p s m args c cc nL own WG D k A) (n : Nat) (h1 : (own, index, y, host) ∈ cNM) (h2 : Cond.static y ∈ WG) (h3 : Cond.initialized y.cls ∈ WG) (h4 : Cond.code y bytes maxL ret ∈ WG) (hd : y.cls ≠ "java/lang/invoke/MethodHandle" ∧ y.cls ≠ "java/lang/invoke/VarHandle" ∧ (parseMethodDescriptor y.desc).map (fun d => d.parameters.length) = some n) (hR : rm.frames + 1 ≤ R.frames ∧ 8 + (maxL + 11) + rm.locals ≤ R.locals) :
    va_CN R s args own index y host bytes maxL ret (sw_ws y bytes maxL ret) rm rm.cells rm.slots n ∧ (Cond.static y).before args s = true ∧ True := by
  have hG : GoodIn WG (sw_ws y bytes maxL ret) := by
    have key : ∀ w ∈ sw_ws y bytes maxL ret, w ∈ WG := fun w hw => by
      rcases List.mem_cons.mp hw with rfl | hw
      · exact h4
      · exact hw
    exact fun w hw => ⟨key w hw, good_of_word (WG_good w (key w hw))⟩
  exact ⟨va_cnB n (sw_ts X) hG rfl rfl rfl (X.2.2.2.2.2.2.2.2.2.1 _ h1) (sw_ts X _ h3) hd hR, sw_ts X _ h2, trivial⟩
theorem sw_callSNI {host : String} {post : Int → va_W → Prop} {w : va_W} (X : sw_C p s m args c cc nL own WG D k A) (hM : CI l y bytes maxL ret rm D k As w post) (cw : va_CN R s args own index y host bytes maxL ret (sw_ws y bytes maxL ret) rm rm.cells rm.slots n ∧ (Cond.static y).before args s = true ∧ True)
    (hdg : decode cc pc = .ok (.invokestatic index, 3)) (hst : st = As.reverse ++ rest) (hn : As.length = n) (hrest : (rest.map fun v => v.category).sum ≤ 8) (hcs : cells + rm.cells ≤ R.cells ∧ slots + rm.slots ≤ R.slots)
    (kk : ∀ (z : Int) (w' : va_W), post z w' → SW p l e R s m args below meth c nL D A (cells + rm.cells) (slots + rm.slots) Q w' (pc + 3) lv (.int (J z) :: rest)) : SW p l e R s m args below meth c nL D A cells slots Q w pc lv st := by
  intro H locs ls hP hD hS hl
  obtain ⟨h1, h2, h3, h4⟩ := sw_part (wr := []) X hP hD hS
  refine va_calli (va_runSN (As := As) (rest := rest) X.1 (hM H.size) cw ⟨sw_blind D k w H.size _, sw_pre (wr := []) X hP hD hS _⟩ rfl hn hl.1 hst (lv_room hrest) hdg hcs) hS (fun q _ h => h3 q h) h3 (fun r w' t H1 locs1 ht hvm hw hB hz hk hS1 => ?_)
  obtain ⟨z, rfl, hp⟩ := hw
  obtain ⟨hP1, hD1⟩ := hB
  rw [ht] at hP1
  obtain ⟨hP2, hD2⟩ := sw_join (wr := []) hP hD hk h3 hP1 hD1
  exact kk z w' hp H1 locs1 ls hP2 hD2 hS1 hl
/-- Math.max, Math.min -/
theorem sw_max (X : sw_C p s m args c cc nL own WG D k A) {w : va_W} {a b : Int} (ha : -2147483648 ≤ a ∧ a < 2147483648) (hb : -2147483648 ≤ b ∧ b < 2147483648) (h1 : Cond.methodLink own index Lib.Math.max.name ∈ WG) (h2 : Cond.static Lib.Math.max.name ∈ WG) (h3 : Cond.initialized "java/lang/Math" ∈ WG) (h4 : Cond.code Lib.Math.max.name Lib.Math.max.code 2 (some .int) ∈ WG) (hf : 1 ≤ R.frames) (hlo : (st.map fun v => v.category).sum + 13 ≤ R.locals) (hcs : cells ≤ R.cells ∧ slots ≤ R.slots) (hdg : decode cc pc = .ok (.invokestatic index, 3))
    (kk : SW p l e R s m args below meth c nL D A cells slots Q w (pc + 3) lv (.int (J (if a < b then b else a)) :: st)) : SW p l e R s m args below meth c nL D A cells slots Q w pc lv (.int (J b) :: .int (J a) :: st) := by
  intro H locs ls hP hD hS hl
  refine va_mmax X.1.1 X.1.2.1 (X.1.2.2.1.trans hl.1.symm) X.1.2.2.2.1 (sw_ts X _ h1) (sw_ts X _ h2) (sw_ts X _ h3) (sw_ts X _ h4) hf hlo hcs.1 hcs.2 hdg ?_
  have e : (if J a < J b then J b else J a) = J (if a < b then b else a) := by
    by_cases h : a < b
    · rw [if_pos h, if_pos ((J_lt ha hb).mpr h)]
    · rw [if_neg h, if_neg (fun z => h ((J_lt ha hb).mp z))]
  rw [e]
  exact kk H locs ls hP hD hS hl
theorem sw_min (X : sw_C p s m args c cc nL own WG D k A) {w : va_W} {a b : Int} (ha : -2147483648 ≤ a ∧ a < 2147483648) (hb : -2147483648 ≤ b ∧ b < 2147483648) (h1 : Cond.methodLink own index Lib.Math.min.name ∈ WG) (h2 : Cond.static Lib.Math.min.name ∈ WG) (h3 : Cond.initialized "java/lang/Math" ∈ WG) (h4 : Cond.code Lib.Math.min.name Lib.Math.min.code 2 (some .int) ∈ WG) (hf : 1 ≤ R.frames) (hlo : (st.map fun v => v.category).sum + 13 ≤ R.locals) (hcs : cells ≤ R.cells ∧ slots ≤ R.slots) (hdg : decode cc pc = .ok (.invokestatic index, 3))
    (kk : SW p l e R s m args below meth c nL D A cells slots Q w (pc + 3) lv (.int (J (if b < a then b else a)) :: st)) : SW p l e R s m args below meth c nL D A cells slots Q w pc lv (.int (J b) :: .int (J a) :: st) := by
  intro H locs ls hP hD hS hl
  refine va_mmin X.1.1 X.1.2.1 (X.1.2.2.1.trans hl.1.symm) X.1.2.2.2.1 (sw_ts X _ h1) (sw_ts X _ h2) (sw_ts X _ h3) (sw_ts X _ h4) hf hlo hcs.1 hcs.2 hdg ?_
  have e : (if J b < J a then J b else J a) = J (if b < a then b else a) := by
    by_cases h : b < a
    · rw [if_pos h, if_pos ((J_lt hb ha).mpr h)]
    · rw [if_neg h, if_neg (fun z => h ((J_lt hb ha).mp z))]
  rw [e]
  exact kk H locs ls hP hD hS hl
theorem sw_objInit (X : sw_C p s m args c cc nL own WG D k A) {w : va_W} {a : Nat} (h1 : Cond.methodLink own index Lib.objectInit ∈ WG) (hf : 1 ≤ R.frames) (hlo : (st.map fun v => v.category).sum + 12 ≤ R.locals) (hdg : decode cc pc = .ok (.invokespecial index, 3))
    (kk : SW p l e R s m args below meth c nL D A cells slots Q w (pc + 3) lv st) : SW p l e R s m args below meth c nL D A cells slots Q w pc lv (.ref a :: st) :=
  fun H locs ls hP hD hS hl => W.objInit X.1.1 X.1.2.1 X.1.2.2.2.1 (sw_ts X _ h1) (sw_ts X _ gw1_22) (sw_ts X _ gw1_23) rfl (hl.1.trans X.1.2.2.1.symm) rfl hdg hf (by show 2 * 0 + _ + 12 ≤ _; omega) (kk H locs ls hP hD hS hl)
end PC
/-- what a new cell holds -/
def dfM (f : Nat) : Int := if f = 0 ∨ f = 1 ∨ f = 40 ∨ f = 51 ∨ f = 52 ∨ f = 55 ∨ f = 57 ∨ f = 59 ∨ f = 93 then -1 else 0
def alM (M : MM) (q : Nat) (c n : Int) : MM := fun f b i => if b = q then (if f = 90 then c else if f = 91 then n else dfM f) else M f b i
theorem alM_o (M : MM) {q b : Nat} (c n : Int) (f : Nat) (i : Int) (h : b ≠ q) : alM M q c n f b i = M f b i := by unfold alM; rw [if_neg h]
theorem alM_n (M : MM) (q : Nat) (c n : Int) (f : Nat) (i : Int) : alM M q c n f q i = if f = 90 then c else if f = 91 then n else dfM f := by unfold alM; rw [if_pos rfl]
theorem pW_new {k : Nat → ClassId} {L : List Nat} {M : MM} {q : Nat} {c n : Int} {e : va_E} (hq : q ∉ L) (he : pF k (alM M q c n) q = e) : pW k L M ++ [(q, e)] = pW k (L ++ [q]) (alM M q c n) := by
  refine (va_pl_push hq).trans ?_
  refine va_pl_congr (fun b => ?_)
  by_cases hb : b = q
  · subst hb
    rw [va_up_self, he]
  · rw [va_up_ne _ _ hb]
    exact pF_c (fun f i => (alM_o M c n f i hb).symm)
theorem sw_cA {s : State} {D : va_G} {k : Nat → ClassId} {cA : ClassId} {ty : FieldType} {t : Nat} (h : va_K D vwCl (TYS k ++ [(cA, ty)]) s) (ht : (TYS k)[t]? = some (k t, ty)) : cA = k t := by
  have h1 := h.2 6 (cA, ty) rfl
  have h2 := h.2 t (k t, ty) (by rw [List.getElem?_append_left (List.getElem?_eq_some_iff.mp ht).1]; exact ht)
  have e1 : s.vm.findClass ("[" ++ ty.toString) = some cA := by
    have := h1.2
    cases ty with
    | object C => obtain ⟨_, _, _, _, _, h⟩ := this; exact h
    | _ => exact this
  have e2 : s.vm.findClass ("[" ++ ty.toString) = some (k t) := by
    have := h2.2
    cases ty with
    | object C => obtain ⟨_, _, _, _, _, h⟩ := this; exact h
    | _ => exact this
  exact Option.some.inj (e1.symm.trans e2)
section PN
variable {p : Program} {l : Launch} {e : Env} {R : Room} {s : State} {m : MethodId} {args : Array Value} {below : List Frame} {meth : Method} {c : Code} {nL : Nat} {D : va_G} {A : Nat → Prop} {cells slots : Nat} {Q : State → Prop}
variable {cc : ByteArray} {own : String} {k : Nat → ClassId} {pc : Nat} {lv : List (Nat × Value)} {st : List Value} {L : List Nat} {M : MM} {index : Nat}
theorem px_new (X : sw_C p s m args c cc nL own WG D k A) {C : String} {T : u_T} {N ci : Nat} (hin : ∀ w ∈ u_ws C T N, w ∈ WG) (ty : Nat → FieldType) (hty : ∀ k, k < N → parseFieldDescriptor (T k).2.2.1 = some (ty k)) (hcl : Cond.classLink own index C ∈ WG) (hinst : Cond.instantiable C N ∈ WG) (hini : Cond.initialized C ∈ WG) (hc : vwCl[ci]? = some (C, T, N)) (h6 : ci < 6) (hfs : ∀ j, j < N → defaultValue (ty j) = vp_V (cFs ci (fun f _ _ => dfM f) 0) j) (he : ∀ q, cFs ci (alM M q (ci : Int) 0) q = cFs ci (fun f _ _ => dfM f) 0) (hcs : cells + 1 ≤ R.cells ∧ slots + N ≤ R.slots) (hdg : decode cc pc = .ok (.new index, 3))
    (kk : ∀ q : Nat, q ∉ L → SW p l e R s m args below meth c nL D A (cells + 1) (slots + N) Q (pW k (L ++ [q]) (alM M q (ci : Int) 0)) (pc + 3) lv (.ref q :: st)) : SW p l e R s m args below meth c nL D A cells slots Q (pW k L M) pc lv st := by
  intro H locs ls hP hD hS hl
  refine va_new (ci := ci) (fs := cFs ci (fun f _ _ => dfM f) 0) X.1.1 X.1.2.1 (sw_ts X) hin ty hty X.1.2.2.2.1 (sw_ts X _ hcl) (sw_ts X _ hinst) (sw_ts X _ hini) X.2.1 hP hD hS X.2.2.1 hc hfs hcs.1 hcs.2 hdg (fun q H1 hP1 hD1 hS1 => ?_)
  have hq : q ∉ L := va_pl_fresh2 (X := []) hD1
  have e := pW_new (k := k) (M := M) (c := (ci : Int)) (n := 0) hq (by rw [pF_o h6 (by rw [alM_n]; rfl), he])
  rw [e] at hP1 hD1
  exact kk q hq H1 locs ls hP1 hD1 hS1 hl
theorem px_newI (X : sw_C p s m args c cc nL own WG D k A) (n : Nat) (hn : n ≤ 100000) (hcs : cells + 1 ≤ R.cells ∧ slots + n ≤ R.slots) (hdg : decode cc pc = .ok (.newarray .int, 2))
    (kk : ∀ q : Nat, q ∉ L → SW p l e R s m args below meth c nL D A (cells + 1) (slots + n) Q (pW k (L ++ [q]) (alM M q 10 (n : Int))) (pc + 2) lv (.ref q :: st)) : SW p l e R s m args below meth c nL D A cells slots Q (pW k L M) pc lv (.int (J (n : Int)) :: st) := by
  intro H locs ls hP hD hS hl
  refine va_newa (atype := .int) (ty := .int) (N' := n) (a0 := (n, .inl (fun _ => 0))) X.1.1 X.1.2.1 (sw_ts X _ gw1_88) rfl X.2.1 hP hD hS X.2.2.1 (fun cA => rfl) (by rw [J_0, J_lt (by omega) (by omega)]; omega) (by rw [J_cl (by omega) (by omega)]; omega) (by show n * 4 ≤ _; omega) hcs.1 hcs.2 hdg (fun q cA H1 hK1 hP1 hD1 hS1 => ?_)
  have hq : q ∉ L := va_pl_fresh2 (X := []) hD1
  have hcA := sw_cA (t := 0) hK1 rfl
  subst hcA
  have e := pW_new (k := k) (M := M) (c := 10) (n := (n : Int)) (e := .inl (k 0, n, .inl (fun _ => 0))) hq (by
    rw [pF_10 (by rw [alM_n]; rfl), show (alM M q 10 (n : Int) 91 q 0) = (n : Int) from by rw [alM_n]; rfl, Int.toNat_natCast]
    congr 4
    funext j
    rw [alM_n]
    rfl)
  rw [e] at hP1 hD1
  exact kk q hq H1 locs ls hP1 hD1 hS1 hl
theorem px_newQ (X : sw_C p s m args c cc nL own WG D k A) {C : String} (t : Nat) (ht : t = 2 ∨ t = 3 ∨ t = 4 ∨ t = 5) (hT : (TYS k)[t]? = some (k t, .object C)) (hcl : Cond.classLink own index C ∈ WG) (hAO : C ∈ cAO) (n : Nat) (hn : n ≤ 100000) (hcs : cells + 1 ≤ R.cells ∧ slots + n ≤ R.slots) (hdg : decode cc pc = .ok (.anewarray index, 3))
    (kk : ∀ q : Nat, q ∉ L → SW p l e R s m args below meth c nL D A (cells + 1) (slots + n) Q (pW k (L ++ [q]) (alM M q (10 + (t : Int)) (n : Int))) (pc + 3) lv (.ref q :: st)) : SW p l e R s m args below meth c nL D A cells slots Q (pW k L M) pc lv (.int (J (n : Int)) :: st) := by
  intro H locs ls hP hD hS hl
  refine va_newq (N' := n) X.1.1 X.1.2.1 X.1.2.2.2.1 (sw_ts X _ hcl) (X.2.2.2.2.2.2.2.2.2.2.1 _ hAO) X.2.1 hP hD hS X.2.2.1 (by rw [J_0, J_lt (by omega) (by omega)]; omega) (by rw [J_cl (by omega) (by omega)]; omega) (by omega) hcs.1 hcs.2 hdg (fun q cA H1 hK1 hP1 hD1 hS1 => ?_)
  have hq : q ∉ L := va_pl_fresh2 (X := []) hD1
  have hcA := sw_cA (t := t) hK1 hT
  subst hcA
  have e := pW_new (k := k) (M := M) (c := 10 + (t : Int)) (n := (n : Int)) (e := .inl (k t, n, .inr (.inr (.inr (.inr (fun _ => none)))))) hq (by
    rw [pF_q ht (by rw [alM_n]; rfl), show (alM M q (10 + (t : Int)) (n : Int) 91 q 0) = (n : Int) from by rw [alM_n]; rfl, Int.toNat_natCast]
    congr 7
    funext j
    rw [alM_n]
    rfl)
  rw [e] at hP1 hD1
  exact kk q hq H1 locs ls hP1 hD1 hS1 hl
end PN
