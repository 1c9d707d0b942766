/-! the walk in symbols: J z is the int of z; SW says: at this pc, with these locals and this stack, over any heap that holds this world, the machine comes to Q -/
def J (z : Int) : Int32 := Int32.ofInt z
theorem J_add (a b : Int) : J a + J b = J (a + b) := (Int32.ofInt_add a b).symm
theorem J_sub (a b : Int) : J a - J b = J (a - b) := (Int32.ofInt_sub a b).symm
theorem J_mul (a b : Int) : J a * J b = J (a * b) := (Int32.ofInt_mul a b).symm
theorem J_neg (a : Int) : -J a = J (-a) := (Int32.ofInt_neg a).symm
theorem J_bmod {z : Int} (h1 : -2147483648 ≤ z) (h2 : z < 2147483648) : z.bmod (2 ^ 32) = z := by
  rw [Int.bmod_eq_of_le (by omega) (by omega)]
theorem J_toInt {z : Int} (h : -2147483648 ≤ z ∧ z < 2147483648) : (J z).toInt = z := by
  rw [J, Int32.toInt_ofInt, J_bmod h.1 h.2]
theorem J_asI (x : Int32) : J x.toInt = x := Int32.ofInt_toInt x
theorem J_rng (x : Int32) : -2147483648 ≤ x.toInt ∧ x.toInt < 2147483648 := by
  have h1 := Int32.le_toInt x
  have h2 := Int32.toInt_lt x
  omega
theorem J_of (x : Int32) : ∃ z : Int, x = J z ∧ -2147483648 ≤ z ∧ z < 2147483648 := ⟨x.toInt, (J_asI x).symm, J_rng x⟩
theorem J_nI (n : Nat) : nI n = J (n : Int) := (Int32.ofInt_eq_ofNat).symm
theorem J_nat {z : Int} (h : 0 ≤ z) : J z = nI z.toNat := by
  rw [J_nI, Int.toNat_of_nonneg h]
theorem J_lt {a b : Int} (ha : -2147483648 ≤ a ∧ a < 2147483648) (hb : -2147483648 ≤ b ∧ b < 2147483648) : J a < J b ↔ a < b := by
  rw [Int32.lt_iff_toInt_lt, J_toInt ha, J_toInt hb]
theorem J_le {a b : Int} (ha : -2147483648 ≤ a ∧ a < 2147483648) (hb : -2147483648 ≤ b ∧ b < 2147483648) : J a ≤ J b ↔ a ≤ b := by
  rw [Int32.le_iff_toInt_le, J_toInt ha, J_toInt hb]
theorem J_eq {a b : Int} (ha : -2147483648 ≤ a ∧ a < 2147483648) (hb : -2147483648 ≤ b ∧ b < 2147483648) : J a = J b ↔ a = b := by
  rw [← Int32.toInt_inj, J_toInt ha, J_toInt hb]
theorem J_0 : (0 : Int32) = J 0 := rfl
theorem J_cl {i : Int} (h : 0 ≤ i) (h2 : i < 2147483648) : (J i).toNatClampNeg = i.toNat := by
  rw [J_nat h]
  exact nI_clamp (by omega)
theorem J_in {i : Int} {n : Nat} (h0 : 0 ≤ i) (h1 : i < n) (hn : n < 2147483648) : vp_in (J i) n := by
  rw [J_nat h0]
  exact vp_in_nI (by omega) (by omega)
theorem J_and {a m : Int} (k : Nat) (h0 : 0 ≤ a) (h1 : a < 2147483648) (hm : (J m).toBitVec.toNat = 2 ^ k - 1) : J a &&& J m = J (a % (2 ^ k : Nat)) := by
  rw [J_nat h0, pk_andN (by omega) k hm, J_nI]
  congr 1
  rw [Int.natCast_emod, Int.toNat_of_nonneg h0]
theorem J_shr {a d : Int} (k : Nat) (h0 : 0 ≤ a) (h1 : a < 2147483648) (hs : ((J d &&& 31).toBitVec.smod 32).toNat = k) : J a >>> (J d &&& 31) = J (a / (2 ^ k : Nat)) := by
  rw [J_nat h0, pk_shrN (by omega) _ k hs, J_nI]
  congr 1
  rw [Int.natCast_ediv, Int.toNat_of_nonneg h0]
theorem J_div {a d : Int} (h0 : 0 ≤ a) (h1 : a < 2147483648) (hd : 0 < d) (hd2 : d < 2147483648) : J a / J d = J (a / d) := by
  rw [J_nat h0, J_nat (Int.le_of_lt hd), pk_div (by omega) (by omega) (by omega), J_nI]
  congr 1
  rw [Int.natCast_ediv, Int.toNat_of_nonneg h0, Int.toNat_of_nonneg (Int.le_of_lt hd)]
theorem J_rem {a d : Int} (h0 : 0 ≤ a) (h1 : a < 2147483648) (hd : 0 < d) (hd2 : d < 2147483648) : J a - J a / J d * J d = J (a % d) := by
  rw [J_nat h0, J_nat (Int.le_of_lt hd), pk_rem (by omega) (by omega) (by omega), J_nI]
  congr 1
  rw [Int.natCast_emod, Int.toNat_of_nonneg h0, Int.toNat_of_nonneg (Int.le_of_lt hd)]
/-- the arrays' classes -/
abbrev TYS (k : Nat → ClassId) : List (ClassId × FieldType) := [(k 0, .int), (k 1, .long), (k 2, .object RX0), (k 3, .object RX1), (k 4, .object RX2), (k 5, .object RX3)]
/-- the texts of the exceptions -/
def cTx : List (Nat × String) := [(137, "no part of the kind in the car"), (220, "no such number"), (225, "out of range"), (230, "not possible now"), (236, "no such entry"), (238, "no such gate"), (240, "no such car"), (242, "no such part")]
def stepX : Nat → Value := fun j => if j = 1 then .int (J 1) else if j = 3 then .int (J (-1)) else .int (J 0)
def stepY : Nat → Value := fun j => if j = 0 then .int (J 1) else if j = 2 then .int (J (-1)) else .int (J 0)
def cNF : List (String × Nat × String × String × String × String) := [("OriginRally", 64, "OriginRally$Way", "size", "I", "OriginRally"), ("OriginRally", 85, "OriginRally$Way", "cell", "I", "OriginRally"), ("OriginRally", 119, "OriginRally$Way", "minute", "I", "OriginRally"), ("OriginRally$Way", 30, "OriginRally", "STEP_X", "[I", "OriginRally"), ("OriginRally$Way", 34, "OriginRally", "STEP_Y", "[I", "OriginRally"), ("OriginRally$Way", 81, "OriginRally$Piece", "begin", "I", "OriginRally"), ("OriginRally$Way", 59, "OriginRally$Piece", "heading", "I", "OriginRally"), ("OriginRally$Way", 60, "OriginRally$Piece", "turn", "I", "OriginRally"), ("OriginRally$Way", 88, "OriginRally$Piece", "isDriven", "Z", "OriginRally"), ("OriginRally$Piece", 35, "OriginRally", "STEP_X", "[I", "OriginRally"), ("OriginRally$Piece", 39, "OriginRally", "STEP_Y", "[I", "OriginRally"), ("OriginRally", 244, "OriginRally$Gate", "entry", "I", "OriginRally"), ("OriginRally", 183, "OriginRally$Gate", "cell", "I", "OriginRally"), ("OriginRally", 184, "OriginRally$Gate", "dueMinute", "I", "OriginRally"), ("OriginRally", 116, "OriginRally$Car", "track", "LOriginRally$Way;", "OriginRally"), ("OriginRally", 128, "OriginRally$Car", "downBy", "I", "OriginRally"), ("OriginRally", 176, "OriginRally$Car", "lostAppeals", "I", "OriginRally"), ("OriginRally", 247, "OriginRally$Part", "kind", "I", "OriginRally"), ("OriginRally", 153, "OriginRally$Part", "place", "I", "OriginRally")]
def cNM : List (String × Nat × MethodName × String) := [("OriginRally$Way", 37, ⟨"OriginRally", "isWithin", "(III)Z"⟩, "OriginRally"), ("OriginRally$Piece", 55, ⟨"OriginRally", "isWithin", "(III)Z"⟩, "OriginRally"), ("OriginRally$Car", 31, ⟨"OriginRally", "isWithin", "(III)Z"⟩, "OriginRally")]
def cDe : List MethodName := [⟨"java/lang/RuntimeException", "<init>", "(Ljava/lang/String;)V"⟩, ⟨"java/lang/Exception", "<init>", "(Ljava/lang/String;)V"⟩, ⟨"java/lang/Throwable", "<init>", "(Ljava/lang/String;)V"⟩]
def cAO : List String := [RX0, RX1, RX2, RX3]
def cEx : List String := ["java/lang/IndexOutOfBoundsException", "java/lang/IllegalArgumentException", "java/lang/IllegalStateException", "java/util/NoSuchElementException"]
/-- what the tables say of the machine, but for what is in WG: texts, links between nest mates, arrays of references, casts of exceptions -/
def cT (U : State) : Prop :=
  (∀ q ∈ cTx, ∃ a, vk_R RX5 q.1 q.2 a U) ∧ (∀ q ∈ cNF, va_Nw (.fieldLinkNest q.1 q.2.1 q.2.2.1 q.2.2.2.1 q.2.2.2.2.1 q.2.2.2.2.2) U) ∧ (∀ q ∈ cNM, va_Nw (.methodLinkNest q.1 q.2.1 q.2.2.1 q.2.2.2) U) ∧
  (∀ C ∈ cAO, va_AO C U) ∧ (∀ C ∈ cEx, va_Nw (.castable C C) U) ∧ (∀ C ∈ cEx, ∀ E ∈ cEx, C ≠ E → va_Nc C E U) ∧ ∀ y ∈ cDe, va_Nw (.declares y) U
theorem cT.moved {s U : State} (hW : s.WarmedH U.vm) (h : cT s) : cT U :=
  ⟨fun q hq => (h.1 q hq).elim fun a ha => ⟨a, vk_R.warm hW ha⟩, fun q hq => va_Nw.warmF hW (h.2.1 q hq), fun q hq => va_Nw.warmM hW (h.2.2.1 q hq), fun q hq => va_AO.moved hW.alike (h.2.2.2.1 q hq), fun q hq => va_Nw.warmC hW (h.2.2.2.2.1 q hq), fun C hC E hE hn => va_Nc.moved hW.alike (h.2.2.2.2.2.1 C hC E hE hn), fun y hy => va_Nw.warmD hW (h.2.2.2.2.2.2 y hy)⟩
theorem cT.same {s U : State} (hv : U.vm = s.vm) (h : cT s) : cT U := by
  have hA : s.vm.Alike U.vm := by rw [hv]; exact Vm.Alike.refl _
  exact ⟨fun q hq => (h.1 q hq).elim fun a ha => ⟨a, vk_R.same hv ha⟩, fun q hq => va_Nw.same rfl hv.symm (h.2.1 q hq), fun q hq => va_Nw.same rfl hv.symm (h.2.2.1 q hq), fun q hq => va_AO.moved hA (h.2.2.2.1 q hq), fun q hq => va_Nw.same rfl hv.symm (h.2.2.2.2.1 q hq), fun C hC E hE hn => va_Nc.moved hA (h.2.2.2.2.2.1 C hC E hE hn), fun y hy => va_Nw.same rfl hv.symm (h.2.2.2.2.2.2 y hy)⟩
/-- what the surroundings give: statics that nobody writes, and cT -/
def cG (A : Nat → Prop) (U : State) (H : Heap) : Prop :=
  vx_Zq Bundle.tN "UNASSIGNED_STACK" Bundle.steD A U H ∧ vx_Zq Bundle.tN "SUPPRESSED_SENTINEL" Bundle.listD A U H ∧
  (∃ t, va_Z RX5 "STEP_X" "[I" (.ref t) A U H ∧ va_T .int t 4 stepX A U H) ∧ (∃ t, va_Z RX5 "STEP_Y" "[I" (.ref t) A U H ∧ va_T .int t 4 stepY A U H) ∧ cT U
theorem cG.moved {A : Nat → Prop} {s U : State} {H : Heap} (hW : s.WarmedH U.vm) (h : cG A s H) : cG A U H := by
  obtain ⟨h1, h2, ⟨t, h3, h4⟩, ⟨t', h5, h6⟩, h7⟩ := h
  exact ⟨vx_Zq.moved hW.alike h1, vx_Zq.moved hW.alike h2, ⟨t, h3.moved hW.alike, h4.moved hW.alike⟩, ⟨t', h5.moved hW.alike, h6.moved hW.alike⟩, cT.moved hW h7⟩
theorem cG.same {A : Nat → Prop} {s U : State} {H : Heap} (hv : U.vm = s.vm) (h : cG A s H) : cG A U H := by
  obtain ⟨h1, h2, ⟨t, h3, h4⟩, ⟨t', h5, h6⟩, h7⟩ := h
  have hA : s.vm.Alike U.vm := by rw [hv]; exact Vm.Alike.refl _
  exact ⟨vx_Zq.moved hA h1, vx_Zq.moved hA h2, ⟨t, h3.moved hA, h4.moved hA⟩, ⟨t', h5.moved hA, h6.moved hA⟩, cT.same hv h7⟩
theorem cG.kept {A : Nat → Prop} {s : State} {H H1 : Heap} (h : cG A s H) (hq : ∀ a : Nat, a < H.size → ¬ A a → H1[a]? = H[a]?) : cG A s H1 := by
  obtain ⟨h1, h2, ⟨t, h3, h4⟩, ⟨t', h5, h6⟩, h7⟩ := h
  exact ⟨h1.kept hq, h2.kept hq, ⟨t, h3.kept hq, h4.kept hq⟩, ⟨t', h5.kept hq, h6.kept hq⟩, h7⟩
theorem cG.narrow {A B : Nat → Prop} {s : State} {H : Heap} (h : cG A s H) (hAB : ∀ q, B q → A q) : cG B s H := by
  obtain ⟨h1, h2, ⟨t, h3, h4⟩, ⟨t', h5, h6⟩, h7⟩ := h
  exact ⟨h1.narrow hAB, h2.narrow hAB, ⟨t, h3.narrow hAB, h4.narrow hAB⟩, ⟨t', h5.narrow hAB, h6.narrow hAB⟩, h7⟩
/-- what a body knows all along -/
def sw_C (p : Program) (s : State) (m : MethodId) (args : Array Value) (c : Code) (cc : ByteArray) (nL : Nat) (own : String) (Ts : List Cond) (D : va_G) (k : Nat → ClassId) (A : Nat → Prop) : Prop :=
  CallFix p m c cc nL s args Ts own ∧ va_K D vwCl (TYS k) s ∧ (∀ q, s.heap.size ≤ q → A q) ∧ cG A s s.heap
def SW (p : Program) (l : Launch) (e : Env) (R : Room) (s : State) (m : MethodId) (args : Array Value) (below : List Frame) (meth : Method) (c : Code) (nL : Nat) (D : va_G) (A : Nat → Prop) (cells slots : Nat) (Q : State → Prop) (w : va_W) (pc : Nat) (lv : List (Nat × Value)) (st : List Value) : Prop :=
  ∀ (H : Heap) (locs : List Loc) (ls : Array Slot), va_P D vwCl w H → va_D A w → va_S A s.heap H locs → lv_has ls nL lv → W p l e R s m args below meth c H locs cells slots Q (F0 m pc ls st)
section SWr
variable {p : Program} {l : Launch} {e : Env} {R : Room} {s : State} {m : MethodId} {args : Array Value} {below : List Frame} {meth : Method} {c : Code} {nL : Nat} {D : va_G} {A : Nat → Prop} {cells slots : Nat} {Q : State → Prop}
variable {cc : ByteArray} {own : String} {Ts : List Cond} {k : Nat → ClassId} {w : va_W} {pc : Nat} {lv : List (Nat × Value)} {st : List Value}
theorem sw_ts (X : sw_C p s m args c cc nL own Ts D k A) : ∀ w ∈ Ts, w.before args s = true := X.1.2.2.2.2
theorem sw_widen {c1 s1 : Nat} (h1 : cells ≤ c1) (h2 : slots ≤ s1) (kk : SW p l e R s m args below meth c nL D A c1 s1 Q w pc lv st) : SW p l e R s m args below meth c nL D A cells slots Q w pc lv st :=
  fun H locs ls hP hD hS hl => W.widen h1 h2 (kk H locs ls hP hD hS hl)
theorem sw_sub {lv' : List (Nat × Value)} (ks : List Nat) (h : lv_pick lv ks = lv') (kk : SW p l e R s m args below meth c nL D A cells slots Q w pc lv' st) : SW p l e R s m args below meth c nL D A cells slots Q w pc lv st :=
  fun H locs ls hP hD hS hl => kk H locs ls hP hD hS (lv_sub hl ks h)
theorem sw_iconst (X : sw_C p s m args c cc nL own Ts D k A) {n : Int} (hdg : decode cc pc = .ok (.iconst n, 1)) (kk : SW p l e R s m args below meth c nL D A cells slots Q w (pc + 1) lv (.int (J n) :: st)) : SW p l e R s m args below meth c nL D A cells slots Q w pc lv st :=
  fun H locs ls hP hD hS hl => lv_iconst X.1.1 X.1.2.1 hdg rfl (kk H locs ls hP hD hS hl)
theorem sw_bipush (X : sw_C p s m args c cc nL own Ts D k A) {n : Int} (hdg : decode cc pc = .ok (.bipush n, 2)) (hv : (Int8.ofInt n).toInt32 = J n) (kk : SW p l e R s m args below meth c nL D A cells slots Q w (pc + 2) lv (.int (J n) :: st)) : SW p l e R s m args below meth c nL D A cells slots Q w pc lv st :=
  fun H locs ls hP hD hS hl => lv_bipush X.1.1 X.1.2.1 hdg hv (kk H locs ls hP hD hS hl)
theorem sw_sipush (X : sw_C p s m args c cc nL own Ts D k A) {n : Int} (hdg : decode cc pc = .ok (.sipush n, 3)) (hv : (Int16.ofInt n).toInt32 = J n) (kk : SW p l e R s m args below meth c nL D A cells slots Q w (pc + 3) lv (.int (J n) :: st)) : SW p l e R s m args below meth c nL D A cells slots Q w pc lv st :=
  fun H locs ls hP hD hS hl => lv_sipush X.1.1 X.1.2.1 hdg hv (kk H locs ls hP hD hS hl)
theorem sw_null (X : sw_C p s m args c cc nL own Ts D k A) (hdg : decode cc pc = .ok (.aconst_null, 1)) (kk : SW p l e R s m args below meth c nL D A cells slots Q w (pc + 1) lv (.null :: st)) : SW p l e R s m args below meth c nL D A cells slots Q w pc lv st :=
  fun H locs ls hP hD hS hl => lv_null X.1.1 X.1.2.1 hdg (kk H locs ls hP hD hS hl)
theorem sw_iload_n (X : sw_C p s m args c cc nL own Ts D k A) {j : Fin 4} {i : Nat} {x : Int32} (hdg : decode cc pc = .ok (.iload_n j, 1)) (hi : (j : Nat) = i) (q : Nat) (hq : lv[q]? = some (i, .int x)) (kk : SW p l e R s m args below meth c nL D A cells slots Q w (pc + 1) lv (.int x :: st)) : SW p l e R s m args below meth c nL D A cells slots Q w pc lv st :=
  fun H locs ls hP hD hS hl => lv_iload_n X.1.1 X.1.2.1 hdg hi (lv_at hl q hq) (kk H locs ls hP hD hS hl)
theorem sw_iload (X : sw_C p s m args c cc nL own Ts D k A) {i : Nat} {x : Int32} (hdg : decode cc pc = .ok (.iload i, 2)) (q : Nat) (hq : lv[q]? = some (i, .int x)) (kk : SW p l e R s m args below meth c nL D A cells slots Q w (pc + 2) lv (.int x :: st)) : SW p l e R s m args below meth c nL D A cells slots Q w pc lv st :=
  fun H locs ls hP hD hS hl => lv_iload X.1.1 X.1.2.1 hdg (lv_at hl q hq) (kk H locs ls hP hD hS hl)
theorem sw_aload_n (X : sw_C p s m args c cc nL own Ts D k A) {j : Fin 4} {i : Nat} {x : Nat} (hdg : decode cc pc = .ok (.aload_n j, 1)) (hi : (j : Nat) = i) (q : Nat) (hq : lv[q]? = some (i, .ref x)) (kk : SW p l e R s m args below meth c nL D A cells slots Q w (pc + 1) lv (.ref x :: st)) : SW p l e R s m args below meth c nL D A cells slots Q w pc lv st :=
  fun H locs ls hP hD hS hl => lv_aload_n X.1.1 X.1.2.1 hdg hi (lv_at hl q hq) (kk H locs ls hP hD hS hl)
theorem sw_aload_nN (X : sw_C p s m args c cc nL own Ts D k A) {j : Fin 4} {i : Nat} (hdg : decode cc pc = .ok (.aload_n j, 1)) (hi : (j : Nat) = i) (q : Nat) (hq : lv[q]? = some (i, .null)) (kk : SW p l e R s m args below meth c nL D A cells slots Q w (pc + 1) lv (.null :: st)) : SW p l e R s m args below meth c nL D A cells slots Q w pc lv st :=
  fun H locs ls hP hD hS hl => lv_aload_nN X.1.1 X.1.2.1 hdg hi (lv_at hl q hq) (kk H locs ls hP hD hS hl)
theorem sw_aload (X : sw_C p s m args c cc nL own Ts D k A) {i : Nat} {x : Nat} (hdg : decode cc pc = .ok (.aload i, 2)) (q : Nat) (hq : lv[q]? = some (i, .ref x)) (kk : SW p l e R s m args below meth c nL D A cells slots Q w (pc + 2) lv (.ref x :: st)) : SW p l e R s m args below meth c nL D A cells slots Q w pc lv st :=
  fun H locs ls hP hD hS hl => lv_aload X.1.1 X.1.2.1 hdg (lv_at hl q hq) (kk H locs ls hP hD hS hl)
theorem sw_aloadN (X : sw_C p s m args c cc nL own Ts D k A) {i : Nat} (hdg : decode cc pc = .ok (.aload i, 2)) (q : Nat) (hq : lv[q]? = some (i, .null)) (kk : SW p l e R s m args below meth c nL D A cells slots Q w (pc + 2) lv (.null :: st)) : SW p l e R s m args below meth c nL D A cells slots Q w pc lv st :=
  fun H locs ls hP hD hS hl => lv_aloadN X.1.1 X.1.2.1 hdg (lv_at hl q hq) (kk H locs ls hP hD hS hl)
theorem sw_istore_n (X : sw_C p s m args c cc nL own Ts D k A) {j : Fin 4} {i : Nat} {x : Int32} {lv' : List (Nat × Value)} (hdg : decode cc pc = .ok (.istore_n j, 1)) (hi : (j : Nat) = i) (hn : i < nL) (hl' : (i, Value.int x) :: lv.filter (fun q => !(q.1 == i) && !(q.1 + 1 == i && q.2.category == 2)) = lv') (kk : SW p l e R s m args below meth c nL D A cells slots Q w (pc + 1) lv' st) : SW p l e R s m args below meth c nL D A cells slots Q w pc lv (.int x :: st) :=
  fun H locs ls hP hD hS hl => lv_istore_n X.1.1 X.1.2.1 hdg hi hl hn hl' (fun ls hl => kk H locs ls hP hD hS hl)
theorem sw_istore (X : sw_C p s m args c cc nL own Ts D k A) {i : Nat} {x : Int32} {lv' : List (Nat × Value)} (hdg : decode cc pc = .ok (.istore i, 2)) (hn : i < nL) (hl' : (i, Value.int x) :: lv.filter (fun q => !(q.1 == i) && !(q.1 + 1 == i && q.2.category == 2)) = lv') (kk : SW p l e R s m args below meth c nL D A cells slots Q w (pc + 2) lv' st) : SW p l e R s m args below meth c nL D A cells slots Q w pc lv (.int x :: st) :=
  fun H locs ls hP hD hS hl => lv_istore X.1.1 X.1.2.1 hdg hl hn hl' (fun ls hl => kk H locs ls hP hD hS hl)
theorem sw_astore_n (X : sw_C p s m args c cc nL own Ts D k A) {j : Fin 4} {i : Nat} {x : Nat} {lv' : List (Nat × Value)} (hdg : decode cc pc = .ok (.astore_n j, 1)) (hi : (j : Nat) = i) (hn : i < nL) (hl' : (i, Value.ref x) :: lv.filter (fun q => !(q.1 == i) && !(q.1 + 1 == i && q.2.category == 2)) = lv') (kk : SW p l e R s m args below meth c nL D A cells slots Q w (pc + 1) lv' st) : SW p l e R s m args below meth c nL D A cells slots Q w pc lv (.ref x :: st) :=
  fun H locs ls hP hD hS hl => lv_astore_n X.1.1 X.1.2.1 hdg hi hl hn hl' (fun ls hl => kk H locs ls hP hD hS hl)
theorem sw_astore (X : sw_C p s m args c cc nL own Ts D k A) {i : Nat} {x : Nat} {lv' : List (Nat × Value)} (hdg : decode cc pc = .ok (.astore i, 2)) (hn : i < nL) (hl' : (i, Value.ref x) :: lv.filter (fun q => !(q.1 == i) && !(q.1 + 1 == i && q.2.category == 2)) = lv') (kk : SW p l e R s m args below meth c nL D A cells slots Q w (pc + 2) lv' st) : SW p l e R s m args below meth c nL D A cells slots Q w pc lv (.ref x :: st) :=
  fun H locs ls hP hD hS hl => lv_astore X.1.1 X.1.2.1 hdg hl hn hl' (fun ls hl => kk H locs ls hP hD hS hl)
theorem sw_astore_nN (X : sw_C p s m args c cc nL own Ts D k A) {j : Fin 4} {i : Nat} {lv' : List (Nat × Value)} (hdg : decode cc pc = .ok (.astore_n j, 1)) (hi : (j : Nat) = i) (hn : i < nL) (hl' : (i, Value.null) :: lv.filter (fun q => !(q.1 == i) && !(q.1 + 1 == i && q.2.category == 2)) = lv') (kk : SW p l e R s m args below meth c nL D A cells slots Q w (pc + 1) lv' st) : SW p l e R s m args below meth c nL D A cells slots Q w pc lv (.null :: st) :=
  fun H locs ls hP hD hS hl => lv_astore_nN X.1.1 X.1.2.1 hdg hi hl hn hl' (fun ls hl => kk H locs ls hP hD hS hl)
theorem sw_astoreN (X : sw_C p s m args c cc nL own Ts D k A) {i : Nat} {lv' : List (Nat × Value)} (hdg : decode cc pc = .ok (.astore i, 2)) (hn : i < nL) (hl' : (i, Value.null) :: lv.filter (fun q => !(q.1 == i) && !(q.1 + 1 == i && q.2.category == 2)) = lv') (kk : SW p l e R s m args below meth c nL D A cells slots Q w (pc + 2) lv' st) : SW p l e R s m args below meth c nL D A cells slots Q w pc lv (.null :: st) :=
  fun H locs ls hP hD hS hl => lv_astoreN X.1.1 X.1.2.1 hdg hl hn hl' (fun ls hl => kk H locs ls hP hD hS hl)
theorem sw_iinc (X : sw_C p s m args c cc nL own Ts D k A) {i : Nat} {n a : Int} {lv' : List (Nat × Value)} (hdg : decode cc pc = .ok (.iinc i n, 3)) (q : Nat) (hq : lv[q]? = some (i, .int (J a))) (hn : i < nL) (hl' : (i, Value.int (J (a + n))) :: lv.filter (fun q => !(q.1 == i) && !(q.1 + 1 == i && q.2.category == 2)) = lv') (kk : SW p l e R s m args below meth c nL D A cells slots Q w (pc + 3) lv' st) : SW p l e R s m args below meth c nL D A cells slots Q w pc lv st :=
  fun H locs ls hP hD hS hl => lv_iinc X.1.1 X.1.2.1 hdg hl hq (J_add a n) hn hl' (fun ls hl => kk H locs ls hP hD hS hl)
theorem sw_iadd (X : sw_C p s m args c cc nL own Ts D k A) {a b : Int} (hdg : decode cc pc = .ok (.iadd, 1)) (kk : SW p l e R s m args below meth c nL D A cells slots Q w (pc + 1) lv (.int (J (a + b)) :: st)) : SW p l e R s m args below meth c nL D A cells slots Q w pc lv (.int (J b) :: .int (J a) :: st) :=
  fun H locs ls hP hD hS hl => lv_iadd X.1.1 X.1.2.1 hdg (by rw [J_add]; exact kk H locs ls hP hD hS hl)
theorem sw_isub (X : sw_C p s m args c cc nL own Ts D k A) {a b : Int} (hdg : decode cc pc = .ok (.isub, 1)) (kk : SW p l e R s m args below meth c nL D A cells slots Q w (pc + 1) lv (.int (J (a - b)) :: st)) : SW p l e R s m args below meth c nL D A cells slots Q w pc lv (.int (J b) :: .int (J a) :: st) :=
  fun H locs ls hP hD hS hl => lv_isub X.1.1 X.1.2.1 hdg (by rw [J_sub]; exact kk H locs ls hP hD hS hl)
theorem sw_imul (X : sw_C p s m args c cc nL own Ts D k A) {a b : Int} (hdg : decode cc pc = .ok (.imul, 1)) (kk : SW p l e R s m args below meth c nL D A cells slots Q w (pc + 1) lv (.int (J (a * b)) :: st)) : SW p l e R s m args below meth c nL D A cells slots Q w pc lv (.int (J b) :: .int (J a) :: st) :=
  fun H locs ls hP hD hS hl => lv_imul X.1.1 X.1.2.1 hdg (by rw [J_mul]; exact kk H locs ls hP hD hS hl)
theorem sw_ineg (X : sw_C p s m args c cc nL own Ts D k A) {a : Int} (hdg : decode cc pc = .ok (.ineg, 1)) (kk : SW p l e R s m args below meth c nL D A cells slots Q w (pc + 1) lv (.int (J (-a)) :: st)) : SW p l e R s m args below meth c nL D A cells slots Q w pc lv (.int (J a) :: st) :=
  fun H locs ls hP hD hS hl => lv_ineg X.1.1 X.1.2.1 hdg (by rw [J_neg]; exact kk H locs ls hP hD hS hl)
theorem sw_iand (X : sw_C p s m args c cc nL own Ts D k A) {a n : Int} (j : Nat) (h0 : 0 ≤ a) (h1 : a < 2147483648) (hm : (J n).toBitVec.toNat = 2 ^ j - 1) (hdg : decode cc pc = .ok (.iand, 1)) (kk : SW p l e R s m args below meth c nL D A cells slots Q w (pc + 1) lv (.int (J (a % (2 ^ j : Nat))) :: st)) : SW p l e R s m args below meth c nL D A cells slots Q w pc lv (.int (J n) :: .int (J a) :: st) :=
  fun H locs ls hP hD hS hl => lv_iand X.1.1 X.1.2.1 hdg (by rw [J_and j h0 h1 hm]; exact kk H locs ls hP hD hS hl)
theorem sw_ishr (X : sw_C p s m args c cc nL own Ts D k A) {a d : Int} (j : Nat) (h0 : 0 ≤ a) (h1 : a < 2147483648) (hm : ((J d &&& 31).toBitVec.smod 32).toNat = j) (hdg : decode cc pc = .ok (.ishr, 1)) (kk : SW p l e R s m args below meth c nL D A cells slots Q w (pc + 1) lv (.int (J (a / (2 ^ j : Nat))) :: st)) : SW p l e R s m args below meth c nL D A cells slots Q w pc lv (.int (J d) :: .int (J a) :: st) :=
  fun H locs ls hP hD hS hl => lv_ishr X.1.1 X.1.2.1 hdg (by rw [J_shr j h0 h1 hm]; exact kk H locs ls hP hD hS hl)
theorem sw_ishl4 (X : sw_C p s m args c cc nL own Ts D k A) {a : Int} (ha : a = 0 ∨ a = 1 ∨ a = -1) (hdg : decode cc pc = .ok (.ishl, 1)) (kk : SW p l e R s m args below meth c nL D A cells slots Q w (pc + 1) lv (.int (J (a * 16)) :: st)) : SW p l e R s m args below meth c nL D A cells slots Q w pc lv (.int (J 4) :: .int (J a) :: st) :=
  fun H locs ls hP hD hS hl => lv_ishl X.1.1 X.1.2.1 hdg (by
    have h : J a <<< (J 4 &&& 31) = J (a * 16) := by rcases ha with rfl | rfl | rfl <;> decide +kernel
    rw [h]; exact kk H locs ls hP hD hS hl)
theorem sw_idiv (X : sw_C p s m args c cc nL own Ts D k A) {a d : Int} (h0 : 0 ≤ a) (h1 : a < 2147483648) (hd : 0 < d ∧ d < 2147483648) (hdg : decode cc pc = .ok (.idiv, 1)) (kk : SW p l e R s m args below meth c nL D A cells slots Q w (pc + 1) lv (.int (J (a / d)) :: st)) : SW p l e R s m args below meth c nL D A cells slots Q w pc lv (.int (J d) :: .int (J a) :: st) :=
  fun H locs ls hP hD hS hl => lv_idiv X.1.1 X.1.2.1 hdg (by rw [J_0, J_eq (by omega) (by omega)]; omega) (by rw [J_div h0 h1 hd.1 hd.2]; exact kk H locs ls hP hD hS hl)
theorem sw_irem (X : sw_C p s m args c cc nL own Ts D k A) {a d : Int} (h0 : 0 ≤ a) (h1 : a < 2147483648) (hd : 0 < d ∧ d < 2147483648) (hdg : decode cc pc = .ok (.irem, 1)) (kk : SW p l e R s m args below meth c nL D A cells slots Q w (pc + 1) lv (.int (J (a % d)) :: st)) : SW p l e R s m args below meth c nL D A cells slots Q w pc lv (.int (J d) :: .int (J a) :: st) :=
  fun H locs ls hP hD hS hl => lv_irem X.1.1 X.1.2.1 hdg (by rw [J_0, J_eq (by omega) (by omega)]; omega) (by rw [J_rem h0 h1 hd.1 hd.2]; exact kk H locs ls hP hD hS hl)
theorem sw_dup (X : sw_C p s m args c cc nL own Ts D k A) {v : Value} (hdg : decode cc pc = .ok (.dup, 1)) (hv : v.category = 1) (kk : SW p l e R s m args below meth c nL D A cells slots Q w (pc + 1) lv (v :: v :: st)) : SW p l e R s m args below meth c nL D A cells slots Q w pc lv (v :: st) :=
  fun H locs ls hP hD hS hl => lv_dup X.1.1 X.1.2.1 hdg hv (kk H locs ls hP hD hS hl)
theorem sw_pop (X : sw_C p s m args c cc nL own Ts D k A) {v : Value} (hdg : decode cc pc = .ok (.pop, 1)) (hv : v.category = 1) (kk : SW p l e R s m args below meth c nL D A cells slots Q w (pc + 1) lv st) : SW p l e R s m args below meth c nL D A cells slots Q w pc lv (v :: st) :=
  fun H locs ls hP hD hS hl => lv_pop X.1.1 X.1.2.1 hdg hv (kk H locs ls hP hD hS hl)
theorem sw_dup2 (X : sw_C p s m args c cc nL own Ts D k A) {v u : Value} (hdg : decode cc pc = .ok (.dup2, 1)) (hv : v.category = 1) (hu : u.category = 1) (kk : SW p l e R s m args below meth c nL D A cells slots Q w (pc + 1) lv (v :: u :: v :: u :: st)) : SW p l e R s m args below meth c nL D A cells slots Q w pc lv (v :: u :: st) :=
  fun H locs ls hP hD hS hl => lv_dup2_11 X.1.1 X.1.2.1 hdg hv hu (kk H locs ls hP hD hS hl)
theorem sw_goto (X : sw_C p s m args c cc nL own Ts D k A) {off : Int} {tgt : Nat} (hdg : decode cc pc = .ok (.goto off, 3)) (ht : (pc : Int) + off = (tgt : Int)) (kk : SW p l e R s m args below meth c nL D A cells slots Q w tgt lv st) : SW p l e R s m args below meth c nL D A cells slots Q w pc lv st :=
  fun H locs ls hP hD hS hl => lv_goto X.1.1 X.1.2.1 hdg ht (kk H locs ls hP hD hS hl)
theorem sw_icmp_eq (X : sw_C p s m args c cc nL own Ts D k A) {a b : Int} {off : Int} {tgt : Nat} (ha : -2147483648 ≤ a ∧ a < 2147483648) (hb : -2147483648 ≤ b ∧ b < 2147483648) (hdg : decode cc pc = .ok (.if_icmp .eq off, 3)) (ht : (pc : Int) + off = (tgt : Int)) (kt : a = b → SW p l e R s m args below meth c nL D A cells slots Q w tgt lv st) (kf : ¬ a = b → SW p l e R s m args below meth c nL D A cells slots Q w (pc + 3) lv st) : SW p l e R s m args below meth c nL D A cells slots Q w pc lv (.int (J b) :: .int (J a) :: st) := by
  intro H locs ls hP hD hS hl
  have hq := J_eq ha hb
  refine lv_icmp_eq X.1.1 X.1.2.1 hdg ht (fun h => kt ?_ H locs ls hP hD hS hl) (fun h => kf ?_ H locs ls hP hD hS hl)
  · exact hq.mp h
  · exact fun z => h (hq.mpr z)
theorem sw_if_eq (X : sw_C p s m args c cc nL own Ts D k A) {a : Int} {off : Int} {tgt : Nat} (ha : -2147483648 ≤ a ∧ a < 2147483648) (hdg : decode cc pc = .ok (.ifCond .eq off, 3)) (ht : (pc : Int) + off = (tgt : Int)) (kt : a = 0 → SW p l e R s m args below meth c nL D A cells slots Q w tgt lv st) (kf : ¬ a = 0 → SW p l e R s m args below meth c nL D A cells slots Q w (pc + 3) lv st) : SW p l e R s m args below meth c nL D A cells slots Q w pc lv (.int (J a) :: st) := by
  intro H locs ls hP hD hS hl
  have hq := J_eq ha (show -2147483648 ≤ (0 : Int) ∧ (0 : Int) < 2147483648 by omega)
  refine lv_if_eq X.1.1 X.1.2.1 hdg ht (fun h => kt ?_ H locs ls hP hD hS hl) (fun h => kf ?_ H locs ls hP hD hS hl)
  · exact hq.mp h
  · exact fun z => h (hq.mpr z)
theorem sw_icmp_ne (X : sw_C p s m args c cc nL own Ts D k A) {a b : Int} {off : Int} {tgt : Nat} (ha : -2147483648 ≤ a ∧ a < 2147483648) (hb : -2147483648 ≤ b ∧ b < 2147483648) (hdg : decode cc pc = .ok (.if_icmp .ne off, 3)) (ht : (pc : Int) + off = (tgt : Int)) (kt : ¬ a = b → SW p l e R s m args below meth c nL D A cells slots Q w tgt lv st) (kf : a = b → SW p l e R s m args below meth c nL D A cells slots Q w (pc + 3) lv st) : SW p l e R s m args below meth c nL D A cells slots Q w pc lv (.int (J b) :: .int (J a) :: st) := by
  intro H locs ls hP hD hS hl
  have hq := not_congr (J_eq ha hb)
  refine lv_icmp_ne X.1.1 X.1.2.1 hdg ht (fun h => kt ?_ H locs ls hP hD hS hl) (fun h => kf ?_ H locs ls hP hD hS hl)
  · exact hq.mp h
  · exact (J_eq ha hb).mp h
theorem sw_if_ne (X : sw_C p s m args c cc nL own Ts D k A) {a : Int} {off : Int} {tgt : Nat} (ha : -2147483648 ≤ a ∧ a < 2147483648) (hdg : decode cc pc = .ok (.ifCond .ne off, 3)) (ht : (pc : Int) + off = (tgt : Int)) (kt : ¬ a = 0 → SW p l e R s m args below meth c nL D A cells slots Q w tgt lv st) (kf : a = 0 → SW p l e R s m args below meth c nL D A cells slots Q w (pc + 3) lv st) : SW p l e R s m args below meth c nL D A cells slots Q w pc lv (.int (J a) :: st) := by
  intro H locs ls hP hD hS hl
  have hq := not_congr (J_eq ha (show -2147483648 ≤ (0 : Int) ∧ (0 : Int) < 2147483648 by omega))
  refine lv_if_ne X.1.1 X.1.2.1 hdg ht (fun h => kt ?_ H locs ls hP hD hS hl) (fun h => kf ?_ H locs ls hP hD hS hl)
  · exact hq.mp h
  · exact (J_eq ha (show -2147483648 ≤ (0 : Int) ∧ (0 : Int) < 2147483648 by omega)).mp h
theorem sw_icmp_lt (X : sw_C p s m args c cc nL own Ts D k A) {a b : Int} {off : Int} {tgt : Nat} (ha : -2147483648 ≤ a ∧ a < 2147483648) (hb : -2147483648 ≤ b ∧ b < 2147483648) (hdg : decode cc pc = .ok (.if_icmp .lt off, 3)) (ht : (pc : Int) + off = (tgt : Int)) (kt : a < b → SW p l e R s m args below meth c nL D A cells slots Q w tgt lv st) (kf : b ≤ a → SW p l e R s m args below meth c nL D A cells slots Q w (pc + 3) lv st) : SW p l e R s m args below meth c nL D A cells slots Q w pc lv (.int (J b) :: .int (J a) :: st) := by
  intro H locs ls hP hD hS hl
  have hq := J_lt ha hb
  refine lv_icmp_lt X.1.1 X.1.2.1 hdg ht (fun h => kt ?_ H locs ls hP hD hS hl) (fun h => kf ?_ H locs ls hP hD hS hl)
  · exact hq.mp h
  · have h9 : ¬ (a < b) := fun z => h (hq.mpr z)
    omega
theorem sw_if_lt (X : sw_C p s m args c cc nL own Ts D k A) {a : Int} {off : Int} {tgt : Nat} (ha : -2147483648 ≤ a ∧ a < 2147483648) (hdg : decode cc pc = .ok (.ifCond .lt off, 3)) (ht : (pc : Int) + off = (tgt : Int)) (kt : a < 0 → SW p l e R s m args below meth c nL D A cells slots Q w tgt lv st) (kf : 0 ≤ a → SW p l e R s m args below meth c nL D A cells slots Q w (pc + 3) lv st) : SW p l e R s m args below meth c nL D A cells slots Q w pc lv (.int (J a) :: st) := by
  intro H locs ls hP hD hS hl
  have hq := J_lt ha (show -2147483648 ≤ (0 : Int) ∧ (0 : Int) < 2147483648 by omega)
  refine lv_if_lt X.1.1 X.1.2.1 hdg ht (fun h => kt ?_ H locs ls hP hD hS hl) (fun h => kf ?_ H locs ls hP hD hS hl)
  · exact hq.mp h
  · have h9 : ¬ (a < 0) := fun z => h (hq.mpr z)
    omega
theorem sw_icmp_ge (X : sw_C p s m args c cc nL own Ts D k A) {a b : Int} {off : Int} {tgt : Nat} (ha : -2147483648 ≤ a ∧ a < 2147483648) (hb : -2147483648 ≤ b ∧ b < 2147483648) (hdg : decode cc pc = .ok (.if_icmp .ge off, 3)) (ht : (pc : Int) + off = (tgt : Int)) (kt : b ≤ a → SW p l e R s m args below meth c nL D A cells slots Q w tgt lv st) (kf : a < b → SW p l e R s m args below meth c nL D A cells slots Q w (pc + 3) lv st) : SW p l e R s m args below meth c nL D A cells slots Q w pc lv (.int (J b) :: .int (J a) :: st) := by
  intro H locs ls hP hD hS hl
  have hq := J_le hb ha
  refine lv_icmp_ge X.1.1 X.1.2.1 hdg ht (fun h => kt ?_ H locs ls hP hD hS hl) (fun h => kf ?_ H locs ls hP hD hS hl)
  · exact hq.mp h
  · have h9 : ¬ (b ≤ a) := fun z => h (hq.mpr z)
    omega
theorem sw_if_ge (X : sw_C p s m args c cc nL own Ts D k A) {a : Int} {off : Int} {tgt : Nat} (ha : -2147483648 ≤ a ∧ a < 2147483648) (hdg : decode cc pc = .ok (.ifCond .ge off, 3)) (ht : (pc : Int) + off = (tgt : Int)) (kt : 0 ≤ a → SW p l e R s m args below meth c nL D A cells slots Q w tgt lv st) (kf : a < 0 → SW p l e R s m args below meth c nL D A cells slots Q w (pc + 3) lv st) : SW p l e R s m args below meth c nL D A cells slots Q w pc lv (.int (J a) :: st) := by
  intro H locs ls hP hD hS hl
  have hq := J_le (show -2147483648 ≤ (0 : Int) ∧ (0 : Int) < 2147483648 by omega) ha
  refine lv_if_ge X.1.1 X.1.2.1 hdg ht (fun h => kt ?_ H locs ls hP hD hS hl) (fun h => kf ?_ H locs ls hP hD hS hl)
  · exact hq.mp h
  · have h9 : ¬ (0 ≤ a) := fun z => h (hq.mpr z)
    omega
theorem sw_icmp_gt (X : sw_C p s m args c cc nL own Ts D k A) {a b : Int} {off : Int} {tgt : Nat} (ha : -2147483648 ≤ a ∧ a < 2147483648) (hb : -2147483648 ≤ b ∧ b < 2147483648) (hdg : decode cc pc = .ok (.if_icmp .gt off, 3)) (ht : (pc : Int) + off = (tgt : Int)) (kt : b < a → SW p l e R s m args below meth c nL D A cells slots Q w tgt lv st) (kf : a ≤ b → SW p l e R s m args below meth c nL D A cells slots Q w (pc + 3) lv st) : SW p l e R s m args below meth c nL D A cells slots Q w pc lv (.int (J b) :: .int (J a) :: st) := by
  intro H locs ls hP hD hS hl
  have hq := J_lt hb ha
  refine lv_icmp_gt X.1.1 X.1.2.1 hdg ht (fun h => kt ?_ H locs ls hP hD hS hl) (fun h => kf ?_ H locs ls hP hD hS hl)
  · exact hq.mp h
  · have h9 : ¬ (b < a) := fun z => h (hq.mpr z)
    omega
theorem sw_if_gt (X : sw_C p s m args c cc nL own Ts D k A) {a : Int} {off : Int} {tgt : Nat} (ha : -2147483648 ≤ a ∧ a < 2147483648) (hdg : decode cc pc = .ok (.ifCond .gt off, 3)) (ht : (pc : Int) + off = (tgt : Int)) (kt : 0 < a → SW p l e R s m args below meth c nL D A cells slots Q w tgt lv st) (kf : a ≤ 0 → SW p l e R s m args below meth c nL D A cells slots Q w (pc + 3) lv st) : SW p l e R s m args below meth c nL D A cells slots Q w pc lv (.int (J a) :: st) := by
  intro H locs ls hP hD hS hl
  have hq := J_lt (show -2147483648 ≤ (0 : Int) ∧ (0 : Int) < 2147483648 by omega) ha
  refine lv_if_gt X.1.1 X.1.2.1 hdg ht (fun h => kt ?_ H locs ls hP hD hS hl) (fun h => kf ?_ H locs ls hP hD hS hl)
  · exact hq.mp h
  · have h9 : ¬ (0 < a) := fun z => h (hq.mpr z)
    omega
theorem sw_icmp_le (X : sw_C p s m args c cc nL own Ts D k A) {a b : Int} {off : Int} {tgt : Nat} (ha : -2147483648 ≤ a ∧ a < 2147483648) (hb : -2147483648 ≤ b ∧ b < 2147483648) (hdg : decode cc pc = .ok (.if_icmp .le off, 3)) (ht : (pc : Int) + off = (tgt : Int)) (kt : a ≤ b → SW p l e R s m args below meth c nL D A cells slots Q w tgt lv st) (kf : b < a → SW p l e R s m args below meth c nL D A cells slots Q w (pc + 3) lv st) : SW p l e R s m args below meth c nL D A cells slots Q w pc lv (.int (J b) :: .int (J a) :: st) := by
  intro H locs ls hP hD hS hl
  have hq := J_le ha hb
  refine lv_icmp_le X.1.1 X.1.2.1 hdg ht (fun h => kt ?_ H locs ls hP hD hS hl) (fun h => kf ?_ H locs ls hP hD hS hl)
  · exact hq.mp h
  · have h9 : ¬ (a ≤ b) := fun z => h (hq.mpr z)
    omega
theorem sw_if_le (X : sw_C p s m args c cc nL own Ts D k A) {a : Int} {off : Int} {tgt : Nat} (ha : -2147483648 ≤ a ∧ a < 2147483648) (hdg : decode cc pc = .ok (.ifCond .le off, 3)) (ht : (pc : Int) + off = (tgt : Int)) (kt : a ≤ 0 → SW p l e R s m args below meth c nL D A cells slots Q w tgt lv st) (kf : 0 < a → SW p l e R s m args below meth c nL D A cells slots Q w (pc + 3) lv st) : SW p l e R s m args below meth c nL D A cells slots Q w pc lv (.int (J a) :: st) := by
  intro H locs ls hP hD hS hl
  have hq := J_le ha (show -2147483648 ≤ (0 : Int) ∧ (0 : Int) < 2147483648 by omega)
  refine lv_if_le X.1.1 X.1.2.1 hdg ht (fun h => kt ?_ H locs ls hP hD hS hl) (fun h => kf ?_ H locs ls hP hD hS hl)
  · exact hq.mp h
  · have h9 : ¬ (a ≤ 0) := fun z => h (hq.mpr z)
    omega
theorem sw_ifnull (X : sw_C p s m args c cc nL own Ts D k A) {x : Nat} {off : Int} (hdg : decode cc pc = .ok (.ifnull off, 3)) (kk : SW p l e R s m args below meth c nL D A cells slots Q w (pc + 3) lv st) : SW p l e R s m args below meth c nL D A cells slots Q w pc lv (.ref x :: st) :=
  fun H locs ls hP hD hS hl => lv_ifnull X.1.1 X.1.2.1 hdg (kk H locs ls hP hD hS hl)
theorem sw_ifnullN (X : sw_C p s m args c cc nL own Ts D k A) {off : Int} {tgt : Nat} (hdg : decode cc pc = .ok (.ifnull off, 3)) (ht : (pc : Int) + off = (tgt : Int)) (kk : SW p l e R s m args below meth c nL D A cells slots Q w tgt lv st) : SW p l e R s m args below meth c nL D A cells slots Q w pc lv (.null :: st) :=
  fun H locs ls hP hD hS hl => lv_ifnullN X.1.1 X.1.2.1 hdg ht (kk H locs ls hP hD hS hl)
theorem sw_ifnonnull (X : sw_C p s m args c cc nL own Ts D k A) {x : Nat} {off : Int} {tgt : Nat} (hdg : decode cc pc = .ok (.ifnonnull off, 3)) (ht : (pc : Int) + off = (tgt : Int)) (kk : SW p l e R s m args below meth c nL D A cells slots Q w tgt lv st) : SW p l e R s m args below meth c nL D A cells slots Q w pc lv (.ref x :: st) :=
  fun H locs ls hP hD hS hl => lv_ifnonnull X.1.1 X.1.2.1 hdg ht (kk H locs ls hP hD hS hl)
theorem sw_ifnonnullN (X : sw_C p s m args c cc nL own Ts D k A) {off : Int} (hdg : decode cc pc = .ok (.ifnonnull off, 3)) (kk : SW p l e R s m args below meth c nL D A cells slots Q w (pc + 3) lv st) : SW p l e R s m args below meth c nL D A cells slots Q w pc lv (.null :: st) :=
  fun H locs ls hP hD hS hl => lv_ifnonnullN X.1.1 X.1.2.1 hdg (kk H locs ls hP hD hS hl)
/-- a field read; a field written -/
theorem sw_get (X : sw_C p s m args c cc nL own Ts D k A) {ref C : String} {T : u_T} {N ci index q0 : Nat} (hin : ∀ w ∈ u_ws C T N, w ∈ Ts) {a : Nat} {fs : List Value} (he : w[q0]? = some (a, .inr (ci, fs))) (hc : vwCl[ci]? = some (C, T, N)) (j : Nat) (hj : j < N) (hlink : Cond.fieldLink own index ref (T j).2.1 (T j).2.2.1 ∈ Ts) (href : (T j).1 = ref) {v : Value} (hv : fs[j]? = some v) (hdg : decode cc pc = .ok (.getfield index, 3)) (kk : SW p l e R s m args below meth c nL D A cells slots Q w (pc + 3) lv (v :: st)) : SW p l e R s m args below meth c nL D A cells slots Q w pc lv (.ref a :: st) :=
  fun H locs ls hP hD hS hl => va_get X.1.1 X.1.2.1 X.1.2.2.2.2 hin X.1.2.2.2.1 X.2.1 hP q0 he hc j hj (X.1.2.2.2.2 _ hlink) (fun _ h9 => href ▸ h9) hv hdg (kk H locs ls hP hD hS hl)
theorem sw_put (X : sw_C p s m args c cc nL own Ts D k A) {ref C : String} {T : u_T} {N ci index q0 : Nat} (hin : ∀ w ∈ u_ws C T N, w ∈ Ts) (ty0 : Nat → FieldType) (hty : ∀ k, k < N → parseFieldDescriptor (T k).2.2.1 = some (ty0 k)) (hnm : ∀ a, a < N → ∀ b, b < N → a ≠ b → (T a).2.1 ≠ (T b).2.1) {a : Nat} {fs : List Value} (he : w[q0]? = some (a, .inr (ci, fs))) (hc : vwCl[ci]? = some (C, T, N)) (j : Nat) (hj : j < N) (hlink : Cond.fieldLink own index ref (T j).2.1 (T j).2.2.1 ∈ Ts) (href : (T j).1 = ref) (hfin : (T j).2.2.2 = false) {ty : FieldType} (hd : parseFieldDescriptor (T j).2.2.1 = some ty) {v : Value} (hn : narrow ty v = v) (hfit : fits ty v = true) (hlen : j < fs.length) {w' : va_W} (hw : w.set q0 (a, .inr (ci, fs.set j v)) = w') (hdg : decode cc pc = .ok (.putfield index, 3)) (kk : SW p l e R s m args below meth c nL D A cells slots Q w' (pc + 3) lv st) : SW p l e R s m args below meth c nL D A cells slots Q w pc lv (v :: .ref a :: st) :=
  fun H locs ls hP hD hS hl => va_put X.1.1 X.1.2.1 X.1.2.2.2.2 hin ty0 hty hnm X.1.2.2.2.1 X.2.1 hP hD hS q0 he hc j hj (X.1.2.2.2.2 _ hlink) (fun _ h9 => href ▸ h9) hfin hd hn hfit hlen hdg (fun H locs hP hD hS => kk H locs ls (hw ▸ hP) (hw ▸ hD) hS hl)
theorem sw_putF (X : sw_C p s m args c cc nL own Ts D k A) (hini : meth.name = "<init>") {ref C : String} {T : u_T} {N ci index q0 : Nat} (hin : ∀ w ∈ u_ws C T N, w ∈ Ts) (ty0 : Nat → FieldType) (hty : ∀ k, k < N → parseFieldDescriptor (T k).2.2.1 = some (ty0 k)) (hnm : ∀ a, a < N → ∀ b, b < N → a ≠ b → (T a).2.1 ≠ (T b).2.1) {a : Nat} {fs : List Value} (he : w[q0]? = some (a, .inr (ci, fs))) (hc : vwCl[ci]? = some (C, T, N)) (j : Nat) (hj : j < N) (hlink : Cond.fieldLink own index ref (T j).2.1 (T j).2.2.1 ∈ Ts) (href : (T j).1 = ref) (hdecl : (T j).1 = own) (hfin : (T j).2.2.2 = true) {ty : FieldType} (hd : parseFieldDescriptor (T j).2.2.1 = some ty) {v : Value} (hn : narrow ty v = v) (hfit : fits ty v = true) (hlen : j < fs.length) {w' : va_W} (hw : w.set q0 (a, .inr (ci, fs.set j v)) = w') (hdg : decode cc pc = .ok (.putfield index, 3)) (kk : SW p l e R s m args below meth c nL D A cells slots Q w' (pc + 3) lv st) : SW p l e R s m args below meth c nL D A cells slots Q w pc lv (v :: .ref a :: st) :=
  fun H locs ls hP hD hS hl => va_putF X.1.1 X.1.2.1 X.1.2.2.2.2 hin ty0 hty hnm X.1.2.2.2.1 X.2.1 hP hD hS q0 he hc j hj (X.1.2.2.2.2 _ hlink) (fun _ h9 => href ▸ h9) hfin hini hdecl hd hn hfit hlen hdg (fun H locs hP hD hS => kk H locs ls (hw ▸ hP) (hw ▸ hD) hS hl)
/-- an array of ints as a function of whole numbers -/
def aI (k : Nat → ClassId) (n : Nat) (f : Int → Int) : va_E := .inl (k 0, n, .inl (fun i => J (f (i : Int))))
def upI (f : Int → Int) (i v : Int) : Int → Int := fun j => if j = i then v else f j
theorem sw_iald (X : sw_C p s m args c cc nL own Ts D k A) {q0 n : Nat} {a : Nat} {f : Int → Int} {i : Int} (he : w[q0]? = some (a, aI k n f)) (h0 : 0 ≤ i) (h1 : i < (n : Int)) (hn : n < 2147483648) (hdg : decode cc pc = .ok (.iaload, 1)) (kk : SW p l e R s m args below meth c nL D A cells slots Q w (pc + 1) lv (.int (J (f i)) :: st)) : SW p l e R s m args below meth c nL D A cells slots Q w pc lv (.int (J i) :: .ref a :: st) :=
  fun H locs ls hP hD hS hl => va_iald X.1.1 X.1.2.1 X.2.1 hP q0 0 he rfl (J_in h0 h1 hn) hdg (by
    rw [J_cl h0 (by omega), show J (f ((i.toNat : Nat) : Int)) = J (f i) by rw [Int.toNat_of_nonneg h0]]; exact kk H locs ls hP hD hS hl)
theorem sw_upJ {f : Int → Int} {i v : Int} (h0 : 0 ≤ i) (h1 : i < 2147483648) : upd (fun j : Nat => J (f (j : Int))) (J i).toNatClampNeg (J v) = fun j : Nat => J (upI f i v (j : Int)) := by
  rw [J_cl h0 h1]
  funext j
  by_cases hj : j = i.toNat
  · have h2 : (j : Int) = i := by omega
    rw [show upd (fun j : Nat => J (f (j : Int))) i.toNat (J v) j = J v by rw [hj]; exact pk_us]
    simp only [upI, if_pos h2]
  · have h2 : ¬ (j : Int) = i := by omega
    rw [pk_un hj]
    simp only [upI, if_neg h2]
theorem sw_iast (X : sw_C p s m args c cc nL own Ts D k A) {q0 n : Nat} {a : Nat} {f : Int → Int} {i v : Int} (he : w[q0]? = some (a, aI k n f)) (h0 : 0 ≤ i) (h1 : i < (n : Int)) (hn : n < 2147483648) {w' : va_W} (hw : w.set q0 (a, aI k n (upI f i v)) = w') (hdg : decode cc pc = .ok (.iastore, 1)) (kk : SW p l e R s m args below meth c nL D A cells slots Q w' (pc + 1) lv st) : SW p l e R s m args below meth c nL D A cells slots Q w pc lv (.int (J v) :: .int (J i) :: .ref a :: st) := by
  intro H locs ls hP hD hS hl
  refine va_iast X.1.1 X.1.2.1 X.2.1 hP hD hS q0 0 he rfl (J_in h0 h1 hn) hdg (fun H locs hP hD hS => ?_)
  rw [sw_upJ h0 (by omega)] at hP hD
  subst hw
  exact kk H locs ls hP hD hS hl
end SWr
