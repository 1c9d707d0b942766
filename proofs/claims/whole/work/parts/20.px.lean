/-! the class's memory: one function of field, address and place (90: the kind, 91: a row's length, 92, 93: a row of ints, of references; a reference is its address or -1) -/
abbrev MM : Type := Nat → Nat → Int → Int
def rO (z : Int) : Option Nat := if 0 ≤ z then some z.toNat else none
theorem rO_n (b : Nat) : rO (b : Int) = some b := by unfold rO; rw [if_pos (Int.natCast_nonneg b), Int.toNat_natCast]
theorem rf_of {z : Int} {b : Nat} (h : z = (b : Int)) : va_rf (rO z) = .ref b := by rw [h, rO_n]; rfl
theorem rf_no {z : Int} (h : z = -1) : va_rf (rO z) = .null := by rw [h]; rfl
def upM (M : MM) (f a : Nat) (i v : Int) : MM := fun g b j => if g = f ∧ b = a ∧ j = i then v else M g b j
def cFs (c : Nat) (M : MM) (a : Nat) : List Value := match c with
  | 0 => [va_rf (rO (M 0 a 0)), va_rf (rO (M 1 a 0)), .int (J (M 2 a 0)), .int (J (M 3 a 0))]
  | 1 => [.int (J (M 10 a 0)), .int (J (M 11 a 0)), .int (J (M 12 a 0))]
  | 2 => [.int (J (M 20 a 0)), .int (J (M 21 a 0)), .int (J (M 22 a 0)), .int (J (M 23 a 0))]
  | 3 => [.int (J (M 30 a 0)), .int (J (M 31 a 0)), .int (J (M 32 a 0)), .int (J (M 33 a 0)), .int (J (M 34 a 0)), .int (J (M 35 a 0))]
  | 4 => [va_rf (rO (M 40 a 0)), .int (J (M 41 a 0)), .int (J (M 42 a 0)), .int (J (M 43 a 0)), .int (J (M 44 a 0))]
  | _ => [.int (J (M 50 a 0)), va_rf (rO (M 51 a 0)), va_rf (rO (M 52 a 0)), .int (J (M 53 a 0)), .int (J (M 54 a 0)), va_rf (rO (M 55 a 0)), .int (J (M 56 a 0)), va_rf (rO (M 57 a 0)), .int (J (M 58 a 0)), va_rf (rO (M 59 a 0))]
def pF (k : Nat → ClassId) (M : MM) (a : Nat) : va_E :=
  if M 90 a 0 = 10 then .inl (k 0, (M 91 a 0).toNat, .inl (fun i => J (M 92 a (i : Int))))
  else if M 90 a 0 = 12 then .inl (k 2, (M 91 a 0).toNat, .inr (.inr (.inr (.inr (fun i => rO (M 93 a (i : Int)))))))
  else if M 90 a 0 = 13 then .inl (k 3, (M 91 a 0).toNat, .inr (.inr (.inr (.inr (fun i => rO (M 93 a (i : Int)))))))
  else if M 90 a 0 = 14 then .inl (k 4, (M 91 a 0).toNat, .inr (.inr (.inr (.inr (fun i => rO (M 93 a (i : Int)))))))
  else if M 90 a 0 = 15 then .inl (k 5, (M 91 a 0).toNat, .inr (.inr (.inr (.inr (fun i => rO (M 93 a (i : Int)))))))
  else .inr ((M 90 a 0).toNat, cFs (M 90 a 0).toNat M a)
def pW (k : Nat → ClassId) (L : List Nat) (M : MM) : va_W := va_pl L (pF k M)
theorem pF_c {k : Nat → ClassId} {M M' : MM} {a : Nat} (h : ∀ f i, M f a i = M' f a i) : pF k M a = pF k M' a := by
  have hc : ∀ c, cFs c M a = cFs c M' a := by
    intro c
    unfold cFs
    simp only [h]
  unfold pF
  simp only [h, hc]
theorem pF_o {k : Nat → ClassId} {M : MM} {a : Nat} {c : Nat} (hc : c < 6) (h : M 90 a 0 = (c : Int)) : pF k M a = .inr (c, cFs c M a) := by
  unfold pF
  rw [if_neg (by omega), if_neg (by omega), if_neg (by omega), if_neg (by omega), if_neg (by omega), h, Int.toNat_natCast]
theorem upM_e (M : MM) (f a : Nat) (i v : Int) : upM M f a i v f a i = v := by unfold upM; rw [if_pos ⟨rfl, rfl, rfl⟩]
theorem upM_f (M : MM) {f g : Nat} (a : Nat) (i v : Int) (b : Nat) (j : Int) (h : g ≠ f) : upM M f a i v g b j = M g b j := by unfold upM; rw [if_neg (fun z => h z.1)]
theorem upM_a (M : MM) (f g : Nat) {a b : Nat} (i v : Int) (j : Int) (h : b ≠ a) : upM M f a i v g b j = M g b j := by unfold upM; rw [if_neg (fun z => h z.2.1)]
theorem upM_i (M : MM) (f g : Nat) (a b : Nat) {i j : Int} (v : Int) (h : j ≠ i) : upM M f a i v g b j = M g b j := by unfold upM; rw [if_neg (fun z => h z.2.2)]
theorem upM_x (M : MM) (f g : Nat) (a b : Nat) (i j v : Int) : upM M f a i v g b j = if g = f ∧ b = a ∧ j = i then v else M g b j := rfl
theorem pW_get {k : Nat → ClassId} {L : List Nat} {M : MM} {a : Nat} (h : a ∈ L) : ∃ q : Nat, (pW k L M)[q]? = some (a, pF k M a) := va_pl_get (X := []) h
/-- one cell of the pool changes -/
theorem pW_set {k : Nat → ClassId} {L : List Nat} {M M' : MM} {A : Nat → Prop} {a q : Nat} {e : va_E} (hD : va_D A (pW k L M)) (hL : a ∈ L) (hq : (pW k L M)[q]? = some (a, pF k M a)) (he : pF k M' a = e) (ho : ∀ f b i, b ≠ a → M' f b i = M f b i) : (pW k L M).set q (a, e) = pW k L M' := by
  refine (va_pl_set (X := []) hD hL hq).trans ?_
  show va_pl L (va_up (pF k M) a e) = va_pl L (pF k M')
  refine va_pl_congr (fun b => ?_)
  by_cases hb : b = a
  · subst hb
    rw [va_up_self, he]
  · rw [va_up_ne _ _ hb]
    exact pF_c (fun f i => (ho f b i hb).symm)
theorem pS0 (M : MM) (a b : Nat) : cFs 0 (upM M 0 a 0 (b : Int)) a = (cFs 0 M a).set 0 (.ref b) := by simp [cFs, upM, rO_n, va_rf]
theorem pS1 (M : MM) (a b : Nat) : cFs 0 (upM M 1 a 0 (b : Int)) a = (cFs 0 M a).set 1 (.ref b) := by simp [cFs, upM, rO_n, va_rf]
theorem pS2 (M : MM) (a : Nat) (v : Int) : cFs 0 (upM M 2 a 0 v) a = (cFs 0 M a).set 2 (.int (J v)) := by simp [cFs, upM]
theorem pS3 (M : MM) (a : Nat) (v : Int) : cFs 0 (upM M 3 a 0 v) a = (cFs 0 M a).set 3 (.int (J v)) := by simp [cFs, upM]
theorem pS10 (M : MM) (a : Nat) (v : Int) : cFs 1 (upM M 10 a 0 v) a = (cFs 1 M a).set 0 (.int (J v)) := by simp [cFs, upM]
theorem pS11 (M : MM) (a : Nat) (v : Int) : cFs 1 (upM M 11 a 0 v) a = (cFs 1 M a).set 1 (.int (J v)) := by simp [cFs, upM]
theorem pS12 (M : MM) (a : Nat) (v : Int) : cFs 1 (upM M 12 a 0 v) a = (cFs 1 M a).set 2 (.int (J v)) := by simp [cFs, upM]
theorem pS20 (M : MM) (a : Nat) (v : Int) : cFs 2 (upM M 20 a 0 v) a = (cFs 2 M a).set 0 (.int (J v)) := by simp [cFs, upM]
theorem pS21 (M : MM) (a : Nat) (v : Int) : cFs 2 (upM M 21 a 0 v) a = (cFs 2 M a).set 1 (.int (J v)) := by simp [cFs, upM]
theorem pS22 (M : MM) (a : Nat) (v : Int) : cFs 2 (upM M 22 a 0 v) a = (cFs 2 M a).set 2 (.int (J v)) := by simp [cFs, upM]
theorem pS23 (M : MM) (a : Nat) (v : Int) : cFs 2 (upM M 23 a 0 v) a = (cFs 2 M a).set 3 (.int (J v)) := by simp [cFs, upM]
theorem pS30 (M : MM) (a : Nat) (v : Int) : cFs 3 (upM M 30 a 0 v) a = (cFs 3 M a).set 0 (.int (J v)) := by simp [cFs, upM]
theorem pS31 (M : MM) (a : Nat) (v : Int) : cFs 3 (upM M 31 a 0 v) a = (cFs 3 M a).set 1 (.int (J v)) := by simp [cFs, upM]
theorem pS32 (M : MM) (a : Nat) (v : Int) : cFs 3 (upM M 32 a 0 v) a = (cFs 3 M a).set 2 (.int (J v)) := by simp [cFs, upM]
theorem pS33 (M : MM) (a : Nat) (v : Int) : cFs 3 (upM M 33 a 0 v) a = (cFs 3 M a).set 3 (.int (J v)) := by simp [cFs, upM]
theorem pS34 (M : MM) (a : Nat) (v : Int) : cFs 3 (upM M 34 a 0 v) a = (cFs 3 M a).set 4 (.int (J v)) := by simp [cFs, upM]
theorem pS35 (M : MM) (a : Nat) (v : Int) : cFs 3 (upM M 35 a 0 v) a = (cFs 3 M a).set 5 (.int (J v)) := by simp [cFs, upM]
theorem pS40 (M : MM) (a b : Nat) : cFs 4 (upM M 40 a 0 (b : Int)) a = (cFs 4 M a).set 0 (.ref b) := by simp [cFs, upM, rO_n, va_rf]
theorem pS41 (M : MM) (a : Nat) (v : Int) : cFs 4 (upM M 41 a 0 v) a = (cFs 4 M a).set 1 (.int (J v)) := by simp [cFs, upM]
theorem pS42 (M : MM) (a : Nat) (v : Int) : cFs 4 (upM M 42 a 0 v) a = (cFs 4 M a).set 2 (.int (J v)) := by simp [cFs, upM]
theorem pS43 (M : MM) (a : Nat) (v : Int) : cFs 4 (upM M 43 a 0 v) a = (cFs 4 M a).set 3 (.int (J v)) := by simp [cFs, upM]
theorem pS44 (M : MM) (a : Nat) (v : Int) : cFs 4 (upM M 44 a 0 v) a = (cFs 4 M a).set 4 (.int (J v)) := by simp [cFs, upM]
theorem pS50 (M : MM) (a : Nat) (v : Int) : cFs 5 (upM M 50 a 0 v) a = (cFs 5 M a).set 0 (.int (J v)) := by simp [cFs, upM]
theorem pS51 (M : MM) (a b : Nat) : cFs 5 (upM M 51 a 0 (b : Int)) a = (cFs 5 M a).set 1 (.ref b) := by simp [cFs, upM, rO_n, va_rf]
theorem pS52 (M : MM) (a b : Nat) : cFs 5 (upM M 52 a 0 (b : Int)) a = (cFs 5 M a).set 2 (.ref b) := by simp [cFs, upM, rO_n, va_rf]
theorem pS53 (M : MM) (a : Nat) (v : Int) : cFs 5 (upM M 53 a 0 v) a = (cFs 5 M a).set 3 (.int (J v)) := by simp [cFs, upM]
theorem pS54 (M : MM) (a : Nat) (v : Int) : cFs 5 (upM M 54 a 0 v) a = (cFs 5 M a).set 4 (.int (J v)) := by simp [cFs, upM]
theorem pS55 (M : MM) (a b : Nat) : cFs 5 (upM M 55 a 0 (b : Int)) a = (cFs 5 M a).set 5 (.ref b) := by simp [cFs, upM, rO_n, va_rf]
theorem pS56 (M : MM) (a : Nat) (v : Int) : cFs 5 (upM M 56 a 0 v) a = (cFs 5 M a).set 6 (.int (J v)) := by simp [cFs, upM]
theorem pS57 (M : MM) (a b : Nat) : cFs 5 (upM M 57 a 0 (b : Int)) a = (cFs 5 M a).set 7 (.ref b) := by simp [cFs, upM, rO_n, va_rf]
theorem pS58 (M : MM) (a : Nat) (v : Int) : cFs 5 (upM M 58 a 0 v) a = (cFs 5 M a).set 8 (.int (J v)) := by simp [cFs, upM]
theorem pS59 (M : MM) (a b : Nat) : cFs 5 (upM M 59 a 0 (b : Int)) a = (cFs 5 M a).set 9 (.ref b) := by simp [cFs, upM, rO_n, va_rf]
def sX (i : Int) : Int := if i = 1 then 1 else if i = 3 then -1 else 0
def sY (i : Int) : Int := if i = 0 then 1 else if i = 2 then -1 else 0
theorem stepX_e {i : Int} (h : 0 ≤ i ∧ i < 4) : stepX (J i).toNatClampNeg = .int (J (sX i)) := by
  rw [J_cl h.1 (by omega)]
  unfold stepX sX
  by_cases h1 : i = 1
  · rw [if_pos (by omega), if_pos h1]
  · rw [if_neg (by omega), if_neg h1]
    by_cases h3 : i = 3
    · rw [if_pos (by omega), if_pos h3]
    · rw [if_neg (by omega), if_neg h3]
theorem stepY_e {i : Int} (h : 0 ≤ i ∧ i < 4) : stepY (J i).toNatClampNeg = .int (J (sY i)) := by
  rw [J_cl h.1 (by omega)]
  unfold stepY sY
  by_cases h1 : i = 0
  · rw [if_pos (by omega), if_pos h1]
  · rw [if_neg (by omega), if_neg h1]
    by_cases h3 : i = 2
    · rw [if_pos (by omega), if_pos h3]
    · rw [if_neg (by omega), if_neg h3]
section PX
variable {p : Program} {l : Launch} {e : Env} {R : Room} {s : State} {m : MethodId} {args : Array Value} {below : List Frame} {meth : Method} {c : Code} {nL : Nat} {D : va_G} {A : Nat → Prop} {cells slots : Nat} {Q : State → Prop}
variable {cc : ByteArray} {own : String} {k : Nat → ClassId} {pc : Nat} {lv : List (Nat × Value)} {st : List Value} {L : List Nat} {M : MM}
theorem px_D (kk : (∀ a ∈ L, True) → SW p l e R s m args below meth c nL D A cells slots Q (pW k L M) pc lv st) : SW p l e R s m args below meth c nL D A cells slots Q (pW k L M) pc lv st := kk (fun _ _ => trivial)
/-- reads -/
theorem px_get (X : sw_C p s m args c cc nL own WG D k A) {ref C : String} {T : u_T} {N ci index : Nat} (hin : ∀ w ∈ u_ws C T N, w ∈ WG) {a : Nat} (hL : a ∈ L) (h6 : ci < 6) (hk : M 90 a 0 = (ci : Int)) (hc : vwCl[ci]? = some (C, T, N)) (j : Nat) (hj : j < N) (hlink : Cond.fieldLink own index ref (T j).2.1 (T j).2.2.1 ∈ WG) (href : (T j).1 = ref) {v : Value} (hv : (cFs ci M a)[j]? = some v) (hdg : decode cc pc = .ok (.getfield index, 3)) (kk : SW p l e R s m args below meth c nL D A cells slots Q (pW k L M) (pc + 3) lv (v :: st)) : SW p l e R s m args below meth c nL D A cells slots Q (pW k L M) pc lv (.ref a :: st) := by
  obtain ⟨q, hq⟩ := pW_get (k := k) (M := M) hL
  rw [pF_o h6 hk] at hq
  exact sw_get X hin hq hc j hj hlink href hv hdg kk
theorem px_getN (X : sw_C p s m args c cc nL own WG D k A) {ref C n d host : String} {T : u_T} {N ci index : Nat} (hin : ∀ w ∈ u_ws C T N, w ∈ WG) {a : Nat} (hL : a ∈ L) (h6 : ci < 6) (hk : M 90 a 0 = (ci : Int)) (hc : vwCl[ci]? = some (C, T, N)) (j : Nat) (hj : j < N) (hlink : (own, index, ref, (T j).2.1, (T j).2.2.1, host) ∈ cNF) (href : (T j).1 = ref) {v : Value} (hv : (cFs ci M a)[j]? = some v) (hdg : decode cc pc = .ok (.getfield index, 3)) (kk : SW p l e R s m args below meth c nL D A cells slots Q (pW k L M) (pc + 3) lv (v :: st)) : SW p l e R s m args below meth c nL D A cells slots Q (pW k L M) pc lv (.ref a :: st) := by
  obtain ⟨q, hq⟩ := pW_get (k := k) (M := M) hL
  rw [pF_o h6 hk] at hq
  intro H locs ls hP hD hS hl
  exact va_getN X.1.1 X.1.2.1 X.1.2.2.2.2 hin X.1.2.2.2.1 X.2.1 hP q hq hc j hj (va_Nw.use rfl (X.2.2.2.2.2.2.2.2.1 _ hlink)) (fun _ h9 => href ▸ h9) hv hdg (kk H locs ls hP hD hS hl)
/-- writes -/
theorem px_put (X : sw_C p s m args c cc nL own WG D k A) {ref C : String} {T : u_T} {N ci index : Nat} (hin : ∀ w ∈ u_ws C T N, w ∈ WG) (ty0 : Nat → FieldType) (hty : ∀ k, k < N → parseFieldDescriptor (T k).2.2.1 = some (ty0 k)) (hnm : ∀ a, a < N → ∀ b, b < N → a ≠ b → (T a).2.1 ≠ (T b).2.1) {a : Nat} (hL : a ∈ L) (h6 : ci < 6) (hk : M 90 a 0 = (ci : Int)) (hc : vwCl[ci]? = some (C, T, N)) (j : Nat) (hj : j < N) (hlink : Cond.fieldLink own index ref (T j).2.1 (T j).2.2.1 ∈ WG) (href : (T j).1 = ref) (hfin : (T j).2.2.2 = false) {ty : FieldType} (hd : parseFieldDescriptor (T j).2.2.1 = some ty) {v : Value} (hn : narrow ty v = v) (hfit : fits ty v = true) (hlen : j < (cFs ci M a).length) {f : Nat} {z : Int} (hf : f < 90) (hS : cFs ci (upM M f a 0 z) a = (cFs ci M a).set j v) (hdg : decode cc pc = .ok (.putfield index, 3)) (kk : SW p l e R s m args below meth c nL D A cells slots Q (pW k L (upM M f a 0 z)) (pc + 3) lv st) : SW p l e R s m args below meth c nL D A cells slots Q (pW k L M) pc lv (v :: .ref a :: st) := by
  obtain ⟨q, hq⟩ := pW_get (k := k) (M := M) hL
  have hq2 := hq
  rw [pF_o h6 hk] at hq2
  intro H locs ls hP hD hS0 hl
  have hk2 : upM M f a 0 z 90 a 0 = (ci : Int) := by rw [upM_f M a 0 z a 0 (by omega)]; exact hk
  exact sw_put X hin ty0 hty hnm hq2 hc j hj hlink href hfin hd hn hfit hlen (pW_set hD hL hq (by rw [pF_o h6 hk2, hS]) (fun g b i hb => upM_a M f g 0 z i hb)) hdg kk H locs ls hP hD hS0 hl
theorem px_putN (X : sw_C p s m args c cc nL own WG D k A) {ref C host : String} {T : u_T} {N ci index : Nat} (hin : ∀ w ∈ u_ws C T N, w ∈ WG) (ty0 : Nat → FieldType) (hty : ∀ k, k < N → parseFieldDescriptor (T k).2.2.1 = some (ty0 k)) (hnm : ∀ a, a < N → ∀ b, b < N → a ≠ b → (T a).2.1 ≠ (T b).2.1) {a : Nat} (hL : a ∈ L) (h6 : ci < 6) (hk : M 90 a 0 = (ci : Int)) (hc : vwCl[ci]? = some (C, T, N)) (j : Nat) (hj : j < N) (hlink : (own, index, ref, (T j).2.1, (T j).2.2.1, host) ∈ cNF) (href : (T j).1 = ref) (hfin : (T j).2.2.2 = false) {ty : FieldType} (hd : parseFieldDescriptor (T j).2.2.1 = some ty) {v : Value} (hn : narrow ty v = v) (hfit : fits ty v = true) (hlen : j < (cFs ci M a).length) {f : Nat} {z : Int} (hf : f < 90) (hS : cFs ci (upM M f a 0 z) a = (cFs ci M a).set j v) (hdg : decode cc pc = .ok (.putfield index, 3)) (kk : SW p l e R s m args below meth c nL D A cells slots Q (pW k L (upM M f a 0 z)) (pc + 3) lv st) : SW p l e R s m args below meth c nL D A cells slots Q (pW k L M) pc lv (v :: .ref a :: st) := by
  obtain ⟨q, hq⟩ := pW_get (k := k) (M := M) hL
  have hq2 := hq
  rw [pF_o h6 hk] at hq2
  intro H locs ls hP hD hS0 hl
  have hk2 : upM M f a 0 z 90 a 0 = (ci : Int) := by rw [upM_f M a 0 z a 0 (by omega)]; exact hk
  have e := pW_set hD hL hq (show pF k (upM M f a 0 z) a = .inr (ci, (cFs ci M a).set j v) by rw [pF_o h6 hk2, hS]) (fun g b i hb => upM_a M f g 0 z i hb)
  exact va_putN X.1.1 X.1.2.1 X.1.2.2.2.2 hin ty0 hty hnm X.1.2.2.2.1 X.2.1 hP hD hS0 q hq2 hc j hj (va_Nw.use rfl (X.2.2.2.2.2.2.2.2.1 _ hlink)) (fun _ h9 => href ▸ h9) hfin hd hn hfit hlen hdg (fun H locs hP hD hS => kk H locs ls (e ▸ hP) (e ▸ hD) hS hl)
theorem px_putF (X : sw_C p s m args c cc nL own WG D k A) (hini : meth.name = "<init>") {ref C : String} {T : u_T} {N ci index : Nat} (hin : ∀ w ∈ u_ws C T N, w ∈ WG) (ty0 : Nat → FieldType) (hty : ∀ k, k < N → parseFieldDescriptor (T k).2.2.1 = some (ty0 k)) (hnm : ∀ a, a < N → ∀ b, b < N → a ≠ b → (T a).2.1 ≠ (T b).2.1) {a : Nat} (hL : a ∈ L) (h6 : ci < 6) (hk : M 90 a 0 = (ci : Int)) (hc : vwCl[ci]? = some (C, T, N)) (j : Nat) (hj : j < N) (hlink : Cond.fieldLink own index ref (T j).2.1 (T j).2.2.1 ∈ WG) (href : (T j).1 = ref) (hdecl : (T j).1 = own) (hfin : (T j).2.2.2 = true) {ty : FieldType} (hd : parseFieldDescriptor (T j).2.2.1 = some ty) {v : Value} (hn : narrow ty v = v) (hfit : fits ty v = true) (hlen : j < (cFs ci M a).length) {f : Nat} {z : Int} (hf : f < 90) (hS : cFs ci (upM M f a 0 z) a = (cFs ci M a).set j v) (hdg : decode cc pc = .ok (.putfield index, 3)) (kk : SW p l e R s m args below meth c nL D A cells slots Q (pW k L (upM M f a 0 z)) (pc + 3) lv st) : SW p l e R s m args below meth c nL D A cells slots Q (pW k L M) pc lv (v :: .ref a :: st) := by
  obtain ⟨q, hq⟩ := pW_get (k := k) (M := M) hL
  have hq2 := hq
  rw [pF_o h6 hk] at hq2
  intro H locs ls hP hD hS0 hl
  have hk2 : upM M f a 0 z 90 a 0 = (ci : Int) := by rw [upM_f M a 0 z a 0 (by omega)]; exact hk
  exact sw_putF X hini hin ty0 hty hnm hq2 hc j hj hlink href hdecl hfin hd hn hfit hlen (pW_set hD hL hq (by rw [pF_o h6 hk2, hS]) (fun g b i hb => upM_a M f g 0 z i hb)) hdg kk H locs ls hP hD hS0 hl
/-- rows of ints -/
theorem pF_10 {a : Nat} (h : M 90 a 0 = 10) : pF k M a = .inl (k 0, (M 91 a 0).toNat, .inl (fun i => J (M 92 a (i : Int)))) := by unfold pF; rw [if_pos h]
theorem px_iald (X : sw_C p s m args c cc nL own WG D k A) {a : Nat} {i n : Int} (hL : a ∈ L) (hk : M 90 a 0 = 10) (hn : M 91 a 0 = n) (h0 : 0 ≤ i) (h1 : i < n) (h2 : n < 2147483648) (hdg : decode cc pc = .ok (.iaload, 1)) (kk : SW p l e R s m args below meth c nL D A cells slots Q (pW k L M) (pc + 1) lv (.int (J (M 92 a i)) :: st)) : SW p l e R s m args below meth c nL D A cells slots Q (pW k L M) pc lv (.int (J i) :: .ref a :: st) := by
  obtain ⟨q, hq⟩ := pW_get (k := k) (M := M) hL
  rw [pF_10 hk, hn] at hq
  exact sw_iald (f := M 92 a) (n := n.toNat) X hq h0 (by omega) (by omega) hdg kk
theorem px_iast (X : sw_C p s m args c cc nL own WG D k A) {a : Nat} {i n v : Int} (hL : a ∈ L) (hk : M 90 a 0 = 10) (hn : M 91 a 0 = n) (h0 : 0 ≤ i) (h1 : i < n) (h2 : n < 2147483648) (hdg : decode cc pc = .ok (.iastore, 1)) (kk : SW p l e R s m args below meth c nL D A cells slots Q (pW k L (upM M 92 a i v)) (pc + 1) lv st) : SW p l e R s m args below meth c nL D A cells slots Q (pW k L M) pc lv (.int (J v) :: .int (J i) :: .ref a :: st) := by
  obtain ⟨q, hq⟩ := pW_get (k := k) (M := M) hL
  have hq2 := hq
  rw [pF_10 hk, hn] at hq2
  intro H locs ls hP hD hS0 hl
  refine sw_iast (f := M 92 a) (n := n.toNat) X hq2 h0 (by omega) (by omega) (pW_set hD hL hq ?_ (fun g b j hb => upM_a M 92 g i v j hb)) hdg kk H locs ls hP hD hS0 hl
  rw [pF_10 (by rw [upM_f M a i v a 0 (by decide)]; exact hk), upM_f M a i v a 0 (by decide), hn]
  unfold aI
  congr 4
  funext j
  congr 1
  unfold upM upI
  by_cases hj : (j : Int) = i
  · rw [if_pos ⟨rfl, rfl, hj⟩, if_pos hj]
  · rw [if_neg (fun z => hj z.2.2), if_neg hj]
/-- rows of references: kind 10 + t, class of its elements C -/
theorem pF_q {a : Nat} {t : Nat} (ht : t = 2 ∨ t = 3 ∨ t = 4 ∨ t = 5) (h : M 90 a 0 = 10 + (t : Int)) : pF k M a = .inl (k t, (M 91 a 0).toNat, .inr (.inr (.inr (.inr (fun i => rO (M 93 a (i : Int))))))) := by
  unfold pF
  rcases ht with rfl | rfl | rfl | rfl
  · rw [if_neg (by omega), if_pos (by omega)]
  · rw [if_neg (by omega), if_neg (by omega), if_pos (by omega)]
  · rw [if_neg (by omega), if_neg (by omega), if_neg (by omega), if_pos (by omega)]
  · rw [if_neg (by omega), if_neg (by omega), if_neg (by omega), if_neg (by omega), if_pos (by omega)]
theorem px_aald (X : sw_C p s m args c cc nL own WG D k A) {a : Nat} {i n : Int} (t : Nat) (ht : t = 2 ∨ t = 3 ∨ t = 4 ∨ t = 5) {C : String} (hT : (TYS k)[t]? = some (k t, .object C)) (hL : a ∈ L) (hk : M 90 a 0 = 10 + (t : Int)) (hn : M 91 a 0 = n) (h0 : 0 ≤ i) (h1 : i < n) (h2 : n < 2147483648) {v : Value} (hv : va_rf (rO (M 93 a i)) = v) (hdg : decode cc pc = .ok (.aaload, 1)) (kk : SW p l e R s m args below meth c nL D A cells slots Q (pW k L M) (pc + 1) lv (v :: st)) : SW p l e R s m args below meth c nL D A cells slots Q (pW k L M) pc lv (.int (J i) :: .ref a :: st) := by
  obtain ⟨q, hq⟩ := pW_get (k := k) (M := M) hL
  rw [pF_q ht hk, hn] at hq
  intro H locs ls hP hD hS hl
  refine va_aldq X.1.1 X.1.2.1 X.2.1 hP q t hq hT (J_in h0 (by omega) (by omega)) hdg ?_
  rw [J_cl h0 (by omega), show ((i.toNat : Nat) : Int) = i by omega, hv]
  exact kk H locs ls hP hD hS hl
theorem px_aast (X : sw_C p s m args c cc nL own WG D k A) {a b : Nat} {i n : Int} (t ci : Nat) (ht : t = 2 ∨ t = 3 ∨ t = 4 ∨ t = 5) {r : vw_C} (hT : (TYS k)[t]? = some (k t, .object r.1)) (hc : vwCl[ci]? = some r) (hL : a ∈ L) (hk : M 90 a 0 = 10 + (t : Int)) (hn : M 91 a 0 = n) (hLb : b ∈ L) (h6 : ci < 6) (hkb : M 90 b 0 = (ci : Int)) (h0 : 0 ≤ i) (h1 : i < n) (h2 : n < 2147483648) (hdg : decode cc pc = .ok (.aastore, 1)) (kk : SW p l e R s m args below meth c nL D A cells slots Q (pW k L (upM M 93 a i (b : Int))) (pc + 1) lv st) : SW p l e R s m args below meth c nL D A cells slots Q (pW k L M) pc lv (.ref b :: .int (J i) :: .ref a :: st) := by
  obtain ⟨q, hq⟩ := pW_get (k := k) (M := M) hL
  obtain ⟨qb, hqb⟩ := pW_get (k := k) (M := M) hLb
  have hq2 := hq
  rw [pF_q ht hk, hn] at hq2
  rw [pF_o h6 hkb] at hqb
  intro H locs ls hP hD hS0 hl
  refine va_astq X.1.1 X.1.2.1 X.2.1 hP hD hS0 q t qb ci hq2 hT hqb hc (J_in h0 (by omega) (by omega)) hdg (fun H1 locs1 hP1 hD1 hS1 => ?_)
  have e := pW_set (M' := upM M 93 a i (b : Int)) hD hL hq (e := .inl (k t, n.toNat, .inr (.inr (.inr (.inr (va_up (fun i => rO (M 93 a (i : Int))) (J i).toNatClampNeg (some b)))))))  (by
    rw [pF_q ht (by rw [upM_f M a i _ a 0 (by decide)]; exact hk), upM_f M a i _ a 0 (by decide), hn, J_cl h0 (by omega)]
    congr 7
    funext j
    unfold va_up
    by_cases hj : j = i.toNat
    · rw [if_pos hj, show ((j : Nat) : Int) = i by omega, upM_e, rO_n]
    · rw [if_neg hj, upM_i M 93 93 a a _ (by omega)]) (fun g b2 j hb => upM_a M 93 g i _ j hb)
  rw [e] at hP1 hD1
  exact kk H1 locs1 ls hP1 hD1 hS1 hl
theorem px_alen (X : sw_C p s m args c cc nL own WG D k A) {a : Nat} {n : Int} (t : Nat) (ht : t = 2 ∨ t = 3 ∨ t = 4 ∨ t = 5) {C : String} (hT : (TYS k)[t]? = some (k t, .object C)) (hL : a ∈ L) (hk : M 90 a 0 = 10 + (t : Int)) (hn : M 91 a 0 = n) (h0 : 0 ≤ n) (hdg : decode cc pc = .ok (.arraylength, 1)) (kk : SW p l e R s m args below meth c nL D A cells slots Q (pW k L M) (pc + 1) lv (.int (J n) :: st)) : SW p l e R s m args below meth c nL D A cells slots Q (pW k L M) pc lv (.ref a :: st) := by
  obtain ⟨q, hq⟩ := pW_get (k := k) (M := M) hL
  rw [pF_q ht hk, hn] at hq
  intro H locs ls hP hD hS hl
  exact va_alen X.1.1 X.1.2.1 X.2.1 hP q t hq hT (v := J n) (by show Int32.ofNat n.toNat = J n; rw [J_nat h0]; rfl) hdg (kk H locs ls hP hD hS hl)
/-- the two static rows -/
theorem px_sX (X : sw_C p s m args c cc nL own WG D k A) {w : va_W} {index : Nat} {ref host : String} (hlink : (own, index, ref, "STEP_X", "[I", host) ∈ cNF) (href : RX5 = ref) (hdg : decode cc pc = .ok (.getstatic index, 3)) (kk : ∀ t : Nat, va_T .int t 4 stepX A s s.heap → SW p l e R s m args below meth c nL D A cells slots Q w (pc + 3) lv (.ref t :: st)) : SW p l e R s m args below meth c nL D A cells slots Q w pc lv st := by
  obtain ⟨t, h1, h2⟩ := X.2.2.2.2.2.1
  exact fun H locs ls hP hD hS hl => va_getsN X.1.1 X.1.2.1 h1 hS X.1.2.2.2.1 (va_Nw.use rfl (X.2.2.2.2.2.2.2.2.1 _ hlink)) (fun _ h9 => href ▸ h9) hdg (kk t h2 H locs ls hP hD hS hl)
theorem px_sY (X : sw_C p s m args c cc nL own WG D k A) {w : va_W} {index : Nat} {ref host : String} (hlink : (own, index, ref, "STEP_Y", "[I", host) ∈ cNF) (href : RX5 = ref) (hdg : decode cc pc = .ok (.getstatic index, 3)) (kk : ∀ t : Nat, va_T .int t 4 stepY A s s.heap → SW p l e R s m args below meth c nL D A cells slots Q w (pc + 3) lv (.ref t :: st)) : SW p l e R s m args below meth c nL D A cells slots Q w pc lv st := by
  obtain ⟨t, h1, h2⟩ := X.2.2.2.2.2.2.1
  exact fun H locs ls hP hD hS hl => va_getsN X.1.1 X.1.2.1 h1 hS X.1.2.2.2.1 (va_Nw.use rfl (X.2.2.2.2.2.2.2.2.1 _ hlink)) (fun _ h9 => href ▸ h9) hdg (kk t h2 H locs ls hP hD hS hl)
theorem px_tX (X : sw_C p s m args c cc nL own WG D k A) {w : va_W} {t : Nat} (hT : va_T .int t 4 stepX A s s.heap) {i : Int} (h : 0 ≤ i ∧ i < 4) (hdg : decode cc pc = .ok (.iaload, 1)) (kk : SW p l e R s m args below meth c nL D A cells slots Q w (pc + 1) lv (.int (J (sX i)) :: st)) : SW p l e R s m args below meth c nL D A cells slots Q w pc lv (.int (J i) :: .ref t :: st) :=
  fun H locs ls hP hD hS hl => va_ti X.1.1 X.1.2.1 hT hS (J_in h.1 (by omega) (by omega)) (stepX_e h) hdg (kk H locs ls hP hD hS hl)
theorem px_tY (X : sw_C p s m args c cc nL own WG D k A) {w : va_W} {t : Nat} (hT : va_T .int t 4 stepY A s s.heap) {i : Int} (h : 0 ≤ i ∧ i < 4) (hdg : decode cc pc = .ok (.iaload, 1)) (kk : SW p l e R s m args below meth c nL D A cells slots Q w (pc + 1) lv (.int (J (sY i)) :: st)) : SW p l e R s m args below meth c nL D A cells slots Q w pc lv (.int (J i) :: .ref t :: st) :=
  fun H locs ls hP hD hS hl => va_ti X.1.1 X.1.2.1 hT hS (J_in h.1 (by omega) (by omega)) (stepY_e h) hdg (kk H locs ls hP hD hS hl)
end PX
