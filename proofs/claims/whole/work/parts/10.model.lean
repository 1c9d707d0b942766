/-! the reference: one object and seventeen rows; its state as a function of field and place, its scratch fields apart -/
theorem iw_X0 : ∀ w ∈ u_ws RX0 TX0 4, w ∈ WG := iw_of (fun k hk => match k, hk with
  | 0, _ => gw2_120
  | 1, _ => gw2_122
  | 2, _ => gw2_124
  | 3, _ => gw2_126
  | k + 4, hk => absurd hk (by omega))
theorem iw_X1 : ∀ w ∈ u_ws RX1 TX1 3, w ∈ WG := iw_of (fun k hk => match k, hk with
  | 0, _ => gw2_85
  | 1, _ => gw2_87
  | 2, _ => gw2_89
  | k + 3, hk => absurd hk (by omega))
theorem iw_X2 : ∀ w ∈ u_ws RX2 TX2 4, w ∈ WG := iw_of (fun k hk => match k, hk with
  | 0, _ => gw2_230
  | 1, _ => gw2_232
  | 2, _ => gw2_234
  | 3, _ => gw2_236
  | k + 4, hk => absurd hk (by omega))
theorem iw_X3 : ∀ w ∈ u_ws RX3 TX3 6, w ∈ WG := iw_of (fun k hk => match k, hk with
  | 0, _ => gw1_239
  | 1, _ => gw2_1
  | 2, _ => gw2_3
  | 3, _ => gw2_5
  | 4, _ => gw2_7
  | 5, _ => gw2_9
  | k + 6, hk => absurd hk (by omega))
theorem iw_X4 : ∀ w ∈ u_ws RX4 TX4 5, w ∈ WG := iw_of (fun k hk => match k, hk with
  | 0, _ => gw1_40
  | 1, _ => gw1_42
  | 2, _ => gw1_44
  | 3, _ => gw1_46
  | 4, _ => gw1_48
  | k + 5, hk => absurd hk (by omega))
theorem iw_X5 : ∀ w ∈ u_ws RX5 TX5 10, w ∈ WG := iw_of (fun k hk => match k, hk with
  | 0, _ => gw1_67
  | 1, _ => gw1_69
  | 2, _ => gw1_71
  | 3, _ => gw1_73
  | 4, _ => gw1_75
  | 5, _ => gw1_77
  | 6, _ => gw1_79
  | 7, _ => gw1_81
  | 8, _ => gw1_83
  | 9, _ => gw1_85
  | k + 10, hk => absurd hk (by omega))
theorem iw_X6 : ∀ w ∈ u_ws RX6 TX6 26, w ∈ WG := iw_of (fun k hk => match k, hk with
  | 0, _ => gw3_234
  | 1, _ => gw3_236
  | 2, _ => gw3_238
  | 3, _ => gw4_0
  | 4, _ => gw4_2
  | 5, _ => gw4_4
  | 6, _ => gw4_6
  | 7, _ => gw4_8
  | 8, _ => gw4_10
  | 9, _ => gw4_12
  | 10, _ => gw4_14
  | 11, _ => gw4_16
  | 12, _ => gw4_18
  | 13, _ => gw4_20
  | 14, _ => gw4_22
  | 15, _ => gw4_24
  | 16, _ => gw4_26
  | 17, _ => gw4_28
  | 18, _ => gw4_30
  | 19, _ => gw4_32
  | 20, _ => gw4_34
  | 21, _ => gw4_36
  | 22, _ => gw4_38
  | 23, _ => gw4_40
  | 24, _ => gw4_42
  | 25, _ => gw4_44
  | k + 26, hk => absurd hk (by omega))
def mFs (ad : Nat → Nat) (st : Nat → Int → Int) (t x y h : Int) : List Value := [.int (J t), .int (J (st 1 0)), .int (J (st 2 0)), .ref (ad 3), .ref (ad 4), .int (J (st 5 0)), .ref (ad 6), .ref (ad 7), .int (J (st 8 0)), .int (J (st 9 0)), .ref (ad 10), .ref (ad 11), .ref (ad 12), .ref (ad 13), .ref (ad 14), .ref (ad 15), .ref (ad 16), .int (J (st 17 0)), .ref (ad 18), .ref (ad 19), .ref (ad 20), .ref (ad 21), .ref (ad 22), .int (J x), .int (J y), .int (J h)]
def mW (k : Nat → ClassId) (ad : Nat → Nat) (st : Nat → Int → Int) (tl : Int → Int) (t x y h : Int) : va_W := [(ad 0, .inr (6, mFs ad st t x y h)), (ad 3, aI k 30 (st 3)), (ad 4, aI k 30 (st 4)), (ad 6, aI k 10 (st 6)), (ad 7, aI k 10 (st 7)), (ad 10, aI k 8 (st 10)), (ad 11, aI k 480 (st 11)), (ad 12, aI k 480 (st 12)), (ad 13, aI k 480 (st 13)), (ad 14, aI k 8 (st 14)), (ad 15, aI k 8 (st 15)), (ad 16, aI k 80 (st 16)), (ad 18, aI k 40 (st 18)), (ad 19, aI k 40 (st 19)), (ad 20, aI k 40 (st 20)), (ad 21, aI k 40 (st 21)), (ad 22, aI k 8 tl)]
def up2 (st : Nat → Int → Int) (f : Nat) (i v : Int) : Nat → Int → Int := fun f' => if f' = f then upI (st f) i v else st f'
theorem mW_p0 {k : Nat → ClassId} {ad : Nat → Nat} {st : Nat → Int → Int} {tl : Int → Int} {t x y h : Int} {v : Int} : (mW k ad st tl t x y h).set 0 (ad 0, .inr (6, (mFs ad st t x y h).set 0 (.int (J v)))) = mW k ad st tl v x y h := rfl
theorem mW_p1 {k : Nat → ClassId} {ad : Nat → Nat} {st : Nat → Int → Int} {tl : Int → Int} {t x y h : Int} {v : Int} : (mW k ad st tl t x y h).set 0 (ad 0, .inr (6, (mFs ad st t x y h).set 1 (.int (J v)))) = mW k ad (up2 st 1 0 v) tl t x y h := rfl
theorem mW_p2 {k : Nat → ClassId} {ad : Nat → Nat} {st : Nat → Int → Int} {tl : Int → Int} {t x y h : Int} {v : Int} : (mW k ad st tl t x y h).set 0 (ad 0, .inr (6, (mFs ad st t x y h).set 2 (.int (J v)))) = mW k ad (up2 st 2 0 v) tl t x y h := rfl
theorem mW_a3 {k : Nat → ClassId} {ad : Nat → Nat} {st : Nat → Int → Int} {tl : Int → Int} {t x y h : Int} {i v : Int} : (mW k ad st tl t x y h).set 1 (ad 3, aI k 30 (upI (st 3) i v)) = mW k ad (up2 st 3 i v) tl t x y h := rfl
theorem mW_a4 {k : Nat → ClassId} {ad : Nat → Nat} {st : Nat → Int → Int} {tl : Int → Int} {t x y h : Int} {i v : Int} : (mW k ad st tl t x y h).set 2 (ad 4, aI k 30 (upI (st 4) i v)) = mW k ad (up2 st 4 i v) tl t x y h := rfl
theorem mW_p5 {k : Nat → ClassId} {ad : Nat → Nat} {st : Nat → Int → Int} {tl : Int → Int} {t x y h : Int} {v : Int} : (mW k ad st tl t x y h).set 0 (ad 0, .inr (6, (mFs ad st t x y h).set 5 (.int (J v)))) = mW k ad (up2 st 5 0 v) tl t x y h := rfl
theorem mW_a6 {k : Nat → ClassId} {ad : Nat → Nat} {st : Nat → Int → Int} {tl : Int → Int} {t x y h : Int} {i v : Int} : (mW k ad st tl t x y h).set 3 (ad 6, aI k 10 (upI (st 6) i v)) = mW k ad (up2 st 6 i v) tl t x y h := rfl
theorem mW_a7 {k : Nat → ClassId} {ad : Nat → Nat} {st : Nat → Int → Int} {tl : Int → Int} {t x y h : Int} {i v : Int} : (mW k ad st tl t x y h).set 4 (ad 7, aI k 10 (upI (st 7) i v)) = mW k ad (up2 st 7 i v) tl t x y h := rfl
theorem mW_p8 {k : Nat → ClassId} {ad : Nat → Nat} {st : Nat → Int → Int} {tl : Int → Int} {t x y h : Int} {v : Int} : (mW k ad st tl t x y h).set 0 (ad 0, .inr (6, (mFs ad st t x y h).set 8 (.int (J v)))) = mW k ad (up2 st 8 0 v) tl t x y h := rfl
theorem mW_p9 {k : Nat → ClassId} {ad : Nat → Nat} {st : Nat → Int → Int} {tl : Int → Int} {t x y h : Int} {v : Int} : (mW k ad st tl t x y h).set 0 (ad 0, .inr (6, (mFs ad st t x y h).set 9 (.int (J v)))) = mW k ad (up2 st 9 0 v) tl t x y h := rfl
theorem mW_a10 {k : Nat → ClassId} {ad : Nat → Nat} {st : Nat → Int → Int} {tl : Int → Int} {t x y h : Int} {i v : Int} : (mW k ad st tl t x y h).set 5 (ad 10, aI k 8 (upI (st 10) i v)) = mW k ad (up2 st 10 i v) tl t x y h := rfl
theorem mW_a11 {k : Nat → ClassId} {ad : Nat → Nat} {st : Nat → Int → Int} {tl : Int → Int} {t x y h : Int} {i v : Int} : (mW k ad st tl t x y h).set 6 (ad 11, aI k 480 (upI (st 11) i v)) = mW k ad (up2 st 11 i v) tl t x y h := rfl
theorem mW_a12 {k : Nat → ClassId} {ad : Nat → Nat} {st : Nat → Int → Int} {tl : Int → Int} {t x y h : Int} {i v : Int} : (mW k ad st tl t x y h).set 7 (ad 12, aI k 480 (upI (st 12) i v)) = mW k ad (up2 st 12 i v) tl t x y h := rfl
theorem mW_a13 {k : Nat → ClassId} {ad : Nat → Nat} {st : Nat → Int → Int} {tl : Int → Int} {t x y h : Int} {i v : Int} : (mW k ad st tl t x y h).set 8 (ad 13, aI k 480 (upI (st 13) i v)) = mW k ad (up2 st 13 i v) tl t x y h := rfl
theorem mW_a14 {k : Nat → ClassId} {ad : Nat → Nat} {st : Nat → Int → Int} {tl : Int → Int} {t x y h : Int} {i v : Int} : (mW k ad st tl t x y h).set 9 (ad 14, aI k 8 (upI (st 14) i v)) = mW k ad (up2 st 14 i v) tl t x y h := rfl
theorem mW_a15 {k : Nat → ClassId} {ad : Nat → Nat} {st : Nat → Int → Int} {tl : Int → Int} {t x y h : Int} {i v : Int} : (mW k ad st tl t x y h).set 10 (ad 15, aI k 8 (upI (st 15) i v)) = mW k ad (up2 st 15 i v) tl t x y h := rfl
theorem mW_a16 {k : Nat → ClassId} {ad : Nat → Nat} {st : Nat → Int → Int} {tl : Int → Int} {t x y h : Int} {i v : Int} : (mW k ad st tl t x y h).set 11 (ad 16, aI k 80 (upI (st 16) i v)) = mW k ad (up2 st 16 i v) tl t x y h := rfl
theorem mW_p17 {k : Nat → ClassId} {ad : Nat → Nat} {st : Nat → Int → Int} {tl : Int → Int} {t x y h : Int} {v : Int} : (mW k ad st tl t x y h).set 0 (ad 0, .inr (6, (mFs ad st t x y h).set 17 (.int (J v)))) = mW k ad (up2 st 17 0 v) tl t x y h := rfl
theorem mW_a18 {k : Nat → ClassId} {ad : Nat → Nat} {st : Nat → Int → Int} {tl : Int → Int} {t x y h : Int} {i v : Int} : (mW k ad st tl t x y h).set 12 (ad 18, aI k 40 (upI (st 18) i v)) = mW k ad (up2 st 18 i v) tl t x y h := rfl
theorem mW_a19 {k : Nat → ClassId} {ad : Nat → Nat} {st : Nat → Int → Int} {tl : Int → Int} {t x y h : Int} {i v : Int} : (mW k ad st tl t x y h).set 13 (ad 19, aI k 40 (upI (st 19) i v)) = mW k ad (up2 st 19 i v) tl t x y h := rfl
theorem mW_a20 {k : Nat → ClassId} {ad : Nat → Nat} {st : Nat → Int → Int} {tl : Int → Int} {t x y h : Int} {i v : Int} : (mW k ad st tl t x y h).set 14 (ad 20, aI k 40 (upI (st 20) i v)) = mW k ad (up2 st 20 i v) tl t x y h := rfl
theorem mW_a21 {k : Nat → ClassId} {ad : Nat → Nat} {st : Nat → Int → Int} {tl : Int → Int} {t x y h : Int} {i v : Int} : (mW k ad st tl t x y h).set 15 (ad 21, aI k 40 (upI (st 21) i v)) = mW k ad (up2 st 21 i v) tl t x y h := rfl
theorem mW_a22 {k : Nat → ClassId} {ad : Nat → Nat} {st : Nat → Int → Int} {tl : Int → Int} {t x y h : Int} {i v : Int} : (mW k ad st tl t x y h).set 16 (ad 22, aI k 8 (upI tl i v)) = mW k ad st (upI tl i v) t x y h := rfl
theorem mW_p23 {k : Nat → ClassId} {ad : Nat → Nat} {st : Nat → Int → Int} {tl : Int → Int} {t x y h : Int} {v : Int} : (mW k ad st tl t x y h).set 0 (ad 0, .inr (6, (mFs ad st t x y h).set 23 (.int (J v)))) = mW k ad st tl t v y h := rfl
theorem mW_p24 {k : Nat → ClassId} {ad : Nat → Nat} {st : Nat → Int → Int} {tl : Int → Int} {t x y h : Int} {v : Int} : (mW k ad st tl t x y h).set 0 (ad 0, .inr (6, (mFs ad st t x y h).set 24 (.int (J v)))) = mW k ad st tl t x v h := rfl
theorem mW_p25 {k : Nat → ClassId} {ad : Nat → Nat} {st : Nat → Int → Int} {tl : Int → Int} {t x y h : Int} {v : Int} : (mW k ad st tl t x y h).set 0 (ad 0, .inr (6, (mFs ad st t x y h).set 25 (.int (J v)))) = mW k ad st tl t x y v := rfl
def dx (h c : Int) : Int := if h = 1 then c else if h = 3 then -c else 0
def dy (h c : Int) : Int := if h = 0 then c else if h = 2 then -c else 0
/-- the place after n pieces of a way: x, y, heading -/
def wP (s0 : Int) (d t : Nat → Int) : Nat → Int × Int × Int
  | 0 => (s0 / 16, s0 % 16, 0)
  | n + 1 => ((wP s0 d t n).1 + dx (wP s0 d t n).2.2 (d n), (wP s0 d t n).2.1 + dy (wP s0 d t n).2.2 (d n), ((wP s0 d t n).2.2 + t n) % 4)
def bP (st : Nat → Int → Int) (n : Nat) : Int × Int × Int := wP (st 1 0) (fun i => st 3 (i : Int)) (fun i => st 4 (i : Int)) n
def tD (st : Nat → Int → Int) (c : Int) (i : Nat) : Int := if st 11 (60 * c + (i : Int)) = -1 then 0 else st 12 (60 * c + (i : Int))
def tP (st : Nat → Int → Int) (c : Int) (n : Nat) : Int × Int × Int := wP (st 1 0) (tD st c) (fun i => st 13 (60 * c + (i : Int))) n
theorem wP_s (s0 : Int) (d t : Nat → Int) (n : Nat) : wP s0 d t (n + 1) = ((wP s0 d t n).1 + dx (wP s0 d t n).2.2 (d n), (wP s0 d t n).2.1 + dy (wP s0 d t n).2.2 (d n), ((wP s0 d t n).2.2 + t n) % 4) := rfl
theorem wP_h (s0 : Int) (d t : Nat → Int) (n : Nat) : 0 ≤ (wP s0 d t n).2.2 ∧ (wP s0 d t n).2.2 ≤ 3 := by
  cases n with
  | zero => exact ⟨Int.le_refl 0, (by decide : (0 : Int) ≤ 3)⟩
  | succ n => rw [wP_s]; dsimp only; omega
/-- a sum of the first n -/
def sM (f : Nat → Int) : Nat → Int
  | 0 => 0
  | n + 1 => sM f n + f n
def tM (st : Nat → Int → Int) (c : Int) (n : Nat) : Int := sM (fun i => st 12 (60 * c + (i : Int))) n
theorem nar_b {z : Int} (h : z = 0 ∨ z = 1) : narrow .boolean (.int (J z)) = .int (J z) := by rcases h with rfl | rfl <;> rfl
section SWc0
variable {p : Program} {l : Launch} {e : Env} {R : Room} {s : State} {m : MethodId} {args : Array Value} {below : List Frame} {meth : Method} {c : Code} {nL : Nat} {D : va_G} {A : Nat → Prop} {cells slots : Nat} {Q : State → Prop}
variable {cc : ByteArray} {own : String} {k : Nat → ClassId} {pc : Nat} {lv : List (Nat × Value)} {st : List Value}
variable {y : MethodName} {bytes : ByteArray} {maxL index n : Nat} {ret : Option FieldType} {rm : Room} {As rest : List Value} {wc : va_W}
theorem sw_callVI0 {C : String} {b : Nat} {post : Int → va_W → Prop} (X : sw_C p s m args c cc nL own WG D k A) (hM : CI l y bytes maxL ret rm D k (.ref b :: As) wc post) (cw : CallW R s args own C index y bytes maxL ret (sw_ws y bytes maxL ret) rm rm.cells rm.slots n)
    (q0 : Nat) {ci : Nat} {q : vw_C} {fs : List Value} (hc : vwCl[ci]? = some q) (he : wc[q0]? = some (b, .inr (ci, fs))) (hC : q.1 = C) (hdg : decode cc pc = .ok (.invokevirtual index, 3)) (hst : st = As.reverse ++ .ref b :: rest) (hn : As.length = n) (hrest : (rest.map fun v => v.category).sum ≤ 8) (hcs : cells + rm.cells ≤ R.cells ∧ slots + rm.slots ≤ R.slots)
    (kk : ∀ (z : Int) (w' : va_W), post z w' → SW p l e R s m args below meth c nL D A (cells + rm.cells) (slots + rm.slots) Q w' (pc + 3) lv (.int (J z) :: rest)) : SW p l e R s m args below meth c nL D A cells slots Q wc pc lv st := sw_callVI (wr := []) X hM cw q0 hc he hC hdg hst hn hrest hcs kk
theorem sw_callVV0 {C : String} {b : Nat} {post : va_W → Prop} (X : sw_C p s m args c cc nL own WG D k A) (hM : CV l y bytes maxL ret rm D k (.ref b :: As) wc post) (cw : CallW R s args own C index y bytes maxL ret (sw_ws y bytes maxL ret) rm rm.cells rm.slots n)
    (q0 : Nat) {ci : Nat} {q : vw_C} {fs : List Value} (hc : vwCl[ci]? = some q) (he : wc[q0]? = some (b, .inr (ci, fs))) (hC : q.1 = C) (hdg : decode cc pc = .ok (.invokevirtual index, 3)) (hst : st = As.reverse ++ .ref b :: rest) (hn : As.length = n) (hrest : (rest.map fun v => v.category).sum ≤ 8) (hcs : cells + rm.cells ≤ R.cells ∧ slots + rm.slots ≤ R.slots)
    (kk : ∀ (w' : va_W), post w' → SW p l e R s m args below meth c nL D A (cells + rm.cells) (slots + rm.slots) Q w' (pc + 3) lv rest) : SW p l e R s m args below meth c nL D A cells slots Q wc pc lv st := sw_callVV (wr := []) X hM cw q0 hc he hC hdg hst hn hrest hcs kk
theorem sw_callVQ0 {C : String} {b : Nat} {post : Option Nat → va_W → Prop} (X : sw_C p s m args c cc nL own WG D k A) (hM : CQ l y bytes maxL ret rm D k (.ref b :: As) wc post) (cw : CallW R s args own C index y bytes maxL ret (sw_ws y bytes maxL ret) rm rm.cells rm.slots n)
    (q0 : Nat) {ci : Nat} {q : vw_C} {fs : List Value} (hc : vwCl[ci]? = some q) (he : wc[q0]? = some (b, .inr (ci, fs))) (hC : q.1 = C) (hdg : decode cc pc = .ok (.invokevirtual index, 3)) (hst : st = As.reverse ++ .ref b :: rest) (hn : As.length = n) (hrest : (rest.map fun v => v.category).sum ≤ 8) (hcs : cells + rm.cells ≤ R.cells ∧ slots + rm.slots ≤ R.slots)
    (kk : ∀ (r : Option Nat) (w' : va_W), post r w' → SW p l e R s m args below meth c nL D A (cells + rm.cells) (slots + rm.slots) Q w' (pc + 3) lv (va_rf r :: rest)) : SW p l e R s m args below meth c nL D A cells slots Q wc pc lv st := sw_callVQ (wr := []) X hM cw q0 hc he hC hdg hst hn hrest hcs kk
theorem sw_callSI0 {post : Int → va_W → Prop} (X : sw_C p s m args c cc nL own WG D k A) (hM : CI l y bytes maxL ret rm D k As wc post) (cw : CallB R s args own index y bytes maxL ret (sw_ws y bytes maxL ret) rm rm.cells rm.slots n ∧ (Cond.static y).before args s = true)
    (hdg : decode cc pc = .ok (.invokestatic index, 3)) (hst : st = As.reverse ++ rest) (hn : As.length = n) (hrest : (rest.map fun v => v.category).sum ≤ 8) (hcs : cells + rm.cells ≤ R.cells ∧ slots + rm.slots ≤ R.slots)
    (kk : ∀ (z : Int) (w' : va_W), post z w' → SW p l e R s m args below meth c nL D A (cells + rm.cells) (slots + rm.slots) Q w' (pc + 3) lv (.int (J z) :: rest)) : SW p l e R s m args below meth c nL D A cells slots Q wc pc lv st := sw_callSI (wr := []) X hM cw hdg hst hn hrest hcs kk
theorem sw_callIV0 {b : Nat} {post : va_W → Prop} (X : sw_C p s m args c cc nL own WG D k A) (hM : CV l y bytes maxL none rm D k (.ref b :: As) wc post) (cw : CallB R s args own index y bytes maxL none (sw_ws y bytes maxL none) rm rm.cells rm.slots n ∧ y.name = "<init>" ∧ (Cond.instanceMethod y).before args s = true)
    (hdg : decode cc pc = .ok (.invokespecial index, 3)) (hst : st = As.reverse ++ .ref b :: rest) (hn : As.length = n) (hrest : (rest.map fun v => v.category).sum ≤ 8) (hcs : cells + rm.cells ≤ R.cells ∧ slots + rm.slots ≤ R.slots)
    (kk : ∀ (w' : va_W), post w' → SW p l e R s m args below meth c nL D A (cells + rm.cells) (slots + rm.slots) Q w' (pc + 3) lv rest) : SW p l e R s m args below meth c nL D A cells slots Q wc pc lv st := sw_callIV (wr := []) X hM cw hdg hst hn hrest hcs kk
end SWc0
