/-! the law: worlds turned round, the script, what a turn comes to -/
def sxs (xs : Nat → Int32) (i : Int) : Int := (xs i.toNat).toInt
theorem sxs_rng (xs : Nat → Int32) (i : Int) : -2147483648 ≤ sxs xs i ∧ sxs xs i < 2147483648 := J_rng _
def SC (b n : Nat) (xs : Nat → Int32) (s : State) (A : Nat → Prop) : Prop := va_X b n xs s s.heap ∧ b < s.heap.size ∧ ¬ A b ∧ n ≤ 2048
theorem J_mask (x : Int32) : ∃ z : Int, x &&& J 31 = J z ∧ 0 ≤ z ∧ z ≤ 31 := by
  refine ⟨((x &&& J 31).toBitVec.toNat : Int), ?_, by omega, ?_⟩
  · rw [← J_nI]
    show x &&& J 31 = Int32.ofNat _
    apply Int32.toBitVec_inj.mp
    rw [Int32.toBitVec_ofNat']
    simp
  · have h : (x &&& J 31).toBitVec.toNat ≤ 31 := by
      rw [Int32.toBitVec_and, BitVec.toNat_and]
      exact Nat.and_le_right
    omega
section LK
variable {p : Program} {l : Launch} {e : Env} {R : Room} {s : State} {m : MethodId} {args : Array Value} {below : List Frame} {meth : Method} {c : Code} {nL : Nat} {D : va_G} {A : Nat → Prop} {cells slots : Nat} {Q : State → Prop}
variable {cc : ByteArray} {own : String} {k : Nat → ClassId} {pc : Nat} {lv : List (Nat × Value)} {st : List Value} {L : List Nat} {M : MM} {w : va_W}
variable {y : MethodName} {bytes : ByteArray} {maxL index n : Nat} {ret : Option FieldType} {rm : Room} {As rest : List Value} {wr wc : va_W}
theorem sw_swap {wa wb : va_W} (kk : SW p l e R s m args below meth c nL D A cells slots Q (wb ++ wa) pc lv st) : SW p l e R s m args below meth c nL D A cells slots Q (wa ++ wb) pc lv st := by
  intro H locs ls hP hD hS hl
  have a1 : va_P D vwCl wa H := fun i q hq => hP i q (sw_getL hq)
  have a2 : va_P D vwCl wb H := fun i q hq => hP _ q (sw_getR hq)
  refine kk H locs ls (va_P.app a2 a1) (va_D.app ⟨fun i j p q hp hq he => ?_, fun i q hq => hD.2 _ q (sw_getR hq)⟩ ⟨fun i j p q hp hq he => hD.1 i j p q (sw_getL hp) (sw_getL hq) he, fun i q hq => hD.2 i q (sw_getL hq)⟩ (fun i j x y hx hy hxy => ?_)) hS hl
  · have h1 := hD.1 _ _ p q (sw_getR (wr := wa) hp) (sw_getR (wr := wa) hq) he
    omega
  · have h1 := hD.1 j (wa.length + i) y x (sw_getL hy) (sw_getR hx) hxy.symm
    have h2 := (List.getElem?_eq_some_iff.mp hy).1
    omega
theorem sw_sld (X : sw_C p s m args c cc nL own WG D k A) {b n : Nat} {xs : Nat → Int32} (hSc : SC b n xs s A) {i : Int} (h0 : 0 ≤ i) (h1 : i < (n : Int)) (hdg : decode cc pc = .ok (.iaload, 1)) (kk : SW p l e R s m args below meth c nL D A cells slots Q w (pc + 1) lv (.int (J (sxs xs i)) :: st)) : SW p l e R s m args below meth c nL D A cells slots Q w pc lv (.int (J i) :: .ref b :: st) := by
  intro H locs ls hP hD hS hl
  have hn := hSc.2.2.2
  refine va_sld X.1.1 X.1.2.1 hSc.1 hSc.2.1 hSc.2.2.1 hS (J_in h0 h1 (by omega)) hdg ?_
  rw [J_cl h0 (by omega), show xs i.toNat = J (sxs xs i) from (J_asI _).symm]
  exact kk H locs ls hP hD hS hl
theorem sw_slen (X : sw_C p s m args c cc nL own WG D k A) {b n : Nat} {xs : Nat → Int32} (hSc : SC b n xs s A) (hdg : decode cc pc = .ok (.arraylength, 1)) (kk : SW p l e R s m args below meth c nL D A cells slots Q w (pc + 1) lv (.int (J (n : Int)) :: st)) : SW p l e R s m args below meth c nL D A cells slots Q w pc lv (.ref b :: st) := by
  intro H locs ls hP hD hS hl
  refine va_slen X.1.1 X.1.2.1 hSc.1 hSc.2.1 hSc.2.2.1 hS hdg ?_
  rw [show Int32.ofNat n = J (n : Int) from J_nI n]
  exact kk H locs ls hP hD hS hl
theorem sw_mask (X : sw_C p s m args c cc nL own WG D k A) {x : Int32} (hdg : decode cc pc = .ok (.iand, 1)) (kk : ∀ z : Int, 0 ≤ z → z ≤ 31 → SW p l e R s m args below meth c nL D A cells slots Q w (pc + 1) lv (.int (J z) :: st)) : SW p l e R s m args below meth c nL D A cells slots Q w pc lv (.int (J 31) :: .int x :: st) := by
  intro H locs ls hP hD hS hl
  obtain ⟨z, hz, h0, h1⟩ := J_mask x
  refine lv_iand X.1.1 X.1.2.1 hdg ?_
  rw [hz]
  exact kk z h0 h1 H locs ls hP hD hS hl
theorem sw_tabIn (X : sw_C p s m args c cc nL own WG D k A) {dflt lo hi z off : Int} {offs : Array Int} {len tgt : Nat} (hz : -2147483648 ≤ z ∧ z < 2147483648) (hdg : decode cc pc = .ok (.tableswitch dflt lo hi offs, len)) (h1 : lo ≤ z) (h2 : z ≤ hi) (ho : offs[(z - lo).toNat]? = some off) (ht : (pc : Int) + off = (tgt : Int)) (kk : SW p l e R s m args below meth c nL D A cells slots Q w tgt lv st) : SW p l e R s m args below meth c nL D A cells slots Q w pc lv (.int (J z) :: st) :=
  fun H locs ls hP hD hS hl => lv_tableIn X.1.1 X.1.2.1 hdg (by rw [J_toInt hz]; omega) (by rw [J_toInt hz]; omega) (by rw [J_toInt hz]; exact ho) ht (kk H locs ls hP hD hS hl)
theorem sw_tabOut (X : sw_C p s m args c cc nL own WG D k A) {dflt lo hi z : Int} {offs : Array Int} {len tgt : Nat} (hz : -2147483648 ≤ z ∧ z < 2147483648) (hdg : decode cc pc = .ok (.tableswitch dflt lo hi offs, len)) (h1 : z < lo ∨ hi < z) (ht : (pc : Int) + dflt = (tgt : Int)) (kk : SW p l e R s m args below meth c nL D A cells slots Q w tgt lv st) : SW p l e R s m args below meth c nL D A cells slots Q w pc lv (.int (J z) :: st) :=
  fun H locs ls hP hD hS hl => lv_tableOut X.1.1 X.1.2.1 hdg (by rw [J_toInt hz]; exact h1) ht (kk H locs ls hP hD hS hl)
theorem sw_icmp_eqT (X : sw_C p s m args c cc nL own WG D k A) {x : Int32} {off : Int} {tgt : Nat} (hdg : decode cc pc = .ok (.if_icmp .eq off, 3)) (ht : (pc : Int) + off = (tgt : Int)) (kk : SW p l e R s m args below meth c nL D A cells slots Q w tgt lv st) : SW p l e R s m args below meth c nL D A cells slots Q w pc lv (.int x :: .int x :: st) :=
  fun H locs ls hP hD hS hl => lv_icmp_eq X.1.1 X.1.2.1 hdg ht (fun _ => kk H locs ls hP hD hS hl) (fun h => absurd rfl h)
theorem sw_callHI {hh : List (Nat × Nat × Nat × Nat)} {post : Int → va_W → Prop} (X : sw_C p s m args c cc nL own WG D k A) (hM : HI l y bytes maxL hh rm D k As wc post) (cw : vx_CSW R s args own index y bytes maxL (some .int) hh (Cond.codeWith y bytes maxL (some .int) hh :: WG) rm rm.cells rm.slots n)
    (hdg : decode cc pc = .ok (.invokestatic index, 3)) (hst : st = As.reverse ++ rest) (hn : As.length = n) (hrest : (rest.map fun v => v.category).sum ≤ 8) (hcs : cells + rm.cells ≤ R.cells ∧ slots + rm.slots ≤ R.slots)
    (kk : ∀ (z : Int) (w' : va_W), post z w' → SW p l e R s m args below meth c nL D A (cells + rm.cells) (slots + rm.slots) Q (wr ++ w') (pc + 3) lv (.int (J z) :: rest)) : SW p l e R s m args below meth c nL D A cells slots Q (wr ++ wc) pc lv st := by
  intro H locs ls hP hD hS hl
  obtain ⟨h1, h2, h3, h4⟩ := sw_part X hP hD hS
  refine va_calli (vx_runSW (As := As) (rest := rest) X.1 (hM H.size) cw ⟨sw_blind D k wc H.size _, sw_pre X hP hD hS _⟩ rfl hn hl.1 hst (lv_room hrest) hdg hcs) hS (fun q _ h => h3 q h) h3 (fun r w' t H1 locs1 ht hvm hw hB hz hk hS1 => ?_)
  obtain ⟨z, rfl, hp⟩ := hw
  obtain ⟨hP1, hD1⟩ := hB
  rw [ht] at hP1
  obtain ⟨hP2, hD2⟩ := sw_join hP hD hk h3 hP1 hD1
  exact kk z w' hp H1 locs1 ls hP2 hD2 hS1 hl
theorem sw_goodH {hh : List (Nat × Nat × Nat × Nat)} (h1 : Cond.methodLink own index y ∈ WG) (h2 : Cond.static y ∈ WG) (h4 : Cond.initialized y.cls ∈ WG) (h5 : Cond.codeWith y bytes maxL ret hh ∈ WG) : GoodIn WG (va_wsS own index y (Cond.codeWith y bytes maxL ret hh :: WG)) := by
  have key : ∀ w ∈ va_wsS own index y (Cond.codeWith y bytes maxL ret hh :: WG), w ∈ WG := by
    intro w hw
    simp only [va_wsS, List.cons_append, List.nil_append, List.mem_cons] at hw
    rcases hw with rfl | rfl | rfl | rfl | hw
    · exact h1
    · exact h2
    · exact h4
    · exact h5
    · exact hw
  exact fun w hw => ⟨key w hw, good_of_word (WG_good w (key w hw))⟩
end LK
/-! the invariant behind a call that went well -/
section IS
variable {N : Int} {st : ST}
theorem iS_setStart (h : I6 N st) {a : Int} (hK : kSetStart st a = 0) : I6 (N + 1) (up2 st 1 0 a) := by
  have h2 := I_en h
  have h9 := I_ca h
  unfold kSetStart at hK
  split at hK
  · exact absurd hK (by decide)
  · split at hK
    · exact absurd hK (by decide)
    · exact I_mono (I_setStart h (by omega) (by omega) (by omega)) (by omega)
theorem iS_cut (h : I6 N st) {a : Int} (hK : kCut a = 0) : I6 (N + 1) (up2 st 8 0 a) := by
  unfold kCut at hK
  split at hK
  · exact I_mono (I_cut h (by omega)) (by omega)
  · exact absurd hK (by decide)
theorem iS_enter (h : I6 N st) (hK : kEnter st = 0) : I6 (N + 1) (up2 st 9 0 (st 9 0 + 1)) := by
  have h9 := I_ca h
  unfold kEnter at hK
  split at hK
  · exact absurd hK (by decide)
  · exact I_mono (I_enter h (by omega)) (by omega)
theorem iS_addEntry (h : I6 N st) {a b : Int} (hK : kAddEntry st a b = 0) : I6 (N + 1) (sAddEntry st a b) := by
  have h2 := I_en h
  unfold kAddEntry at hK
  split at hK
  · exact absurd hK (by decide)
  · split at hK
    · exact absurd hK (by decide)
    · exact I_mono (I_addEntry h (by omega) (by omega) (by omega) (by omega) (by omega)) (by omega)
theorem iS_addGate (h : I6 N st) {a b : Int} (hK : kAddGate st a b = 0) : I6 (N + 1) (sAddGate st a b) := by
  have h5 := I_ga h
  unfold kAddGate at hK
  split at hK
  · exact absurd hK (by decide)
  · split at hK
    · exact absurd hK (by decide)
    · split at hK
      · exact absurd hK (by decide)
      · exact I_mono (I_addGate h (by omega) (by omega) (by omega) (by omega)) (by omega)
theorem iS_drive (h : I6 N st) {c a b : Int} (hK : kDrive st c a b = 0) : I6 (N + 1) (aP st c a a b) := by
  have h9 := I_ca h
  unfold kDrive at hK
  split at hK
  · exact absurd hK (by decide)
  · split at hK
    · exact absurd hK (by decide)
    · split at hK
      · exact absurd hK (by decide)
      · exact I_mono (I_piece h (by omega) (by omega) (by omega) (by omega) (by rw [if_neg (by omega)]; omega) (by rw [if_neg (by omega)]; omega)) (by omega)
theorem iS_stand (h : I6 N st) {c a : Int} (hK : kStand st c a = 0) : I6 (N + 1) (aP st c (-1) a 0) := by
  have h9 := I_ca h
  unfold kStand at hK
  split at hK
  · exact absurd hK (by decide)
  · split at hK
    · exact absurd hK (by decide)
    · split at hK
      · exact absurd hK (by decide)
      · have hb := I_c h c (by omega) (by omega)
        have ht := I_t h c (nP st c) (by omega) (by omega) (by rw [nP_e h (by omega) (by omega)]; omega)
        exact I_mono (I_piece h (by omega) (by omega) (by omega) (by omega) (by rw [if_pos rfl, dx_0]; omega) (by rw [if_pos rfl, dy_0]; omega)) (by omega)
theorem iS_break (h : I6 N st) {c a : Int} (hK : kBreak st c a = 0) : I6 (N + 1) (up2 st 14 c a) := by
  unfold kBreak at hK
  split at hK
  · exact absurd hK (by decide)
  · exact I_mono (I_broken h (by omega) (by omega)) (by omega)
theorem iS_bring (h : I6 N st) {a b : Int} (hK : kBring st a b = 0) : I6 (N + 1) (sBring st a b) := by
  have h9 := I_ca h
  have h17 := I_pa h
  unfold kBring at hK
  split at hK
  · exact absurd hK (by decide)
  · split at hK
    · exact absurd hK (by decide)
    · exact I_mono (I_bring h (by omega) (by omega) (by omega)) (by omega)
theorem iS_hand (h : I6 N st) {a b : Int} (hK : kHand st a b = 0) : I6 (N + 1) (up2 st 20 a b) := by
  have h9 := I_ca h
  unfold kHand at hK
  split at hK
  · exact absurd hK (by decide)
  · exact I_mono (I_where h (by omega)) (by omega)
theorem iS_record (h : I6 N st) {c g a : Int} (hK : kRecord st c g a = 0) : I6 (N + 1) (up2 st 16 (10 * c + g) a) := by
  have h5 := I_ga h
  unfold kRecord at hK
  split at hK
  · exact absurd hK (by decide)
  · split at hK
    · exact I_mono (I_record h (by omega) (by omega) (by omega)) (by omega)
    · exact absurd hK (by decide)
theorem iS_appeal (h : I6 N st) {c g : Int} (hK : kAppeal st c g = 0) : I6 (N + 1) (sAppeal st c g) := by
  have h5 := I_ga h
  unfold kAppeal at hK
  split at hK
  · exact absurd hK (by decide)
  · unfold sAppeal
    split
    · exact I_lost h (by omega)
    · exact I_mono (I_record h (by omega) (by omega) (by omega)) (by omega)
theorem iS_mend (h : I6 N st) {c : Int} (hK : kMend st c = 0) : I6 (N + 1) (sMend st c) := by
  have h9 := I_ca h
  unfold kMend at hK
  split at hK
  · exact absurd hK (by decide)
  · split at hK
    · exact absurd hK (by decide)
    · have hb := I_c h c (by omega) (by omega)
      have h2 : I6 N (aP (up2 (up2 st 20 (fPt st c (st 14 c)) (-2)) 21 (fPt st c (st 14 c)) c) c (-1) (3 * (st 14 c + 1)) 0) := I_mendP h (by omega) (by omega) (by omega)
      exact I_mono (I_broken h2 (show 0 ≤ c ∧ c < st 9 0 by omega) (by omega)) (by omega)
end IS
