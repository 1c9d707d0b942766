/-! mend -/
section XNs
variable {l : Launch} {y : MethodName} {cc : ByteArray} {maxL : Nat} {rm : Room} {D : va_G} {k : Nat → ClassId} {as : List Value} {w : va_W} {px : String → va_W → Prop}
abbrev nxE : String := "java/util/NoSuchElementException"
abbrev nxW : List Cond := nx_at RX5 139 nxE 13 prog_18_method_4_code "java/lang/RuntimeException" ["java/lang/Exception"]
theorem nxA : ∀ w ∈ nxW.filter goodWord, w ∈ lw_tbl := by decide +kernel
theorem nxB : ∀ w ∈ nxW.filter (fun w => !goodWord w), w ∈ Cond.castable nxE nxE :: cDe.map Cond.declares := by decide +kernel
theorem nxC : ∀ w ∈ Cond.classLink RX5 135 nxE :: Cond.initialized nxE :: nxW, vx_ot w = true := by decide +kernel
def XN (l : Launch) (cc : ByteArray) (maxL : Nat) (rm : Room) (D : va_G) (p : Program) (e : Env) (s : State) (m : MethodId) (args : Array Value) (below : List Frame) (meth : Method) (c : Code) (A : Nat → Prop) (Q : State → Prop) (px : String → va_W → Prop) : Prop :=
  ∀ (pc cells slots is : Nat) (text : String) (w' : va_W) (lv : List (Nat × Value)) (rest : List Value), (is, text) ∈ cTx →
    decode cc pc = .ok (.new 135, 3) → decode cc (pc + 3) = .ok (.dup, 1) → decode cc (pc + 4) = .ok (.ldc is, 2) → decode cc (pc + 6) = .ok (.invokespecial 139, 3) → decode cc (pc + 9) = .ok (.athrow, 1) →
    5 < rm.frames → (rest.map fun v => v.category).sum + 82 ≤ rm.locals → cells + 1 ≤ rm.cells → slots + 6 ≤ rm.slots → px nxE w' → SW p l e rm s m args below meth c maxL D A cells slots Q w' pc lv rest
theorem XN.of {Qc : Array Value → State → Outcome → State → Prop} {p : Program} {e : Env} {s : State} {m : MethodId} {args : Array Value} {below : List Frame} {meth : Method} {c : Code} (hfl : l.stackTraces = false) (X : sw_C p s m args c cc maxL RX5 WG D k (va_A w s.heap.size)) (ht : ∀ x ∈ c.exceptionTable.toList, False) (hlocks : meth.locks = false) : XN l cc maxL rm D p e s m args below meth c (va_A w s.heap.size) (vx_MQ below Qc (sw_X D w s.heap.size px) args s rm.cells rm.slots (va_A w s.heap.size)) px := by
  intro pc cells slots is text w' lv rest htx d0 d3 d4 d6 d9 hfr hlo hc hs hpx H locs ls hP hD hS hl
  obtain ⟨sa, hsa⟩ := X.2.2.2.2.2.2.2.1 _ htx
  have hex : nxE ∈ cEx := List.mem_of_getElem? (i := 3) rfl
  have hat : ∀ w ∈ nxW, w.before args s = true := by
    intro w hw
    by_cases g : goodWord w = true
    · exact sw_ts X w (List.mem_filter.mpr ⟨nxA w (List.mem_filter.mpr ⟨hw, g⟩), g⟩)
    · have h2 := nxB w (List.mem_filter.mpr ⟨hw, by cases hgw : goodWord w; rfl; exact absurd hgw g⟩)
      rcases List.mem_cons.mp h2 with h3 | h3
      · rw [h3]
        exact va_Nw.use rfl (X.2.2.2.2.2.2.2.2.2.2.2.1 _ hex)
      · obtain ⟨y, hy, rfl⟩ := List.mem_map.mp h3
        exact va_Nw.use rfl (X.2.2.2.2.2.2.2.2.2.2.2.2.2 y hy)
  exact nx_throw X.1.1 X.1.2.1 hfl (by decide +kernel) (by decide +kernel) (by decide +kernel) (by decide +kernel) X.1.2.2.2.1 (by decide +kernel) (by decide +kernel) (sw_ts X _ gw2_188) (sw_ts X _ gw1_13) hsa hat nxC X.2.2.2.1 X.2.2.2.2.1 hS (hl.1.trans X.1.2.2.1.symm) d0 d3 d4 d6 d9 (fun x hx => (ht x hx).elim) hfr hlo (by omega) (by omega) hlocks
    (fun t hvm hsz hk2 => ⟨w', trivial, ⟨hpx, hP.kept (fun i q hq => hk2 q.1 (hP i q hq).lt), hD⟩, ⟨Nat.le_trans hS.1 hsz, fun q h1 h2 => (hk2 q (Nat.lt_of_lt_of_le h1 hS.1)).trans (hS.2.1 q h1 h2)⟩⟩) hS.2.2 hc hs
theorem XI.ofN {ret : FieldType} {post : Int → va_W → Prop} (hfl : l.stackTraces = false) (hy : plainName y.cls = true) (hy5 : y.cls = RX5) (hlen : (lg_sl as).length ≤ maxL)
    (body : ∀ (p : Program) (e : Env) (s : State) (m : MethodId) (args : Array Value) (below : List Frame) (meth : Method) (c : Code) (A : Nat → Prop) (Q : State → Prop), sw_C p s m args c cc maxL RX5 WG D k A →
      (∀ (pc cells slots : Nat) (z : Int) (w' : va_W) (lv : List (Nat × Value)), decode cc pc = .ok (.ireturn, 1) → cells ≤ rm.cells → slots ≤ rm.slots → narrow ret (.int (J z)) = .int (J z) → post z w' → SW p l e rm s m args below meth c maxL D A cells slots Q w' pc lv [.int (J z)]) →
      XO l cc maxL rm D p e s m args below meth c A Q px → XT l cc maxL rm D p e s m args below meth c A Q px → XN l cc maxL rm D p e s m args below meth c A Q px → SW p l e rm s m args below meth c maxL D A 0 0 Q w 0 (lv_args 0 as) []) : XI l y cc maxL (some ret) rm D k as w post px := by
  intro sz
  refine vx_ofW (cc := cc) (maxL := maxL) (ret := some ret) hy rfl ?_
  intro p e s m args below meth c s₁ B hml ht hv
  obtain ⟨rfl, hsz, hP, hK, hD0, hG⟩ := hv
  have hts : ∀ w ∈ WG, w.before as.toArray s = true := fun w h => atoms_spec (ws := sw_ws y cc maxL (some ret)) B.pre w (List.mem_cons_of_mem _ h)
  have hown : s.vm.findClass RX5 = some m.cls := by rw [← hy5]; exact findClass_of_methodNamed B.named
  subst hsz
  have hl := lv_entry as hlen
  rw [lg_entry_eq]
  have X : sw_C p s m as.toArray c cc maxL RX5 WG D k (va_A w s.heap.size) := ⟨⟨B.exec, B.bytes, hml, hown, hts⟩, hK, fun q h => Or.inr h, hG⟩
  refine body p e s m as.toArray below meth c (va_A w s.heap.size) _ X ?_ (XO.of ht B.notSynchronized) (XT.of hfl X ht B.notSynchronized) (XN.of hfl X ht B.notSynchronized) s.heap [] _ hP hD0.self va_S.rf hl
  intro pc cells slots z w' lv hdg hc hs hn hp H locs ls hP1 hD1 hS1 hl1
  refine W.widen hc hs (vx_ret ?_)
  exact W.zret B.exec B.bytes B.returns hn (fun t ht hW => ⟨⟨J z, w', rfl, ⟨z, rfl, hp⟩, by rw [ht]; exact hP1, hD1⟩, hS1.F ht⟩) hS1.2.2 hdg B.notSynchronized
end XNs
theorem upM_comm (M : MM) {f g : Nat} (h : f ≠ g) (a b : Nat) (i j v u : Int) : upM (upM M f a i v) g b j u = upM (upM M g b j u) f a i v := by
  funext x y z
  unfold upM
  by_cases e1 : x = g ∧ y = b ∧ z = j <;> by_cases e2 : x = f ∧ y = a ∧ z = i
  · exact absurd (e2.1.symm.trans e1.1) h
  · simp only [if_pos e1, if_neg e2]
  · simp only [if_neg e1, if_pos e2]
  · simp only [if_neg e1, if_neg e2]
theorem fPt_b {N : Int} {st : ST} (hI : I6 N st) (c b : Int) : fPt st c b = -1 ∨ (0 ≤ fPt st c b ∧ fPt st c b < st 17 0) := by
  rcases isF_rng (fF_is (fun j => if st 20 j = c ∧ st 18 j = b then 1 else 0) (e := st 17 0 - 1) (v := 1) (a := 0)) with h | h
  · exact Or.inl h
  · right
    unfold fPt
    omega
abbrev rm_X5_mend : Room := { frames := 7, cells := 3, slots := 18, locals := 104 }
set_option maxHeartbeats 4000000 in
set_option maxRecDepth 100000 in
theorem c_X5_mend (l : Launch) (hfl : l.stackTraces = false) (D : va_G) (k : Nat → ClassId) (N : Int) (st : ST) (q : Int → Nat) (L : List Nat) (M : MM) (c : Int) (hI : I6 N st) (hC : CW st q L M) (h_c : (-2147483648 ≤ c ∧ c < 2147483648)) : XI l yX5_mend cX5_mend 4 (some .int) rm_X5_mend D k [.ref (q 0), .int (J c)] (pW k L M) (xP k q (sMend st c) (kMend st c) (fPt st c (st 14 c))) (fun E w' => w' = pW k L M ∧ ((E = "java/lang/IndexOutOfBoundsException" ∧ kMend st c = 1) ∨ (E = "java/lang/IllegalStateException" ∧ kMend st c = 2) ∨ (E = "java/util/NoSuchElementException" ∧ kMend st c = 3))) := by
  refine XI.ofN hfl (by decide +kernel) rfl (Nat.le_of_ble_eq_true rfl) (fun pᵢ eᵢ sᵢ mᵢ argsᵢ belowᵢ methᵢ cᵢ Aᵢ Qᵢ X RI XO_ XT_ XN_ => ?_)
  show SW pᵢ l eᵢ rm_X5_mend sᵢ mᵢ argsᵢ belowᵢ methᵢ cᵢ 4 D Aᵢ 0 0 Qᵢ (pW k L M) 0 [(0, .ref (q 0)), (1, .int (J c))] []
  have hC2 := hC
  obtain ⟨⟨⟨o0, o1, o2, o3, o4⟩, ⟨n1, n2, n3, n4⟩, ⟨r51, r52, r55, r57, r59⟩, v50, v53, v54, v56, v58⟩, hBk, hCa, hGa, hPa⟩ := hC2
  have i1 := I_st hI
  have i2 := I_en hI
  have i5 := I_ga hI
  have i8 := I_cu hI
  have i9 := I_ca hI
  have i17 := I_pa hI
  refine sw_aload_n X dX5_mend_0 rfl 0 rfl ?_
  refine sw_iload_n X dX5_mend_1 rfl 1 rfl ?_
  refine px_xVQ (C := RX5) (As := [.int (J c)]) (rest := []) X (c_X5_carAt l hfl D k N st q (L) (M) c hI hC (by omega)) (cwV 1 (sw_ts X) (sw_goodV gw2_136 gw2_138 gws_5 gw1_1 gw2_139) rfl rfl rfl (by decide +kernel) ⟨Nat.le_of_ble_eq_true rfl, Nat.le_of_ble_eq_true rfl⟩) ⟨o0.1, o0.2.2⟩ (by decide) rfl rfl dX5_mend_2 rfl rfl (Nat.le_of_ble_eq_true rfl) ⟨Nat.le_of_ble_eq_true rfl, Nat.le_of_ble_eq_true rfl⟩ (fun E9 w9 hx => XO_ _ _ _ _ _ _ _ (Nat.le_of_ble_eq_true rfl) (Nat.le_of_ble_eq_true rfl) (by obtain ⟨rfl, rfl, hx⟩ := hx; exact ⟨rfl, Or.inl ⟨rfl, by unfold kMend; split <;> (try split) <;> (try split) <;> omega⟩⟩)) (fun z1 w9 hp2 => ?_)
  obtain ⟨rfl, hrz1, rfl⟩ := hp2
  obtain ⟨hWc, ⟨cO, cR⟩, c0, c1, c2, c3, ⟨dO, dN⟩, dV⟩ := hCa c (by omega) (by omega)
  have hWc2 := hWc
  obtain ⟨⟨⟨wL, wG, wK⟩, w40⟩, w41, w42, w43, w44, ⟨⟨aL, aG, aK⟩, aN⟩, hp⟩ := hWc2
  have k44 := w44.trans (clk_v (st := st) (c := c) (by omega))
  have k42 := w42.trans (cel_v hI (c := c) (by omega))
  have hk9 := clk_b hI (c := c) (by omega) (by omega)
  have hct := I_c hI c (by omega) (by omega)
  have bNc := vN_t (st := st) (c := c) (by omega)
  have bLc : vL c = 60 := by unfold vL; rw [if_neg (by omega)]
  refine sw_astore_n (lv' := [(2, .ref (q (30 + c))), (0, .ref (q 0)), (1, .int (J c))]) X dX5_mend_5 rfl (by decide) rfl ?_
  refine sw_aload_n X dX5_mend_6 rfl 0 rfl ?_
  refine px_callVI (C := RX0) (As := []) (rest := []) X (c_X0_isDown l D k (L) (M) (q (30 + c)) ⟨cO.1, cO.2.2⟩ (by rw [show (M) 2 (q (30 + c)) 0 = st 14 c from c2]; omega)) (cwV 0 (sw_ts X) (sw_goodV gw2_145 gw2_146 gw2_147 gw1_12 gw2_148) rfl rfl rfl (by decide +kernel) ⟨Nat.le_of_ble_eq_true rfl, Nat.le_of_ble_eq_true rfl⟩) ⟨cO.1, cO.2.2⟩ (by decide) rfl rfl dX5_mend_7 rfl rfl (Nat.le_of_ble_eq_true rfl) ⟨Nat.le_of_ble_eq_true rfl, Nat.le_of_ble_eq_true rfl⟩ (fun z3 w9 hp4 => ?_)
  obtain ⟨rfl, hp4⟩ := hp4
  rw [show (M) 2 (q (30 + c)) 0 = st 14 c from c2] at hp4
  refine sw_if_eq (tgt := 27) X (by omega) dX5_mend_10 (by decide) (fun h5 => ?_) (fun h5 => ?_)
  · refine sw_iconst X dX5_mend_27 ?_
    refine sw_xSV (As := [.int (J 0)]) (rest := []) X (c_X5_checkState l hfl D k (pW k L M) 0 (by omega)) (va_cwS 1 (sw_ts X) (sw_goodS gw1_177 gw1_178 gw1_1 gw1_179) rfl rfl rfl (by decide +kernel) ⟨Nat.le_of_ble_eq_true rfl, Nat.le_of_ble_eq_true rfl⟩) dX5_mend_28 rfl rfl (Nat.le_of_ble_eq_true rfl) ⟨Nat.le_of_ble_eq_true rfl, Nat.le_of_ble_eq_true rfl⟩ (fun E9 w9 hx => XO_ _ _ _ _ _ _ _ (Nat.le_of_ble_eq_true rfl) (Nat.le_of_ble_eq_true rfl) (by obtain ⟨rfl, rfl, hx⟩ := hx; exact ⟨rfl, Or.inr (Or.inl ⟨rfl, by unfold kMend; split <;> (try split) <;> (try split) <;> omega⟩)⟩)) (fun w9 hp7 => ?_)
    obtain ⟨rfl, hp7⟩ := hp7
    exact absurd hp7 (by decide)
  · refine sw_aload_n X dX5_mend_13 rfl 0 rfl ?_
    refine px_getN (n := "") (d := "") (v := .ref (q (10 + c))) X iw_X0 cO.1 (by decide) cO.2.2 rfl 0 (by decide) (List.mem_of_getElem? (i := 14) rfl) rfl (congrArg some (rf_of c0)) dX5_mend_14 ?_
    refine px_callVI (C := RX4) (As := []) (rest := []) X (c_X4_isFull l D k N st q (L) (M) (c) hI (by omega) (hWc)) (cwV 0 (sw_ts X) (sw_goodV gw1_207 gw1_208 gw1_209 gw1_2 gw1_210) rfl rfl rfl (by decide +kernel) ⟨Nat.le_of_ble_eq_true rfl, Nat.le_of_ble_eq_true rfl⟩) ⟨wL, wK⟩ (by decide) rfl rfl dX5_mend_17 rfl rfl (Nat.le_of_ble_eq_true rfl) ⟨Nat.le_of_ble_eq_true rfl, Nat.le_of_ble_eq_true rfl⟩ (fun z8 w9 hp9 => ?_)
    obtain ⟨rfl, hp9⟩ := hp9
    refine sw_if_ne (tgt := 27) X (by omega) dX5_mend_20 (by decide) (fun h10 => ?_) (fun h10 => ?_)
    · refine sw_iconst X dX5_mend_27 ?_
      refine sw_xSV (As := [.int (J 0)]) (rest := []) X (c_X5_checkState l hfl D k (pW k L M) 0 (by omega)) (va_cwS 1 (sw_ts X) (sw_goodS gw1_177 gw1_178 gw1_1 gw1_179) rfl rfl rfl (by decide +kernel) ⟨Nat.le_of_ble_eq_true rfl, Nat.le_of_ble_eq_true rfl⟩) dX5_mend_28 rfl rfl (Nat.le_of_ble_eq_true rfl) ⟨Nat.le_of_ble_eq_true rfl, Nat.le_of_ble_eq_true rfl⟩ (fun E9 w9 hx => XO_ _ _ _ _ _ _ _ (Nat.le_of_ble_eq_true rfl) (Nat.le_of_ble_eq_true rfl) (by obtain ⟨rfl, rfl, hx⟩ := hx; exact ⟨rfl, Or.inr (Or.inl ⟨rfl, by unfold kMend; split <;> (try split) <;> (try split) <;> omega⟩)⟩)) (fun w9 hp12 => ?_)
      obtain ⟨rfl, hp12⟩ := hp12
      exact absurd hp12 (by decide)
    · refine sw_iconst X dX5_mend_23 ?_
      refine sw_goto (tgt := 28) X dX5_mend_24 (by decide) ?_
      refine sw_xSV (As := [.int (J 1)]) (rest := []) X (c_X5_checkState l hfl D k (pW k L M) 1 (by omega)) (va_cwS 1 (sw_ts X) (sw_goodS gw1_177 gw1_178 gw1_1 gw1_179) rfl rfl rfl (by decide +kernel) ⟨Nat.le_of_ble_eq_true rfl, Nat.le_of_ble_eq_true rfl⟩) dX5_mend_28 rfl rfl (Nat.le_of_ble_eq_true rfl) ⟨Nat.le_of_ble_eq_true rfl, Nat.le_of_ble_eq_true rfl⟩ (fun E9 w9 hx => XO_ _ _ _ _ _ _ _ (Nat.le_of_ble_eq_true rfl) (Nat.le_of_ble_eq_true rfl) (by obtain ⟨rfl, rfl, hx⟩ := hx; exact ⟨rfl, Or.inr (Or.inl ⟨rfl, by unfold kMend; split <;> (try split) <;> (try split) <;> omega⟩)⟩)) (fun w9 hp14 => ?_)
      obtain ⟨rfl, hp14⟩ := hp14
      refine sw_aload_n X dX5_mend_31 rfl 1 rfl ?_
      refine sw_iload_n X dX5_mend_32 rfl 2 rfl ?_
      refine sw_aload_n X dX5_mend_33 rfl 0 rfl ?_
      refine px_getN (n := "") (d := "") (v := .int (J (st 14 c))) X iw_X0 cO.1 (by decide) cO.2.2 rfl 2 (by decide) (List.mem_of_getElem? (i := 15) rfl) rfl (congrArg (fun z => some (Value.int (J z))) c2) dX5_mend_34 ?_
      refine px_callVI (C := RX5) (As := [.int (J c), .int (J (st 14 c))]) (rest := []) X (c_X5_firstPartIn l D k N st q (L) (M) c (st 14 c) hI hC (by omega) (by omega)) (cwV 2 (sw_ts X) (sw_goodV gw2_179 gw2_181 gws_7 gw1_1 gw2_182) rfl rfl rfl (by decide +kernel) ⟨Nat.le_of_ble_eq_true rfl, Nat.le_of_ble_eq_true rfl⟩) ⟨o0.1, o0.2.2⟩ (by decide) rfl rfl dX5_mend_37 rfl rfl (Nat.le_of_ble_eq_true rfl) ⟨Nat.le_of_ble_eq_true rfl, Nat.le_of_ble_eq_true rfl⟩ (fun z15 w9 hp16 => ?_)
      obtain ⟨rfl, rfl⟩ := hp16
      have hfb := fPt_b hI c (st 14 c)
      refine sw_istore_n (lv' := [(3, .int (J (fPt st c (st 14 c)))), (2, .ref (q (30 + c))), (0, .ref (q 0)), (1, .int (J c))]) X dX5_mend_40 rfl (by decide) rfl ?_
      refine sw_iload_n X dX5_mend_41 rfl 0 rfl ?_
      refine sw_iconst X dX5_mend_42 ?_
      refine sw_icmp_ne (tgt := 56) X (by omega) (by omega) dX5_mend_43 (by decide) (fun h17 => ?_) (fun h17 => ?_)
      · refine sw_aload_n X dX5_mend_56 rfl 2 rfl ?_
        refine sw_iload_n X dX5_mend_57 rfl 0 rfl ?_
        refine px_callVQ (C := RX5) (As := [.int (J (fPt st c (st 14 c)))]) (rest := []) X (c_X5_partAt_n l D k N st q (L) (M) (fPt st c (st 14 c)) hI hC (by omega)) (cwV 1 (sw_ts X) (sw_goodV gw2_183 gw2_185 gws_8 gw1_1 gw2_186) rfl rfl rfl (by decide +kernel) ⟨Nat.le_of_ble_eq_true rfl, Nat.le_of_ble_eq_true rfl⟩) ⟨o0.1, o0.2.2⟩ (by decide) rfl rfl dX5_mend_58 rfl rfl (Nat.le_of_ble_eq_true rfl) ⟨Nat.le_of_ble_eq_true rfl, Nat.le_of_ble_eq_true rfl⟩ (fun z18 w9 hp19 => ?_)
        obtain ⟨rfl, rfl⟩ := hp19
        obtain ⟨⟨pO, pR⟩, p20, p21, p22, p23, p24, p25⟩ := hPa (fPt st c (st 14 c)) (by omega) (by omega)
        have pb1 := I_j hI (fPt st c (st 14 c)) (by omega) (by omega)
        refine sw_iload_n X dX5_mend_61 rfl 3 rfl ?_
        refine px_callVV (C := RX2) (As := [.int (J c)]) (rest := []) X (c_X2_useUp l D k L M (q (60 + (fPt st c (st 14 c)))) c ⟨pO.1, pO.2.2⟩) (cwV 1 (sw_ts X) (sw_goodV gw2_204 gw2_205 gw2_206 gw1_14 gw2_207) rfl rfl rfl (by decide +kernel) ⟨Nat.le_of_ble_eq_true rfl, Nat.le_of_ble_eq_true rfl⟩) ⟨pO.1, pO.2.2⟩ (by decide) rfl rfl dX5_mend_62 rfl rfl (Nat.le_of_ble_eq_true rfl) ⟨Nat.le_of_ble_eq_true rfl, Nat.le_of_ble_eq_true rfl⟩ (fun w9 hp21 => ?_)
        obtain rfl := hp21
        have hI1 : I6 N (up2 (up2 st 20 (fPt st c (st 14 c)) (-2)) 21 (fPt st c (st 14 c)) c) := I_user (I_where hI ⟨by omega, by omega⟩) ⟨by omega, by omega⟩
        have hC1 := CW_use hI hC (j := fPt st c (st 14 c)) (u := c) (by omega) (by omega)
        have hWc1 := (hC1.2.2.1 c (by omega) (show c < st 9 0 by omega)).1
        refine sw_aload_n X dX5_mend_65 rfl 1 rfl ?_
        refine px_getN (M := upM (upM M 22 (q (60 + (fPt st c (st 14 c)))) 0 ((-2))) 23 (q (60 + (fPt st c (st 14 c)))) 0 c) (n := "") (d := "") (v := .ref (q (10 + c))) X iw_X0 cO.1 (by decide) cO.2.2 rfl 0 (by decide) (List.mem_of_getElem? (i := 14) rfl) rfl (congrArg some (rf_of c0)) dX5_mend_66 ?_
        refine sw_iconst X dX5_mend_69 ?_
        refine sw_aload_n X dX5_mend_70 rfl 1 rfl ?_
        refine px_getN (M := upM (upM M 22 (q (60 + (fPt st c (st 14 c)))) 0 ((-2))) 23 (q (60 + (fPt st c (st 14 c)))) 0 c) (n := "") (d := "") (v := .int (J (st 14 c))) X iw_X0 cO.1 (by decide) cO.2.2 rfl 2 (by decide) (List.mem_of_getElem? (i := 15) rfl) rfl (congrArg (fun z => some (Value.int (J z))) c2) dX5_mend_71 ?_
        refine sw_iconst X dX5_mend_74 ?_
        refine sw_iadd X dX5_mend_75 ?_
        refine sw_imul X dX5_mend_76 ?_
        refine px_callVV (M := upM (upM M 22 (q (60 + (fPt st c (st 14 c)))) 0 ((-2))) 23 (q (60 + (fPt st c (st 14 c)))) 0 c) (C := RX4) (As := [.int (J (3 * ((st 14 c) + 1)))]) (rest := []) X (c_X4_stay l D k N (up2 (up2 st 20 (fPt st c (st 14 c)) (-2)) 21 (fPt st c (st 14 c)) c) q L (upM (upM M 22 (q (60 + (fPt st c (st 14 c)))) 0 ((-2))) 23 (q (60 + (fPt st c (st 14 c)))) 0 c) c (3 * ((st 14 c) + 1)) hI1 (by omega) hWc1 (show vN st c < vL c by omega) (by omega)) (cwV 1 (sw_ts X) (sw_goodV gw2_156 gw2_157 gw2_158 gw1_2 gw2_159) rfl rfl rfl (by decide +kernel) ⟨Nat.le_of_ble_eq_true rfl, Nat.le_of_ble_eq_true rfl⟩) ⟨wL, wK⟩ (by decide) rfl rfl dX5_mend_77 rfl rfl (Nat.le_of_ble_eq_true rfl) ⟨Nat.le_of_ble_eq_true rfl, Nat.le_of_ble_eq_true rfl⟩ (fun w9 hp23 => ?_)
        obtain ⟨p24, hp24, rfl⟩ := hp23
        have kc90 := (ap_o (M := upM (upM M 22 (q (60 + (fPt st c (st 14 c)))) 0 ((-2))) 23 (q (60 + (fPt st c (st 14 c)))) 0 c) (b := vM (up2 (up2 st 20 (fPt st c (st 14 c)) (-2)) 21 (fPt st c (st 14 c)) c) c (vN (up2 (up2 st 20 (fPt st c (st 14 c)) (-2)) 21 (fPt st c (st 14 c)) c) c).toNat) (m := (3 * ((st 14 c) + 1))) (cl := clO (vP (up2 (up2 st 20 (fPt st c (st 14 c)) (-2)) 21 (fPt st c (st 14 c)) c) c (vN (up2 (up2 st 20 (fPt st c (st 14 c)) (-2)) 21 (fPt st c (st 14 c)) c) c).toNat)) (h := (vP (up2 (up2 st 20 (fPt st c (st 14 c)) (-2)) 21 (fPt st c (st 14 c)) c) c (vN (up2 (up2 st 20 (fPt st c (st 14 c)) (-2)) 21 (fPt st c (st 14 c)) c) c).toNat).2.2) (t := 0) (d := 0) (n := vN (up2 (up2 st 20 (fPt st c (st 14 c)) (-2)) 21 (fPt st c (st 14 c)) c) c) (sw_ne cO.1 hp24) (ob_ne cO ⟨wL, wG, wK⟩ (by omega)) (ob_ne cO ⟨aL, aG, aK⟩ (by omega)) 90 0).trans cO.2.2
        refine sw_aload_n X dX5_mend_80 rfl 1 rfl ?_
        refine sw_iconst X dX5_mend_81 ?_
        refine px_putN (M := apM (upM (upM M 22 (q (60 + (fPt st c (st 14 c)))) 0 ((-2))) 23 (q (60 + (fPt st c (st 14 c)))) 0 c) p24 (vM (up2 (up2 st 20 (fPt st c (st 14 c)) (-2)) 21 (fPt st c (st 14 c)) c) c (vN (up2 (up2 st 20 (fPt st c (st 14 c)) (-2)) 21 (fPt st c (st 14 c)) c) c).toNat) (3 * ((st 14 c) + 1)) (clO (vP (up2 (up2 st 20 (fPt st c (st 14 c)) (-2)) 21 (fPt st c (st 14 c)) c) c (vN (up2 (up2 st 20 (fPt st c (st 14 c)) (-2)) 21 (fPt st c (st 14 c)) c) c).toNat)) (vP (up2 (up2 st 20 (fPt st c (st 14 c)) (-2)) 21 (fPt st c (st 14 c)) c) c (vN (up2 (up2 st 20 (fPt st c (st 14 c)) (-2)) 21 (fPt st c (st 14 c)) c) c).toNat).2.2 0 0 (q (10 + c)) (q (20 + c)) (vN (up2 (up2 st 20 (fPt st c (st 14 c)) (-2)) 21 (fPt st c (st 14 c)) c) c)) (f := 2) (z := -1) X iw_X0 tyX0 tyX0_ok nmX0 (List.mem_append_left _ cO.1) (by decide) kc90 rfl 2 (by decide) (List.mem_of_getElem? (i := 15) rfl) rfl rfl (ty := .int) (by decide +kernel) rfl rfl (Nat.le_of_ble_eq_true rfl) (by decide) (pS2 _ _ _) dX5_mend_82 ?_
        refine sw_iload_n X dX5_mend_85 rfl 0 rfl ?_
        exact RI _ _ _ _ _ _ dX5_mend_86 (Nat.le_of_ble_eq_true rfl) (Nat.le_of_ble_eq_true rfl) rfl ⟨by unfold kMend; split <;> (try split) <;> (try split) <;> omega, rfl, _, _, _, (pW_80 k _ _ p24 0 (160 + 60 * c + vN (up2 (up2 st 20 (fPt st c (st 14 c)) (-2)) 21 (fPt st c (st 14 c)) c) c)).trans (congrArg (pW k (L ++ [p24])) ((upM_comm _ (by decide) _ _ _ _ _ _).trans (congrArg (fun z => upM _ 2 z 0 (-1)) (upq_n q p24 (u := 30 + c) (t := (160 + 60 * c + vN (up2 (up2 st 20 (fPt st c (st 14 c)) (-2)) 21 (fPt st c (st 14 c)) c) c)) (show ¬ 30 + c = 160 + 60 * c + vN st c by omega)).symm))), upq_n _ _ (show ¬ (0 : Int) = 160 + 60 * c + vN st c by omega), CW_break (I_mendP hI (by omega) (by omega) (by omega)) (CW_piece hI1 hC1 (show 0 ≤ c ∧ c < st 9 0 by omega) (show st 10 c < 60 by omega) hp24 (Or.inl ⟨rfl, rfl⟩)) (show 0 ≤ c ∧ c < st 9 0 by omega) (-1)⟩
      · exact XN_ _ _ _ 137 _ _ _ _ (List.mem_of_getElem? (i := 0) rfl) dX5_mend_46 dX5_mend_49 dX5_mend_50 dX5_mend_52 dX5_mend_55 (by decide) (Nat.le_of_ble_eq_true rfl) (Nat.le_of_ble_eq_true rfl) (Nat.le_of_ble_eq_true rfl) ⟨rfl, Or.inr (Or.inr ⟨rfl, by unfold kMend; split <;> (try split) <;> (try split) <;> omega⟩)⟩
