/-! the methods of a way -/
theorem clO_d {p : Int × Int × Int} (h : (0 ≤ p.1 ∧ p.1 ≤ 15) ∧ 0 ≤ p.2.1 ∧ p.2.1 ≤ 15) : clO p / 16 = p.1 ∧ clO p % 16 = p.2.1 := by unfold clO; omega
def onV (st : ST) (c m : Int) : Prop := (0 ≤ (vP st c (vN st c).toNat).1 + dx (vP st c (vN st c).toNat).2.2 m ∧ (vP st c (vN st c).toNat).1 + dx (vP st c (vN st c).toNat).2.2 m ≤ 15) ∧ 0 ≤ (vP st c (vN st c).toNat).2.1 + dy (vP st c (vN st c).toNat).2.2 m ∧ (vP st c (vN st c).toNat).2.1 + dy (vP st c (vN st c).toNat).2.2 m ≤ 15
theorem pcA_v {M : MM} {p : Nat} {m cl h d : Int} (e1 : M 31 p 0 = m) (e2 : M 32 p 0 = cl) (e3 : M 33 p 0 = h) (e5 : M 35 p 0 = d) (hh : 0 ≤ h ∧ h ≤ 3) : pcA M p (M 31 p 0) = if d = 0 then cl else cl + (16 * dx h m + dy h m) := by
  rw [pcA_d hh e3, e5, e2, e1]
abbrev rm_X4_beginIn : Room := { frames := 0, cells := 0, slots := 0, locals := 0 }
set_option maxHeartbeats 4000000 in
set_option maxRecDepth 100000 in
theorem c_X4_beginIn (l : Launch) (D : va_G) (k : Nat → ClassId) (L : List Nat) (M : MM) (a : Nat) (s0 : Int) (hq : a ∈ L ∧ M 90 a 0 = 4) : CV l yX4_beginIn cX4_beginIn 2 none rm_X4_beginIn D k [.ref a, .int (J s0)] (pW k L M) (fun w' => w' = pW k L (upM M 42 a 0 s0)) := by
  refine CV.of (by decide +kernel) (Nat.le_of_ble_eq_true rfl) (fun pᵢ eᵢ sᵢ mᵢ argsᵢ belowᵢ methᵢ cᵢ Aᵢ Qᵢ X hnm RV => ?_)
  show SW pᵢ l eᵢ rm_X4_beginIn sᵢ mᵢ argsᵢ belowᵢ methᵢ cᵢ 2 D Aᵢ 0 0 Qᵢ (pW k L M) 0 [(0, .ref a), (1, .int (J s0))] []
  refine sw_aload_n X dX4_beginIn_0 rfl 0 rfl ?_
  refine sw_iload_n X dX4_beginIn_1 rfl 1 rfl ?_
  refine px_put (f := 42) (z := s0) X iw_X4 tyX4 tyX4_ok nmX4 hq.1 (by decide) hq.2 rfl 2 (by decide) gw1_35 rfl rfl (ty := .int) (by decide +kernel) rfl rfl (Nat.le_of_ble_eq_true rfl) (by decide) (pS42 _ _ _) dX4_beginIn_2 ?_
  exact RV _ _ _ _ _ dX4_beginIn_5 (Nat.le_of_ble_eq_true rfl) (Nat.le_of_ble_eq_true rfl) rfl
abbrev rm_X4_isFull : Room := { frames := 0, cells := 0, slots := 0, locals := 0 }
set_option maxHeartbeats 4000000 in
set_option maxRecDepth 100000 in
theorem c_X4_isFull (l : Launch) (D : va_G) (k : Nat → ClassId) (N : Int) (st : ST) (q : Int → Nat) (L : List Nat) (M : MM) (c : Int)  (hI : I6 N st) (hc : c = -1 ∨ (0 ≤ c ∧ c < 8)) (hW : cWy st q L M c) : CI l yX4_isFull cX4_isFull 1 (some .boolean) rm_X4_isFull D k [.ref (q (10 + c))] (pW k L M) (fun z w' => w' = pW k L M ∧ ((z = 1 ∧ vN st c = vL c) ∨ (z = 0 ∧ vN st c < vL c))) := by
  refine CI.of (by decide +kernel) (Nat.le_of_ble_eq_true rfl) (fun pᵢ eᵢ sᵢ mᵢ argsᵢ belowᵢ methᵢ cᵢ Aᵢ Qᵢ X RI => ?_)
  show SW pᵢ l eᵢ rm_X4_isFull sᵢ mᵢ argsᵢ belowᵢ methᵢ cᵢ 1 D Aᵢ 0 0 Qᵢ (pW k L M) 0 [(0, .ref (q (10 + c)))] []
  have hW2 := hW
  obtain ⟨⟨⟨wL, wG, wK⟩, w40⟩, w41, w42, w43, w44, ⟨⟨aL, aG, aK⟩, aN⟩, hp⟩ := hW2
  have hcc : c = -1 ∨ (0 ≤ c ∧ c < 8) := by omega
  have bN := vN_b hI hcc
  have bL : vL c = 30 ∨ vL c = 60 := by unfold vL; split <;> omega
  have bP := vP_b hI hcc (n := (vN st c).toNat) (by omega)
  have bC := vC_b hI hcc (n := (vN st c).toNat) (by omega)
  have bM := vM_b2 hI hcc (n := (vN st c).toNat) (by omega)
  have e16 := clO_d bP.1
  refine sw_aload_n X dX4_isFull_0 rfl 0 rfl ?_
  refine px_get (v := .int (J (vN st c))) X iw_X4 wL (by decide) wK rfl 1 (by decide) gw1_33 rfl (congrArg (fun z => some (Value.int (J z))) w41) dX4_isFull_1 ?_
  refine sw_aload_n X dX4_isFull_4 rfl 0 rfl ?_
  refine px_get (v := .ref (q (20 + c))) X iw_X4 wL (by decide) wK rfl 0 (by decide) gw1_32 rfl (congrArg some (rf_of w40)) dX4_isFull_5 ?_
  refine px_alen (n := vL c) X 5 (by decide) rfl aL aK aN (by omega) dX4_isFull_8 ?_
  refine sw_icmp_lt (tgt := 16) X (by omega) (by omega) dX4_isFull_9 (by decide) (fun h1 => ?_) (fun h1 => ?_)
  · refine sw_iconst X dX4_isFull_16 ?_
    exact RI _ _ _ _ _ _ dX4_isFull_17 (Nat.le_of_ble_eq_true rfl) (Nat.le_of_ble_eq_true rfl) rfl ⟨rfl, by omega⟩
  · refine sw_iconst X dX4_isFull_12 ?_
    refine sw_goto (tgt := 17) X dX4_isFull_13 (by decide) ?_
    exact RI _ _ _ _ _ _ dX4_isFull_17 (Nat.le_of_ble_eq_true rfl) (Nat.le_of_ble_eq_true rfl) rfl ⟨rfl, by omega⟩
abbrev rm_X4_staysOnGround : Room := { frames := 1, cells := 0, slots := 0, locals := 22 }
set_option maxHeartbeats 4000000 in
set_option maxRecDepth 100000 in
theorem c_X4_staysOnGround (l : Launch) (D : va_G) (k : Nat → ClassId) (N : Int) (st : ST) (q : Int → Nat) (L : List Nat) (M : MM) (c : Int) (m : Int) (hI : I6 N st) (hc : c = -1 ∨ (0 ≤ c ∧ c < 8)) (hW : cWy st q L M c) (hm : 0 ≤ m ∧ m ≤ 15) : CI l yX4_staysOnGround cX4_staysOnGround 5 (some .boolean) rm_X4_staysOnGround D k [.ref (q (10 + c)), .int (J m)] (pW k L M) (fun z w' => w' = pW k L M ∧ ((z = 1 ∧ onV st c m) ∨ (z = 0 ∧ ¬ onV st c m))) := by
  refine CI.of (by decide +kernel) (Nat.le_of_ble_eq_true rfl) (fun pᵢ eᵢ sᵢ mᵢ argsᵢ belowᵢ methᵢ cᵢ Aᵢ Qᵢ X RI => ?_)
  show SW pᵢ l eᵢ rm_X4_staysOnGround sᵢ mᵢ argsᵢ belowᵢ methᵢ cᵢ 5 D Aᵢ 0 0 Qᵢ (pW k L M) 0 [(0, .ref (q (10 + c))), (1, .int (J m))] []
  have hW2 := hW
  obtain ⟨⟨⟨wL, wG, wK⟩, w40⟩, w41, w42, w43, w44, ⟨⟨aL, aG, aK⟩, aN⟩, hp⟩ := hW2
  have hcc : c = -1 ∨ (0 ≤ c ∧ c < 8) := by omega
  have bN := vN_b hI hcc
  have bL : vL c = 30 ∨ vL c = 60 := by unfold vL; split <;> omega
  have bP := vP_b hI hcc (n := (vN st c).toNat) (by omega)
  have bC := vC_b hI hcc (n := (vN st c).toNat) (by omega)
  have bM := vM_b2 hI hcc (n := (vN st c).toNat) (by omega)
  have e16 := clO_d bP.1
  have hX := sX_d (m := m) bP.2
  have hY := sY_d (m := m) bP.2
  have b1 := dx_b (vP st c (vN st c).toNat).2.2 m hm.1
  have b2 := dy_b (vP st c (vN st c).toNat).2.2 m hm.1
  refine sw_aload_n X dX4_staysOnGround_0 rfl 0 rfl ?_
  refine px_get (v := .int (J ((vP st c (vN st c).toNat).2.2))) X iw_X4 wL (by decide) wK rfl 3 (by decide) gw1_37 rfl (congrArg (fun z => some (Value.int (J z))) w43) dX4_staysOnGround_1 ?_
  refine sw_iconst X dX4_staysOnGround_4 ?_
  refine sw_iand X 2 (by omega) (by omega) (by decide +kernel) dX4_staysOnGround_5 ?_
  rw [show ((vP st c (vN st c).toNat).2.2) % ((2 ^ 2 : Nat) : Int) = ((vP st c (vN st c).toNat).2.2) % 4 from rfl]
  refine sw_istore_n (lv' := [(2, .int (J (((vP st c (vN st c).toNat).2.2) % 4))), (0, .ref (q (10 + c))), (1, .int (J m))]) X dX4_staysOnGround_6 rfl (by decide) rfl ?_
  refine sw_aload_n X dX4_staysOnGround_7 rfl 1 rfl ?_
  refine px_get (v := .int (J (clO (vP st c (vN st c).toNat)))) X iw_X4 wL (by decide) wK rfl 2 (by decide) gw1_35 rfl (congrArg (fun z => some (Value.int (J z))) w42) dX4_staysOnGround_8 ?_
  refine sw_iconst X dX4_staysOnGround_11 ?_
  refine sw_ishr X 4 (by omega) (by omega) (by decide +kernel) dX4_staysOnGround_12 ?_
  rw [show (clO (vP st c (vN st c).toNat)) / ((2 ^ 4 : Nat) : Int) = (clO (vP st c (vN st c).toNat)) / 16 from rfl]
  refine sw_iload_n X dX4_staysOnGround_13 rfl 2 rfl ?_
  refine px_sX X (List.mem_of_getElem? (i := 3) rfl) rfl dX4_staysOnGround_14 (fun t1 ht1 => ?_)
  refine sw_iload_n X dX4_staysOnGround_17 rfl 0 rfl ?_
  refine px_tX X ht1 (by omega) dX4_staysOnGround_18 ?_
  refine sw_imul X dX4_staysOnGround_19 ?_
  refine sw_iadd X dX4_staysOnGround_20 ?_
  refine sw_istore_n (lv' := [(3, .int (J (((clO (vP st c (vN st c).toNat)) / 16) + (m * (sX (((vP st c (vN st c).toNat).2.2) % 4)))))), (2, .int (J (((vP st c (vN st c).toNat).2.2) % 4))), (0, .ref (q (10 + c))), (1, .int (J m))]) X dX4_staysOnGround_21 rfl (by decide) rfl ?_
  refine sw_aload_n X dX4_staysOnGround_22 rfl 2 rfl ?_
  refine px_get (v := .int (J (clO (vP st c (vN st c).toNat)))) X iw_X4 wL (by decide) wK rfl 2 (by decide) gw1_35 rfl (congrArg (fun z => some (Value.int (J z))) w42) dX4_staysOnGround_23 ?_
  refine sw_bipush X dX4_staysOnGround_26 (by decide +kernel) ?_
  refine sw_iand X 4 (by omega) (by omega) (by decide +kernel) dX4_staysOnGround_28 ?_
  rw [show (clO (vP st c (vN st c).toNat)) % ((2 ^ 4 : Nat) : Int) = (clO (vP st c (vN st c).toNat)) % 16 from rfl]
  refine sw_iload_n X dX4_staysOnGround_29 rfl 3 rfl ?_
  refine px_sY X (List.mem_of_getElem? (i := 4) rfl) rfl dX4_staysOnGround_30 (fun t2 ht2 => ?_)
  refine sw_iload_n X dX4_staysOnGround_33 rfl 1 rfl ?_
  refine px_tY X ht2 (by omega) dX4_staysOnGround_34 ?_
  refine sw_imul X dX4_staysOnGround_35 ?_
  refine sw_iadd X dX4_staysOnGround_36 ?_
  refine sw_istore (lv' := [(4, .int (J (((clO (vP st c (vN st c).toNat)) % 16) + (m * (sY (((vP st c (vN st c).toNat).2.2) % 4)))))), (3, .int (J (((clO (vP st c (vN st c).toNat)) / 16) + (m * (sX (((vP st c (vN st c).toNat).2.2) % 4)))))), (2, .int (J (((vP st c (vN st c).toNat).2.2) % 4))), (0, .ref (q (10 + c))), (1, .int (J m))]) X dX4_staysOnGround_37 (by decide) rfl ?_
  refine sw_iload_n X dX4_staysOnGround_39 rfl 1 rfl ?_
  refine sw_iconst X dX4_staysOnGround_40 ?_
  refine sw_bipush X dX4_staysOnGround_41 (by decide +kernel) ?_
  refine sw_callSNI (As := [.int (J (((clO (vP st c (vN st c).toNat)) / 16) + (m * (sX (((vP st c (vN st c).toNat).2.2) % 4))))), .int (J 0), .int (J 15)]) (rest := []) X (c_X5_isWithin l D k (pW k L M) (((clO (vP st c (vN st c).toNat)) / 16) + (m * (sX (((vP st c (vN st c).toNat).2.2) % 4)))) 0 15 (by omega)) (sw_cwSN X 3 (List.mem_of_getElem? (i := 0) rfl) gw1_103 gw1_1 gw1_104 (by decide +kernel) ⟨Nat.le_of_ble_eq_true rfl, Nat.le_of_ble_eq_true rfl⟩) dX4_staysOnGround_43 rfl rfl (Nat.le_of_ble_eq_true rfl) ⟨Nat.le_of_ble_eq_true rfl, Nat.le_of_ble_eq_true rfl⟩ (fun z3 w9 hp4 => ?_)
  obtain ⟨rfl, hp4⟩ := hp4
  refine sw_if_eq (tgt := 64) X (by omega) dX4_staysOnGround_46 (by decide) (fun h5 => ?_) (fun h5 => ?_)
  · refine sw_iconst X dX4_staysOnGround_64 ?_
    exact RI _ _ _ _ _ _ dX4_staysOnGround_65 (Nat.le_of_ble_eq_true rfl) (Nat.le_of_ble_eq_true rfl) rfl ⟨rfl, by unfold onV; omega⟩
  · refine sw_iload X dX4_staysOnGround_49 0 rfl ?_
    refine sw_iconst X dX4_staysOnGround_51 ?_
    refine sw_bipush X dX4_staysOnGround_52 (by decide +kernel) ?_
    refine sw_callSNI (As := [.int (J (((clO (vP st c (vN st c).toNat)) % 16) + (m * (sY (((vP st c (vN st c).toNat).2.2) % 4))))), .int (J 0), .int (J 15)]) (rest := []) X (c_X5_isWithin l D k (pW k L M) (((clO (vP st c (vN st c).toNat)) % 16) + (m * (sY (((vP st c (vN st c).toNat).2.2) % 4)))) 0 15 (by omega)) (sw_cwSN X 3 (List.mem_of_getElem? (i := 0) rfl) gw1_103 gw1_1 gw1_104 (by decide +kernel) ⟨Nat.le_of_ble_eq_true rfl, Nat.le_of_ble_eq_true rfl⟩) dX4_staysOnGround_54 rfl rfl (Nat.le_of_ble_eq_true rfl) ⟨Nat.le_of_ble_eq_true rfl, Nat.le_of_ble_eq_true rfl⟩ (fun z6 w9 hp7 => ?_)
    obtain ⟨rfl, hp7⟩ := hp7
    refine sw_if_eq (tgt := 64) X (by omega) dX4_staysOnGround_57 (by decide) (fun h8 => ?_) (fun h8 => ?_)
    · refine sw_iconst X dX4_staysOnGround_64 ?_
      exact RI _ _ _ _ _ _ dX4_staysOnGround_65 (Nat.le_of_ble_eq_true rfl) (Nat.le_of_ble_eq_true rfl) rfl ⟨rfl, by unfold onV; omega⟩
    · refine sw_iconst X dX4_staysOnGround_60 ?_
      refine sw_goto (tgt := 65) X dX4_staysOnGround_61 (by decide) ?_
      exact RI _ _ _ _ _ _ dX4_staysOnGround_65 (Nat.le_of_ble_eq_true rfl) (Nat.le_of_ble_eq_true rfl) rfl ⟨rfl, by unfold onV; omega⟩
abbrev rm_X4_append : Room := { frames := 2, cells := 0, slots := 0, locals := 42 }
set_option maxHeartbeats 4000000 in
set_option maxRecDepth 100000 in
theorem c_X4_append (l : Launch) (D : va_G) (k : Nat → ClassId) (N : Int) (st : ST) (q : Int → Nat) (L : List Nat) (M : MM) (c : Int) (p : Nat) (b m cl h t d : Int) (hI : I6 N st) (hc : c = -1 ∨ (0 ≤ c ∧ c < 8)) (hW : cWy st q L M c) (hnf : vN st c < vL c) (hpp : p ∈ L ∧ M 90 p 0 = 3) (he : M 30 p 0 = b ∧ M 31 p 0 = m ∧ M 32 p 0 = cl ∧ M 33 p 0 = h ∧ M 34 p 0 = t ∧ M 35 p 0 = d) (hr : (0 ≤ h ∧ h ≤ 3) ∧ (0 ≤ t ∧ t ≤ 3) ∧ (d = 0 ∨ d = 1)) : CV l yX4_append cX4_append 2 none rm_X4_append D k [.ref (q (10 + c)), .ref p] (pW k L M) (fun w' => w' = pW k L (upM (upM (upM (upM (upM (M) 93 (q (20 + c)) (vN st c) ((p : Int))) 41 (q (10 + c)) 0 ((vN st c + 1))) 44 (q (10 + c)) 0 ((b + m))) 42 (q (10 + c)) 0 ((if d = 0 then cl else cl + (16 * dx h m + dy h m)))) 43 (q (10 + c)) 0 (((h + t) % 4)))) := by
  refine CV.of (by decide +kernel) (Nat.le_of_ble_eq_true rfl) (fun pᵢ eᵢ sᵢ mᵢ argsᵢ belowᵢ methᵢ cᵢ Aᵢ Qᵢ X hnm RV => ?_)
  show SW pᵢ l eᵢ rm_X4_append sᵢ mᵢ argsᵢ belowᵢ methᵢ cᵢ 2 D Aᵢ 0 0 Qᵢ (pW k L M) 0 [(0, .ref (q (10 + c))), (1, .ref p)] []
  have hW2 := hW
  obtain ⟨⟨⟨wL, wG, wK⟩, w40⟩, w41, w42, w43, w44, ⟨⟨aL, aG, aK⟩, aN⟩, hp⟩ := hW2
  have hcc : c = -1 ∨ (0 ≤ c ∧ c < 8) := by omega
  have bN := vN_b hI hcc
  have bL : vL c = 30 ∨ vL c = 60 := by unfold vL; split <;> omega
  have bP := vP_b hI hcc (n := (vN st c).toNat) (by omega)
  have bC := vC_b hI hcc (n := (vN st c).toNat) (by omega)
  have bM := vM_b2 hI hcc (n := (vN st c).toNat) (by omega)
  have e16 := clO_d bP.1
  have hh : 0 ≤ M 33 p 0 ∧ M 33 p 0 ≤ 3 := by rw [he.2.2.2.1]; exact hr.1
  have hd : M 35 p 0 = 0 ∨ M 35 p 0 = 1 := by rw [he.2.2.2.2.2]; exact hr.2.2
  refine sw_aload_n X dX4_append_0 rfl 0 rfl ?_
  refine px_callVI (C := RX4) (As := []) (rest := []) X (c_X4_isFull l D k N st q (L) (M) c hI hc hW) (cwV 0 (sw_ts X) (sw_goodV gw2_16 gw1_208 gw1_209 gw1_2 gw1_210) rfl rfl rfl (by decide +kernel) ⟨Nat.le_of_ble_eq_true rfl, Nat.le_of_ble_eq_true rfl⟩) ⟨wL, wK⟩ (by decide) rfl rfl dX4_append_1 rfl rfl (Nat.le_of_ble_eq_true rfl) ⟨Nat.le_of_ble_eq_true rfl, Nat.le_of_ble_eq_true rfl⟩ (fun z1 w9 hp2 => ?_)
  obtain ⟨rfl, hp2⟩ := hp2
  refine sw_if_eq (tgt := 8) X (by omega) dX4_append_4 (by decide) (fun h3 => ?_) (fun h3 => ?_)
  · refine sw_aload_n X dX4_append_8 rfl 0 rfl ?_
    refine px_get (v := .ref (q (20 + c))) X iw_X4 wL (by decide) wK rfl 0 (by decide) gw1_32 rfl (congrArg some (rf_of w40)) dX4_append_9 ?_
    refine sw_aload_n X dX4_append_12 rfl 0 rfl ?_
    refine px_get (v := .int (J (vN st c))) X iw_X4 wL (by decide) wK rfl 1 (by decide) gw1_33 rfl (congrArg (fun z => some (Value.int (J z))) w41) dX4_append_13 ?_
    refine sw_aload_n X dX4_append_16 rfl 1 rfl ?_
    refine px_aast X 5 3 (by decide) rfl rfl aL aK aN hpp.1 (by decide) hpp.2 (by omega) (by omega) (by omega) dX4_append_17 ?_
    refine sw_aload_n X dX4_append_18 rfl 0 rfl ?_
    refine sw_dup X dX4_append_19 rfl ?_
    refine px_get (M := upM M 93 (q (20 + c)) (vN st c) ((p : Int))) (v := .int (J (vN st c))) X iw_X4 wL (by decide) wK rfl 1 (by decide) gw1_33 rfl (congrArg (fun z => some (Value.int (J z))) w41) dX4_append_20 ?_
    refine sw_iconst X dX4_append_23 ?_
    refine sw_iadd X dX4_append_24 ?_
    refine px_put (M := upM M 93 (q (20 + c)) (vN st c) ((p : Int))) (f := 41) (z := (vN st c) + 1) X iw_X4 tyX4 tyX4_ok nmX4 wL (by decide) wK rfl 1 (by decide) gw1_33 rfl rfl (ty := .int) (by decide +kernel) rfl rfl (Nat.le_of_ble_eq_true rfl) (by decide) (pS41 _ _ _) dX4_append_25 ?_
    refine sw_aload_n X dX4_append_28 rfl 0 rfl ?_
    refine sw_aload_n X dX4_append_29 rfl 1 rfl ?_
    refine px_callVI (M := upM (upM M 93 (q (20 + c)) (vN st c) ((p : Int))) 41 (q (10 + c)) 0 ((vN st c) + 1)) (C := RX3) (As := []) (rest := [.ref (q (10 + c))]) X (c_X3_end l D k (L) (upM (upM M 93 (q (20 + c)) (vN st c) ((p : Int))) 41 (q (10 + c)) 0 ((vN st c) + 1)) p hpp) (cwV 0 (sw_ts X) (sw_goodV gw2_17 gw2_18 gw2_19 gw1_9 gw2_20) rfl rfl rfl (by decide +kernel) ⟨Nat.le_of_ble_eq_true rfl, Nat.le_of_ble_eq_true rfl⟩) ⟨hpp.1, hpp.2⟩ (by decide) rfl rfl dX4_append_30 rfl rfl (Nat.le_of_ble_eq_true rfl) ⟨Nat.le_of_ble_eq_true rfl, Nat.le_of_ble_eq_true rfl⟩ (fun z4 w9 hp5 => ?_)
    have hzz4 : z4 = b + m := hp5.2.trans (congr (congrArg HAdd.hAdd he.1) he.2.1)
    obtain ⟨rfl, -⟩ := hp5
    subst hzz4
    refine px_put (M := upM (upM M 93 (q (20 + c)) (vN st c) ((p : Int))) 41 (q (10 + c)) 0 ((vN st c) + 1)) (f := 44) (z := b + m) X iw_X4 tyX4 tyX4_ok nmX4 wL (by decide) wK rfl 4 (by decide) gw1_38 rfl rfl (ty := .int) (by decide +kernel) rfl rfl (Nat.le_of_ble_eq_true rfl) (by decide) (pS44 _ _ _) dX4_append_33 ?_
    refine sw_aload_n X dX4_append_36 rfl 0 rfl ?_
    refine sw_aload_n X dX4_append_37 rfl 1 rfl ?_
    refine px_callVI (M := upM (upM (upM M 93 (q (20 + c)) (vN st c) ((p : Int))) 41 (q (10 + c)) 0 ((vN st c) + 1)) 44 (q (10 + c)) 0 (b + m)) (C := RX3) (As := []) (rest := [.ref (q (10 + c))]) X (c_X3_lastCell l D k (L) (upM (upM (upM M 93 (q (20 + c)) (vN st c) ((p : Int))) 41 (q (10 + c)) 0 ((vN st c) + 1)) 44 (q (10 + c)) 0 (b + m)) p hpp hh hd) (cwV 0 (sw_ts X) (sw_goodV gw2_21 gw2_22 gw2_23 gw1_9 gw2_24) rfl rfl rfl (by decide +kernel) ⟨Nat.le_of_ble_eq_true rfl, Nat.le_of_ble_eq_true rfl⟩) ⟨hpp.1, hpp.2⟩ (by decide) rfl rfl dX4_append_38 rfl rfl (Nat.le_of_ble_eq_true rfl) ⟨Nat.le_of_ble_eq_true rfl, Nat.le_of_ble_eq_true rfl⟩ (fun z6 w9 hp7 => ?_)
    have hzz6 : z6 = if d = 0 then cl else cl + (16 * dx h m + dy h m) := hp7.2.trans (pcA_v he.2.1 he.2.2.1 he.2.2.2.1 he.2.2.2.2.2 hr.1)
    obtain ⟨rfl, -⟩ := hp7
    subst hzz6
    refine px_put (M := upM (upM (upM M 93 (q (20 + c)) (vN st c) ((p : Int))) 41 (q (10 + c)) 0 ((vN st c) + 1)) 44 (q (10 + c)) 0 (b + m)) (f := 42) (z := if d = 0 then cl else cl + (16 * dx h m + dy h m)) X iw_X4 tyX4 tyX4_ok nmX4 wL (by decide) wK rfl 2 (by decide) gw1_35 rfl rfl (ty := .int) (by decide +kernel) rfl rfl (Nat.le_of_ble_eq_true rfl) (by decide) (pS42 _ _ _) dX4_append_41 ?_
    refine sw_aload_n X dX4_append_44 rfl 0 rfl ?_
    refine sw_aload_n X dX4_append_45 rfl 1 rfl ?_
    refine px_getN (M := upM (upM (upM (upM M 93 (q (20 + c)) (vN st c) ((p : Int))) 41 (q (10 + c)) 0 ((vN st c) + 1)) 44 (q (10 + c)) 0 (b + m)) 42 (q (10 + c)) 0 (if d = 0 then cl else cl + (16 * dx h m + dy h m))) (n := "") (d := "") (v := .int (J h)) X iw_X3 hpp.1 (by decide) hpp.2 rfl 3 (by decide) (List.mem_of_getElem? (i := 6) rfl) rfl (congrArg (fun z => some (Value.int (J z))) he.2.2.2.1) dX4_append_46 ?_
    refine sw_aload_n X dX4_append_49 rfl 1 rfl ?_
    refine px_getN (M := upM (upM (upM (upM M 93 (q (20 + c)) (vN st c) ((p : Int))) 41 (q (10 + c)) 0 ((vN st c) + 1)) 44 (q (10 + c)) 0 (b + m)) 42 (q (10 + c)) 0 (if d = 0 then cl else cl + (16 * dx h m + dy h m))) (n := "") (d := "") (v := .int (J t)) X iw_X3 hpp.1 (by decide) hpp.2 rfl 4 (by decide) (List.mem_of_getElem? (i := 7) rfl) rfl (congrArg (fun z => some (Value.int (J z))) he.2.2.2.2.1) dX4_append_50 ?_
    refine sw_iadd X dX4_append_53 ?_
    refine sw_iconst X dX4_append_54 ?_
    refine sw_iand X 2 (by omega) (by omega) (by decide +kernel) dX4_append_55 ?_
    rw [show (h + t) % ((2 ^ 2 : Nat) : Int) = (h + t) % 4 from rfl]
    refine px_put (M := upM (upM (upM (upM M 93 (q (20 + c)) (vN st c) ((p : Int))) 41 (q (10 + c)) 0 ((vN st c) + 1)) 44 (q (10 + c)) 0 (b + m)) 42 (q (10 + c)) 0 (if d = 0 then cl else cl + (16 * dx h m + dy h m))) (f := 43) (z := (h + t) % 4) X iw_X4 tyX4 tyX4_ok nmX4 wL (by decide) wK rfl 3 (by decide) gw1_37 rfl rfl (ty := .int) (by decide +kernel) rfl rfl (Nat.le_of_ble_eq_true rfl) (by decide) (pS43 _ _ _) dX4_append_56 ?_
    exact RV _ _ _ _ _ dX4_append_59 (Nat.le_of_ble_eq_true rfl) (Nat.le_of_ble_eq_true rfl) rfl
  · exact RV _ _ _ _ _ dX4_append_7 (Nat.le_of_ble_eq_true rfl) (Nat.le_of_ble_eq_true rfl) (absurd hnf (by omega))
/-- a piece more: the memory behind it -/
def apM (M : MM) (p : Nat) (b m cl h t d : Int) (wa aa : Nat) (n : Int) : MM := upM (upM (upM (upM (upM (upM (upM (upM (upM (upM (upM (alM M p 3 0) 30 p 0 b) 31 p 0 m) 32 p 0 cl) 33 p 0 h) 34 p 0 t) 35 p 0 d) 93 aa n ((p : Int))) 41 wa 0 ((n + 1))) 44 wa 0 ((b + m))) 42 wa 0 ((if d = 0 then cl else cl + (16 * dx h m + dy h m)))) 43 wa 0 (((h + t) % 4))
section Fr
variable {st : ST} {q : Int → Nat} {L L' : List Nat} {M M' : MM} {c : Int}
theorem ob_fr {t d : Int} (h : ob q L M t d) (hL : ∀ a, a ∈ L → a ∈ L') (hM : ∀ f a i, a ∈ L → M' f a i = M f a i) : ob q L' M' t d := ⟨hL _ h.1, (hM _ _ _ h.1).trans h.2.1, (hM _ _ _ h.1).trans h.2.2⟩
theorem cPc_fr {i : Nat} (ha : q (20 + c) ∈ L) (h : cPc st q L M c i) (hL : ∀ a, a ∈ L → a ∈ L') (hM : ∀ f a i, a ∈ L → M' f a i = M f a i) : cPc st q L' M' c i := by
  obtain ⟨⟨h0, h1⟩, h2, h3, h4, h5, h6, h7⟩ := h
  have hp := h1.1
  exact ⟨⟨(hM _ _ _ ha).trans h0, ob_fr h1 hL hM⟩, (hM _ _ _ hp).trans h2, (hM _ _ _ hp).trans h3, (hM _ _ _ hp).trans h4, (hM _ _ _ hp).trans h5, (hM _ _ _ hp).trans h6, (hM _ _ _ hp).trans h7⟩
theorem cWy_fr (h : cWy st q L M c) (hL : ∀ a, a ∈ L → a ∈ L') (hM : ∀ f a i, a ∈ L → M' f a i = M f a i) : cWy st q L' M' c := by
  obtain ⟨⟨h0, h1⟩, h2, h3, h4, h5, ⟨h6, h7⟩, h8⟩ := h
  have hw := h0.1
  exact ⟨⟨ob_fr h0 hL hM, (hM _ _ _ hw).trans h1⟩, (hM _ _ _ hw).trans h2, (hM _ _ _ hw).trans h3, (hM _ _ _ hw).trans h4, (hM _ _ _ hw).trans h5, ⟨ob_fr h6 hL hM, (hM _ _ _ h6.1).trans h7⟩, fun i hi => cPc_fr h6.1 (h8 i hi) hL hM⟩
end Fr
theorem fr_new {L : List Nat} {M : MM} {p : Nat} (hp : p ∉ L) {c : Int} {b m cl h t d : Int} : ∀ f a i, a ∈ L → upM (upM (upM (upM (upM (upM (alM M p c 0) 30 p 0 b) 31 p 0 m) 32 p 0 cl) 33 p 0 h) 34 p 0 t) 35 p 0 d f a i = M f a i := fun f a i ha => by
  have e : a ≠ p := sw_ne ha hp
  simp [upM, alM, e]
abbrev rm_X4_goOn : Room := { frames := 3, cells := 1, slots := 6, locals := 63 }
set_option maxHeartbeats 4000000 in
set_option maxRecDepth 100000 in
theorem c_X4_goOn (l : Launch) (D : va_G) (k : Nat → ClassId) (N : Int) (st : ST) (q : Int → Nat) (L : List Nat) (M : MM) (c : Int) (m t : Int) (hI : I6 N st) (hc : c = -1 ∨ (0 ≤ c ∧ c < 8)) (hW : cWy st q L M c) (hnf : vN st c < vL c) (hm : 0 ≤ m ∧ m ≤ 100) (ht : 0 ≤ t ∧ t ≤ 3) : CV l yX4_goOn cX4_goOn 3 none rm_X4_goOn D k [.ref (q (10 + c)), .int (J m), .int (J t)] (pW k L M) (fun w' => ∃ p : Nat, p ∉ L ∧ w' = pW k (L ++ [p]) (apM M p (vM st c (vN st c).toNat) m (clO (vP st c (vN st c).toNat)) (vP st c (vN st c).toNat).2.2 t 1 (q (10 + c)) (q (20 + c)) (vN st c))) := by
  refine CV.of (by decide +kernel) (Nat.le_of_ble_eq_true rfl) (fun pᵢ eᵢ sᵢ mᵢ argsᵢ belowᵢ methᵢ cᵢ Aᵢ Qᵢ X hnm RV => ?_)
  show SW pᵢ l eᵢ rm_X4_goOn sᵢ mᵢ argsᵢ belowᵢ methᵢ cᵢ 3 D Aᵢ 0 0 Qᵢ (pW k L M) 0 [(0, .ref (q (10 + c))), (1, .int (J m)), (2, .int (J t))] []
  have hW2 := hW
  obtain ⟨⟨⟨wL, wG, wK⟩, w40⟩, w41, w42, w43, w44, ⟨⟨aL, aG, aK⟩, aN⟩, hp⟩ := hW2
  have hcc : c = -1 ∨ (0 ≤ c ∧ c < 8) := by omega
  have bN := vN_b hI hcc
  have bL : vL c = 30 ∨ vL c = 60 := by unfold vL; split <;> omega
  have bP := vP_b hI hcc (n := (vN st c).toNat) (by omega)
  have bC := vC_b hI hcc (n := (vN st c).toNat) (by omega)
  have bM := vM_b2 hI hcc (n := (vN st c).toNat) (by omega)
  have e16 := clO_d bP.1
  refine sw_aload_n X dX4_goOn_0 rfl 0 rfl ?_
  refine px_new (ci := 3) (N := 6) (T := TX3) (C := RX3) X iw_X3 tyX3 tyX3_ok gw1_30 gw1_224 gw1_9 rfl (by decide) dv_X3 (al_X3 _) ⟨Nat.le_of_ble_eq_true rfl, Nat.le_of_ble_eq_true rfl⟩ dX4_goOn_1 (fun q1 hq1 => ?_)
  refine sw_dup X dX4_goOn_4 rfl ?_
  refine sw_aload_n X dX4_goOn_5 rfl 0 rfl ?_
  refine px_get (M := alM M q1 3 0) (v := .int (J (vM st c (vN st c).toNat))) X iw_X4 (List.mem_append_left _ wL) (by decide) ((alM_o _ _ _ _ _ (sw_ne wL hq1)).trans wK) rfl 4 (by decide) gw1_38 rfl (congrArg (fun z => some (Value.int (J z))) ((alM_o _ _ _ _ _ (sw_ne wL hq1)).trans w44)) dX4_goOn_6 ?_
  refine sw_iload_n X dX4_goOn_9 rfl 1 rfl ?_
  refine sw_aload_n X dX4_goOn_10 rfl 0 rfl ?_
  refine px_get (M := alM M q1 3 0) (v := .int (J (clO (vP st c (vN st c).toNat)))) X iw_X4 (List.mem_append_left _ wL) (by decide) ((alM_o _ _ _ _ _ (sw_ne wL hq1)).trans wK) rfl 2 (by decide) gw1_35 rfl (congrArg (fun z => some (Value.int (J z))) ((alM_o _ _ _ _ _ (sw_ne wL hq1)).trans w42)) dX4_goOn_11 ?_
  refine sw_aload_n X dX4_goOn_14 rfl 0 rfl ?_
  refine px_get (M := alM M q1 3 0) (v := .int (J ((vP st c (vN st c).toNat).2.2))) X iw_X4 (List.mem_append_left _ wL) (by decide) ((alM_o _ _ _ _ _ (sw_ne wL hq1)).trans wK) rfl 3 (by decide) gw1_37 rfl (congrArg (fun z => some (Value.int (J z))) ((alM_o _ _ _ _ _ (sw_ne wL hq1)).trans w43)) dX4_goOn_15 ?_
  refine sw_iload_n X dX4_goOn_18 rfl 2 rfl ?_
  refine sw_iconst X dX4_goOn_19 ?_
  refine sw_callIV0 (As := [.int (J (vM st c (vN st c).toNat)), .int (J m), .int (J (clO (vP st c (vN st c).toNat))), .int (J ((vP st c (vN st c).toNat).2.2)), .int (J t), .int (J 1)]) (rest := [.ref q1, .ref (q (10 + c))]) X (c_X3_init l D k (L ++ [q1]) (alM M q1 3 0) q1 (vM st c (vN st c).toNat) m (clO (vP st c (vN st c).toNat)) ((vP st c (vN st c).toNat).2.2) t 1 ⟨(List.mem_append_right _ List.mem_cons_self), (alM_n _ _ _ _ _ _)⟩ (by omega)) ⟨callB_of 6 (sw_ts X) (sw_goodI gw1_227) rfl rfl rfl (sw_ts X _ gw1_9) (sw_ts X _ gw1_225) (by decide +kernel) ⟨Nat.le_of_ble_eq_true rfl, Nat.le_of_ble_eq_true rfl⟩, rfl, sw_ts X _ gw1_226⟩ dX4_goOn_20 rfl rfl (Nat.le_of_ble_eq_true rfl) ⟨Nat.le_of_ble_eq_true rfl, Nat.le_of_ble_eq_true rfl⟩ (fun w9 hp3 => ?_)
  obtain rfl := hp3
  refine px_callVV (M := upM (upM (upM (upM (upM (upM (alM M q1 3 0) 30 q1 0 (vM st c (vN st c).toNat)) 31 q1 0 m) 32 q1 0 (clO (vP st c (vN st c).toNat))) 33 q1 0 ((vP st c (vN st c).toNat).2.2)) 34 q1 0 t) 35 q1 0 1) (C := RX4) (As := [.ref q1]) (rest := []) X (c_X4_append l D k N st q (L ++ [q1]) (upM (upM (upM (upM (upM (upM (alM M q1 3 0) 30 q1 0 (vM st c (vN st c).toNat)) 31 q1 0 m) 32 q1 0 (clO (vP st c (vN st c).toNat))) 33 q1 0 ((vP st c (vN st c).toNat).2.2)) 34 q1 0 t) 35 q1 0 1) c q1 (vM st c (vN st c).toNat) m (clO (vP st c (vN st c).toNat)) ((vP st c (vN st c).toNat).2.2) t 1 hI hc (cWy_fr hW (fun a h => List.mem_append_left _ h) (fr_new hq1)) hnf ⟨(List.mem_append_right _ List.mem_cons_self), (alM_n _ _ _ _ _ _)⟩ ⟨by simp [upM], by simp [upM], by simp [upM], by simp [upM], by simp [upM], by simp [upM]⟩ ⟨bP.2, by omega, by omega⟩) (cwV 1 (sw_ts X) (sw_goodV gw2_12 gw2_14 gws_1 gw1_2 gw2_15) rfl rfl rfl (by decide +kernel) ⟨Nat.le_of_ble_eq_true rfl, Nat.le_of_ble_eq_true rfl⟩) ⟨(List.mem_append_left _ wL), ((alM_o _ _ _ _ _ (sw_ne wL hq1)).trans wK)⟩ (by decide) rfl rfl dX4_goOn_23 rfl rfl (Nat.le_of_ble_eq_true rfl) ⟨Nat.le_of_ble_eq_true rfl, Nat.le_of_ble_eq_true rfl⟩ (fun w9 hp5 => ?_)
  obtain rfl := hp5
  exact RV _ _ _ _ _ dX4_goOn_26 (Nat.le_of_ble_eq_true rfl) (Nat.le_of_ble_eq_true rfl) ⟨q1, hq1, rfl⟩
abbrev rm_X4_stay : Room := { frames := 3, cells := 1, slots := 6, locals := 63 }
set_option maxHeartbeats 4000000 in
set_option maxRecDepth 100000 in
theorem c_X4_stay (l : Launch) (D : va_G) (k : Nat → ClassId) (N : Int) (st : ST) (q : Int → Nat) (L : List Nat) (M : MM) (c : Int) (m : Int) (hI : I6 N st) (hc : c = -1 ∨ (0 ≤ c ∧ c < 8)) (hW : cWy st q L M c) (hnf : vN st c < vL c) (hm : 0 ≤ m ∧ m ≤ 100) : CV l yX4_stay cX4_stay 2 none rm_X4_stay D k [.ref (q (10 + c)), .int (J m)] (pW k L M) (fun w' => ∃ p : Nat, p ∉ L ∧ w' = pW k (L ++ [p]) (apM M p (vM st c (vN st c).toNat) m (clO (vP st c (vN st c).toNat)) (vP st c (vN st c).toNat).2.2 0 0 (q (10 + c)) (q (20 + c)) (vN st c))) := by
  refine CV.of (by decide +kernel) (Nat.le_of_ble_eq_true rfl) (fun pᵢ eᵢ sᵢ mᵢ argsᵢ belowᵢ methᵢ cᵢ Aᵢ Qᵢ X hnm RV => ?_)
  show SW pᵢ l eᵢ rm_X4_stay sᵢ mᵢ argsᵢ belowᵢ methᵢ cᵢ 2 D Aᵢ 0 0 Qᵢ (pW k L M) 0 [(0, .ref (q (10 + c))), (1, .int (J m))] []
  have hW2 := hW
  obtain ⟨⟨⟨wL, wG, wK⟩, w40⟩, w41, w42, w43, w44, ⟨⟨aL, aG, aK⟩, aN⟩, hp⟩ := hW2
  have hcc : c = -1 ∨ (0 ≤ c ∧ c < 8) := by omega
  have bN := vN_b hI hcc
  have bL : vL c = 30 ∨ vL c = 60 := by unfold vL; split <;> omega
  have bP := vP_b hI hcc (n := (vN st c).toNat) (by omega)
  have bC := vC_b hI hcc (n := (vN st c).toNat) (by omega)
  have bM := vM_b2 hI hcc (n := (vN st c).toNat) (by omega)
  have e16 := clO_d bP.1
  refine sw_aload_n X dX4_stay_0 rfl 0 rfl ?_
  refine px_new (ci := 3) (N := 6) (T := TX3) (C := RX3) X iw_X3 tyX3 tyX3_ok gw1_30 gw1_224 gw1_9 rfl (by decide) dv_X3 (al_X3 _) ⟨Nat.le_of_ble_eq_true rfl, Nat.le_of_ble_eq_true rfl⟩ dX4_stay_1 (fun q1 hq1 => ?_)
  refine sw_dup X dX4_stay_4 rfl ?_
  refine sw_aload_n X dX4_stay_5 rfl 0 rfl ?_
  refine px_get (M := alM M q1 3 0) (v := .int (J (vM st c (vN st c).toNat))) X iw_X4 (List.mem_append_left _ wL) (by decide) ((alM_o _ _ _ _ _ (sw_ne wL hq1)).trans wK) rfl 4 (by decide) gw1_38 rfl (congrArg (fun z => some (Value.int (J z))) ((alM_o _ _ _ _ _ (sw_ne wL hq1)).trans w44)) dX4_stay_6 ?_
  refine sw_iload_n X dX4_stay_9 rfl 1 rfl ?_
  refine sw_aload_n X dX4_stay_10 rfl 0 rfl ?_
  refine px_get (M := alM M q1 3 0) (v := .int (J (clO (vP st c (vN st c).toNat)))) X iw_X4 (List.mem_append_left _ wL) (by decide) ((alM_o _ _ _ _ _ (sw_ne wL hq1)).trans wK) rfl 2 (by decide) gw1_35 rfl (congrArg (fun z => some (Value.int (J z))) ((alM_o _ _ _ _ _ (sw_ne wL hq1)).trans w42)) dX4_stay_11 ?_
  refine sw_aload_n X dX4_stay_14 rfl 0 rfl ?_
  refine px_get (M := alM M q1 3 0) (v := .int (J ((vP st c (vN st c).toNat).2.2))) X iw_X4 (List.mem_append_left _ wL) (by decide) ((alM_o _ _ _ _ _ (sw_ne wL hq1)).trans wK) rfl 3 (by decide) gw1_37 rfl (congrArg (fun z => some (Value.int (J z))) ((alM_o _ _ _ _ _ (sw_ne wL hq1)).trans w43)) dX4_stay_15 ?_
  refine sw_iconst X dX4_stay_18 ?_
  refine sw_iconst X dX4_stay_19 ?_
  refine sw_callIV0 (As := [.int (J (vM st c (vN st c).toNat)), .int (J m), .int (J (clO (vP st c (vN st c).toNat))), .int (J ((vP st c (vN st c).toNat).2.2)), .int (J 0), .int (J 0)]) (rest := [.ref q1, .ref (q (10 + c))]) X (c_X3_init l D k (L ++ [q1]) (alM M q1 3 0) q1 (vM st c (vN st c).toNat) m (clO (vP st c (vN st c).toNat)) ((vP st c (vN st c).toNat).2.2) 0 0 ⟨(List.mem_append_right _ List.mem_cons_self), (alM_n _ _ _ _ _ _)⟩ (by omega)) ⟨callB_of 6 (sw_ts X) (sw_goodI gw1_227) rfl rfl rfl (sw_ts X _ gw1_9) (sw_ts X _ gw1_225) (by decide +kernel) ⟨Nat.le_of_ble_eq_true rfl, Nat.le_of_ble_eq_true rfl⟩, rfl, sw_ts X _ gw1_226⟩ dX4_stay_20 rfl rfl (Nat.le_of_ble_eq_true rfl) ⟨Nat.le_of_ble_eq_true rfl, Nat.le_of_ble_eq_true rfl⟩ (fun w9 hp3 => ?_)
  obtain rfl := hp3
  refine px_callVV (M := upM (upM (upM (upM (upM (upM (alM M q1 3 0) 30 q1 0 (vM st c (vN st c).toNat)) 31 q1 0 m) 32 q1 0 (clO (vP st c (vN st c).toNat))) 33 q1 0 ((vP st c (vN st c).toNat).2.2)) 34 q1 0 0) 35 q1 0 0) (C := RX4) (As := [.ref q1]) (rest := []) X (c_X4_append l D k N st q (L ++ [q1]) (upM (upM (upM (upM (upM (upM (alM M q1 3 0) 30 q1 0 (vM st c (vN st c).toNat)) 31 q1 0 m) 32 q1 0 (clO (vP st c (vN st c).toNat))) 33 q1 0 ((vP st c (vN st c).toNat).2.2)) 34 q1 0 0) 35 q1 0 0) c q1 (vM st c (vN st c).toNat) m (clO (vP st c (vN st c).toNat)) ((vP st c (vN st c).toNat).2.2) 0 0 hI hc (cWy_fr hW (fun a h => List.mem_append_left _ h) (fr_new hq1)) hnf ⟨(List.mem_append_right _ List.mem_cons_self), (alM_n _ _ _ _ _ _)⟩ ⟨by simp [upM], by simp [upM], by simp [upM], by simp [upM], by simp [upM], by simp [upM]⟩ ⟨bP.2, by omega, by omega⟩) (cwV 1 (sw_ts X) (sw_goodV gw2_12 gw2_14 gws_1 gw1_2 gw2_15) rfl rfl rfl (by decide +kernel) ⟨Nat.le_of_ble_eq_true rfl, Nat.le_of_ble_eq_true rfl⟩) ⟨(List.mem_append_left _ wL), ((alM_o _ _ _ _ _ (sw_ne wL hq1)).trans wK)⟩ (by decide) rfl rfl dX4_stay_23 rfl rfl (Nat.le_of_ble_eq_true rfl) ⟨Nat.le_of_ble_eq_true rfl, Nat.le_of_ble_eq_true rfl⟩ (fun w9 hp5 => ?_)
  obtain rfl := hp5
  exact RV _ _ _ _ _ dX4_stay_26 (Nat.le_of_ble_eq_true rfl) (Nat.le_of_ble_eq_true rfl) ⟨q1, hq1, rfl⟩
theorem cPc_i {st : ST} {q : Int → Nat} {L : List Nat} {M : MM} {c : Int} (h : ∀ i : Nat, (i : Int) < vN st c → cPc st q L M c i) {i : Int} (h0 : 0 ≤ i) (h1 : i < vN st c) : M 93 (q (20 + c)) i = (q (160 + 60 * c + i) : Int) := by
  have := (h i.toNat (by omega)).1.1
  rwa [show (i.toNat : Int) = i by omega] at this
abbrev rm_X4_pieceAt : Room := { frames := 1, cells := 0, slots := 0, locals := 22 }
set_option maxHeartbeats 4000000 in
set_option maxRecDepth 100000 in
theorem c_X4_pieceAt (l : Launch) (D : va_G) (k : Nat → ClassId) (N : Int) (st : ST) (q : Int → Nat) (L : List Nat) (M : MM) (c : Int) (i : Int) (hI : I6 N st) (hc : c = -1 ∨ (0 ≤ c ∧ c < 8)) (hW : cWy st q L M c) (hi : (-2147483648 ≤ i ∧ i < 2147483648)) : CQ l yX4_pieceAt cX4_pieceAt 2 (some (.object "OriginRally$Piece")) rm_X4_pieceAt D k [.ref (q (10 + c)), .int (J i)] (pW k L M) (fun r w' => w' = pW k L M ∧ ((0 ≤ i ∧ i < vN st c ∧ r = some (q (160 + 60 * c + i))) ∨ (¬ (0 ≤ i ∧ i < vN st c) ∧ r = none))) := by
  refine CQ.of (by decide +kernel) (Nat.le_of_ble_eq_true rfl) (fun pᵢ eᵢ sᵢ mᵢ argsᵢ belowᵢ methᵢ cᵢ Aᵢ Qᵢ X RI => ?_)
  show SW pᵢ l eᵢ rm_X4_pieceAt sᵢ mᵢ argsᵢ belowᵢ methᵢ cᵢ 2 D Aᵢ 0 0 Qᵢ (pW k L M) 0 [(0, .ref (q (10 + c))), (1, .int (J i))] []
  have hW2 := hW
  obtain ⟨⟨⟨wL, wG, wK⟩, w40⟩, w41, w42, w43, w44, ⟨⟨aL, aG, aK⟩, aN⟩, hp⟩ := hW2
  have hcc : c = -1 ∨ (0 ≤ c ∧ c < 8) := by omega
  have bN := vN_b hI hcc
  have bL : vL c = 30 ∨ vL c = 60 := by unfold vL; split <;> omega
  have bP := vP_b hI hcc (n := (vN st c).toNat) (by omega)
  have bC := vC_b hI hcc (n := (vN st c).toNat) (by omega)
  have bM := vM_b2 hI hcc (n := (vN st c).toNat) (by omega)
  have e16 := clO_d bP.1
  refine sw_iload_n X dX4_pieceAt_0 rfl 1 rfl ?_
  refine sw_iconst X dX4_pieceAt_1 ?_
  refine sw_aload_n X dX4_pieceAt_2 rfl 0 rfl ?_
  refine px_get (v := .int (J (vN st c))) X iw_X4 wL (by decide) wK rfl 1 (by decide) gw1_33 rfl (congrArg (fun z => some (Value.int (J z))) w41) dX4_pieceAt_3 ?_
  refine sw_iconst X dX4_pieceAt_6 ?_
  refine sw_isub X dX4_pieceAt_7 ?_
  refine sw_callSNI (As := [.int (J i), .int (J 0), .int (J ((vN st c) - 1))]) (rest := []) X (c_X5_isWithin l D k (pW k L M) i 0 ((vN st c) - 1) (by omega)) (sw_cwSN X 3 (List.mem_of_getElem? (i := 0) rfl) gw1_103 gw1_1 gw1_104 (by decide +kernel) ⟨Nat.le_of_ble_eq_true rfl, Nat.le_of_ble_eq_true rfl⟩) dX4_pieceAt_8 rfl rfl (Nat.le_of_ble_eq_true rfl) ⟨Nat.le_of_ble_eq_true rfl, Nat.le_of_ble_eq_true rfl⟩ (fun z1 w9 hp2 => ?_)
  obtain ⟨rfl, hp2⟩ := hp2
  refine sw_if_eq (tgt := 23) X (by omega) dX4_pieceAt_11 (by decide) (fun h3 => ?_) (fun h3 => ?_)
  · refine sw_null X dX4_pieceAt_23 ?_
    exact RI _ _ _ none _ _ dX4_pieceAt_24 (Nat.le_of_ble_eq_true rfl) (Nat.le_of_ble_eq_true rfl) ⟨rfl, Or.inr ⟨by omega, rfl⟩⟩
  · refine sw_aload_n X dX4_pieceAt_14 rfl 0 rfl ?_
    refine px_get (v := .ref (q (20 + c))) X iw_X4 wL (by decide) wK rfl 0 (by decide) gw1_32 rfl (congrArg some (rf_of w40)) dX4_pieceAt_15 ?_
    refine sw_iload_n X dX4_pieceAt_18 rfl 1 rfl ?_
    refine px_aald (v := .ref (q (160 + 60 * c + i))) X 5 (by decide) rfl aL aK aN (by omega) (by omega) (by omega) (rf_of (cPc_i hp (by omega) (by omega))) dX4_pieceAt_19 ?_
    refine sw_goto (tgt := 24) X dX4_pieceAt_20 (by decide) ?_
    exact RI _ _ _ (some (q (160 + 60 * c + i))) _ _ dX4_pieceAt_24 (Nat.le_of_ble_eq_true rfl) (Nat.le_of_ble_eq_true rfl) ⟨rfl, Or.inl ⟨by omega, by omega, rfl⟩⟩
