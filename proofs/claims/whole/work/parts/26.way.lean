/-! the methods of a way -/
theorem clO_d {p : Int × Int × Int} (h : (0 ≤ p.1 ∧ p.1 ≤ 15) ∧ 0 ≤ p.2.1 ∧ p.2.1 ≤ 15) : clO p / 16 = p.1 ∧ clO p % 16 = p.2.1 := by unfold clO; omega
def onV (st : ST) (c m : Int) : Prop := (0 ≤ (vP st c (vN st c).toNat).1 + dx (vP st c (vN st c).toNat).2.2 m ∧ (vP st c (vN st c).toNat).1 + dx (vP st c (vN st c).toNat).2.2 m ≤ 15) ∧ 0 ≤ (vP st c (vN st c).toNat).2.1 + dy (vP st c (vN st c).toNat).2.2 m ∧ (vP st c (vN st c).toNat).2.1 + dy (vP st c (vN st c).toNat).2.2 m ≤ 15
theorem pcA_v {M : MM} {p : Nat} {m cl h d : Int} (e1 : M 31 p 0 = m) (e2 : M 32 p 0 = cl) (e3 : M 33 p 0 = h) (e5 : M 35 p 0 = d) (hh : 0 ≤ h ∧ h ≤ 3) : pcA M p (M 31 p 0) = if d = 0 then cl else cl + (16 * dx h m + dy h m) := by
  rw [pcA_d hh e3, e5, e2, e1]
abbrev rm_X4_beginIn : Room := { frames := 0, cells := 0, slots := 0, locals := 0 }
set_option maxHeartbeats 4000000 in
set_option maxRecDepth 100000 in
theorem c_X4_beginIn (l : Launch) (D : va_G) (k : Nat → ClassId) (L : List Nat) (M : MM) (a : Nat) (s0 : Int) (hq : a ∈ L ∧ M 90 a 0 = 4) : CV l yX4_beginIn cX4_beginIn 2 none rm_X4_beginIn D k [.ref a, .int (J s0)] (pW k L M) (fun w' => w' = pW k L (upM M 42 a 0 s0)) := by
  refine CV.of (by decide +kernel) (Nat.le_of_ble_eq_true rfl) (fun pᵢ eᵢ sᵢ mᵢ argsᵢ belowᵢ methᵢ cᵢ Aᵢ Qᵢ X hnm RV => ?_)
  show SW pᵢ l eᵢ rm_X4_beginIn sᵢ mᵢ argsᵢ belowᵢ methᵢ cᵢ 2 D Aᵢ 0 0 Qᵢ (pW k L M) 0 [(0, .ref a), (1, .int (J s0))] []
  refine sw_aload_n X dX4_beginIn_0 rfl 0 rfl ?_
  refine sw_iload_n X dX4_beginIn_1 rfl 1 rfl ?_
  refine px_put (f := 42) (z := s0) X iw_X4 tyX4 tyX4_ok nmX4 hq.1 (by decide) hq.2 rfl 2 (by decide) gw1_35 rfl rfl (ty := .int) (by decide +kernel) rfl rfl (Nat.le_of_ble_eq_true rfl) (by decide) (pS42 _ _ _) dX4_beginIn_2 ?_
  exact RV _ _ _ _ _ dX4_beginIn_5 (Nat.le_of_ble_eq_true rfl) (Nat.le_of_ble_eq_true rfl) rfl
abbrev rm_X4_isFull : Room := { frames := 0, cells := 0, slots := 0, locals := 0 }
set_option maxHeartbeats 4000000 in
set_option maxRecDepth 100000 in
theorem c_X4_isFull (l : Launch) (D : va_G) (k : Nat → ClassId) (N : Int) (st : ST) (q : Int → Nat) (L : List Nat) (M : MM) (c : Int)  (hI : I6 N st) (hc : c = -1 ∨ (0 ≤ c ∧ c < 8)) (hW : cWy st q L M c) : CI l yX4_isFull cX4_isFull 1 (some .boolean) rm_X4_isFull D k [.ref (q (10 + c))] (pW k L M) (fun z w' => w' = pW k L M ∧ ((z = 1 ∧ vN st c = vL c) ∨ (z = 0 ∧ vN st c < vL c))) := by
  refine CI.of (by decide +kernel) (Nat.le_of_ble_eq_true rfl) (fun pᵢ eᵢ sᵢ mᵢ argsᵢ belowᵢ methᵢ cᵢ Aᵢ Qᵢ X RI => ?_)
  show SW pᵢ l eᵢ rm_X4_isFull sᵢ mᵢ argsᵢ belowᵢ methᵢ cᵢ 1 D Aᵢ 0 0 Qᵢ (pW k L M) 0 [(0, .ref (q (10 + c)))] []
  have hW2 := hW
  obtain ⟨⟨⟨wL, wG, wK⟩, w40⟩, w41, w42, w43, w44, ⟨⟨aL, aG, aK⟩, aN⟩, hp⟩ := hW2
  have hcc : c = -1 ∨ (0 ≤ c ∧ c < 8) := by omega
  have bN := vN_b hI hcc
  have bL : vL c = 30 ∨ vL c = 60 := by unfold vL; split <;> omega
  have bP := vP_b hI hcc (n := (vN st c).toNat) (by omega)
  have bC := vC_b hI hcc (n := (vN st c).toNat) (by omega)
  have bM := vM_b2 hI hcc (n := (vN st c).toNat) (by omega)
  have e16 := clO_d bP.1
  refine sw_aload_n X dX4_isFull_0 rfl 0 rfl ?_
  refine px_get (v := .int (J (vN st c))) X iw_X4 wL (by decide) wK rfl 1 (by decide) gw1_33 rfl (congrArg (fun z => some (Value.int (J z))) w41) dX4_isFull_1 ?_
  refine sw_aload_n X dX4_isFull_4 rfl 0 rfl ?_
  refine px_get (v := .ref (q (20 + c))) X iw_X4 wL (by decide) wK rfl 0 (by decide) gw1_32 rfl (congrArg some (rf_of w40)) dX4_isFull_5 ?_
  refine px_alen (n := vL c) X 5 (by decide) rfl aL aK aN (by omega) dX4_isFull_8 ?_
  refine sw_icmp_lt (tgt := 16) X (by omega) (by omega) dX4_isFull_9 (by decide) (fun h1 => ?_) (fun h1 => ?_)
  · refine sw_iconst X dX4_isFull_16 ?_
    exact RI _ _ _ _ _ _ dX4_isFull_17 (Nat.le_of_ble_eq_true rfl) (Nat.le_of_ble_eq_true rfl) rfl ⟨rfl, by omega⟩
  · refine sw_iconst X dX4_isFull_12 ?_
    refine sw_goto (tgt := 17) X dX4_isFull_13 (by decide) ?_
    exact RI _ _ _ _ _ _ dX4_isFull_17 (Nat.le_of_ble_eq_true rfl) (Nat.le_of_ble_eq_true rfl) rfl ⟨rfl, by omega⟩
abbrev rm_X4_staysOnGround : Room := { frames := 1, cells := 0, slots := 0, locals := 22 }
set_option maxHeartbeats 4000000 in
set_option maxRecDepth 100000 in
theorem c_X4_staysOnGround (l : Launch) (D : va_G) (k : Nat → ClassId) (N : Int) (st : ST) (q : Int → Nat) (L : List Nat) (M : MM) (c : Int) (m : Int) (hI : I6 N st) (hc : c = -1 ∨ (0 ≤ c ∧ c < 8)) (hW : cWy st q L M c) (hm : 0 ≤ m ∧ m ≤ 15) : CI l yX4_staysOnGround cX4_staysOnGround 5 (some .boolean) rm_X4_staysOnGround D k [.ref (q (10 + c)), .int (J m)] (pW k L M) (fun z w' => w' = pW k L M ∧ ((z = 1 ∧ onV st c m) ∨ (z = 0 ∧ ¬ onV st c m))) := by
  refine CI.of (by decide +kernel) (Nat.le_of_ble_eq_true rfl) (fun pᵢ eᵢ sᵢ mᵢ argsᵢ belowᵢ methᵢ cᵢ Aᵢ Qᵢ X RI => ?_)
  show SW pᵢ l eᵢ rm_X4_staysOnGround sᵢ mᵢ argsᵢ belowᵢ methᵢ cᵢ 5 D Aᵢ 0 0 Qᵢ (pW k L M) 0 [(0, .ref (q (10 + c))), (1, .int (J m))] []
  have hW2 := hW
  obtain ⟨⟨⟨wL, wG, wK⟩, w40⟩, w41, w42, w43, w44, ⟨⟨aL, aG, aK⟩, aN⟩, hp⟩ := hW2
  have hcc : c = -1 ∨ (0 ≤ c ∧ c < 8) := by omega
  have bN := vN_b hI hcc
  have bL : vL c = 30 ∨ vL c = 60 := by unfold vL; split <;> omega
  have bP := vP_b hI hcc (n := (vN st c).toNat) (by omega)
  have bC := vC_b hI hcc (n := (vN st c).toNat) (by omega)
  have bM := vM_b2 hI hcc (n := (vN st c).toNat) (by omega)
  have e16 := clO_d bP.1
  have hX := sX_d (m := m) bP.2
  have hY := sY_d (m := m) bP.2
  have b1 := dx_b (vP st c (vN st c).toNat).2.2 m hm.1
  have b2 := dy_b (vP st c (vN st c).toNat).2.2 m hm.1
  refine sw_aload_n X dX4_staysOnGround_0 rfl 0 rfl ?_
  refine px_get (v := .int (J ((vP st c (vN st c).toNat).2.2))) X iw_X4 wL (by decide) wK rfl 3 (by decide) gw1_37 rfl (congrArg (fun z => some (Value.int (J z))) w43) dX4_staysOnGround_1 ?_
  refine sw_iconst X dX4_staysOnGround_4 ?_
  refine sw_iand X 2 (by omega) (by omega) (by decide +kernel) dX4_staysOnGround_5 ?_
  rw [show ((vP st c (vN st c).toNat).2.2) % ((2 ^ 2 : Nat) : Int) = ((vP st c (vN st c).toNat).2.2) % 4 from rfl]
  refine sw_istore_n (lv' := [(2, .int (J (((vP st c (vN st c).toNat).2.2) % 4))), (0, .ref (q (10 + c))), (1, .int (J m))]) X dX4_staysOnGround_6 rfl (by decide) rfl ?_
  refine sw_aload_n X dX4_staysOnGround_7 rfl 1 rfl ?_
  refine px_get (v := .int (J (clO (vP st c (vN st c).toNat)))) X iw_X4 wL (by decide) wK rfl 2 (by decide) gw1_35 rfl (congrArg (fun z => some (Value.int (J z))) w42) dX4_staysOnGround_8 ?_
  refine sw_iconst X dX4_staysOnGround_11 ?_
  refine sw_ishr X 4 (by omega) (by omega) (by decide +kernel) dX4_staysOnGround_12 ?_
  rw [show (clO (vP st c (vN st c).toNat)) / ((2 ^ 4 : Nat) : Int) = (clO (vP st c (vN st c).toNat)) / 16 from rfl]
  refine sw_iload_n X dX4_staysOnGround_13 rfl 2 rfl ?_
  refine px_sX X (List.mem_of_getElem? (i := 3) rfl) rfl dX4_staysOnGround_14 (fun t1 ht1 => ?_)
  refine sw_iload_n X dX4_staysOnGround_17 rfl 0 rfl ?_
  refine px_tX X ht1 (by omega) dX4_staysOnGround_18 ?_
  refine sw_imul X dX4_staysOnGround_19 ?_
  refine sw_iadd X dX4_staysOnGround_20 ?_
  refine sw_istore_n (lv' := [(3, .int (J (((clO (vP st c (vN st c).toNat)) / 16) + (m * (sX (((vP st c (vN st c).toNat).2.2) % 4)))))), (2, .int (J (((vP st c (vN st c).toNat).2.2) % 4))), (0, .ref (q (10 + c))), (1, .int (J m))]) X dX4_staysOnGround_21 rfl (by decide) rfl ?_
  refine sw_aload_n X dX4_staysOnGround_22 rfl 2 rfl ?_
  refine px_get (v := .int (J (clO (vP st c (vN st c).toNat)))) X iw_X4 wL (by decide) wK rfl 2 (by decide) gw1_35 rfl (congrArg (fun z => some (Value.int (J z))) w42) dX4_staysOnGround_23 ?_
  refine sw_bipush X dX4_staysOnGround_26 (by decide +kernel) ?_
  refine sw_iand X 4 (by omega) (by omega) (by decide +kernel) dX4_staysOnGround_28 ?_
  rw [show (clO (vP st c (vN st c).toNat)) % ((2 ^ 4 : Nat) : Int) = (clO (vP st c (vN st c).toNat)) % 16 from rfl]
  refine sw_iload_n X dX4_staysOnGround_29 rfl 3 rfl ?_
  refine px_sY X (List.mem_of_getElem? (i := 4) rfl) rfl dX4_staysOnGround_30 (fun t2 ht2 => ?_)
  refine sw_iload_n X dX4_staysOnGround_33 rfl 1 rfl ?_
  refine px_tY X ht2 (by omega) dX4_staysOnGround_34 ?_
  refine sw_imul X dX4_staysOnGround_35 ?_
  refine sw_iadd X dX4_staysOnGround_36 ?_
  refine sw_istore (lv' := [(4, .int (J (((clO (vP st c (vN st c).toNat)) % 16) + (m * (sY (((vP st c (vN st c).toNat).2.2) % 4)))))), (3, .int (J (((clO (vP st c (vN st c).toNat)) / 16) + (m * (sX (((vP st c (vN st c).toNat).2.2) % 4)))))), (2, .int (J (((vP st c (vN st c).toNat).2.2) % 4))), (0, .ref (q (10 + c))), (1, .int (J m))]) X dX4_staysOnGround_37 (by decide) rfl ?_
  refine sw_iload_n X dX4_staysOnGround_39 rfl 1 rfl ?_
  refine sw_iconst X dX4_staysOnGround_40 ?_
  refine sw_bipush X dX4_staysOnGround_41 (by decide +kernel) ?_
  refine sw_callSNI (As := [.int (J (((clO (vP st c (vN st c).toNat)) / 16) + (m * (sX (((vP st c (vN st c).toNat).2.2) % 4))))), .int (J 0), .int (J 15)]) (rest := []) X (c_X5_isWithin l D k (pW k L M) (((clO (vP st c (vN st c).toNat)) / 16) + (m * (sX (((vP st c (vN st c).toNat).2.2) % 4)))) 0 15 (by omega)) (sw_cwSN X 3 (List.mem_of_getElem? (i := 0) rfl) gw1_103 gw1_1 gw1_104 (by decide +kernel) ⟨Nat.le_of_ble_eq_true rfl, Nat.le_of_ble_eq_true rfl⟩) dX4_staysOnGround_43 rfl rfl (Nat.le_of_ble_eq_true rfl) ⟨Nat.le_of_ble_eq_true rfl, Nat.le_of_ble_eq_true rfl⟩ (fun z3 w9 hp4 => ?_)
  obtain ⟨rfl, hp4⟩ := hp4
  refine sw_if_eq (tgt := 64) X (by omega) dX4_staysOnGround_46 (by decide) (fun h5 => ?_) (fun h5 => ?_)
  · refine sw_iconst X dX4_staysOnGround_64 ?_
    exact RI _ _ _ _ _ _ dX4_staysOnGround_65 (Nat.le_of_ble_eq_true rfl) (Nat.le_of_ble_eq_true rfl) rfl ⟨rfl, by unfold onV; omega⟩
  · refine sw_iload X dX4_staysOnGround_49 0 rfl ?_
    refine sw_iconst X dX4_staysOnGround_51 ?_
    refine sw_bipush X dX4_staysOnGround_52 (by decide +kernel) ?_
    refine sw_callSNI (As := [.int (J (((clO (vP st c (vN st c).toNat)) % 16) + (m * (sY (((vP st c (vN st c).toNat).2.2) % 4))))), .int (J 0), .int (J 15)]) (rest := []) X (c_X5_isWithin l D k (pW k L M) (((clO (vP st c (vN st c).toNat)) % 16) + (m * (sY (((vP st c (vN st c).toNat).2.2) % 4)))) 0 15 (by omega)) (sw_cwSN X 3 (List.mem_of_getElem? (i := 0) rfl) gw1_103 gw1_1 gw1_104 (by decide +kernel) ⟨Nat.le_of_ble_eq_true rfl, Nat.le_of_ble_eq_true rfl⟩) dX4_staysOnGround_54 rfl rfl (Nat.le_of_ble_eq_true rfl) ⟨Nat.le_of_ble_eq_true rfl, Nat.le_of_ble_eq_true rfl⟩ (fun z6 w9 hp7 => ?_)
    obtain ⟨rfl, hp7⟩ := hp7
    refine sw_if_eq (tgt := 64) X (by omega) dX4_staysOnGround_57 (by decide) (fun h8 => ?_) (fun h8 => ?_)
    · refine sw_iconst X dX4_staysOnGround_64 ?_
      exact RI _ _ _ _ _ _ dX4_staysOnGround_65 (Nat.le_of_ble_eq_true rfl) (Nat.le_of_ble_eq_true rfl) rfl ⟨rfl, by unfold onV; omega⟩
    · refine sw_iconst X dX4_staysOnGround_60 ?_
      refine sw_goto (tgt := 65) X dX4_staysOnGround_61 (by decide) ?_
      exact RI _ _ _ _ _ _ dX4_staysOnGround_65 (Nat.le_of_ble_eq_true rfl) (Nat.le_of_ble_eq_true rfl) rfl ⟨rfl, by unfold onV; omega⟩
abbrev rm_X4_append : Room := { frames := 2, cells := 0, slots := 0, locals := 42 }
set_option maxHeartbeats 4000000 in
set_option maxRecDepth 100000 in
theorem c_X4_append (l : Launch) (D : va_G) (k : Nat → ClassId) (N : Int) (st : ST) (q : Int → Nat) (L : List Nat) (M : MM) (c : Int) (p : Nat) (b m cl h t d : Int) (hI : I6 N st) (hc : c = -1 ∨ (0 ≤ c ∧ c < 8)) (hW : cWy st q L M c) (hnf : vN st c < vL c) (hpp : p ∈ L ∧ M 90 p 0 = 3) (he : M 30 p 0 = b ∧ M 31 p 0 = m ∧ M 32 p 0 = cl ∧ M 33 p 0 = h ∧ M 34 p 0 = t ∧ M 35 p 0 = d) (hr : (0 ≤ h ∧ h ≤ 3) ∧ (0 ≤ t ∧ t ≤ 3) ∧ (d = 0 ∨ d = 1)) : CV l yX4_append cX4_append 2 none rm_X4_append D k [.ref (q (10 + c)), .ref p] (pW k L M) (fun w' => w' = pW k L (upM (upM (upM (upM (upM (M) 93 (q (20 + c)) (vN st c) ((p : Int))) 41 (q (10 + c)) 0 ((vN st c + 1))) 44 (q (10 + c)) 0 ((b + m))) 42 (q (10 + c)) 0 ((if d = 0 then cl else cl + (16 * dx h m + dy h m)))) 43 (q (10 + c)) 0 (((h + t) % 4)))) := by
  refine CV.of (by decide +kernel) (Nat.le_of_ble_eq_true rfl) (fun pᵢ eᵢ sᵢ mᵢ argsᵢ belowᵢ methᵢ cᵢ Aᵢ Qᵢ X hnm RV => ?_)
  show SW pᵢ l eᵢ rm_X4_append sᵢ mᵢ argsᵢ belowᵢ methᵢ cᵢ 2 D Aᵢ 0 0 Qᵢ (pW k L M) 0 [(0, .ref (q (10 + c))), (1, .ref p)] []
  have hW2 := hW
  obtain ⟨⟨⟨wL, wG, wK⟩, w40⟩, w41, w42, w43, w44, ⟨⟨aL, aG, aK⟩, aN⟩, hp⟩ := hW2
  have hcc : c = -1 ∨ (0 ≤ c ∧ c < 8) := by omega
  have bN := vN_b hI hcc
  have bL : vL c = 30 ∨ vL c = 60 := by unfold vL; split <;> omega
  have bP := vP_b hI hcc (n := (vN st c).toNat) (by omega)
  have bC := vC_b hI hcc (n := (vN st c).toNat) (by omega)
  have bM := vM_b2 hI hcc (n := (vN st c).toNat) (by omega)
  have e16 := clO_d bP.1
  have hh : 0 ≤ M 33 p 0 ∧ M 33 p 0 ≤ 3 := by rw [he.2.2.2.1]; exact hr.1
  have hd : M 35 p 0 = 0 ∨ M 35 p 0 = 1 := by rw [he.2.2.2.2.2]; exact hr.2.2
  refine sw_aload_n X dX4_append_0 rfl 0 rfl ?_
  refine px_callVI (C := RX4) (As := []) (rest := []) X (c_X4_isFull l D k N st q (L) (M) c hI hc hW) (cwV 0 (sw_ts X) (sw_goodV gw2_16 gw1_208 gw1_209 gw1_2 gw1_210) rfl rfl rfl (by decide +kernel) ⟨Nat.le_of_ble_eq_true rfl, Nat.le_of_ble_eq_true rfl⟩) ⟨wL, wK⟩ (by decide) rfl rfl dX4_append_1 rfl rfl (Nat.le_of_ble_eq_true rfl) ⟨Nat.le_of_ble_eq_true rfl, Nat.le_of_ble_eq_true rfl⟩ (fun z1 w9 hp2 => ?_)
  obtain ⟨rfl, hp2⟩ := hp2
  refine sw_if_eq (tgt := 8) X (by omega) dX4_append_4 (by decide) (fun h3 => ?_) (fun h3 => ?_)
  · refine sw_aload_n X dX4_append_8 rfl 0 rfl ?_
    refine px_get (v := .ref (q (20 + c))) X iw_X4 wL (by decide) wK rfl 0 (by decide) gw1_32 rfl (congrArg some (rf_of w40)) dX4_append_9 ?_
    refine sw_aload_n X dX4_append_12 rfl 0 rfl ?_
    refine px_get (v := .int (J (vN st c))) X iw_X4 wL (by decide) wK rfl 1 (by decide) gw1_33 rfl (congrArg (fun z => some (Value.int (J z))) w41) dX4_append_13 ?_
    refine sw_aload_n X dX4_append_16 rfl 1 rfl ?_
    refine px_aast X 5 3 (by decide) rfl rfl aL aK aN hpp.1 (by decide) hpp.2 (by omega) (by omega) (by omega) dX4_append_17 ?_
    refine sw_aload_n X dX4_append_18 rfl 0 rfl ?_
    refine sw_dup X dX4_append_19 rfl ?_
    refine px_get (M := upM M 93 (q (20 + c)) (vN st c) ((p : Int))) (v := .int (J (vN st c))) X iw_X4 wL (by decide) wK rfl 1 (by decide) gw1_33 rfl (congrArg (fun z => some (Value.int (J z))) w41) dX4_append_20 ?_
    refine sw_iconst X dX4_append_23 ?_
    refine sw_iadd X dX4_append_24 ?_
    refine px_put (M := upM M 93 (q (20 + c)) (vN st c) ((p : Int))) (f := 41) (z := (vN st c) + 1) X iw_X4 tyX4 tyX4_ok nmX4 wL (by decide) wK rfl 1 (by decide) gw1_33 rfl rfl (ty := .int) (by decide +kernel) rfl rfl (Nat.le_of_ble_eq_true rfl) (by decide) (pS41 _ _ _) dX4_append_25 ?_
    refine sw_aload_n X dX4_append_28 rfl 0 rfl ?_
    refine sw_aload_n X dX4_append_29 rfl 1 rfl ?_
    refine px_callVI (M := upM (upM M 93 (q (20 + c)) (vN st c) ((p : Int))) 41 (q (10 + c)) 0 ((vN st c) + 1)) (C := RX3) (As := []) (rest := [.ref (q (10 + c))]) X (c_X3_end l D k (L) (upM (upM M 93 (q (20 + c)) (vN st c) ((p : Int))) 41 (q (10 + c)) 0 ((vN st c) + 1)) p hpp) (cwV 0 (sw_ts X) (sw_goodV gw2_17 gw2_18 gw2_19 gw1_9 gw2_20) rfl rfl rfl (by decide +kernel) ⟨Nat.le_of_ble_eq_true rfl, Nat.le_of_ble_eq_true rfl⟩) ⟨hpp.1, hpp.2⟩ (by decide) rfl rfl dX4_append_30 rfl rfl (Nat.le_of_ble_eq_true rfl) ⟨Nat.le_of_ble_eq_true rfl, Nat.le_of_ble_eq_true rfl⟩ (fun z4 w9 hp5 => ?_)
    have hzz4 : z4 = b + m := hp5.2.trans (congr (congrArg HAdd.hAdd he.1) he.2.1)
    obtain ⟨rfl, -⟩ := hp5
    subst hzz4
    refine px_put (M := upM (upM M 93 (q (20 + c)) (vN st c) ((p : Int))) 41 (q (10 + c)) 0 ((vN st c) + 1)) (f := 44) (z := b + m) X iw_X4 tyX4 tyX4_ok nmX4 wL (by decide) wK rfl 4 (by decide) gw1_38 rfl rfl (ty := .int) (by decide +kernel) rfl rfl (Nat.le_of_ble_eq_true rfl) (by decide) (pS44 _ _ _) dX4_append_33 ?_
    refine sw_aload_n X dX4_append_36 rfl 0 rfl ?_
    refine sw_aload_n X dX4_append_37 rfl 1 rfl ?_
    refine px_callVI (M := upM (upM (upM M 93 (q (20 + c)) (vN st c) ((p : Int))) 41 (q (10 + c)) 0 ((vN st c) + 1)) 44 (q (10 + c)) 0 (b + m)) (C := RX3) (As := []) (rest := [.ref (q (10 + c))]) X (c_X3_lastCell l D k (L) (upM (upM (upM M 93 (q (20 + c)) (vN st c) ((p : Int))) 41 (q (10 + c)) 0 ((vN st c) + 1)) 44 (q (10 + c)) 0 (b + m)) p hpp hh hd) (cwV 0 (sw_ts X) (sw_goodV gw2_21 gw2_22 gw2_23 gw1_9 gw2_24) rfl rfl rfl (by decide +kernel) ⟨Nat.le_of_ble_eq_true rfl, Nat.le_of_ble_eq_true rfl⟩) ⟨hpp.1, hpp.2⟩ (by decide) rfl rfl dX4_append_38 rfl rfl (Nat.le_of_ble_eq_true rfl) ⟨Nat.le_of_ble_eq_true rfl, Nat.le_of_ble_eq_true rfl⟩ (fun z6 w9 hp7 => ?_)
    have hzz6 : z6 = if d = 0 then cl else cl + (16 * dx h m + dy h m) := hp7.2.trans (pcA_v he.2.1 he.2.2.1 he.2.2.2.1 he.2.2.2.2.2 hr.1)
    obtain ⟨rfl, -⟩ := hp7
    subst hzz6
    refine px_put (M := upM (upM (upM M 93 (q (20 + c)) (vN st c) ((p : Int))) 41 (q (10 + c)) 0 ((vN st c) + 1)) 44 (q (10 + c)) 0 (b + m)) (f := 42) (z := if d = 0 then cl else cl + (16 * dx h m + dy h m)) X iw_X4 tyX4 tyX4_ok nmX4 wL (by decide) wK rfl 2 (by decide) gw1_35 rfl rfl (ty := .int) (by decide +kernel) rfl rfl (Nat.le_of_ble_eq_true rfl) (by decide) (pS42 _ _ _) dX4_append_41 ?_
    refine sw_aload_n X dX4_append_44 rfl 0 rfl ?_
    refine sw_aload_n X dX4_append_45 rfl 1 rfl ?_
    refine px_getN (M := upM (upM (upM (upM M 93 (q (20 + c)) (vN st c) ((p : Int))) 41 (q (10 + c)) 0 ((vN st c) + 1)) 44 (q (10 + c)) 0 (b + m)) 42 (q (10 + c)) 0 (if d = 0 then cl else cl + (16 * dx h m + dy h m))) (n := "") (d := "") (v := .int (J h)) X iw_X3 hpp.1 (by decide) hpp.2 rfl 3 (by decide) (List.mem_of_getElem? (i := 6) rfl) rfl (congrArg (fun z => some (Value.int (J z))) he.2.2.2.1) dX4_append_46 ?_
    refine sw_aload_n X dX4_append_49 rfl 1 rfl ?_
    refine px_getN (M := upM (upM (upM (upM M 93 (q (20 + c)) (vN st c) ((p : Int))) 41 (q (10 + c)) 0 ((vN st c) + 1)) 44 (q (10 + c)) 0 (b + m)) 42 (q (10 + c)) 0 (if d = 0 then cl else cl + (16 * dx h m + dy h m))) (n := "") (d := "") (v := .int (J t)) X iw_X3 hpp.1 (by decide) hpp.2 rfl 4 (by decide) (List.mem_of_getElem? (i := 7) rfl) rfl (congrArg (fun z => some (Value.int (J z))) he.2.2.2.2.1) dX4_append_50 ?_
    refine sw_iadd X dX4_append_53 ?_
    refine sw_iconst X dX4_append_54 ?_
    refine sw_iand X 2 (by omega) (by omega) (by decide +kernel) dX4_append_55 ?_
    rw [show (h + t) % ((2 ^ 2 : Nat) : Int) = (h + t) % 4 from rfl]
    refine px_put (M := upM (upM (upM (upM M 93 (q (20 + c)) (vN st c) ((p : Int))) 41 (q (10 + c)) 0 ((vN st c) + 1)) 44 (q (10 + c)) 0 (b + m)) 42 (q (10 + c)) 0 (if d = 0 then cl else cl + (16 * dx h m + dy h m))) (f := 43) (z := (h + t) % 4) X iw_X4 tyX4 tyX4_ok nmX4 wL (by decide) wK rfl 3 (by decide) gw1_37 rfl rfl (ty := .int) (by decide +kernel) rfl rfl (Nat.le_of_ble_eq_true rfl) (by decide) (pS43 _ _ _) dX4_append_56 ?_
    exact RV _ _ _ _ _ dX4_append_59 (Nat.le_of_ble_eq_true rfl) (Nat.le_of_ble_eq_true rfl) rfl
  · exact RV _ _ _ _ _ dX4_append_7 (Nat.le_of_ble_eq_true rfl) (Nat.le_of_ble_eq_true rfl) (absurd hnf (by omega))
