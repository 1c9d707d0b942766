/-! the calls that change the object -/
theorem on_b (st : ST) (m : Int) : onV st (-1) m = ((0 ≤ (bP st (st 2 0).toNat).1 + dx (bP st (st 2 0).toNat).2.2 m ∧ (bP st (st 2 0).toNat).1 + dx (bP st (st 2 0).toNat).2.2 m ≤ 15) ∧ 0 ≤ (bP st (st 2 0).toNat).2.1 + dy (bP st (st 2 0).toNat).2.2 m ∧ (bP st (st 2 0).toNat).2.1 + dy (bP st (st 2 0).toNat).2.2 m ≤ 15) := rfl
theorem on_c {st : ST} {c : Int} (h : 0 ≤ c) (m : Int) : onV st c m = ((0 ≤ (tP st c (nP st c)).1 + dx (tP st c (nP st c)).2.2 m ∧ (tP st c (nP st c)).1 + dx (tP st c (nP st c)).2.2 m ≤ 15) ∧ 0 ≤ (tP st c (nP st c)).2.1 + dy (tP st c (nP st c)).2.2 m ∧ (tP st c (nP st c)).2.1 + dy (tP st c (nP st c)).2.2 m ≤ 15) := by
  unfold onV
  rw [vN_n h, vP_t h]
theorem clk_ap {N : Int} {st : ST} {c d m t : Int} (hI : I6 N st) (hc : 0 ≤ c ∧ c < st 9 0) (hn : st 10 c < 60) : clk (aP st c d m t) c = clk st c + m := by
  have hA := I_ca hI
  have hb := (I_c hI c hc.1 (by omega)).1
  have e := nP_e hI hc.1 (by omega : c < 8)
  have e2 : nP (aP st c d m t) c = nP st c + 1 := by
    unfold nP
    rw [show aP st c d m t 10 c = st 10 c + 1 from upI_e _ _ _]
    omega
  unfold clk
  rw [e2, tM_s, tM_aP hI hc hn ⟨hc.1, by omega⟩ _ (by omega)]
  show tM st c (nP st c) + upI (st 12) (60 * c + st 10 c) m (60 * c + (nP st c : Int)) = _
  rw [e, upI_e]
theorem ap_o {M : MM} {p wa aa x : Nat} {b m cl h t d n : Int} (h1 : x ≠ p) (h2 : x ≠ wa) (h3 : x ≠ aa) (f : Nat) (i : Int) : apM M p b m cl h t d wa aa n f x i = M f x i := by simp [apM, upM, alM, h1, h2, h3]
theorem ap_w {M : MM} {p wa aa : Nat} {b m cl h t d n : Int} (h1 : wa ≠ p) : apM M p b m cl h t d wa aa n 90 wa 0 = M 90 wa 0 ∧ apM M p b m cl h t d wa aa n 42 wa 0 = (if d = 0 then cl else cl + (16 * dx h m + dy h m)) ∧ apM M p b m cl h t d wa aa n 44 wa 0 = b + m := by
  refine ⟨?_, ?_, ?_⟩ <;> simp [apM, upM, alM, h1]
abbrev rm_X5_setStart : Room := { frames := 7, cells := 2, slots := 12, locals := 102 }
set_option maxHeartbeats 4000000 in
set_option maxRecDepth 100000 in
theorem c_X5_setStart (l : Launch) (hfl : l.stackTraces = false) (D : va_G) (k : Nat → ClassId) (N : Int) (st : ST) (q : Int → Nat) (L : List Nat) (M : MM) (a : Int) (hI : I6 N st) (hC : CW st q L M) (h_a : (-2147483648 ≤ a ∧ a < 2147483648)) : XI l yX5_setStart cX5_setStart 3 (some .int) rm_X5_setStart D k [.ref (q 0), .int (J a)] (pW k L M) (xP k q (up2 st 1 0 a) (kSetStart st a) (st 1 0)) (fun E w' => w' = pW k L M ∧ ((E = "java/lang/IllegalArgumentException" ∧ kSetStart st a = 1) ∨ (E = "java/lang/IllegalStateException" ∧ kSetStart st a = 2))) := by
  refine XI.of hfl (by decide +kernel) rfl (Nat.le_of_ble_eq_true rfl) (fun pᵢ eᵢ sᵢ mᵢ argsᵢ belowᵢ methᵢ cᵢ Aᵢ Qᵢ X RI XO_ XT_ => ?_)
  show SW pᵢ l eᵢ rm_X5_setStart sᵢ mᵢ argsᵢ belowᵢ methᵢ cᵢ 3 D Aᵢ 0 0 Qᵢ (pW k L M) 0 [(0, .ref (q 0)), (1, .int (J a))] []
  have hC2 := hC
  obtain ⟨⟨⟨o0, o1, o2, o3, o4⟩, ⟨n1, n2, n3, n4⟩, ⟨r51, r52, r55, r57, r59⟩, v50, v53, v54, v56, v58⟩, hBk, hCa, hGa, hPa⟩ := hC2
  have i1 := I_st hI
  have i2 := I_en hI
  have i5 := I_ga hI
  have i8 := I_cu hI
  have i9 := I_ca hI
  have i17 := I_pa hI
  obtain ⟨⟨⟨zL, zG, zK⟩, z40⟩, z41, z42, z43, z44, ⟨⟨yL, yG, yK⟩, yN⟩, hpB⟩ := hBk
  have z41 : M 41 (q (10 + -1)) 0 = st 2 0 := z41
  have bLB : vL (-1) = 30 := rfl
  have bNB : vN st (-1) = st 2 0 := rfl
  refine sw_iload_n X dX5_setStart_0 rfl 1 rfl ?_
  refine sw_iconst X dX5_setStart_1 ?_
  refine sw_sipush X dX5_setStart_2 (by decide +kernel) ?_
  refine sw_callSI0 (As := [.int (J a), .int (J 0), .int (J 255)]) (rest := []) X (c_X5_isWithin l D k (pW k L M) a 0 255 (by omega)) (va_cwS 3 (sw_ts X) (sw_goodS gw1_102 gw1_103 gw1_1 gw1_104) rfl rfl rfl (by decide +kernel) ⟨Nat.le_of_ble_eq_true rfl, Nat.le_of_ble_eq_true rfl⟩) dX5_setStart_5 rfl rfl (Nat.le_of_ble_eq_true rfl) ⟨Nat.le_of_ble_eq_true rfl, Nat.le_of_ble_eq_true rfl⟩ (fun z1 w9 hp2 => ?_)
  obtain ⟨rfl, hp2⟩ := hp2
  refine sw_xSV (As := [.int (J z1)]) (rest := []) X (c_X5_checkArgument l hfl D k (pW k L M) z1 (by omega)) (va_cwS 1 (sw_ts X) (sw_goodS gw1_105 gw1_106 gw1_1 gw1_107) rfl rfl rfl (by decide +kernel) ⟨Nat.le_of_ble_eq_true rfl, Nat.le_of_ble_eq_true rfl⟩) dX5_setStart_8 rfl rfl (Nat.le_of_ble_eq_true rfl) ⟨Nat.le_of_ble_eq_true rfl, Nat.le_of_ble_eq_true rfl⟩ (fun E9 w9 hx => XO_ _ _ _ _ _ _ _ (Nat.le_of_ble_eq_true rfl) (Nat.le_of_ble_eq_true rfl) (by obtain ⟨rfl, rfl, hx⟩ := hx; exact ⟨rfl, Or.inl ⟨rfl, by unfold kSetStart; split <;> (try split) <;> (try split) <;> omega⟩⟩)) (fun w9 hp4 => ?_)
  obtain ⟨rfl, hp4⟩ := hp4
  refine sw_aload_n X dX5_setStart_11 rfl 0 rfl ?_
  refine px_get (v := .ref (q (10 + -1))) X iw_X5 o0.1 (by decide) o0.2.2 rfl 1 (by decide) gw1_58 rfl (congrArg some (rf_of r51)) dX5_setStart_12 ?_
  refine px_getN (n := "") (d := "") (v := .int (J (st 2 0))) X iw_X4 zL (by decide) zK rfl 1 (by decide) (List.mem_of_getElem? (i := 0) rfl) rfl (congrArg (fun z => some (Value.int (J z))) z41) dX5_setStart_15 ?_
  refine sw_if_ne (tgt := 32) X (by omega) dX5_setStart_18 (by decide) (fun h5 => ?_) (fun h5 => ?_)
  · refine sw_iconst X dX5_setStart_32 ?_
    refine sw_xSV (As := [.int (J 0)]) (rest := []) X (c_X5_checkState l hfl D k (pW k L M) 0 (by omega)) (va_cwS 1 (sw_ts X) (sw_goodS gw1_177 gw1_178 gw1_1 gw1_179) rfl rfl rfl (by decide +kernel) ⟨Nat.le_of_ble_eq_true rfl, Nat.le_of_ble_eq_true rfl⟩) dX5_setStart_33 rfl rfl (Nat.le_of_ble_eq_true rfl) ⟨Nat.le_of_ble_eq_true rfl, Nat.le_of_ble_eq_true rfl⟩ (fun E9 w9 hx => XO_ _ _ _ _ _ _ _ (Nat.le_of_ble_eq_true rfl) (Nat.le_of_ble_eq_true rfl) (by obtain ⟨rfl, rfl, hx⟩ := hx; exact ⟨rfl, Or.inr (⟨rfl, by unfold kSetStart; split <;> (try split) <;> (try split) <;> omega⟩)⟩)) (fun w9 hp7 => ?_)
    obtain ⟨rfl, hp7⟩ := hp7
    exact absurd hp7 (by decide)
  · refine sw_aload_n X dX5_setStart_21 rfl 0 rfl ?_
    refine px_get (v := .int (J (st 9 0))) X iw_X5 o0.1 (by decide) o0.2.2 rfl 6 (by decide) gw1_63 rfl (congrArg (fun z => some (Value.int (J z))) v56) dX5_setStart_22 ?_
    refine sw_if_ne (tgt := 32) X (by omega) dX5_setStart_25 (by decide) (fun h8 => ?_) (fun h8 => ?_)
    · refine sw_iconst X dX5_setStart_32 ?_
      refine sw_xSV (As := [.int (J 0)]) (rest := []) X (c_X5_checkState l hfl D k (pW k L M) 0 (by omega)) (va_cwS 1 (sw_ts X) (sw_goodS gw1_177 gw1_178 gw1_1 gw1_179) rfl rfl rfl (by decide +kernel) ⟨Nat.le_of_ble_eq_true rfl, Nat.le_of_ble_eq_true rfl⟩) dX5_setStart_33 rfl rfl (Nat.le_of_ble_eq_true rfl) ⟨Nat.le_of_ble_eq_true rfl, Nat.le_of_ble_eq_true rfl⟩ (fun E9 w9 hx => XO_ _ _ _ _ _ _ _ (Nat.le_of_ble_eq_true rfl) (Nat.le_of_ble_eq_true rfl) (by obtain ⟨rfl, rfl, hx⟩ := hx; exact ⟨rfl, Or.inr (⟨rfl, by unfold kSetStart; split <;> (try split) <;> (try split) <;> omega⟩)⟩)) (fun w9 hp10 => ?_)
      obtain ⟨rfl, hp10⟩ := hp10
      exact absurd hp10 (by decide)
    · refine sw_iconst X dX5_setStart_28 ?_
      refine sw_goto (tgt := 33) X dX5_setStart_29 (by decide) ?_
      refine sw_xSV (As := [.int (J 1)]) (rest := []) X (c_X5_checkState l hfl D k (pW k L M) 1 (by omega)) (va_cwS 1 (sw_ts X) (sw_goodS gw1_177 gw1_178 gw1_1 gw1_179) rfl rfl rfl (by decide +kernel) ⟨Nat.le_of_ble_eq_true rfl, Nat.le_of_ble_eq_true rfl⟩) dX5_setStart_33 rfl rfl (Nat.le_of_ble_eq_true rfl) ⟨Nat.le_of_ble_eq_true rfl, Nat.le_of_ble_eq_true rfl⟩ (fun E9 w9 hx => XO_ _ _ _ _ _ _ _ (Nat.le_of_ble_eq_true rfl) (Nat.le_of_ble_eq_true rfl) (by obtain ⟨rfl, rfl, hx⟩ := hx; exact ⟨rfl, Or.inr (⟨rfl, by unfold kSetStart; split <;> (try split) <;> (try split) <;> omega⟩)⟩)) (fun w9 hp12 => ?_)
      obtain ⟨rfl, hp12⟩ := hp12
      refine sw_aload_n X dX5_setStart_36 rfl 0 rfl ?_
      refine px_get (v := .int (J (st 1 0))) X iw_X5 o0.1 (by decide) o0.2.2 rfl 0 (by decide) gw1_57 rfl (congrArg (fun z => some (Value.int (J z))) v50) dX5_setStart_37 ?_
      refine sw_istore_n (lv' := [(2, .int (J (st 1 0))), (0, .ref (q 0)), (1, .int (J a))]) X dX5_setStart_40 rfl (by decide) rfl ?_
      refine sw_aload_n X dX5_setStart_41 rfl 1 rfl ?_
      refine sw_iload_n X dX5_setStart_42 rfl 2 rfl ?_
      refine px_put (f := 50) (z := a) X iw_X5 tyX5 tyX5_ok nmX5 o0.1 (by decide) o0.2.2 rfl 0 (by decide) gw1_57 rfl rfl (ty := .int) (by decide +kernel) rfl rfl (Nat.le_of_ble_eq_true rfl) (by decide) (pS50 _ _ _) dX5_setStart_43 ?_
      refine sw_aload_n X dX5_setStart_46 rfl 1 rfl ?_
      refine px_get (M := upM M 50 (q 0) 0 a) (v := .ref (q (10 + -1))) X iw_X5 o0.1 (by decide) o0.2.2 rfl 1 (by decide) gw1_58 rfl (congrArg some (rf_of r51)) dX5_setStart_47 ?_
      refine sw_iload_n X dX5_setStart_50 rfl 2 rfl ?_
      refine px_callVV (M := upM M 50 (q 0) 0 a) (C := RX4) (As := [.int (J a)]) (rest := []) X (c_X4_beginIn l D k (L) (upM M 50 (q 0) 0 a) (q (10 + -1)) a ⟨zL, zK⟩) (cwV 1 (sw_ts X) (sw_goodV gw1_196 gw1_197 gw1_198 gw1_2 gw1_199) rfl rfl rfl (by decide +kernel) ⟨Nat.le_of_ble_eq_true rfl, Nat.le_of_ble_eq_true rfl⟩) ⟨zL, zK⟩ (by decide) rfl rfl dX5_setStart_51 rfl rfl (Nat.le_of_ble_eq_true rfl) ⟨Nat.le_of_ble_eq_true rfl, Nat.le_of_ble_eq_true rfl⟩ (fun w9 hp14 => ?_)
      obtain rfl := hp14
      refine sw_iload_n X dX5_setStart_54 rfl 0 rfl ?_
      exact RI _ _ _ _ _ _ dX5_setStart_55 (Nat.le_of_ble_eq_true rfl) (Nat.le_of_ble_eq_true rfl) rfl ⟨by unfold kSetStart; split <;> (try split) <;> (try split) <;> omega, rfl, q, L, _, rfl, rfl, CW_setStart hI hC (by omega) (by omega) a⟩
abbrev rm_X5_cut : Room := { frames := 7, cells := 1, slots := 6, locals := 102 }
set_option maxHeartbeats 4000000 in
set_option maxRecDepth 100000 in
theorem c_X5_cut (l : Launch) (hfl : l.stackTraces = false) (D : va_G) (k : Nat → ClassId) (N : Int) (st : ST) (q : Int → Nat) (L : List Nat) (M : MM) (a : Int) (hI : I6 N st) (hC : CW st q L M) (h_a : (-2147483648 ≤ a ∧ a < 2147483648)) : XI l yX5_cut cX5_cut 3 (some .int) rm_X5_cut D k [.ref (q 0), .int (J a)] (pW k L M) (xP k q (up2 st 8 0 a) (kCut a) (st 8 0)) (fun E w' => w' = pW k L M ∧ ((E = "java/lang/IllegalArgumentException" ∧ kCut a = 1))) := by
  refine XI.of hfl (by decide +kernel) rfl (Nat.le_of_ble_eq_true rfl) (fun pᵢ eᵢ sᵢ mᵢ argsᵢ belowᵢ methᵢ cᵢ Aᵢ Qᵢ X RI XO_ XT_ => ?_)
  show SW pᵢ l eᵢ rm_X5_cut sᵢ mᵢ argsᵢ belowᵢ methᵢ cᵢ 3 D Aᵢ 0 0 Qᵢ (pW k L M) 0 [(0, .ref (q 0)), (1, .int (J a))] []
  have hC2 := hC
  obtain ⟨⟨⟨o0, o1, o2, o3, o4⟩, ⟨n1, n2, n3, n4⟩, ⟨r51, r52, r55, r57, r59⟩, v50, v53, v54, v56, v58⟩, hBk, hCa, hGa, hPa⟩ := hC2
  have i1 := I_st hI
  have i2 := I_en hI
  have i5 := I_ga hI
  have i8 := I_cu hI
  have i9 := I_ca hI
  have i17 := I_pa hI
  refine sw_iload_n X dX5_cut_0 rfl 1 rfl ?_
  refine sw_iconst X dX5_cut_1 ?_
  refine sw_bipush X dX5_cut_2 (by decide +kernel) ?_
  refine sw_callSI0 (As := [.int (J a), .int (J 0), .int (J 10)]) (rest := []) X (c_X5_isWithin l D k (pW k L M) a 0 10 (by omega)) (va_cwS 3 (sw_ts X) (sw_goodS gw1_102 gw1_103 gw1_1 gw1_104) rfl rfl rfl (by decide +kernel) ⟨Nat.le_of_ble_eq_true rfl, Nat.le_of_ble_eq_true rfl⟩) dX5_cut_4 rfl rfl (Nat.le_of_ble_eq_true rfl) ⟨Nat.le_of_ble_eq_true rfl, Nat.le_of_ble_eq_true rfl⟩ (fun z1 w9 hp2 => ?_)
  obtain ⟨rfl, hp2⟩ := hp2
  refine sw_xSV (As := [.int (J z1)]) (rest := []) X (c_X5_checkArgument l hfl D k (pW k L M) z1 (by omega)) (va_cwS 1 (sw_ts X) (sw_goodS gw1_105 gw1_106 gw1_1 gw1_107) rfl rfl rfl (by decide +kernel) ⟨Nat.le_of_ble_eq_true rfl, Nat.le_of_ble_eq_true rfl⟩) dX5_cut_7 rfl rfl (Nat.le_of_ble_eq_true rfl) ⟨Nat.le_of_ble_eq_true rfl, Nat.le_of_ble_eq_true rfl⟩ (fun E9 w9 hx => XO_ _ _ _ _ _ _ _ (Nat.le_of_ble_eq_true rfl) (Nat.le_of_ble_eq_true rfl) (by obtain ⟨rfl, rfl, hx⟩ := hx; exact ⟨rfl, ⟨rfl, by unfold kCut; split <;> (try split) <;> (try split) <;> omega⟩⟩)) (fun w9 hp4 => ?_)
  obtain ⟨rfl, hp4⟩ := hp4
  refine sw_aload_n X dX5_cut_10 rfl 0 rfl ?_
  refine px_get (v := .int (J (st 8 0))) X iw_X5 o0.1 (by decide) o0.2.2 rfl 4 (by decide) gw1_61 rfl (congrArg (fun z => some (Value.int (J z))) v54) dX5_cut_11 ?_
  refine sw_istore_n (lv' := [(2, .int (J (st 8 0))), (0, .ref (q 0)), (1, .int (J a))]) X dX5_cut_14 rfl (by decide) rfl ?_
  refine sw_aload_n X dX5_cut_15 rfl 1 rfl ?_
  refine sw_iload_n X dX5_cut_16 rfl 2 rfl ?_
  refine px_put (f := 54) (z := a) X iw_X5 tyX5 tyX5_ok nmX5 o0.1 (by decide) o0.2.2 rfl 4 (by decide) gw1_61 rfl rfl (ty := .int) (by decide +kernel) rfl rfl (Nat.le_of_ble_eq_true rfl) (by decide) (pS54 _ _ _) dX5_cut_17 ?_
  refine sw_iload_n X dX5_cut_20 rfl 0 rfl ?_
  exact RI _ _ _ _ _ _ dX5_cut_21 (Nat.le_of_ble_eq_true rfl) (Nat.le_of_ble_eq_true rfl) rfl ⟨by unfold kCut; split <;> (try split) <;> (try split) <;> omega, rfl, q, L, _, rfl, rfl, CW_cut hI hC a⟩
abbrev rm_X5_addEntry : Room := { frames := 7, cells := 3, slots := 18, locals := 102 }
set_option maxHeartbeats 4000000 in
set_option maxRecDepth 100000 in
theorem c_X5_addEntry (l : Launch) (hfl : l.stackTraces = false) (D : va_G) (k : Nat → ClassId) (N : Int) (st : ST) (q : Int → Nat) (L : List Nat) (M : MM) (a b : Int) (hI : I6 N st) (hC : CW st q L M) (h_a : (-2147483648 ≤ a ∧ a < 2147483648)) (h_b : (-2147483648 ≤ b ∧ b < 2147483648)) : XI l yX5_addEntry cX5_addEntry 3 (some .int) rm_X5_addEntry D k [.ref (q 0), .int (J a), .int (J b)] (pW k L M) (xP k q (sAddEntry st a b) (kAddEntry st a b) (vAddEntry st a)) (fun E w' => w' = pW k L M ∧ ((E = "java/lang/IllegalArgumentException" ∧ kAddEntry st a b = 1) ∨ (E = "java/lang/IllegalStateException" ∧ kAddEntry st a b = 2))) := by
  refine XI.of hfl (by decide +kernel) rfl (Nat.le_of_ble_eq_true rfl) (fun pᵢ eᵢ sᵢ mᵢ argsᵢ belowᵢ methᵢ cᵢ Aᵢ Qᵢ X RI XO_ XT_ => ?_)
  show SW pᵢ l eᵢ rm_X5_addEntry sᵢ mᵢ argsᵢ belowᵢ methᵢ cᵢ 3 D Aᵢ 0 0 Qᵢ (pW k L M) 0 [(0, .ref (q 0)), (1, .int (J a)), (2, .int (J b))] []
  have hC2 := hC
  obtain ⟨⟨⟨o0, o1, o2, o3, o4⟩, ⟨n1, n2, n3, n4⟩, ⟨r51, r52, r55, r57, r59⟩, v50, v53, v54, v56, v58⟩, hBk, hCa, hGa, hPa⟩ := hC2
  have i1 := I_st hI
  have i2 := I_en hI
  have i5 := I_ga hI
  have i8 := I_cu hI
  have i9 := I_ca hI
  have i17 := I_pa hI
  obtain ⟨⟨⟨zL, zG, zK⟩, z40⟩, z41, z42, z43, z44, ⟨⟨yL, yG, yK⟩, yN⟩, hpB⟩ := hBk
  have z41 : M 41 (q (10 + -1)) 0 = st 2 0 := z41
  have bLB : vL (-1) = 30 := rfl
  have bNB : vN st (-1) = st 2 0 := rfl
  refine sw_iload_n X dX5_addEntry_0 rfl 1 rfl ?_
  refine sw_iconst X dX5_addEntry_1 ?_
  refine sw_bipush X dX5_addEntry_2 (by decide +kernel) ?_
  refine sw_callSI0 (As := [.int (J a), .int (J 1), .int (J 15)]) (rest := []) X (c_X5_isWithin l D k (pW k L M) a 1 15 (by omega)) (va_cwS 3 (sw_ts X) (sw_goodS gw1_102 gw1_103 gw1_1 gw1_104) rfl rfl rfl (by decide +kernel) ⟨Nat.le_of_ble_eq_true rfl, Nat.le_of_ble_eq_true rfl⟩) dX5_addEntry_4 rfl rfl (Nat.le_of_ble_eq_true rfl) ⟨Nat.le_of_ble_eq_true rfl, Nat.le_of_ble_eq_true rfl⟩ (fun z1 w9 hp2 => ?_)
  obtain ⟨rfl, hp2⟩ := hp2
  refine sw_if_eq (tgt := 23) X (by omega) dX5_addEntry_7 (by decide) (fun h3 => ?_) (fun h3 => ?_)
  · refine sw_iconst X dX5_addEntry_23 ?_
    refine sw_xSV (As := [.int (J 0)]) (rest := []) X (c_X5_checkArgument l hfl D k (pW k L M) 0 (by omega)) (va_cwS 1 (sw_ts X) (sw_goodS gw1_105 gw1_106 gw1_1 gw1_107) rfl rfl rfl (by decide +kernel) ⟨Nat.le_of_ble_eq_true rfl, Nat.le_of_ble_eq_true rfl⟩) dX5_addEntry_24 rfl rfl (Nat.le_of_ble_eq_true rfl) ⟨Nat.le_of_ble_eq_true rfl, Nat.le_of_ble_eq_true rfl⟩ (fun E9 w9 hx => XO_ _ _ _ _ _ _ _ (Nat.le_of_ble_eq_true rfl) (Nat.le_of_ble_eq_true rfl) (by obtain ⟨rfl, rfl, hx⟩ := hx; exact ⟨rfl, Or.inl ⟨rfl, by unfold kAddEntry; split <;> (try split) <;> (try split) <;> omega⟩⟩)) (fun w9 hp5 => ?_)
    obtain ⟨rfl, hp5⟩ := hp5
    exact absurd hp5 (by decide)
  · refine sw_iload_n X dX5_addEntry_10 rfl 2 rfl ?_
    refine sw_iconst X dX5_addEntry_11 ?_
    refine sw_iconst X dX5_addEntry_12 ?_
    refine sw_callSI0 (As := [.int (J b), .int (J 0), .int (J 3)]) (rest := []) X (c_X5_isWithin l D k (pW k L M) b 0 3 (by omega)) (va_cwS 3 (sw_ts X) (sw_goodS gw1_102 gw1_103 gw1_1 gw1_104) rfl rfl rfl (by decide +kernel) ⟨Nat.le_of_ble_eq_true rfl, Nat.le_of_ble_eq_true rfl⟩) dX5_addEntry_13 rfl rfl (Nat.le_of_ble_eq_true rfl) ⟨Nat.le_of_ble_eq_true rfl, Nat.le_of_ble_eq_true rfl⟩ (fun z6 w9 hp7 => ?_)
    obtain ⟨rfl, hp7⟩ := hp7
    refine sw_if_eq (tgt := 23) X (by omega) dX5_addEntry_16 (by decide) (fun h8 => ?_) (fun h8 => ?_)
    · refine sw_iconst X dX5_addEntry_23 ?_
      refine sw_xSV (As := [.int (J 0)]) (rest := []) X (c_X5_checkArgument l hfl D k (pW k L M) 0 (by omega)) (va_cwS 1 (sw_ts X) (sw_goodS gw1_105 gw1_106 gw1_1 gw1_107) rfl rfl rfl (by decide +kernel) ⟨Nat.le_of_ble_eq_true rfl, Nat.le_of_ble_eq_true rfl⟩) dX5_addEntry_24 rfl rfl (Nat.le_of_ble_eq_true rfl) ⟨Nat.le_of_ble_eq_true rfl, Nat.le_of_ble_eq_true rfl⟩ (fun E9 w9 hx => XO_ _ _ _ _ _ _ _ (Nat.le_of_ble_eq_true rfl) (Nat.le_of_ble_eq_true rfl) (by obtain ⟨rfl, rfl, hx⟩ := hx; exact ⟨rfl, Or.inl ⟨rfl, by unfold kAddEntry; split <;> (try split) <;> (try split) <;> omega⟩⟩)) (fun w9 hp10 => ?_)
      obtain ⟨rfl, hp10⟩ := hp10
      exact absurd hp10 (by decide)
    · refine sw_iconst X dX5_addEntry_19 ?_
      refine sw_goto (tgt := 24) X dX5_addEntry_20 (by decide) ?_
      refine sw_xSV (As := [.int (J 1)]) (rest := []) X (c_X5_checkArgument l hfl D k (pW k L M) 1 (by omega)) (va_cwS 1 (sw_ts X) (sw_goodS gw1_105 gw1_106 gw1_1 gw1_107) rfl rfl rfl (by decide +kernel) ⟨Nat.le_of_ble_eq_true rfl, Nat.le_of_ble_eq_true rfl⟩) dX5_addEntry_24 rfl rfl (Nat.le_of_ble_eq_true rfl) ⟨Nat.le_of_ble_eq_true rfl, Nat.le_of_ble_eq_true rfl⟩ (fun E9 w9 hx => XO_ _ _ _ _ _ _ _ (Nat.le_of_ble_eq_true rfl) (Nat.le_of_ble_eq_true rfl) (by obtain ⟨rfl, rfl, hx⟩ := hx; exact ⟨rfl, Or.inl ⟨rfl, by unfold kAddEntry; split <;> (try split) <;> (try split) <;> omega⟩⟩)) (fun w9 hp12 => ?_)
      obtain ⟨rfl, hp12⟩ := hp12
      refine sw_aload_n X dX5_addEntry_27 rfl 0 rfl ?_
      refine px_get (v := .ref (q (10 + -1))) X iw_X5 o0.1 (by decide) o0.2.2 rfl 1 (by decide) gw1_58 rfl (congrArg some (rf_of r51)) dX5_addEntry_28 ?_
      refine px_callVI (C := RX4) (As := []) (rest := []) X (c_X4_isFull l D k N st q (L) (M) (-1) hI (Or.inl rfl) (hC.2.1)) (cwV 0 (sw_ts X) (sw_goodV gw1_207 gw1_208 gw1_209 gw1_2 gw1_210) rfl rfl rfl (by decide +kernel) ⟨Nat.le_of_ble_eq_true rfl, Nat.le_of_ble_eq_true rfl⟩) ⟨zL, zK⟩ (by decide) rfl rfl dX5_addEntry_31 rfl rfl (Nat.le_of_ble_eq_true rfl) ⟨Nat.le_of_ble_eq_true rfl, Nat.le_of_ble_eq_true rfl⟩ (fun z13 w9 hp14 => ?_)
      obtain ⟨rfl, hp14⟩ := hp14
      refine sw_if_ne (tgt := 52) X (by omega) dX5_addEntry_34 (by decide) (fun h15 => ?_) (fun h15 => ?_)
      · refine sw_iconst X dX5_addEntry_52 ?_
        refine sw_xSV (As := [.int (J 0)]) (rest := []) X (c_X5_checkState l hfl D k (pW k L M) 0 (by omega)) (va_cwS 1 (sw_ts X) (sw_goodS gw1_177 gw1_178 gw1_1 gw1_179) rfl rfl rfl (by decide +kernel) ⟨Nat.le_of_ble_eq_true rfl, Nat.le_of_ble_eq_true rfl⟩) dX5_addEntry_53 rfl rfl (Nat.le_of_ble_eq_true rfl) ⟨Nat.le_of_ble_eq_true rfl, Nat.le_of_ble_eq_true rfl⟩ (fun E9 w9 hx => XO_ _ _ _ _ _ _ _ (Nat.le_of_ble_eq_true rfl) (Nat.le_of_ble_eq_true rfl) (by obtain ⟨rfl, rfl, hx⟩ := hx; exact ⟨rfl, Or.inr (⟨rfl, by unfold kAddEntry; split <;> (try split) <;> (try split) <;> omega⟩)⟩)) (fun w9 hp17 => ?_)
        obtain ⟨rfl, hp17⟩ := hp17
        exact absurd hp17 (by decide)
      · refine sw_aload_n X dX5_addEntry_37 rfl 0 rfl ?_
        refine px_get (v := .ref (q (10 + -1))) X iw_X5 o0.1 (by decide) o0.2.2 rfl 1 (by decide) gw1_58 rfl (congrArg some (rf_of r51)) dX5_addEntry_38 ?_
        refine sw_iload_n X dX5_addEntry_41 rfl 1 rfl ?_
        refine px_callVI (C := RX4) (As := [.int (J a)]) (rest := []) X (c_X4_staysOnGround l D k N st q (L) (M) (-1) a hI (Or.inl rfl) (hC.2.1) (by omega)) (cwV 1 (sw_ts X) (sw_goodV gw1_211 gw1_212 gw1_213 gw1_2 gw1_214) rfl rfl rfl (by decide +kernel) ⟨Nat.le_of_ble_eq_true rfl, Nat.le_of_ble_eq_true rfl⟩) ⟨zL, zK⟩ (by decide) rfl rfl dX5_addEntry_42 rfl rfl (Nat.le_of_ble_eq_true rfl) ⟨Nat.le_of_ble_eq_true rfl, Nat.le_of_ble_eq_true rfl⟩ (fun z18 w9 hp19 => ?_)
        obtain ⟨rfl, hp19⟩ := hp19
        rw [on_b] at hp19
        refine sw_if_eq (tgt := 52) X (by omega) dX5_addEntry_45 (by decide) (fun h20 => ?_) (fun h20 => ?_)
        · refine sw_iconst X dX5_addEntry_52 ?_
          refine sw_xSV (As := [.int (J 0)]) (rest := []) X (c_X5_checkState l hfl D k (pW k L M) 0 (by omega)) (va_cwS 1 (sw_ts X) (sw_goodS gw1_177 gw1_178 gw1_1 gw1_179) rfl rfl rfl (by decide +kernel) ⟨Nat.le_of_ble_eq_true rfl, Nat.le_of_ble_eq_true rfl⟩) dX5_addEntry_53 rfl rfl (Nat.le_of_ble_eq_true rfl) ⟨Nat.le_of_ble_eq_true rfl, Nat.le_of_ble_eq_true rfl⟩ (fun E9 w9 hx => XO_ _ _ _ _ _ _ _ (Nat.le_of_ble_eq_true rfl) (Nat.le_of_ble_eq_true rfl) (by obtain ⟨rfl, rfl, hx⟩ := hx; exact ⟨rfl, Or.inr (⟨rfl, by unfold kAddEntry; split <;> (try split) <;> (try split) <;> omega⟩)⟩)) (fun w9 hp22 => ?_)
          obtain ⟨rfl, hp22⟩ := hp22
          exact absurd hp22 (by decide)
        · refine sw_iconst X dX5_addEntry_48 ?_
          refine sw_goto (tgt := 53) X dX5_addEntry_49 (by decide) ?_
          refine sw_xSV (As := [.int (J 1)]) (rest := []) X (c_X5_checkState l hfl D k (pW k L M) 1 (by omega)) (va_cwS 1 (sw_ts X) (sw_goodS gw1_177 gw1_178 gw1_1 gw1_179) rfl rfl rfl (by decide +kernel) ⟨Nat.le_of_ble_eq_true rfl, Nat.le_of_ble_eq_true rfl⟩) dX5_addEntry_53 rfl rfl (Nat.le_of_ble_eq_true rfl) ⟨Nat.le_of_ble_eq_true rfl, Nat.le_of_ble_eq_true rfl⟩ (fun E9 w9 hx => XO_ _ _ _ _ _ _ _ (Nat.le_of_ble_eq_true rfl) (Nat.le_of_ble_eq_true rfl) (by obtain ⟨rfl, rfl, hx⟩ := hx; exact ⟨rfl, Or.inr (⟨rfl, by unfold kAddEntry; split <;> (try split) <;> (try split) <;> omega⟩)⟩)) (fun w9 hp24 => ?_)
          obtain ⟨rfl, hp24⟩ := hp24
          refine sw_aload_n X dX5_addEntry_56 rfl 0 rfl ?_
          refine px_get (v := .ref (q (10 + -1))) X iw_X5 o0.1 (by decide) o0.2.2 rfl 1 (by decide) gw1_58 rfl (congrArg some (rf_of r51)) dX5_addEntry_57 ?_
          refine sw_iload_n X dX5_addEntry_60 rfl 1 rfl ?_
          refine sw_iload_n X dX5_addEntry_61 rfl 2 rfl ?_
          refine px_callVV (C := RX4) (As := [.int (J a), .int (J b)]) (rest := []) X (c_X4_goOn l D k N st q (L) (M) (-1) a b hI (Or.inl rfl) (hC.2.1) (by omega) (by omega) (by omega)) (cwV 2 (sw_ts X) (sw_goodV gw1_220 gw1_221 gw1_222 gw1_2 gw1_223) rfl rfl rfl (by decide +kernel) ⟨Nat.le_of_ble_eq_true rfl, Nat.le_of_ble_eq_true rfl⟩) ⟨zL, zK⟩ (by decide) rfl rfl dX5_addEntry_62 rfl rfl (Nat.le_of_ble_eq_true rfl) ⟨Nat.le_of_ble_eq_true rfl, Nat.le_of_ble_eq_true rfl⟩ (fun w9 hp26 => ?_)
          obtain ⟨p27, hp27, rfl⟩ := hp26
          have f0 := ap_o (M := M) (b := vM st (-1) (vN st (-1)).toNat) (m := a) (cl := clO (vP st (-1) (vN st (-1)).toNat)) (h := (vP st (-1) (vN st (-1)).toNat).2.2) (t := b) (d := 1) (n := vN st (-1)) (sw_ne o0.1 hp27) (ob_ne o0 ⟨zL, zG, zK⟩ (by decide)) (ob_ne o0 ⟨yL, yG, yK⟩ (by decide))
          have k90 := (f0 90 0).trans o0.2.2
          have k51 := (f0 51 0).trans r51
          have fw := ap_w (M := M) (b := vM st (-1) (vN st (-1)).toNat) (m := a) (cl := clO (vP st (-1) (vN st (-1)).toNat)) (h := (vP st (-1) (vN st (-1)).toNat).2.2) (t := b) (d := 1) (aa := q (20 + -1)) (n := vN st (-1)) (sw_ne zL hp27)
          have kz90 := fw.1.trans zK
          have kz42 := fw.2.1.trans (show _ = vAddEntry st a by rw [if_neg (by decide)]; show 16 * (bP st (st 2 0).toNat).1 + (bP st (st 2 0).toNat).2.1 + (16 * dx (bP st (st 2 0).toNat).2.2 a + dy (bP st (st 2 0).toNat).2.2 a) = vAddEntry st a; unfold vAddEntry; omega)
          refine sw_aload_n X dX5_addEntry_65 rfl 0 rfl ?_
          refine px_get (M := apM M p27 (vM st (-1) (vN st (-1)).toNat) a (clO (vP st (-1) (vN st (-1)).toNat)) (vP st (-1) (vN st (-1)).toNat).2.2 b 1 (q (10 + -1)) (q (20 + -1)) (vN st (-1))) (v := .ref (q (10 + -1))) X iw_X5 (List.mem_append_left _ o0.1) (by decide) k90 rfl 1 (by decide) gw1_58 rfl (congrArg some (rf_of k51)) dX5_addEntry_66 ?_
          refine px_getN (M := apM M p27 (vM st (-1) (vN st (-1)).toNat) a (clO (vP st (-1) (vN st (-1)).toNat)) (vP st (-1) (vN st (-1)).toNat).2.2 b 1 (q (10 + -1)) (q (20 + -1)) (vN st (-1))) (n := "") (d := "") (v := .int (J (vAddEntry st a))) X iw_X4 (List.mem_append_left _ zL) (by decide) kz90 rfl 2 (by decide) (List.mem_of_getElem? (i := 1) rfl) rfl (congrArg (fun z => some (Value.int (J z))) kz42) dX5_addEntry_69 ?_
          exact RI _ _ _ _ _ _ dX5_addEntry_72 (Nat.le_of_ble_eq_true rfl) (Nat.le_of_ble_eq_true rfl) rfl ⟨by unfold kAddEntry; split <;> (try split) <;> (try split) <;> omega, rfl, _, _, _, pW_80 k _ _ p27 0 _, upq_n _ _ (by omega), CW_addEntry hI hC (by omega) hp27 a b⟩
abbrev rm_X5_drive : Room := { frames := 7, cells := 4, slots := 24, locals := 104 }
set_option maxHeartbeats 4000000 in
set_option maxRecDepth 100000 in
theorem c_X5_drive (l : Launch) (hfl : l.stackTraces = false) (D : va_G) (k : Nat → ClassId) (N : Int) (st : ST) (q : Int → Nat) (L : List Nat) (M : MM) (c a b : Int) (hI : I6 N st) (hC : CW st q L M) (h_c : (-2147483648 ≤ c ∧ c < 2147483648)) (h_a : (-2147483648 ≤ a ∧ a < 2147483648)) (h_b : (-2147483648 ≤ b ∧ b < 2147483648)) : XI l yX5_drive cX5_drive 5 (some .int) rm_X5_drive D k [.ref (q 0), .int (J c), .int (J a), .int (J b)] (pW k L M) (xP k q (aP st c a a b) (kDrive st c a b) (clk (aP st c a a b) c)) (fun E w' => w' = pW k L M ∧ ((E = "java/lang/IndexOutOfBoundsException" ∧ kDrive st c a b = 1) ∨ (E = "java/lang/IllegalArgumentException" ∧ kDrive st c a b = 2) ∨ (E = "java/lang/IllegalStateException" ∧ kDrive st c a b = 3))) := by
  refine XI.of hfl (by decide +kernel) rfl (Nat.le_of_ble_eq_true rfl) (fun pᵢ eᵢ sᵢ mᵢ argsᵢ belowᵢ methᵢ cᵢ Aᵢ Qᵢ X RI XO_ XT_ => ?_)
  show SW pᵢ l eᵢ rm_X5_drive sᵢ mᵢ argsᵢ belowᵢ methᵢ cᵢ 5 D Aᵢ 0 0 Qᵢ (pW k L M) 0 [(0, .ref (q 0)), (1, .int (J c)), (2, .int (J a)), (3, .int (J b))] []
  have hC2 := hC
  obtain ⟨⟨⟨o0, o1, o2, o3, o4⟩, ⟨n1, n2, n3, n4⟩, ⟨r51, r52, r55, r57, r59⟩, v50, v53, v54, v56, v58⟩, hBk, hCa, hGa, hPa⟩ := hC2
  have i1 := I_st hI
  have i2 := I_en hI
  have i5 := I_ga hI
  have i8 := I_cu hI
  have i9 := I_ca hI
  have i17 := I_pa hI
  refine sw_aload_n X dX5_drive_0 rfl 0 rfl ?_
  refine sw_iload_n X dX5_drive_1 rfl 1 rfl ?_
  refine px_xVQ (C := RX5) (As := [.int (J c)]) (rest := []) X (c_X5_carAt l hfl D k N st q (L) (M) c hI hC (by omega)) (cwV 1 (sw_ts X) (sw_goodV gw2_136 gw2_138 gws_5 gw1_1 gw2_139) rfl rfl rfl (by decide +kernel) ⟨Nat.le_of_ble_eq_true rfl, Nat.le_of_ble_eq_true rfl⟩) ⟨o0.1, o0.2.2⟩ (by decide) rfl rfl dX5_drive_2 rfl rfl (Nat.le_of_ble_eq_true rfl) ⟨Nat.le_of_ble_eq_true rfl, Nat.le_of_ble_eq_true rfl⟩ (fun E9 w9 hx => XO_ _ _ _ _ _ _ _ (Nat.le_of_ble_eq_true rfl) (Nat.le_of_ble_eq_true rfl) (by obtain ⟨rfl, rfl, hx⟩ := hx; exact ⟨rfl, Or.inl ⟨rfl, by unfold kDrive; split <;> (try split) <;> (try split) <;> omega⟩⟩)) (fun z1 w9 hp2 => ?_)
  obtain ⟨rfl, hrz1, rfl⟩ := hp2
  obtain ⟨hWc, ⟨cO, cR⟩, c0, c1, c2, c3, ⟨dO, dN⟩, dV⟩ := hCa c (by omega) (by omega)
  have hWc2 := hWc
  obtain ⟨⟨⟨wL, wG, wK⟩, w40⟩, w41, w42, w43, w44, ⟨⟨aL, aG, aK⟩, aN⟩, hp⟩ := hWc2
  have k44 := w44.trans (clk_v (st := st) (c := c) (by omega))
  have k42 := w42.trans (cel_v hI (c := c) (by omega))
  have hk9 := clk_b hI (c := c) (by omega) (by omega)
  have hct := I_c hI c (by omega) (by omega)
  have bNc := vN_t (st := st) (c := c) (by omega)
  have bLc : vL c = 60 := by unfold vL; rw [if_neg (by omega)]
  refine sw_astore (lv' := [(4, .ref (q (30 + c))), (0, .ref (q 0)), (1, .int (J c)), (2, .int (J a)), (3, .int (J b))]) X dX5_drive_5 (by decide) rfl ?_
  refine sw_iload_n X dX5_drive_7 rfl 3 rfl ?_
  refine sw_iconst X dX5_drive_8 ?_
  refine sw_bipush X dX5_drive_9 (by decide +kernel) ?_
  refine sw_callSI0 (As := [.int (J a), .int (J 0), .int (J 15)]) (rest := []) X (c_X5_isWithin l D k (pW k L M) a 0 15 (by omega)) (va_cwS 3 (sw_ts X) (sw_goodS gw1_102 gw1_103 gw1_1 gw1_104) rfl rfl rfl (by decide +kernel) ⟨Nat.le_of_ble_eq_true rfl, Nat.le_of_ble_eq_true rfl⟩) dX5_drive_11 rfl rfl (Nat.le_of_ble_eq_true rfl) ⟨Nat.le_of_ble_eq_true rfl, Nat.le_of_ble_eq_true rfl⟩ (fun z3 w9 hp4 => ?_)
  obtain ⟨rfl, hp4⟩ := hp4
  refine sw_if_eq (tgt := 30) X (by omega) dX5_drive_14 (by decide) (fun h5 => ?_) (fun h5 => ?_)
  · refine sw_iconst X dX5_drive_30 ?_
    refine sw_xSV (As := [.int (J 0)]) (rest := []) X (c_X5_checkArgument l hfl D k (pW k L M) 0 (by omega)) (va_cwS 1 (sw_ts X) (sw_goodS gw1_105 gw1_106 gw1_1 gw1_107) rfl rfl rfl (by decide +kernel) ⟨Nat.le_of_ble_eq_true rfl, Nat.le_of_ble_eq_true rfl⟩) dX5_drive_31 rfl rfl (Nat.le_of_ble_eq_true rfl) ⟨Nat.le_of_ble_eq_true rfl, Nat.le_of_ble_eq_true rfl⟩ (fun E9 w9 hx => XO_ _ _ _ _ _ _ _ (Nat.le_of_ble_eq_true rfl) (Nat.le_of_ble_eq_true rfl) (by obtain ⟨rfl, rfl, hx⟩ := hx; exact ⟨rfl, Or.inr (Or.inl ⟨rfl, by unfold kDrive; split <;> (try split) <;> (try split) <;> omega⟩)⟩)) (fun w9 hp7 => ?_)
    obtain ⟨rfl, hp7⟩ := hp7
    exact absurd hp7 (by decide)
  · refine sw_iload_n X dX5_drive_17 rfl 4 rfl ?_
    refine sw_iconst X dX5_drive_18 ?_
    refine sw_iconst X dX5_drive_19 ?_
    refine sw_callSI0 (As := [.int (J b), .int (J 0), .int (J 3)]) (rest := []) X (c_X5_isWithin l D k (pW k L M) b 0 3 (by omega)) (va_cwS 3 (sw_ts X) (sw_goodS gw1_102 gw1_103 gw1_1 gw1_104) rfl rfl rfl (by decide +kernel) ⟨Nat.le_of_ble_eq_true rfl, Nat.le_of_ble_eq_true rfl⟩) dX5_drive_20 rfl rfl (Nat.le_of_ble_eq_true rfl) ⟨Nat.le_of_ble_eq_true rfl, Nat.le_of_ble_eq_true rfl⟩ (fun z8 w9 hp9 => ?_)
    obtain ⟨rfl, hp9⟩ := hp9
    refine sw_if_eq (tgt := 30) X (by omega) dX5_drive_23 (by decide) (fun h10 => ?_) (fun h10 => ?_)
    · refine sw_iconst X dX5_drive_30 ?_
      refine sw_xSV (As := [.int (J 0)]) (rest := []) X (c_X5_checkArgument l hfl D k (pW k L M) 0 (by omega)) (va_cwS 1 (sw_ts X) (sw_goodS gw1_105 gw1_106 gw1_1 gw1_107) rfl rfl rfl (by decide +kernel) ⟨Nat.le_of_ble_eq_true rfl, Nat.le_of_ble_eq_true rfl⟩) dX5_drive_31 rfl rfl (Nat.le_of_ble_eq_true rfl) ⟨Nat.le_of_ble_eq_true rfl, Nat.le_of_ble_eq_true rfl⟩ (fun E9 w9 hx => XO_ _ _ _ _ _ _ _ (Nat.le_of_ble_eq_true rfl) (Nat.le_of_ble_eq_true rfl) (by obtain ⟨rfl, rfl, hx⟩ := hx; exact ⟨rfl, Or.inr (Or.inl ⟨rfl, by unfold kDrive; split <;> (try split) <;> (try split) <;> omega⟩)⟩)) (fun w9 hp12 => ?_)
      obtain ⟨rfl, hp12⟩ := hp12
      exact absurd hp12 (by decide)
    · refine sw_iconst X dX5_drive_26 ?_
      refine sw_goto (tgt := 31) X dX5_drive_27 (by decide) ?_
      refine sw_xSV (As := [.int (J 1)]) (rest := []) X (c_X5_checkArgument l hfl D k (pW k L M) 1 (by omega)) (va_cwS 1 (sw_ts X) (sw_goodS gw1_105 gw1_106 gw1_1 gw1_107) rfl rfl rfl (by decide +kernel) ⟨Nat.le_of_ble_eq_true rfl, Nat.le_of_ble_eq_true rfl⟩) dX5_drive_31 rfl rfl (Nat.le_of_ble_eq_true rfl) ⟨Nat.le_of_ble_eq_true rfl, Nat.le_of_ble_eq_true rfl⟩ (fun E9 w9 hx => XO_ _ _ _ _ _ _ _ (Nat.le_of_ble_eq_true rfl) (Nat.le_of_ble_eq_true rfl) (by obtain ⟨rfl, rfl, hx⟩ := hx; exact ⟨rfl, Or.inr (Or.inl ⟨rfl, by unfold kDrive; split <;> (try split) <;> (try split) <;> omega⟩)⟩)) (fun w9 hp14 => ?_)
      obtain ⟨rfl, hp14⟩ := hp14
      refine sw_aload X dX5_drive_34 0 rfl ?_
      refine px_callVI (C := RX0) (As := []) (rest := []) X (c_X0_isDown l D k (L) (M) (q (30 + c)) ⟨cO.1, cO.2.2⟩ (by rw [show (M) 2 (q (30 + c)) 0 = st 14 c from c2]; omega)) (cwV 0 (sw_ts X) (sw_goodV gw2_145 gw2_146 gw2_147 gw1_12 gw2_148) rfl rfl rfl (by decide +kernel) ⟨Nat.le_of_ble_eq_true rfl, Nat.le_of_ble_eq_true rfl⟩) ⟨cO.1, cO.2.2⟩ (by decide) rfl rfl dX5_drive_36 rfl rfl (Nat.le_of_ble_eq_true rfl) ⟨Nat.le_of_ble_eq_true rfl, Nat.le_of_ble_eq_true rfl⟩ (fun z15 w9 hp16 => ?_)
      obtain ⟨rfl, hp16⟩ := hp16
      rw [show (M) 2 (q (30 + c)) 0 = st 14 c from c2] at hp16
      refine sw_if_ne (tgt := 69) X (by omega) dX5_drive_39 (by decide) (fun h17 => ?_) (fun h17 => ?_)
      · refine sw_iconst X dX5_drive_69 ?_
        refine sw_xSV (As := [.int (J 0)]) (rest := []) X (c_X5_checkState l hfl D k (pW k L M) 0 (by omega)) (va_cwS 1 (sw_ts X) (sw_goodS gw1_177 gw1_178 gw1_1 gw1_179) rfl rfl rfl (by decide +kernel) ⟨Nat.le_of_ble_eq_true rfl, Nat.le_of_ble_eq_true rfl⟩) dX5_drive_70 rfl rfl (Nat.le_of_ble_eq_true rfl) ⟨Nat.le_of_ble_eq_true rfl, Nat.le_of_ble_eq_true rfl⟩ (fun E9 w9 hx => XO_ _ _ _ _ _ _ _ (Nat.le_of_ble_eq_true rfl) (Nat.le_of_ble_eq_true rfl) (by obtain ⟨rfl, rfl, hx⟩ := hx; exact ⟨rfl, Or.inr (Or.inr (⟨rfl, by unfold kDrive; split <;> (try split) <;> (try split) <;> omega⟩))⟩)) (fun w9 hp19 => ?_)
        obtain ⟨rfl, hp19⟩ := hp19
        exact absurd hp19 (by decide)
      · refine sw_aload X dX5_drive_42 0 rfl ?_
        refine px_getN (n := "") (d := "") (v := .ref (q (10 + c))) X iw_X0 cO.1 (by decide) cO.2.2 rfl 0 (by decide) (List.mem_of_getElem? (i := 14) rfl) rfl (congrArg some (rf_of c0)) dX5_drive_44 ?_
        refine px_callVI (C := RX4) (As := []) (rest := []) X (c_X4_isFull l D k N st q (L) (M) (c) hI (by omega) (hWc)) (cwV 0 (sw_ts X) (sw_goodV gw1_207 gw1_208 gw1_209 gw1_2 gw1_210) rfl rfl rfl (by decide +kernel) ⟨Nat.le_of_ble_eq_true rfl, Nat.le_of_ble_eq_true rfl⟩) ⟨wL, wK⟩ (by decide) rfl rfl dX5_drive_47 rfl rfl (Nat.le_of_ble_eq_true rfl) ⟨Nat.le_of_ble_eq_true rfl, Nat.le_of_ble_eq_true rfl⟩ (fun z20 w9 hp21 => ?_)
        obtain ⟨rfl, hp21⟩ := hp21
        refine sw_if_ne (tgt := 69) X (by omega) dX5_drive_50 (by decide) (fun h22 => ?_) (fun h22 => ?_)
        · refine sw_iconst X dX5_drive_69 ?_
          refine sw_xSV (As := [.int (J 0)]) (rest := []) X (c_X5_checkState l hfl D k (pW k L M) 0 (by omega)) (va_cwS 1 (sw_ts X) (sw_goodS gw1_177 gw1_178 gw1_1 gw1_179) rfl rfl rfl (by decide +kernel) ⟨Nat.le_of_ble_eq_true rfl, Nat.le_of_ble_eq_true rfl⟩) dX5_drive_70 rfl rfl (Nat.le_of_ble_eq_true rfl) ⟨Nat.le_of_ble_eq_true rfl, Nat.le_of_ble_eq_true rfl⟩ (fun E9 w9 hx => XO_ _ _ _ _ _ _ _ (Nat.le_of_ble_eq_true rfl) (Nat.le_of_ble_eq_true rfl) (by obtain ⟨rfl, rfl, hx⟩ := hx; exact ⟨rfl, Or.inr (Or.inr (⟨rfl, by unfold kDrive; split <;> (try split) <;> (try split) <;> omega⟩))⟩)) (fun w9 hp24 => ?_)
          obtain ⟨rfl, hp24⟩ := hp24
          exact absurd hp24 (by decide)
        · refine sw_aload X dX5_drive_53 0 rfl ?_
          refine px_getN (n := "") (d := "") (v := .ref (q (10 + c))) X iw_X0 cO.1 (by decide) cO.2.2 rfl 0 (by decide) (List.mem_of_getElem? (i := 14) rfl) rfl (congrArg some (rf_of c0)) dX5_drive_55 ?_
          refine sw_iload_n X dX5_drive_58 rfl 3 rfl ?_
          refine px_callVI (C := RX4) (As := [.int (J a)]) (rest := []) X (c_X4_staysOnGround l D k N st q (L) (M) (c) a hI (by omega) (hWc) (by omega)) (cwV 1 (sw_ts X) (sw_goodV gw1_211 gw1_212 gw1_213 gw1_2 gw1_214) rfl rfl rfl (by decide +kernel) ⟨Nat.le_of_ble_eq_true rfl, Nat.le_of_ble_eq_true rfl⟩) ⟨wL, wK⟩ (by decide) rfl rfl dX5_drive_59 rfl rfl (Nat.le_of_ble_eq_true rfl) ⟨Nat.le_of_ble_eq_true rfl, Nat.le_of_ble_eq_true rfl⟩ (fun z25 w9 hp26 => ?_)
          obtain ⟨rfl, hp26⟩ := hp26
          rw [on_c (by omega)] at hp26
          refine sw_if_eq (tgt := 69) X (by omega) dX5_drive_62 (by decide) (fun h27 => ?_) (fun h27 => ?_)
          · refine sw_iconst X dX5_drive_69 ?_
            refine sw_xSV (As := [.int (J 0)]) (rest := []) X (c_X5_checkState l hfl D k (pW k L M) 0 (by omega)) (va_cwS 1 (sw_ts X) (sw_goodS gw1_177 gw1_178 gw1_1 gw1_179) rfl rfl rfl (by decide +kernel) ⟨Nat.le_of_ble_eq_true rfl, Nat.le_of_ble_eq_true rfl⟩) dX5_drive_70 rfl rfl (Nat.le_of_ble_eq_true rfl) ⟨Nat.le_of_ble_eq_true rfl, Nat.le_of_ble_eq_true rfl⟩ (fun E9 w9 hx => XO_ _ _ _ _ _ _ _ (Nat.le_of_ble_eq_true rfl) (Nat.le_of_ble_eq_true rfl) (by obtain ⟨rfl, rfl, hx⟩ := hx; exact ⟨rfl, Or.inr (Or.inr (⟨rfl, by unfold kDrive; split <;> (try split) <;> (try split) <;> omega⟩))⟩)) (fun w9 hp29 => ?_)
            obtain ⟨rfl, hp29⟩ := hp29
            exact absurd hp29 (by decide)
          · refine sw_iconst X dX5_drive_65 ?_
            refine sw_goto (tgt := 70) X dX5_drive_66 (by decide) ?_
            refine sw_xSV (As := [.int (J 1)]) (rest := []) X (c_X5_checkState l hfl D k (pW k L M) 1 (by omega)) (va_cwS 1 (sw_ts X) (sw_goodS gw1_177 gw1_178 gw1_1 gw1_179) rfl rfl rfl (by decide +kernel) ⟨Nat.le_of_ble_eq_true rfl, Nat.le_of_ble_eq_true rfl⟩) dX5_drive_70 rfl rfl (Nat.le_of_ble_eq_true rfl) ⟨Nat.le_of_ble_eq_true rfl, Nat.le_of_ble_eq_true rfl⟩ (fun E9 w9 hx => XO_ _ _ _ _ _ _ _ (Nat.le_of_ble_eq_true rfl) (Nat.le_of_ble_eq_true rfl) (by obtain ⟨rfl, rfl, hx⟩ := hx; exact ⟨rfl, Or.inr (Or.inr (⟨rfl, by unfold kDrive; split <;> (try split) <;> (try split) <;> omega⟩))⟩)) (fun w9 hp31 => ?_)
            obtain ⟨rfl, hp31⟩ := hp31
            refine sw_aload X dX5_drive_73 0 rfl ?_
            refine px_getN (n := "") (d := "") (v := .ref (q (10 + c))) X iw_X0 cO.1 (by decide) cO.2.2 rfl 0 (by decide) (List.mem_of_getElem? (i := 14) rfl) rfl (congrArg some (rf_of c0)) dX5_drive_75 ?_
            refine sw_iload_n X dX5_drive_78 rfl 3 rfl ?_
            refine sw_iload_n X dX5_drive_79 rfl 4 rfl ?_
            refine px_callVV (C := RX4) (As := [.int (J a), .int (J b)]) (rest := []) X (c_X4_goOn l D k N st q (L) (M) (c) a b hI (by omega) (hWc) (by omega) (by omega) (by omega)) (cwV 2 (sw_ts X) (sw_goodV gw1_220 gw1_221 gw1_222 gw1_2 gw1_223) rfl rfl rfl (by decide +kernel) ⟨Nat.le_of_ble_eq_true rfl, Nat.le_of_ble_eq_true rfl⟩) ⟨wL, wK⟩ (by decide) rfl rfl dX5_drive_80 rfl rfl (Nat.le_of_ble_eq_true rfl) ⟨Nat.le_of_ble_eq_true rfl, Nat.le_of_ble_eq_true rfl⟩ (fun w9 hp33 => ?_)
            obtain ⟨p34, hp34, rfl⟩ := hp33
            have f0 := ap_o (M := M) (b := vM st c (vN st c).toNat) (m := a) (cl := clO (vP st c (vN st c).toNat)) (h := (vP st c (vN st c).toNat).2.2) (t := b) (d := 1) (n := vN st c) (sw_ne cO.1 hp34) (ob_ne cO ⟨wL, wG, wK⟩ (by omega)) (ob_ne cO ⟨aL, aG, aK⟩ (by omega))
            have kc90 := (f0 90 0).trans cO.2.2
            have kc0 := (f0 0 0).trans c0
            have fw := ap_w (M := M) (b := vM st c (vN st c).toNat) (m := a) (cl := clO (vP st c (vN st c).toNat)) (h := (vP st c (vN st c).toNat).2.2) (t := b) (d := 1) (aa := q (20 + c)) (n := vN st c) (sw_ne wL hp34)
            have kw90 := fw.1.trans wK
            have kw44 := fw.2.2.trans (show _ = clk st c + a by rw [clk_v (by omega)])
            refine sw_aload X dX5_drive_83 0 rfl ?_
            refine px_getN (M := apM M p34 (vM st (c) (vN st (c)).toNat) a (clO (vP st (c) (vN st (c)).toNat)) (vP st (c) (vN st (c)).toNat).2.2 b 1 (q (10 + c)) (q (20 + c)) (vN st (c))) (n := "") (d := "") (v := .ref (q (10 + c))) X iw_X0 (List.mem_append_left _ cO.1) (by decide) kc90 rfl 0 (by decide) (List.mem_of_getElem? (i := 14) rfl) rfl (congrArg some (rf_of kc0)) dX5_drive_85 ?_
            refine px_getN (M := apM M p34 (vM st (c) (vN st (c)).toNat) a (clO (vP st (c) (vN st (c)).toNat)) (vP st (c) (vN st (c)).toNat).2.2 b 1 (q (10 + c)) (q (20 + c)) (vN st (c))) (n := "") (d := "") (v := .int (J (clk st c + a))) X iw_X4 (List.mem_append_left _ wL) (by decide) kw90 rfl 4 (by decide) (List.mem_of_getElem? (i := 2) rfl) rfl (congrArg (fun z => some (Value.int (J z))) kw44) dX5_drive_88 ?_
            exact RI _ _ _ _ _ _ dX5_drive_91 (Nat.le_of_ble_eq_true rfl) (Nat.le_of_ble_eq_true rfl) rfl ⟨by unfold kDrive; split <;> (try split) <;> (try split) <;> omega, (clk_ap hI (by omega) (by omega)).symm, _, _, _, pW_80 k _ _ p34 0 _, upq_n _ _ (by omega), CW_piece hI hC (by omega) (by omega) hp34 (Or.inr ⟨by omega, rfl⟩)⟩
abbrev rm_X5_stand : Room := { frames := 7, cells := 4, slots := 24, locals := 104 }
set_option maxHeartbeats 4000000 in
set_option maxRecDepth 100000 in
theorem c_X5_stand (l : Launch) (hfl : l.stackTraces = false) (D : va_G) (k : Nat → ClassId) (N : Int) (st : ST) (q : Int → Nat) (L : List Nat) (M : MM) (c a : Int) (hI : I6 N st) (hC : CW st q L M) (h_c : (-2147483648 ≤ c ∧ c < 2147483648)) (h_a : (-2147483648 ≤ a ∧ a < 2147483648)) : XI l yX5_stand cX5_stand 4 (some .int) rm_X5_stand D k [.ref (q 0), .int (J c), .int (J a)] (pW k L M) (xP k q (aP st c (-1) a 0) (kStand st c a) (clk (aP st c (-1) a 0) c)) (fun E w' => w' = pW k L M ∧ ((E = "java/lang/IndexOutOfBoundsException" ∧ kStand st c a = 1) ∨ (E = "java/lang/IllegalArgumentException" ∧ kStand st c a = 2) ∨ (E = "java/lang/IllegalStateException" ∧ kStand st c a = 3))) := by
  refine XI.of hfl (by decide +kernel) rfl (Nat.le_of_ble_eq_true rfl) (fun pᵢ eᵢ sᵢ mᵢ argsᵢ belowᵢ methᵢ cᵢ Aᵢ Qᵢ X RI XO_ XT_ => ?_)
  show SW pᵢ l eᵢ rm_X5_stand sᵢ mᵢ argsᵢ belowᵢ methᵢ cᵢ 4 D Aᵢ 0 0 Qᵢ (pW k L M) 0 [(0, .ref (q 0)), (1, .int (J c)), (2, .int (J a))] []
  have hC2 := hC
  obtain ⟨⟨⟨o0, o1, o2, o3, o4⟩, ⟨n1, n2, n3, n4⟩, ⟨r51, r52, r55, r57, r59⟩, v50, v53, v54, v56, v58⟩, hBk, hCa, hGa, hPa⟩ := hC2
  have i1 := I_st hI
  have i2 := I_en hI
  have i5 := I_ga hI
  have i8 := I_cu hI
  have i9 := I_ca hI
  have i17 := I_pa hI
  refine sw_aload_n X dX5_stand_0 rfl 0 rfl ?_
  refine sw_iload_n X dX5_stand_1 rfl 1 rfl ?_
  refine px_xVQ (C := RX5) (As := [.int (J c)]) (rest := []) X (c_X5_carAt l hfl D k N st q (L) (M) c hI hC (by omega)) (cwV 1 (sw_ts X) (sw_goodV gw2_136 gw2_138 gws_5 gw1_1 gw2_139) rfl rfl rfl (by decide +kernel) ⟨Nat.le_of_ble_eq_true rfl, Nat.le_of_ble_eq_true rfl⟩) ⟨o0.1, o0.2.2⟩ (by decide) rfl rfl dX5_stand_2 rfl rfl (Nat.le_of_ble_eq_true rfl) ⟨Nat.le_of_ble_eq_true rfl, Nat.le_of_ble_eq_true rfl⟩ (fun E9 w9 hx => XO_ _ _ _ _ _ _ _ (Nat.le_of_ble_eq_true rfl) (Nat.le_of_ble_eq_true rfl) (by obtain ⟨rfl, rfl, hx⟩ := hx; exact ⟨rfl, Or.inl ⟨rfl, by unfold kStand; split <;> (try split) <;> (try split) <;> omega⟩⟩)) (fun z1 w9 hp2 => ?_)
  obtain ⟨rfl, hrz1, rfl⟩ := hp2
  obtain ⟨hWc, ⟨cO, cR⟩, c0, c1, c2, c3, ⟨dO, dN⟩, dV⟩ := hCa c (by omega) (by omega)
  have hWc2 := hWc
  obtain ⟨⟨⟨wL, wG, wK⟩, w40⟩, w41, w42, w43, w44, ⟨⟨aL, aG, aK⟩, aN⟩, hp⟩ := hWc2
  have k44 := w44.trans (clk_v (st := st) (c := c) (by omega))
  have k42 := w42.trans (cel_v hI (c := c) (by omega))
  have hk9 := clk_b hI (c := c) (by omega) (by omega)
  have hct := I_c hI c (by omega) (by omega)
  have bNc := vN_t (st := st) (c := c) (by omega)
  have bLc : vL c = 60 := by unfold vL; rw [if_neg (by omega)]
  refine sw_astore_n (lv' := [(3, .ref (q (30 + c))), (0, .ref (q 0)), (1, .int (J c)), (2, .int (J a))]) X dX5_stand_5 rfl (by decide) rfl ?_
  refine sw_iload_n X dX5_stand_6 rfl 3 rfl ?_
  refine sw_iconst X dX5_stand_7 ?_
  refine sw_bipush X dX5_stand_8 (by decide +kernel) ?_
  refine sw_callSI0 (As := [.int (J a), .int (J 1), .int (J 100)]) (rest := []) X (c_X5_isWithin l D k (pW k L M) a 1 100 (by omega)) (va_cwS 3 (sw_ts X) (sw_goodS gw1_102 gw1_103 gw1_1 gw1_104) rfl rfl rfl (by decide +kernel) ⟨Nat.le_of_ble_eq_true rfl, Nat.le_of_ble_eq_true rfl⟩) dX5_stand_10 rfl rfl (Nat.le_of_ble_eq_true rfl) ⟨Nat.le_of_ble_eq_true rfl, Nat.le_of_ble_eq_true rfl⟩ (fun z3 w9 hp4 => ?_)
  obtain ⟨rfl, hp4⟩ := hp4
  refine sw_xSV (As := [.int (J z3)]) (rest := []) X (c_X5_checkArgument l hfl D k (pW k L M) z3 (by omega)) (va_cwS 1 (sw_ts X) (sw_goodS gw1_105 gw1_106 gw1_1 gw1_107) rfl rfl rfl (by decide +kernel) ⟨Nat.le_of_ble_eq_true rfl, Nat.le_of_ble_eq_true rfl⟩) dX5_stand_13 rfl rfl (Nat.le_of_ble_eq_true rfl) ⟨Nat.le_of_ble_eq_true rfl, Nat.le_of_ble_eq_true rfl⟩ (fun E9 w9 hx => XO_ _ _ _ _ _ _ _ (Nat.le_of_ble_eq_true rfl) (Nat.le_of_ble_eq_true rfl) (by obtain ⟨rfl, rfl, hx⟩ := hx; exact ⟨rfl, Or.inr (Or.inl ⟨rfl, by unfold kStand; split <;> (try split) <;> (try split) <;> omega⟩)⟩)) (fun w9 hp6 => ?_)
  obtain ⟨rfl, hp6⟩ := hp6
  refine sw_aload_n X dX5_stand_16 rfl 0 rfl ?_
  refine px_getN (n := "") (d := "") (v := .ref (q (10 + c))) X iw_X0 cO.1 (by decide) cO.2.2 rfl 0 (by decide) (List.mem_of_getElem? (i := 14) rfl) rfl (congrArg some (rf_of c0)) dX5_stand_17 ?_
  refine px_callVI (C := RX4) (As := []) (rest := []) X (c_X4_isFull l D k N st q (L) (M) (c) hI (by omega) (hWc)) (cwV 0 (sw_ts X) (sw_goodV gw1_207 gw1_208 gw1_209 gw1_2 gw1_210) rfl rfl rfl (by decide +kernel) ⟨Nat.le_of_ble_eq_true rfl, Nat.le_of_ble_eq_true rfl⟩) ⟨wL, wK⟩ (by decide) rfl rfl dX5_stand_20 rfl rfl (Nat.le_of_ble_eq_true rfl) ⟨Nat.le_of_ble_eq_true rfl, Nat.le_of_ble_eq_true rfl⟩ (fun z7 w9 hp8 => ?_)
  obtain ⟨rfl, hp8⟩ := hp8
  refine sw_if_ne (tgt := 30) X (by omega) dX5_stand_23 (by decide) (fun h9 => ?_) (fun h9 => ?_)
  · refine sw_iconst X dX5_stand_30 ?_
    refine sw_xSV (As := [.int (J 0)]) (rest := []) X (c_X5_checkState l hfl D k (pW k L M) 0 (by omega)) (va_cwS 1 (sw_ts X) (sw_goodS gw1_177 gw1_178 gw1_1 gw1_179) rfl rfl rfl (by decide +kernel) ⟨Nat.le_of_ble_eq_true rfl, Nat.le_of_ble_eq_true rfl⟩) dX5_stand_31 rfl rfl (Nat.le_of_ble_eq_true rfl) ⟨Nat.le_of_ble_eq_true rfl, Nat.le_of_ble_eq_true rfl⟩ (fun E9 w9 hx => XO_ _ _ _ _ _ _ _ (Nat.le_of_ble_eq_true rfl) (Nat.le_of_ble_eq_true rfl) (by obtain ⟨rfl, rfl, hx⟩ := hx; exact ⟨rfl, Or.inr (Or.inr (⟨rfl, by unfold kStand; split <;> (try split) <;> (try split) <;> omega⟩))⟩)) (fun w9 hp11 => ?_)
    obtain ⟨rfl, hp11⟩ := hp11
    exact absurd hp11 (by decide)
  · refine sw_iconst X dX5_stand_26 ?_
    refine sw_goto (tgt := 31) X dX5_stand_27 (by decide) ?_
    refine sw_xSV (As := [.int (J 1)]) (rest := []) X (c_X5_checkState l hfl D k (pW k L M) 1 (by omega)) (va_cwS 1 (sw_ts X) (sw_goodS gw1_177 gw1_178 gw1_1 gw1_179) rfl rfl rfl (by decide +kernel) ⟨Nat.le_of_ble_eq_true rfl, Nat.le_of_ble_eq_true rfl⟩) dX5_stand_31 rfl rfl (Nat.le_of_ble_eq_true rfl) ⟨Nat.le_of_ble_eq_true rfl, Nat.le_of_ble_eq_true rfl⟩ (fun E9 w9 hx => XO_ _ _ _ _ _ _ _ (Nat.le_of_ble_eq_true rfl) (Nat.le_of_ble_eq_true rfl) (by obtain ⟨rfl, rfl, hx⟩ := hx; exact ⟨rfl, Or.inr (Or.inr (⟨rfl, by unfold kStand; split <;> (try split) <;> (try split) <;> omega⟩))⟩)) (fun w9 hp13 => ?_)
    obtain ⟨rfl, hp13⟩ := hp13
    refine sw_aload_n X dX5_stand_34 rfl 0 rfl ?_
    refine px_getN (n := "") (d := "") (v := .ref (q (10 + c))) X iw_X0 cO.1 (by decide) cO.2.2 rfl 0 (by decide) (List.mem_of_getElem? (i := 14) rfl) rfl (congrArg some (rf_of c0)) dX5_stand_35 ?_
    refine sw_iload_n X dX5_stand_38 rfl 3 rfl ?_
    refine px_callVV (C := RX4) (As := [.int (J a)]) (rest := []) X (c_X4_stay l D k N st q (L) (M) (c) a hI (by omega) (hWc) (by omega) (by omega)) (cwV 1 (sw_ts X) (sw_goodV gw2_156 gw2_157 gw2_158 gw1_2 gw2_159) rfl rfl rfl (by decide +kernel) ⟨Nat.le_of_ble_eq_true rfl, Nat.le_of_ble_eq_true rfl⟩) ⟨wL, wK⟩ (by decide) rfl rfl dX5_stand_39 rfl rfl (Nat.le_of_ble_eq_true rfl) ⟨Nat.le_of_ble_eq_true rfl, Nat.le_of_ble_eq_true rfl⟩ (fun w9 hp15 => ?_)
    obtain ⟨p16, hp16, rfl⟩ := hp15
    have f0 := ap_o (M := M) (b := vM st c (vN st c).toNat) (m := a) (cl := clO (vP st c (vN st c).toNat)) (h := (vP st c (vN st c).toNat).2.2) (t := 0) (d := 0) (n := vN st c) (sw_ne cO.1 hp16) (ob_ne cO ⟨wL, wG, wK⟩ (by omega)) (ob_ne cO ⟨aL, aG, aK⟩ (by omega))
    have kc90 := (f0 90 0).trans cO.2.2
    have kc0 := (f0 0 0).trans c0
    have fw := ap_w (M := M) (b := vM st c (vN st c).toNat) (m := a) (cl := clO (vP st c (vN st c).toNat)) (h := (vP st c (vN st c).toNat).2.2) (t := 0) (d := 0) (aa := q (20 + c)) (n := vN st c) (sw_ne wL hp16)
    have kw90 := fw.1.trans wK
    have kw44 := fw.2.2.trans (show _ = clk st c + a by rw [clk_v (by omega)])
    refine sw_aload_n X dX5_stand_42 rfl 0 rfl ?_
    refine px_getN (M := apM M p16 (vM st (c) (vN st (c)).toNat) a (clO (vP st (c) (vN st (c)).toNat)) (vP st (c) (vN st (c)).toNat).2.2 0 0 (q (10 + c)) (q (20 + c)) (vN st (c))) (n := "") (d := "") (v := .ref (q (10 + c))) X iw_X0 (List.mem_append_left _ cO.1) (by decide) kc90 rfl 0 (by decide) (List.mem_of_getElem? (i := 14) rfl) rfl (congrArg some (rf_of kc0)) dX5_stand_43 ?_
    refine px_getN (M := apM M p16 (vM st (c) (vN st (c)).toNat) a (clO (vP st (c) (vN st (c)).toNat)) (vP st (c) (vN st (c)).toNat).2.2 0 0 (q (10 + c)) (q (20 + c)) (vN st (c))) (n := "") (d := "") (v := .int (J (clk st c + a))) X iw_X4 (List.mem_append_left _ wL) (by decide) kw90 rfl 4 (by decide) (List.mem_of_getElem? (i := 2) rfl) rfl (congrArg (fun z => some (Value.int (J z))) kw44) dX5_stand_46 ?_
    exact RI _ _ _ _ _ _ dX5_stand_49 (Nat.le_of_ble_eq_true rfl) (Nat.le_of_ble_eq_true rfl) rfl ⟨by unfold kStand; split <;> (try split) <;> (try split) <;> omega, (clk_ap hI (by omega) (by omega)).symm, _, _, _, pW_80 k _ _ p16 0 _, upq_n _ _ (by omega), CW_piece hI hC (by omega) (by omega) hp16 (Or.inl ⟨rfl, rfl⟩)⟩
