/-! the object's own small methods -/
theorem pas_l {st : ST} {c g v : Int} {n : Nat} (hn : (n : Int) = g + 1) (hg : 0 ≤ g) (hv : v = (pasL st c n).2) : v = pas st c g := by
  unfold pas
  rw [hv, show n = g.toNat + 1 by omega]
theorem gt_p {st : ST} {c g tm : Int} (h : tm = tim st c g) : gtP (gD st g) tm = pG st c g := by
  unfold gtP pG
  rw [← h]
  by_cases h1 : tm = -1
  · rw [if_pos h1, if_pos h1, if_neg (by decide)]
  · rw [if_neg h1, if_neg h1]
    by_cases h2 : tm - gD st g < 0
    · rw [if_pos h2, if_pos h2, show -(tm - gD st g) * 2 = -2 * (tm - gD st g) by omega]
    · rw [if_neg h2, if_neg h2]
theorem mx_p {a b : Int} (ha : 0 ≤ a) (hb : b = -1 ∨ a ≤ b) : (if a < b then b else a) = if b = -1 then a else b := by
  split <;> split <;> omega
abbrev rm_X5_isCar : Room := { frames := 1, cells := 0, slots := 0, locals := 22 }
set_option maxHeartbeats 4000000 in
set_option maxRecDepth 100000 in
theorem c_X5_isCar (l : Launch) (D : va_G) (k : Nat → ClassId) (N : Int) (st : ST) (q : Int → Nat) (L : List Nat) (M : MM) (i : Int) (hI : I6 N st) (hC : CW st q L M) (hi : (-2147483648 ≤ i ∧ i < 2147483648)) : CI l yX5_isCar cX5_isCar 2 (some .boolean) rm_X5_isCar D k [.ref (q 0), .int (J i)] (pW k L M) (fun z w' => w' = pW k L M ∧ ((z = 1 ∧ (0 ≤ i ∧ i < st 9 0)) ∨ (z = 0 ∧ ¬ (0 ≤ i ∧ i < st 9 0)))) := by
  refine CI.of (by decide +kernel) (Nat.le_of_ble_eq_true rfl) (fun pᵢ eᵢ sᵢ mᵢ argsᵢ belowᵢ methᵢ cᵢ Aᵢ Qᵢ X RI => ?_)
  show SW pᵢ l eᵢ rm_X5_isCar sᵢ mᵢ argsᵢ belowᵢ methᵢ cᵢ 2 D Aᵢ 0 0 Qᵢ (pW k L M) 0 [(0, .ref (q 0)), (1, .int (J i))] []
  have hC2 := hC
  obtain ⟨⟨⟨o0, o1, o2, o3, o4⟩, ⟨n1, n2, n3, n4⟩, ⟨r51, r52, r55, r57, r59⟩, v50, v53, v54, v56, v58⟩, hBk, hCa, hGa, hPa⟩ := hC2
  have i1 := I_st hI
  have i2 := I_en hI
  have i5 := I_ga hI
  have i8 := I_cu hI
  have i9 := I_ca hI
  have i17 := I_pa hI
  refine sw_iload_n X dX5_isCar_0 rfl 1 rfl ?_
  refine sw_iconst X dX5_isCar_1 ?_
  refine sw_aload_n X dX5_isCar_2 rfl 0 rfl ?_
  refine px_get (v := .int (J (st 9 0))) X iw_X5 o0.1 (by decide) o0.2.2 rfl 6 (by decide) gw1_63 rfl (congrArg (fun z => some (Value.int (J z))) v56) dX5_isCar_3 ?_
  refine sw_iconst X dX5_isCar_6 ?_
  refine sw_isub X dX5_isCar_7 ?_
  refine sw_callSI0 (As := [.int (J i), .int (J 0), .int (J ((st 9 0) - 1))]) (rest := []) X (c_X5_isWithin l D k (pW k L M) i 0 ((st 9 0) - 1) (by omega)) (va_cwS 3 (sw_ts X) (sw_goodS gw1_102 gw1_103 gw1_1 gw1_104) rfl rfl rfl (by decide +kernel) ⟨Nat.le_of_ble_eq_true rfl, Nat.le_of_ble_eq_true rfl⟩) dX5_isCar_8 rfl rfl (Nat.le_of_ble_eq_true rfl) ⟨Nat.le_of_ble_eq_true rfl, Nat.le_of_ble_eq_true rfl⟩ (fun z1 w9 hp2 => ?_)
  obtain ⟨rfl, hp2⟩ := hp2
  exact RI _ _ _ _ _ _ dX5_isCar_11 (Nat.le_of_ble_eq_true rfl) (Nat.le_of_ble_eq_true rfl) (nar_b (by omega)) ⟨rfl, by omega⟩
abbrev rm_X5_isPlace : Room := { frames := 2, cells := 0, slots := 0, locals := 43 }
set_option maxHeartbeats 4000000 in
set_option maxRecDepth 100000 in
theorem c_X5_isPlace (l : Launch) (D : va_G) (k : Nat → ClassId) (N : Int) (st : ST) (q : Int → Nat) (L : List Nat) (M : MM) (i : Int) (hI : I6 N st) (hC : CW st q L M) (hi : (-2147483648 ≤ i ∧ i < 2147483648)) : CI l yX5_isPlace cX5_isPlace 2 (some .boolean) rm_X5_isPlace D k [.ref (q 0), .int (J i)] (pW k L M) (fun z w' => w' = pW k L M ∧ ((z = 1 ∧ (i = -1 ∨ (0 ≤ i ∧ i < st 9 0))) ∨ (z = 0 ∧ ¬ (i = -1 ∨ (0 ≤ i ∧ i < st 9 0))))) := by
  refine CI.of (by decide +kernel) (Nat.le_of_ble_eq_true rfl) (fun pᵢ eᵢ sᵢ mᵢ argsᵢ belowᵢ methᵢ cᵢ Aᵢ Qᵢ X RI => ?_)
  show SW pᵢ l eᵢ rm_X5_isPlace sᵢ mᵢ argsᵢ belowᵢ methᵢ cᵢ 2 D Aᵢ 0 0 Qᵢ (pW k L M) 0 [(0, .ref (q 0)), (1, .int (J i))] []
  have hC2 := hC
  obtain ⟨⟨⟨o0, o1, o2, o3, o4⟩, ⟨n1, n2, n3, n4⟩, ⟨r51, r52, r55, r57, r59⟩, v50, v53, v54, v56, v58⟩, hBk, hCa, hGa, hPa⟩ := hC2
  have i1 := I_st hI
  have i2 := I_en hI
  have i5 := I_ga hI
  have i8 := I_cu hI
  have i9 := I_ca hI
  have i17 := I_pa hI
  refine sw_iload_n X dX5_isPlace_0 rfl 1 rfl ?_
  refine sw_iconst X dX5_isPlace_1 ?_
  refine sw_icmp_eq (tgt := 13) X (by omega) (by omega) dX5_isPlace_2 (by decide) (fun h1 => ?_) (fun h1 => ?_)
  · refine sw_iconst X dX5_isPlace_13 ?_
    refine sw_goto (tgt := 18) X dX5_isPlace_14 (by decide) ?_
    exact RI _ _ _ _ _ _ dX5_isPlace_18 (Nat.le_of_ble_eq_true rfl) (Nat.le_of_ble_eq_true rfl) rfl ⟨rfl, by omega⟩
  · refine sw_aload_n X dX5_isPlace_5 rfl 0 rfl ?_
    refine sw_iload_n X dX5_isPlace_6 rfl 1 rfl ?_
    refine px_callVI (C := RX5) (As := [.int (J i)]) (rest := []) X (c_X5_isCar l D k N st q (L) (M) i hI hC (by omega)) (cwV 1 (sw_ts X) (sw_goodV gw2_140 gw2_142 gws_6 gw1_1 gw2_143) rfl rfl rfl (by decide +kernel) ⟨Nat.le_of_ble_eq_true rfl, Nat.le_of_ble_eq_true rfl⟩) ⟨o0.1, o0.2.2⟩ (by decide) rfl rfl dX5_isPlace_7 rfl rfl (Nat.le_of_ble_eq_true rfl) ⟨Nat.le_of_ble_eq_true rfl, Nat.le_of_ble_eq_true rfl⟩ (fun z2 w9 hp3 => ?_)
    obtain ⟨rfl, hp3⟩ := hp3
    refine sw_if_eq (tgt := 17) X (by omega) dX5_isPlace_10 (by decide) (fun h4 => ?_) (fun h4 => ?_)
    · refine sw_iconst X dX5_isPlace_17 ?_
      exact RI _ _ _ _ _ _ dX5_isPlace_18 (Nat.le_of_ble_eq_true rfl) (Nat.le_of_ble_eq_true rfl) rfl ⟨rfl, by omega⟩
    · refine sw_iconst X dX5_isPlace_13 ?_
      refine sw_goto (tgt := 18) X dX5_isPlace_14 (by decide) ?_
      exact RI _ _ _ _ _ _ dX5_isPlace_18 (Nat.le_of_ble_eq_true rfl) (Nat.le_of_ble_eq_true rfl) rfl ⟨rfl, by omega⟩
abbrev rm_X5_checkGate : Room := { frames := 7, cells := 1, slots := 6, locals := 102 }
set_option maxHeartbeats 4000000 in
set_option maxRecDepth 100000 in
theorem c_X5_checkGate (l : Launch) (hfl : l.stackTraces = false) (D : va_G) (k : Nat → ClassId) (N : Int) (st : ST) (q : Int → Nat) (L : List Nat) (M : MM) (i : Int) (hI : I6 N st) (hC : CW st q L M) (hi : (-2147483648 ≤ i ∧ i < 2147483648)) : XV l yX5_checkGate cX5_checkGate 2 none rm_X5_checkGate D k [.ref (q 0), .int (J i)] (pW k L M) (fun w' => w' = pW k L M ∧ (0 ≤ i ∧ i < st 5 0)) (fun E w' => w' = pW k L M ∧ E = "java/lang/IndexOutOfBoundsException" ∧ ¬ (0 ≤ i ∧ i < st 5 0)) := by
  refine XV.of hfl (by decide +kernel) rfl (Nat.le_of_ble_eq_true rfl) (fun pᵢ eᵢ sᵢ mᵢ argsᵢ belowᵢ methᵢ cᵢ Aᵢ Qᵢ X RV XO_ XT_ => ?_)
  show SW pᵢ l eᵢ rm_X5_checkGate sᵢ mᵢ argsᵢ belowᵢ methᵢ cᵢ 2 D Aᵢ 0 0 Qᵢ (pW k L M) 0 [(0, .ref (q 0)), (1, .int (J i))] []
  have hC2 := hC
  obtain ⟨⟨⟨o0, o1, o2, o3, o4⟩, ⟨n1, n2, n3, n4⟩, ⟨r51, r52, r55, r57, r59⟩, v50, v53, v54, v56, v58⟩, hBk, hCa, hGa, hPa⟩ := hC2
  have i1 := I_st hI
  have i2 := I_en hI
  have i5 := I_ga hI
  have i8 := I_cu hI
  have i9 := I_ca hI
  have i17 := I_pa hI
  refine sw_iload_n X dX5_checkGate_0 rfl 1 rfl ?_
  refine sw_iconst X dX5_checkGate_1 ?_
  refine sw_aload_n X dX5_checkGate_2 rfl 0 rfl ?_
  refine px_get (v := .int (J (st 5 0))) X iw_X5 o0.1 (by decide) o0.2.2 rfl 3 (by decide) gw1_60 rfl (congrArg (fun z => some (Value.int (J z))) v53) dX5_checkGate_3 ?_
  refine sw_iconst X dX5_checkGate_6 ?_
  refine sw_isub X dX5_checkGate_7 ?_
  refine sw_callSI0 (As := [.int (J i), .int (J 0), .int (J ((st 5 0) - 1))]) (rest := []) X (c_X5_isWithin l D k (pW k L M) i 0 ((st 5 0) - 1) (by omega)) (va_cwS 3 (sw_ts X) (sw_goodS gw1_102 gw1_103 gw1_1 gw1_104) rfl rfl rfl (by decide +kernel) ⟨Nat.le_of_ble_eq_true rfl, Nat.le_of_ble_eq_true rfl⟩) dX5_checkGate_8 rfl rfl (Nat.le_of_ble_eq_true rfl) ⟨Nat.le_of_ble_eq_true rfl, Nat.le_of_ble_eq_true rfl⟩ (fun z1 w9 hp2 => ?_)
  obtain ⟨rfl, hp2⟩ := hp2
  refine sw_xSV (As := [.int (J z1)]) (rest := []) X (c_X5_checkIndex l hfl D k (pW k L M) z1 (by omega)) (va_cwS 1 (sw_ts X) (sw_goodS gw2_167 gw2_168 gw1_1 gw2_169) rfl rfl rfl (by decide +kernel) ⟨Nat.le_of_ble_eq_true rfl, Nat.le_of_ble_eq_true rfl⟩) dX5_checkGate_11 rfl rfl (Nat.le_of_ble_eq_true rfl) ⟨Nat.le_of_ble_eq_true rfl, Nat.le_of_ble_eq_true rfl⟩ (fun E9 w9 hx => XO_ _ _ _ _ _ _ _ (Nat.le_of_ble_eq_true rfl) (Nat.le_of_ble_eq_true rfl) (by obtain ⟨rfl, rfl, hx⟩ := hx; exact ⟨rfl, rfl, by omega⟩)) (fun w9 hp4 => ?_)
  obtain ⟨rfl, hp4⟩ := hp4
  exact RV _ _ _ _ _ dX5_checkGate_14 (Nat.le_of_ble_eq_true rfl) (Nat.le_of_ble_eq_true rfl) ⟨rfl, by omega⟩
abbrev rm_X5_gateAt : Room := { frames := 6, cells := 1, slots := 6, locals := 82 }
set_option maxHeartbeats 4000000 in
set_option maxRecDepth 100000 in
theorem c_X5_gateAt (l : Launch) (hfl : l.stackTraces = false) (D : va_G) (k : Nat → ClassId) (N : Int) (st : ST) (q : Int → Nat) (L : List Nat) (M : MM) (i : Int) (hI : I6 N st) (hC : CW st q L M) (hi : (-2147483648 ≤ i ∧ i < 2147483648)) : XQ l yX5_gateAt cX5_gateAt 3 (some (.object "OriginRally$Gate")) rm_X5_gateAt D k [.ref (q 0), .int (J i)] (pW k L M) (fun r w' => w' = pW k L M ∧ (0 ≤ i ∧ i < st 5 0) ∧ r = some (q (50 + i))) (fun E w' => w' = pW k L M ∧ E = "java/lang/IndexOutOfBoundsException" ∧ ¬ (0 ≤ i ∧ i < st 5 0)) := by
  refine XQ.of hfl (by decide +kernel) rfl (Nat.le_of_ble_eq_true rfl) (fun pᵢ eᵢ sᵢ mᵢ argsᵢ belowᵢ methᵢ cᵢ Aᵢ Qᵢ X RI XO_ XT_ => ?_)
  show SW pᵢ l eᵢ rm_X5_gateAt sᵢ mᵢ argsᵢ belowᵢ methᵢ cᵢ 3 D Aᵢ 0 0 Qᵢ (pW k L M) 0 [(0, .ref (q 0)), (1, .int (J i))] []
  have hC2 := hC
  obtain ⟨⟨⟨o0, o1, o2, o3, o4⟩, ⟨n1, n2, n3, n4⟩, ⟨r51, r52, r55, r57, r59⟩, v50, v53, v54, v56, v58⟩, hBk, hCa, hGa, hPa⟩ := hC2
  have i1 := I_st hI
  have i2 := I_en hI
  have i5 := I_ga hI
  have i8 := I_cu hI
  have i9 := I_ca hI
  have i17 := I_pa hI
  refine sw_iload_n X dX5_gateAt_0 rfl 1 rfl ?_
  refine sw_iconst X dX5_gateAt_1 ?_
  refine sw_aload_n X dX5_gateAt_2 rfl 0 rfl ?_
  refine px_get (v := .int (J (st 5 0))) X iw_X5 o0.1 (by decide) o0.2.2 rfl 3 (by decide) gw1_60 rfl (congrArg (fun z => some (Value.int (J z))) v53) dX5_gateAt_3 ?_
  refine sw_iconst X dX5_gateAt_6 ?_
  refine sw_isub X dX5_gateAt_7 ?_
  refine sw_callSI0 (As := [.int (J i), .int (J 0), .int (J ((st 5 0) - 1))]) (rest := []) X (c_X5_isWithin l D k (pW k L M) i 0 ((st 5 0) - 1) (by omega)) (va_cwS 3 (sw_ts X) (sw_goodS gw1_102 gw1_103 gw1_1 gw1_104) rfl rfl rfl (by decide +kernel) ⟨Nat.le_of_ble_eq_true rfl, Nat.le_of_ble_eq_true rfl⟩) dX5_gateAt_8 rfl rfl (Nat.le_of_ble_eq_true rfl) ⟨Nat.le_of_ble_eq_true rfl, Nat.le_of_ble_eq_true rfl⟩ (fun z1 w9 hp2 => ?_)
  obtain ⟨rfl, hp2⟩ := hp2
  refine sw_if_eq (tgt := 23) X (by omega) dX5_gateAt_11 (by decide) (fun h3 => ?_) (fun h3 => ?_)
  · refine sw_null X dX5_gateAt_23 ?_
    refine sw_astore_nN (lv' := [(2, .null), (0, .ref (q 0)), (1, .int (J i))]) X dX5_gateAt_24 rfl (by decide) rfl ?_
    refine sw_aload_nN X dX5_gateAt_25 rfl 0 rfl ?_
    refine sw_ifnonnullN X dX5_gateAt_26 ?_
    exact XT_ _ _ _ 218 238 222 _ _ _ _ _ (by decide +kernel) (List.mem_of_getElem? (i := 5) rfl) gw2_47 gw1_10 thA0 thB0 (List.mem_of_getElem? (i := 0) rfl) thC0 dX5_gateAt_29 dX5_gateAt_32 dX5_gateAt_33 dX5_gateAt_35 dX5_gateAt_38 (by decide) (Nat.le_of_ble_eq_true rfl) (Nat.le_of_ble_eq_true rfl) (Nat.le_of_ble_eq_true rfl) ⟨rfl, rfl, by omega⟩
  · refine sw_aload_n X dX5_gateAt_14 rfl 0 rfl ?_
    refine px_get (v := .ref (q 1)) X iw_X5 o0.1 (by decide) o0.2.2 rfl 2 (by decide) gw1_59 rfl (congrArg some (rf_of r52)) dX5_gateAt_15 ?_
    refine sw_iload_n X dX5_gateAt_18 rfl 1 rfl ?_
    refine px_aald (v := .ref (q (50 + i))) X 3 (by decide) rfl o1.1 o1.2.2 n1 (by omega) (by omega) (by omega) (rf_of ((hGa i (by omega) (by omega)).1.2)) dX5_gateAt_19 ?_
    refine sw_goto (tgt := 24) X dX5_gateAt_20 (by decide) ?_
    refine sw_astore_n (lv' := [(2, .ref (q (50 + i))), (0, .ref (q 0)), (1, .int (J i))]) X dX5_gateAt_24 rfl (by decide) rfl ?_
    refine sw_aload_n X dX5_gateAt_25 rfl 0 rfl ?_
    refine sw_ifnonnull (tgt := 39) X dX5_gateAt_26 (by decide) ?_
    refine sw_aload_n X dX5_gateAt_39 rfl 0 rfl ?_
    exact RI _ _ _ (some (q (50 + i))) _ _ dX5_gateAt_40 (Nat.le_of_ble_eq_true rfl) (Nat.le_of_ble_eq_true rfl) ⟨rfl, by omega, rfl⟩
abbrev rm_X5_gateAt_n : Room := { frames := 1, cells := 0, slots := 0, locals := 22 }
set_option maxHeartbeats 4000000 in
set_option maxRecDepth 100000 in
theorem c_X5_gateAt_n (l : Launch) (D : va_G) (k : Nat → ClassId) (N : Int) (st : ST) (q : Int → Nat) (L : List Nat) (M : MM) (i : Int) (hI : I6 N st) (hC : CW st q L M) (hi : 0 ≤ i ∧ i < st 5 0) : CQ l yX5_gateAt cX5_gateAt 3 (some (.object "OriginRally$Gate")) rm_X5_gateAt_n D k [.ref (q 0), .int (J i)] (pW k L M) (fun r w' => w' = pW k L M ∧ r = some (q (50 + i))) := by
  refine CQ.of (by decide +kernel) (Nat.le_of_ble_eq_true rfl) (fun pᵢ eᵢ sᵢ mᵢ argsᵢ belowᵢ methᵢ cᵢ Aᵢ Qᵢ X RI => ?_)
  show SW pᵢ l eᵢ rm_X5_gateAt_n sᵢ mᵢ argsᵢ belowᵢ methᵢ cᵢ 3 D Aᵢ 0 0 Qᵢ (pW k L M) 0 [(0, .ref (q 0)), (1, .int (J i))] []
  have hC2 := hC
  obtain ⟨⟨⟨o0, o1, o2, o3, o4⟩, ⟨n1, n2, n3, n4⟩, ⟨r51, r52, r55, r57, r59⟩, v50, v53, v54, v56, v58⟩, hBk, hCa, hGa, hPa⟩ := hC2
  have i1 := I_st hI
  have i2 := I_en hI
  have i5 := I_ga hI
  have i8 := I_cu hI
  have i9 := I_ca hI
  have i17 := I_pa hI
  refine sw_iload_n X dX5_gateAt_0 rfl 1 rfl ?_
  refine sw_iconst X dX5_gateAt_1 ?_
  refine sw_aload_n X dX5_gateAt_2 rfl 0 rfl ?_
  refine px_get (v := .int (J (st 5 0))) X iw_X5 o0.1 (by decide) o0.2.2 rfl 3 (by decide) gw1_60 rfl (congrArg (fun z => some (Value.int (J z))) v53) dX5_gateAt_3 ?_
  refine sw_iconst X dX5_gateAt_6 ?_
  refine sw_isub X dX5_gateAt_7 ?_
  refine sw_callSI0 (As := [.int (J i), .int (J 0), .int (J ((st 5 0) - 1))]) (rest := []) X (c_X5_isWithin l D k (pW k L M) i 0 ((st 5 0) - 1) (by omega)) (va_cwS 3 (sw_ts X) (sw_goodS gw1_102 gw1_103 gw1_1 gw1_104) rfl rfl rfl (by decide +kernel) ⟨Nat.le_of_ble_eq_true rfl, Nat.le_of_ble_eq_true rfl⟩) dX5_gateAt_8 rfl rfl (Nat.le_of_ble_eq_true rfl) ⟨Nat.le_of_ble_eq_true rfl, Nat.le_of_ble_eq_true rfl⟩ (fun z1 w9 hp2 => ?_)
  obtain ⟨rfl, hp2⟩ := hp2
  refine sw_if_eq (tgt := 23) X (by omega) dX5_gateAt_11 (by decide) (fun h3 => ?_) (fun h3 => ?_)
  · exfalso; omega
  · refine sw_aload_n X dX5_gateAt_14 rfl 0 rfl ?_
    refine px_get (v := .ref (q 1)) X iw_X5 o0.1 (by decide) o0.2.2 rfl 2 (by decide) gw1_59 rfl (congrArg some (rf_of r52)) dX5_gateAt_15 ?_
    refine sw_iload_n X dX5_gateAt_18 rfl 1 rfl ?_
    refine px_aald (v := .ref (q (50 + i))) X 3 (by decide) rfl o1.1 o1.2.2 n1 (by omega) (by omega) (by omega) (rf_of ((hGa i (by omega) (by omega)).1.2)) dX5_gateAt_19 ?_
    refine sw_goto (tgt := 24) X dX5_gateAt_20 (by decide) ?_
    refine sw_astore_n (lv' := [(2, .ref (q (50 + i))), (0, .ref (q 0)), (1, .int (J i))]) X dX5_gateAt_24 rfl (by decide) rfl ?_
    refine sw_aload_n X dX5_gateAt_25 rfl 0 rfl ?_
    refine sw_ifnonnull (tgt := 39) X dX5_gateAt_26 (by decide) ?_
    refine sw_aload_n X dX5_gateAt_39 rfl 0 rfl ?_
    exact RI _ _ _ (some (q (50 + i))) _ _ dX5_gateAt_40 (Nat.le_of_ble_eq_true rfl) (Nat.le_of_ble_eq_true rfl) ⟨rfl, rfl⟩
abbrev rm_X5_carAt : Room := { frames := 6, cells := 1, slots := 6, locals := 82 }
set_option maxHeartbeats 4000000 in
set_option maxRecDepth 100000 in
theorem c_X5_carAt (l : Launch) (hfl : l.stackTraces = false) (D : va_G) (k : Nat → ClassId) (N : Int) (st : ST) (q : Int → Nat) (L : List Nat) (M : MM) (i : Int) (hI : I6 N st) (hC : CW st q L M) (hi : (-2147483648 ≤ i ∧ i < 2147483648)) : XQ l yX5_carAt cX5_carAt 3 (some (.object "OriginRally$Car")) rm_X5_carAt D k [.ref (q 0), .int (J i)] (pW k L M) (fun r w' => w' = pW k L M ∧ (0 ≤ i ∧ i < st 9 0) ∧ r = some (q (30 + i))) (fun E w' => w' = pW k L M ∧ E = "java/lang/IndexOutOfBoundsException" ∧ ¬ (0 ≤ i ∧ i < st 9 0)) := by
  refine XQ.of hfl (by decide +kernel) rfl (Nat.le_of_ble_eq_true rfl) (fun pᵢ eᵢ sᵢ mᵢ argsᵢ belowᵢ methᵢ cᵢ Aᵢ Qᵢ X RI XO_ XT_ => ?_)
  show SW pᵢ l eᵢ rm_X5_carAt sᵢ mᵢ argsᵢ belowᵢ methᵢ cᵢ 3 D Aᵢ 0 0 Qᵢ (pW k L M) 0 [(0, .ref (q 0)), (1, .int (J i))] []
  have hC2 := hC
  obtain ⟨⟨⟨o0, o1, o2, o3, o4⟩, ⟨n1, n2, n3, n4⟩, ⟨r51, r52, r55, r57, r59⟩, v50, v53, v54, v56, v58⟩, hBk, hCa, hGa, hPa⟩ := hC2
  have i1 := I_st hI
  have i2 := I_en hI
  have i5 := I_ga hI
  have i8 := I_cu hI
  have i9 := I_ca hI
  have i17 := I_pa hI
  refine sw_aload_n X dX5_carAt_0 rfl 0 rfl ?_
  refine sw_iload_n X dX5_carAt_1 rfl 1 rfl ?_
  refine px_callVI (C := RX5) (As := [.int (J i)]) (rest := []) X (c_X5_isCar l D k N st q (L) (M) i hI hC (by omega)) (cwV 1 (sw_ts X) (sw_goodV gw2_140 gw2_142 gws_6 gw1_1 gw2_143) rfl rfl rfl (by decide +kernel) ⟨Nat.le_of_ble_eq_true rfl, Nat.le_of_ble_eq_true rfl⟩) ⟨o0.1, o0.2.2⟩ (by decide) rfl rfl dX5_carAt_2 rfl rfl (Nat.le_of_ble_eq_true rfl) ⟨Nat.le_of_ble_eq_true rfl, Nat.le_of_ble_eq_true rfl⟩ (fun z1 w9 hp2 => ?_)
  obtain ⟨rfl, hp2⟩ := hp2
  refine sw_if_eq (tgt := 17) X (by omega) dX5_carAt_5 (by decide) (fun h3 => ?_) (fun h3 => ?_)
  · refine sw_null X dX5_carAt_17 ?_
    refine sw_astore_nN (lv' := [(2, .null), (0, .ref (q 0)), (1, .int (J i))]) X dX5_carAt_18 rfl (by decide) rfl ?_
    refine sw_aload_nN X dX5_carAt_19 rfl 0 rfl ?_
    refine sw_ifnonnullN X dX5_carAt_20 ?_
    exact XT_ _ _ _ 218 240 222 _ _ _ _ _ (by decide +kernel) (List.mem_of_getElem? (i := 6) rfl) gw2_47 gw1_10 thA0 thB0 (List.mem_of_getElem? (i := 0) rfl) thC0 dX5_carAt_23 dX5_carAt_26 dX5_carAt_27 dX5_carAt_29 dX5_carAt_32 (by decide) (Nat.le_of_ble_eq_true rfl) (Nat.le_of_ble_eq_true rfl) (Nat.le_of_ble_eq_true rfl) ⟨rfl, rfl, by omega⟩
  · refine sw_aload_n X dX5_carAt_8 rfl 0 rfl ?_
    refine px_get (v := .ref (q 2)) X iw_X5 o0.1 (by decide) o0.2.2 rfl 5 (by decide) gw1_62 rfl (congrArg some (rf_of r55)) dX5_carAt_9 ?_
    refine sw_iload_n X dX5_carAt_12 rfl 1 rfl ?_
    refine px_aald (v := .ref (q (30 + i))) X 2 (by decide) rfl o2.1 o2.2.2 n2 (by omega) (by omega) (by omega) (rf_of ((hCa i (by omega) (by omega)).2.1.2)) dX5_carAt_13 ?_
    refine sw_goto (tgt := 18) X dX5_carAt_14 (by decide) ?_
    refine sw_astore_n (lv' := [(2, .ref (q (30 + i))), (0, .ref (q 0)), (1, .int (J i))]) X dX5_carAt_18 rfl (by decide) rfl ?_
    refine sw_aload_n X dX5_carAt_19 rfl 0 rfl ?_
    refine sw_ifnonnull (tgt := 33) X dX5_carAt_20 (by decide) ?_
    refine sw_aload_n X dX5_carAt_33 rfl 0 rfl ?_
    exact RI _ _ _ (some (q (30 + i))) _ _ dX5_carAt_34 (Nat.le_of_ble_eq_true rfl) (Nat.le_of_ble_eq_true rfl) ⟨rfl, by omega, rfl⟩
abbrev rm_X5_carAt_n : Room := { frames := 2, cells := 0, slots := 0, locals := 43 }
set_option maxHeartbeats 4000000 in
set_option maxRecDepth 100000 in
theorem c_X5_carAt_n (l : Launch) (D : va_G) (k : Nat → ClassId) (N : Int) (st : ST) (q : Int → Nat) (L : List Nat) (M : MM) (i : Int) (hI : I6 N st) (hC : CW st q L M) (hi : 0 ≤ i ∧ i < st 9 0) : CQ l yX5_carAt cX5_carAt 3 (some (.object "OriginRally$Car")) rm_X5_carAt_n D k [.ref (q 0), .int (J i)] (pW k L M) (fun r w' => w' = pW k L M ∧ r = some (q (30 + i))) := by
  refine CQ.of (by decide +kernel) (Nat.le_of_ble_eq_true rfl) (fun pᵢ eᵢ sᵢ mᵢ argsᵢ belowᵢ methᵢ cᵢ Aᵢ Qᵢ X RI => ?_)
  show SW pᵢ l eᵢ rm_X5_carAt_n sᵢ mᵢ argsᵢ belowᵢ methᵢ cᵢ 3 D Aᵢ 0 0 Qᵢ (pW k L M) 0 [(0, .ref (q 0)), (1, .int (J i))] []
  have hC2 := hC
  obtain ⟨⟨⟨o0, o1, o2, o3, o4⟩, ⟨n1, n2, n3, n4⟩, ⟨r51, r52, r55, r57, r59⟩, v50, v53, v54, v56, v58⟩, hBk, hCa, hGa, hPa⟩ := hC2
  have i1 := I_st hI
  have i2 := I_en hI
  have i5 := I_ga hI
  have i8 := I_cu hI
  have i9 := I_ca hI
  have i17 := I_pa hI
  refine sw_aload_n X dX5_carAt_0 rfl 0 rfl ?_
  refine sw_iload_n X dX5_carAt_1 rfl 1 rfl ?_
  refine px_callVI (C := RX5) (As := [.int (J i)]) (rest := []) X (c_X5_isCar l D k N st q (L) (M) i hI hC (by omega)) (cwV 1 (sw_ts X) (sw_goodV gw2_140 gw2_142 gws_6 gw1_1 gw2_143) rfl rfl rfl (by decide +kernel) ⟨Nat.le_of_ble_eq_true rfl, Nat.le_of_ble_eq_true rfl⟩) ⟨o0.1, o0.2.2⟩ (by decide) rfl rfl dX5_carAt_2 rfl rfl (Nat.le_of_ble_eq_true rfl) ⟨Nat.le_of_ble_eq_true rfl, Nat.le_of_ble_eq_true rfl⟩ (fun z1 w9 hp2 => ?_)
  obtain ⟨rfl, hp2⟩ := hp2
  refine sw_if_eq (tgt := 17) X (by omega) dX5_carAt_5 (by decide) (fun h3 => ?_) (fun h3 => ?_)
  · exfalso; omega
  · refine sw_aload_n X dX5_carAt_8 rfl 0 rfl ?_
    refine px_get (v := .ref (q 2)) X iw_X5 o0.1 (by decide) o0.2.2 rfl 5 (by decide) gw1_62 rfl (congrArg some (rf_of r55)) dX5_carAt_9 ?_
    refine sw_iload_n X dX5_carAt_12 rfl 1 rfl ?_
    refine px_aald (v := .ref (q (30 + i))) X 2 (by decide) rfl o2.1 o2.2.2 n2 (by omega) (by omega) (by omega) (rf_of ((hCa i (by omega) (by omega)).2.1.2)) dX5_carAt_13 ?_
    refine sw_goto (tgt := 18) X dX5_carAt_14 (by decide) ?_
    refine sw_astore_n (lv' := [(2, .ref (q (30 + i))), (0, .ref (q 0)), (1, .int (J i))]) X dX5_carAt_18 rfl (by decide) rfl ?_
    refine sw_aload_n X dX5_carAt_19 rfl 0 rfl ?_
    refine sw_ifnonnull (tgt := 33) X dX5_carAt_20 (by decide) ?_
    refine sw_aload_n X dX5_carAt_33 rfl 0 rfl ?_
    exact RI _ _ _ (some (q (30 + i))) _ _ dX5_carAt_34 (Nat.le_of_ble_eq_true rfl) (Nat.le_of_ble_eq_true rfl) ⟨rfl, rfl⟩
abbrev rm_X5_partAt : Room := { frames := 6, cells := 1, slots := 6, locals := 82 }
set_option maxHeartbeats 4000000 in
set_option maxRecDepth 100000 in
theorem c_X5_partAt (l : Launch) (hfl : l.stackTraces = false) (D : va_G) (k : Nat → ClassId) (N : Int) (st : ST) (q : Int → Nat) (L : List Nat) (M : MM) (i : Int) (hI : I6 N st) (hC : CW st q L M) (hi : (-2147483648 ≤ i ∧ i < 2147483648)) : XQ l yX5_partAt cX5_partAt 3 (some (.object "OriginRally$Part")) rm_X5_partAt D k [.ref (q 0), .int (J i)] (pW k L M) (fun r w' => w' = pW k L M ∧ (0 ≤ i ∧ i < st 17 0) ∧ r = some (q (60 + i))) (fun E w' => w' = pW k L M ∧ E = "java/lang/IndexOutOfBoundsException" ∧ ¬ (0 ≤ i ∧ i < st 17 0)) := by
  refine XQ.of hfl (by decide +kernel) rfl (Nat.le_of_ble_eq_true rfl) (fun pᵢ eᵢ sᵢ mᵢ argsᵢ belowᵢ methᵢ cᵢ Aᵢ Qᵢ X RI XO_ XT_ => ?_)
  show SW pᵢ l eᵢ rm_X5_partAt sᵢ mᵢ argsᵢ belowᵢ methᵢ cᵢ 3 D Aᵢ 0 0 Qᵢ (pW k L M) 0 [(0, .ref (q 0)), (1, .int (J i))] []
  have hC2 := hC
  obtain ⟨⟨⟨o0, o1, o2, o3, o4⟩, ⟨n1, n2, n3, n4⟩, ⟨r51, r52, r55, r57, r59⟩, v50, v53, v54, v56, v58⟩, hBk, hCa, hGa, hPa⟩ := hC2
  have i1 := I_st hI
  have i2 := I_en hI
  have i5 := I_ga hI
  have i8 := I_cu hI
  have i9 := I_ca hI
  have i17 := I_pa hI
  refine sw_iload_n X dX5_partAt_0 rfl 1 rfl ?_
  refine sw_iconst X dX5_partAt_1 ?_
  refine sw_aload_n X dX5_partAt_2 rfl 0 rfl ?_
  refine px_get (v := .int (J (st 17 0))) X iw_X5 o0.1 (by decide) o0.2.2 rfl 8 (by decide) gw1_65 rfl (congrArg (fun z => some (Value.int (J z))) v58) dX5_partAt_3 ?_
  refine sw_iconst X dX5_partAt_6 ?_
  refine sw_isub X dX5_partAt_7 ?_
  refine sw_callSI0 (As := [.int (J i), .int (J 0), .int (J ((st 17 0) - 1))]) (rest := []) X (c_X5_isWithin l D k (pW k L M) i 0 ((st 17 0) - 1) (by omega)) (va_cwS 3 (sw_ts X) (sw_goodS gw1_102 gw1_103 gw1_1 gw1_104) rfl rfl rfl (by decide +kernel) ⟨Nat.le_of_ble_eq_true rfl, Nat.le_of_ble_eq_true rfl⟩) dX5_partAt_8 rfl rfl (Nat.le_of_ble_eq_true rfl) ⟨Nat.le_of_ble_eq_true rfl, Nat.le_of_ble_eq_true rfl⟩ (fun z1 w9 hp2 => ?_)
  obtain ⟨rfl, hp2⟩ := hp2
  refine sw_if_eq (tgt := 23) X (by omega) dX5_partAt_11 (by decide) (fun h3 => ?_) (fun h3 => ?_)
  · refine sw_null X dX5_partAt_23 ?_
    refine sw_astore_nN (lv' := [(2, .null), (0, .ref (q 0)), (1, .int (J i))]) X dX5_partAt_24 rfl (by decide) rfl ?_
    refine sw_aload_nN X dX5_partAt_25 rfl 0 rfl ?_
    refine sw_ifnonnullN X dX5_partAt_26 ?_
    exact XT_ _ _ _ 218 242 222 _ _ _ _ _ (by decide +kernel) (List.mem_of_getElem? (i := 7) rfl) gw2_47 gw1_10 thA0 thB0 (List.mem_of_getElem? (i := 0) rfl) thC0 dX5_partAt_29 dX5_partAt_32 dX5_partAt_33 dX5_partAt_35 dX5_partAt_38 (by decide) (Nat.le_of_ble_eq_true rfl) (Nat.le_of_ble_eq_true rfl) (Nat.le_of_ble_eq_true rfl) ⟨rfl, rfl, by omega⟩
  · refine sw_aload_n X dX5_partAt_14 rfl 0 rfl ?_
    refine px_get (v := .ref (q 3)) X iw_X5 o0.1 (by decide) o0.2.2 rfl 7 (by decide) gw1_64 rfl (congrArg some (rf_of r57)) dX5_partAt_15 ?_
    refine sw_iload_n X dX5_partAt_18 rfl 1 rfl ?_
    refine px_aald (v := .ref (q (60 + i))) X 4 (by decide) rfl o3.1 o3.2.2 n3 (by omega) (by omega) (by omega) (rf_of ((hPa i (by omega) (by omega)).1.2)) dX5_partAt_19 ?_
    refine sw_goto (tgt := 24) X dX5_partAt_20 (by decide) ?_
    refine sw_astore_n (lv' := [(2, .ref (q (60 + i))), (0, .ref (q 0)), (1, .int (J i))]) X dX5_partAt_24 rfl (by decide) rfl ?_
    refine sw_aload_n X dX5_partAt_25 rfl 0 rfl ?_
    refine sw_ifnonnull (tgt := 39) X dX5_partAt_26 (by decide) ?_
    refine sw_aload_n X dX5_partAt_39 rfl 0 rfl ?_
    exact RI _ _ _ (some (q (60 + i))) _ _ dX5_partAt_40 (Nat.le_of_ble_eq_true rfl) (Nat.le_of_ble_eq_true rfl) ⟨rfl, by omega, rfl⟩
abbrev rm_X5_partAt_n : Room := { frames := 1, cells := 0, slots := 0, locals := 22 }
set_option maxHeartbeats 4000000 in
set_option maxRecDepth 100000 in
theorem c_X5_partAt_n (l : Launch) (D : va_G) (k : Nat → ClassId) (N : Int) (st : ST) (q : Int → Nat) (L : List Nat) (M : MM) (i : Int) (hI : I6 N st) (hC : CW st q L M) (hi : 0 ≤ i ∧ i < st 17 0) : CQ l yX5_partAt cX5_partAt 3 (some (.object "OriginRally$Part")) rm_X5_partAt_n D k [.ref (q 0), .int (J i)] (pW k L M) (fun r w' => w' = pW k L M ∧ r = some (q (60 + i))) := by
  refine CQ.of (by decide +kernel) (Nat.le_of_ble_eq_true rfl) (fun pᵢ eᵢ sᵢ mᵢ argsᵢ belowᵢ methᵢ cᵢ Aᵢ Qᵢ X RI => ?_)
  show SW pᵢ l eᵢ rm_X5_partAt_n sᵢ mᵢ argsᵢ belowᵢ methᵢ cᵢ 3 D Aᵢ 0 0 Qᵢ (pW k L M) 0 [(0, .ref (q 0)), (1, .int (J i))] []
  have hC2 := hC
  obtain ⟨⟨⟨o0, o1, o2, o3, o4⟩, ⟨n1, n2, n3, n4⟩, ⟨r51, r52, r55, r57, r59⟩, v50, v53, v54, v56, v58⟩, hBk, hCa, hGa, hPa⟩ := hC2
  have i1 := I_st hI
  have i2 := I_en hI
  have i5 := I_ga hI
  have i8 := I_cu hI
  have i9 := I_ca hI
  have i17 := I_pa hI
  refine sw_iload_n X dX5_partAt_0 rfl 1 rfl ?_
  refine sw_iconst X dX5_partAt_1 ?_
  refine sw_aload_n X dX5_partAt_2 rfl 0 rfl ?_
  refine px_get (v := .int (J (st 17 0))) X iw_X5 o0.1 (by decide) o0.2.2 rfl 8 (by decide) gw1_65 rfl (congrArg (fun z => some (Value.int (J z))) v58) dX5_partAt_3 ?_
  refine sw_iconst X dX5_partAt_6 ?_
  refine sw_isub X dX5_partAt_7 ?_
  refine sw_callSI0 (As := [.int (J i), .int (J 0), .int (J ((st 17 0) - 1))]) (rest := []) X (c_X5_isWithin l D k (pW k L M) i 0 ((st 17 0) - 1) (by omega)) (va_cwS 3 (sw_ts X) (sw_goodS gw1_102 gw1_103 gw1_1 gw1_104) rfl rfl rfl (by decide +kernel) ⟨Nat.le_of_ble_eq_true rfl, Nat.le_of_ble_eq_true rfl⟩) dX5_partAt_8 rfl rfl (Nat.le_of_ble_eq_true rfl) ⟨Nat.le_of_ble_eq_true rfl, Nat.le_of_ble_eq_true rfl⟩ (fun z1 w9 hp2 => ?_)
  obtain ⟨rfl, hp2⟩ := hp2
  refine sw_if_eq (tgt := 23) X (by omega) dX5_partAt_11 (by decide) (fun h3 => ?_) (fun h3 => ?_)
  · exfalso; omega
  · refine sw_aload_n X dX5_partAt_14 rfl 0 rfl ?_
    refine px_get (v := .ref (q 3)) X iw_X5 o0.1 (by decide) o0.2.2 rfl 7 (by decide) gw1_64 rfl (congrArg some (rf_of r57)) dX5_partAt_15 ?_
    refine sw_iload_n X dX5_partAt_18 rfl 1 rfl ?_
    refine px_aald (v := .ref (q (60 + i))) X 4 (by decide) rfl o3.1 o3.2.2 n3 (by omega) (by omega) (by omega) (rf_of ((hPa i (by omega) (by omega)).1.2)) dX5_partAt_19 ?_
    refine sw_goto (tgt := 24) X dX5_partAt_20 (by decide) ?_
    refine sw_astore_n (lv' := [(2, .ref (q (60 + i))), (0, .ref (q 0)), (1, .int (J i))]) X dX5_partAt_24 rfl (by decide) rfl ?_
    refine sw_aload_n X dX5_partAt_25 rfl 0 rfl ?_
    refine sw_ifnonnull (tgt := 39) X dX5_partAt_26 (by decide) ?_
    refine sw_aload_n X dX5_partAt_39 rfl 0 rfl ?_
    exact RI _ _ _ (some (q (60 + i))) _ _ dX5_partAt_40 (Nat.le_of_ble_eq_true rfl) (Nat.le_of_ble_eq_true rfl) ⟨rfl, rfl⟩
