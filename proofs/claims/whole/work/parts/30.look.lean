/-! the calls that only look -/
def xP (k : Nat → ClassId) (q : Int → Nat) (S : ST) (K V : Int) : Int → va_W → Prop := fun z w' => K = 0 ∧ z = V ∧ ∃ (q' : Int → Nat) (L' : List Nat) (M' : MM), w' = pW k L' M' ∧ q' 0 = q 0 ∧ CW S q' L' M'
abbrev rm_X5_gates : Room := { frames := 0, cells := 0, slots := 0, locals := 0 }
set_option maxHeartbeats 4000000 in
set_option maxRecDepth 100000 in
theorem c_X5_gates (l : Launch) (hfl : l.stackTraces = false) (D : va_G) (k : Nat → ClassId) (N : Int) (st : ST) (q : Int → Nat) (L : List Nat) (M : MM)  (hI : I6 N st) (hC : CW st q L M) : XI l yX5_gates cX5_gates 1 (some .int) rm_X5_gates D k [.ref (q 0)] (pW k L M) (xP k q (st) (0) (st 5 0)) (fun E w' => w' = pW k L M ∧ ((E = "java/lang/IndexOutOfBoundsException" ∧ 0 = 1))) := by
  refine XI.of hfl (by decide +kernel) rfl (Nat.le_of_ble_eq_true rfl) (fun pᵢ eᵢ sᵢ mᵢ argsᵢ belowᵢ methᵢ cᵢ Aᵢ Qᵢ X RI XO_ XT_ => ?_)
  show SW pᵢ l eᵢ rm_X5_gates sᵢ mᵢ argsᵢ belowᵢ methᵢ cᵢ 1 D Aᵢ 0 0 Qᵢ (pW k L M) 0 [(0, .ref (q 0))] []
  have hC2 := hC
  obtain ⟨⟨⟨o0, o1, o2, o3, o4⟩, ⟨n1, n2, n3, n4⟩, ⟨r51, r52, r55, r57, r59⟩, v50, v53, v54, v56, v58⟩, hBk, hCa, hGa, hPa⟩ := hC2
  have i1 := I_st hI
  have i2 := I_en hI
  have i5 := I_ga hI
  have i8 := I_cu hI
  have i9 := I_ca hI
  have i17 := I_pa hI
  refine sw_aload_n X dX5_gates_0 rfl 0 rfl ?_
  refine px_get (v := .int (J (st 5 0))) X iw_X5 o0.1 (by decide) o0.2.2 rfl 3 (by decide) gw1_60 rfl (congrArg (fun z => some (Value.int (J z))) v53) dX5_gates_1 ?_
  exact RI _ _ _ _ _ _ dX5_gates_4 (Nat.le_of_ble_eq_true rfl) (Nat.le_of_ble_eq_true rfl) rfl ⟨rfl, rfl, q, L, M, rfl, rfl, hC⟩
abbrev rm_X5_cellOf : Room := { frames := 7, cells := 1, slots := 6, locals := 104 }
set_option maxHeartbeats 4000000 in
set_option maxRecDepth 100000 in
theorem c_X5_cellOf (l : Launch) (hfl : l.stackTraces = false) (D : va_G) (k : Nat → ClassId) (N : Int) (st : ST) (q : Int → Nat) (L : List Nat) (M : MM) (a : Int) (hI : I6 N st) (hC : CW st q L M) (h_a : (-2147483648 ≤ a ∧ a < 2147483648)) : XI l yX5_cellOf cX5_cellOf 2 (some .int) rm_X5_cellOf D k [.ref (q 0), .int (J a)] (pW k L M) (xP k q (st) (kGate st a) (gC st a)) (fun E w' => w' = pW k L M ∧ ((E = "java/lang/IndexOutOfBoundsException" ∧ kGate st a = 1))) := by
  refine XI.of hfl (by decide +kernel) rfl (Nat.le_of_ble_eq_true rfl) (fun pᵢ eᵢ sᵢ mᵢ argsᵢ belowᵢ methᵢ cᵢ Aᵢ Qᵢ X RI XO_ XT_ => ?_)
  show SW pᵢ l eᵢ rm_X5_cellOf sᵢ mᵢ argsᵢ belowᵢ methᵢ cᵢ 2 D Aᵢ 0 0 Qᵢ (pW k L M) 0 [(0, .ref (q 0)), (1, .int (J a))] []
  have hC2 := hC
  obtain ⟨⟨⟨o0, o1, o2, o3, o4⟩, ⟨n1, n2, n3, n4⟩, ⟨r51, r52, r55, r57, r59⟩, v50, v53, v54, v56, v58⟩, hBk, hCa, hGa, hPa⟩ := hC2
  have i1 := I_st hI
  have i2 := I_en hI
  have i5 := I_ga hI
  have i8 := I_cu hI
  have i9 := I_ca hI
  have i17 := I_pa hI
  refine sw_aload_n X dX5_cellOf_0 rfl 0 rfl ?_
  refine sw_iload_n X dX5_cellOf_1 rfl 1 rfl ?_
  refine px_xVQ (C := RX5) (As := [.int (J a)]) (rest := []) X (c_X5_gateAt l hfl D k N st q (L) (M) a hI hC (by omega)) (cwV 1 (sw_ts X) (sw_goodV gw2_67 gw2_69 gws_4 gw1_1 gw2_70) rfl rfl rfl (by decide +kernel) ⟨Nat.le_of_ble_eq_true rfl, Nat.le_of_ble_eq_true rfl⟩) ⟨o0.1, o0.2.2⟩ (by decide) rfl rfl dX5_cellOf_2 rfl rfl (Nat.le_of_ble_eq_true rfl) ⟨Nat.le_of_ble_eq_true rfl, Nat.le_of_ble_eq_true rfl⟩ (fun E9 w9 hx => XO_ _ _ _ _ _ _ _ (Nat.le_of_ble_eq_true rfl) (Nat.le_of_ble_eq_true rfl) (by obtain ⟨rfl, rfl, hx⟩ := hx; exact ⟨rfl, ⟨rfl, by unfold kGate; split <;> (try split) <;> (try split) <;> omega⟩⟩)) (fun z1 w9 hp2 => ?_)
  obtain ⟨rfl, hrz1, rfl⟩ := hp2
  obtain ⟨⟨gO, gR⟩, g10, g11, g12⟩ := hGa a (by omega) (by omega)
  have gb1 := gC_b hI (g := a) (by omega)
  have gb2 := gD_b hI (g := a) (by omega)
  have gb3 := I_g hI a (by omega) (by omega)
  refine px_getN (n := "") (d := "") (v := .int (J (gC st a))) X iw_X1 gO.1 (by decide) gO.2.2 rfl 1 (by decide) (List.mem_of_getElem? (i := 12) rfl) rfl (congrArg (fun z => some (Value.int (J z))) g11) dX5_cellOf_5 ?_
  exact RI _ _ _ _ _ _ dX5_cellOf_8 (Nat.le_of_ble_eq_true rfl) (Nat.le_of_ble_eq_true rfl) rfl ⟨by unfold kGate; split <;> (try split) <;> (try split) <;> omega, rfl, q, L, M, rfl, rfl, hC⟩
abbrev rm_X5_due : Room := { frames := 7, cells := 1, slots := 6, locals := 104 }
set_option maxHeartbeats 4000000 in
set_option maxRecDepth 100000 in
theorem c_X5_due (l : Launch) (hfl : l.stackTraces = false) (D : va_G) (k : Nat → ClassId) (N : Int) (st : ST) (q : Int → Nat) (L : List Nat) (M : MM) (a : Int) (hI : I6 N st) (hC : CW st q L M) (h_a : (-2147483648 ≤ a ∧ a < 2147483648)) : XI l yX5_due cX5_due 2 (some .int) rm_X5_due D k [.ref (q 0), .int (J a)] (pW k L M) (xP k q (st) (kGate st a) (gD st a)) (fun E w' => w' = pW k L M ∧ ((E = "java/lang/IndexOutOfBoundsException" ∧ kGate st a = 1))) := by
  refine XI.of hfl (by decide +kernel) rfl (Nat.le_of_ble_eq_true rfl) (fun pᵢ eᵢ sᵢ mᵢ argsᵢ belowᵢ methᵢ cᵢ Aᵢ Qᵢ X RI XO_ XT_ => ?_)
  show SW pᵢ l eᵢ rm_X5_due sᵢ mᵢ argsᵢ belowᵢ methᵢ cᵢ 2 D Aᵢ 0 0 Qᵢ (pW k L M) 0 [(0, .ref (q 0)), (1, .int (J a))] []
  have hC2 := hC
  obtain ⟨⟨⟨o0, o1, o2, o3, o4⟩, ⟨n1, n2, n3, n4⟩, ⟨r51, r52, r55, r57, r59⟩, v50, v53, v54, v56, v58⟩, hBk, hCa, hGa, hPa⟩ := hC2
  have i1 := I_st hI
  have i2 := I_en hI
  have i5 := I_ga hI
  have i8 := I_cu hI
  have i9 := I_ca hI
  have i17 := I_pa hI
  refine sw_aload_n X dX5_due_0 rfl 0 rfl ?_
  refine sw_iload_n X dX5_due_1 rfl 1 rfl ?_
  refine px_xVQ (C := RX5) (As := [.int (J a)]) (rest := []) X (c_X5_gateAt l hfl D k N st q (L) (M) a hI hC (by omega)) (cwV 1 (sw_ts X) (sw_goodV gw2_67 gw2_69 gws_4 gw1_1 gw2_70) rfl rfl rfl (by decide +kernel) ⟨Nat.le_of_ble_eq_true rfl, Nat.le_of_ble_eq_true rfl⟩) ⟨o0.1, o0.2.2⟩ (by decide) rfl rfl dX5_due_2 rfl rfl (Nat.le_of_ble_eq_true rfl) ⟨Nat.le_of_ble_eq_true rfl, Nat.le_of_ble_eq_true rfl⟩ (fun E9 w9 hx => XO_ _ _ _ _ _ _ _ (Nat.le_of_ble_eq_true rfl) (Nat.le_of_ble_eq_true rfl) (by obtain ⟨rfl, rfl, hx⟩ := hx; exact ⟨rfl, ⟨rfl, by unfold kGate; split <;> (try split) <;> (try split) <;> omega⟩⟩)) (fun z1 w9 hp2 => ?_)
  obtain ⟨rfl, hrz1, rfl⟩ := hp2
  obtain ⟨⟨gO, gR⟩, g10, g11, g12⟩ := hGa a (by omega) (by omega)
  have gb1 := gC_b hI (g := a) (by omega)
  have gb2 := gD_b hI (g := a) (by omega)
  have gb3 := I_g hI a (by omega) (by omega)
  refine px_getN (n := "") (d := "") (v := .int (J (gD st a))) X iw_X1 gO.1 (by decide) gO.2.2 rfl 2 (by decide) (List.mem_of_getElem? (i := 13) rfl) rfl (congrArg (fun z => some (Value.int (J z))) g12) dX5_due_5 ?_
  exact RI _ _ _ _ _ _ dX5_due_8 (Nat.le_of_ble_eq_true rfl) (Nat.le_of_ble_eq_true rfl) rfl ⟨by unfold kGate; split <;> (try split) <;> (try split) <;> omega, rfl, q, L, M, rfl, rfl, hC⟩
abbrev rm_X5_clock : Room := { frames := 7, cells := 1, slots := 6, locals := 104 }
set_option maxHeartbeats 4000000 in
set_option maxRecDepth 100000 in
theorem c_X5_clock (l : Launch) (hfl : l.stackTraces = false) (D : va_G) (k : Nat → ClassId) (N : Int) (st : ST) (q : Int → Nat) (L : List Nat) (M : MM) (c : Int) (hI : I6 N st) (hC : CW st q L M) (h_c : (-2147483648 ≤ c ∧ c < 2147483648)) : XI l yX5_clock cX5_clock 2 (some .int) rm_X5_clock D k [.ref (q 0), .int (J c)] (pW k L M) (xP k q (st) (kCar st c) (clk st c)) (fun E w' => w' = pW k L M ∧ ((E = "java/lang/IndexOutOfBoundsException" ∧ kCar st c = 1))) := by
  refine XI.of hfl (by decide +kernel) rfl (Nat.le_of_ble_eq_true rfl) (fun pᵢ eᵢ sᵢ mᵢ argsᵢ belowᵢ methᵢ cᵢ Aᵢ Qᵢ X RI XO_ XT_ => ?_)
  show SW pᵢ l eᵢ rm_X5_clock sᵢ mᵢ argsᵢ belowᵢ methᵢ cᵢ 2 D Aᵢ 0 0 Qᵢ (pW k L M) 0 [(0, .ref (q 0)), (1, .int (J c))] []
  have hC2 := hC
  obtain ⟨⟨⟨o0, o1, o2, o3, o4⟩, ⟨n1, n2, n3, n4⟩, ⟨r51, r52, r55, r57, r59⟩, v50, v53, v54, v56, v58⟩, hBk, hCa, hGa, hPa⟩ := hC2
  have i1 := I_st hI
  have i2 := I_en hI
  have i5 := I_ga hI
  have i8 := I_cu hI
  have i9 := I_ca hI
  have i17 := I_pa hI
  refine sw_aload_n X dX5_clock_0 rfl 0 rfl ?_
  refine sw_iload_n X dX5_clock_1 rfl 1 rfl ?_
  refine px_xVQ (C := RX5) (As := [.int (J c)]) (rest := []) X (c_X5_carAt l hfl D k N st q (L) (M) c hI hC (by omega)) (cwV 1 (sw_ts X) (sw_goodV gw2_136 gw2_138 gws_5 gw1_1 gw2_139) rfl rfl rfl (by decide +kernel) ⟨Nat.le_of_ble_eq_true rfl, Nat.le_of_ble_eq_true rfl⟩) ⟨o0.1, o0.2.2⟩ (by decide) rfl rfl dX5_clock_2 rfl rfl (Nat.le_of_ble_eq_true rfl) ⟨Nat.le_of_ble_eq_true rfl, Nat.le_of_ble_eq_true rfl⟩ (fun E9 w9 hx => XO_ _ _ _ _ _ _ _ (Nat.le_of_ble_eq_true rfl) (Nat.le_of_ble_eq_true rfl) (by obtain ⟨rfl, rfl, hx⟩ := hx; exact ⟨rfl, ⟨rfl, by unfold kCar; split <;> (try split) <;> (try split) <;> omega⟩⟩)) (fun z1 w9 hp2 => ?_)
  obtain ⟨rfl, hrz1, rfl⟩ := hp2
  obtain ⟨hWc, ⟨cO, cR⟩, c0, c1, c2, c3, ⟨dO, dN⟩, dV⟩ := hCa c (by omega) (by omega)
  have hWc2 := hWc
  obtain ⟨⟨⟨wL, wG, wK⟩, w40⟩, w41, w42, w43, w44, ⟨⟨aL, aG, aK⟩, aN⟩, hp⟩ := hWc2
  have k44 := w44.trans (clk_v (st := st) (c := c) (by omega))
  have k42 := w42.trans (cel_v hI (c := c) (by omega))
  have hk9 := clk_b hI (c := c) (by omega) (by omega)
  have hct := I_c hI c (by omega) (by omega)
  refine px_getN (n := "") (d := "") (v := .ref (q (10 + c))) X iw_X0 cO.1 (by decide) cO.2.2 rfl 0 (by decide) (List.mem_of_getElem? (i := 14) rfl) rfl (congrArg some (rf_of c0)) dX5_clock_5 ?_
  refine px_getN (n := "") (d := "") (v := .int (J (clk st c))) X iw_X4 wL (by decide) wK rfl 4 (by decide) (List.mem_of_getElem? (i := 2) rfl) rfl (congrArg (fun z => some (Value.int (J z))) k44) dX5_clock_8 ?_
  exact RI _ _ _ _ _ _ dX5_clock_11 (Nat.le_of_ble_eq_true rfl) (Nat.le_of_ble_eq_true rfl) rfl ⟨by unfold kCar; split <;> (try split) <;> (try split) <;> omega, rfl, q, L, M, rfl, rfl, hC⟩
abbrev rm_X5_where : Room := { frames := 7, cells := 1, slots := 6, locals := 104 }
set_option maxHeartbeats 4000000 in
set_option maxRecDepth 100000 in
theorem c_X5_where (l : Launch) (hfl : l.stackTraces = false) (D : va_G) (k : Nat → ClassId) (N : Int) (st : ST) (q : Int → Nat) (L : List Nat) (M : MM) (a : Int) (hI : I6 N st) (hC : CW st q L M) (h_a : (-2147483648 ≤ a ∧ a < 2147483648)) : XI l yX5_where cX5_where 2 (some .int) rm_X5_where D k [.ref (q 0), .int (J a)] (pW k L M) (xP k q (st) (kPart st a) (st 20 a)) (fun E w' => w' = pW k L M ∧ ((E = "java/lang/IndexOutOfBoundsException" ∧ kPart st a = 1))) := by
  refine XI.of hfl (by decide +kernel) rfl (Nat.le_of_ble_eq_true rfl) (fun pᵢ eᵢ sᵢ mᵢ argsᵢ belowᵢ methᵢ cᵢ Aᵢ Qᵢ X RI XO_ XT_ => ?_)
  show SW pᵢ l eᵢ rm_X5_where sᵢ mᵢ argsᵢ belowᵢ methᵢ cᵢ 2 D Aᵢ 0 0 Qᵢ (pW k L M) 0 [(0, .ref (q 0)), (1, .int (J a))] []
  have hC2 := hC
  obtain ⟨⟨⟨o0, o1, o2, o3, o4⟩, ⟨n1, n2, n3, n4⟩, ⟨r51, r52, r55, r57, r59⟩, v50, v53, v54, v56, v58⟩, hBk, hCa, hGa, hPa⟩ := hC2
  have i1 := I_st hI
  have i2 := I_en hI
  have i5 := I_ga hI
  have i8 := I_cu hI
  have i9 := I_ca hI
  have i17 := I_pa hI
  refine sw_aload_n X dX5_where_0 rfl 0 rfl ?_
  refine sw_iload_n X dX5_where_1 rfl 1 rfl ?_
  refine px_xVQ (C := RX5) (As := [.int (J a)]) (rest := []) X (c_X5_partAt l hfl D k N st q (L) (M) a hI hC (by omega)) (cwV 1 (sw_ts X) (sw_goodV gw2_183 gw2_185 gws_8 gw1_1 gw2_186) rfl rfl rfl (by decide +kernel) ⟨Nat.le_of_ble_eq_true rfl, Nat.le_of_ble_eq_true rfl⟩) ⟨o0.1, o0.2.2⟩ (by decide) rfl rfl dX5_where_2 rfl rfl (Nat.le_of_ble_eq_true rfl) ⟨Nat.le_of_ble_eq_true rfl, Nat.le_of_ble_eq_true rfl⟩ (fun E9 w9 hx => XO_ _ _ _ _ _ _ _ (Nat.le_of_ble_eq_true rfl) (Nat.le_of_ble_eq_true rfl) (by obtain ⟨rfl, rfl, hx⟩ := hx; exact ⟨rfl, ⟨rfl, by unfold kPart; split <;> (try split) <;> (try split) <;> omega⟩⟩)) (fun z1 w9 hp2 => ?_)
  obtain ⟨rfl, hrz1, rfl⟩ := hp2
  obtain ⟨⟨pO, pR⟩, p20, p21, p22, p23, p24, p25⟩ := hPa a (by omega) (by omega)
  have pb1 := I_j hI a (by omega) (by omega)
  refine px_getN (n := "") (d := "") (v := .int (J (st 20 a))) X iw_X2 pO.1 (by decide) pO.2.2 rfl 2 (by decide) (List.mem_of_getElem? (i := 18) rfl) rfl (congrArg (fun z => some (Value.int (J z))) p22) dX5_where_5 ?_
  exact RI _ _ _ _ _ _ dX5_where_8 (Nat.le_of_ble_eq_true rfl) (Nat.le_of_ble_eq_true rfl) rfl ⟨by unfold kPart; split <;> (try split) <;> (try split) <;> omega, rfl, q, L, M, rfl, rfl, hC⟩
abbrev rm_X5_isBroken : Room := { frames := 7, cells := 1, slots := 6, locals := 104 }
set_option maxHeartbeats 4000000 in
set_option maxRecDepth 100000 in
theorem c_X5_isBroken (l : Launch) (hfl : l.stackTraces = false) (D : va_G) (k : Nat → ClassId) (N : Int) (st : ST) (q : Int → Nat) (L : List Nat) (M : MM) (c : Int) (hI : I6 N st) (hC : CW st q L M) (h_c : (-2147483648 ≤ c ∧ c < 2147483648)) : XI l yX5_isBroken cX5_isBroken 2 (some .boolean) rm_X5_isBroken D k [.ref (q 0), .int (J c)] (pW k L M) (xP k q (st) (kCar st c) (vBroken st c)) (fun E w' => w' = pW k L M ∧ ((E = "java/lang/IndexOutOfBoundsException" ∧ kCar st c = 1))) := by
  refine XI.of hfl (by decide +kernel) rfl (Nat.le_of_ble_eq_true rfl) (fun pᵢ eᵢ sᵢ mᵢ argsᵢ belowᵢ methᵢ cᵢ Aᵢ Qᵢ X RI XO_ XT_ => ?_)
  show SW pᵢ l eᵢ rm_X5_isBroken sᵢ mᵢ argsᵢ belowᵢ methᵢ cᵢ 2 D Aᵢ 0 0 Qᵢ (pW k L M) 0 [(0, .ref (q 0)), (1, .int (J c))] []
  have hC2 := hC
  obtain ⟨⟨⟨o0, o1, o2, o3, o4⟩, ⟨n1, n2, n3, n4⟩, ⟨r51, r52, r55, r57, r59⟩, v50, v53, v54, v56, v58⟩, hBk, hCa, hGa, hPa⟩ := hC2
  have i1 := I_st hI
  have i2 := I_en hI
  have i5 := I_ga hI
  have i8 := I_cu hI
  have i9 := I_ca hI
  have i17 := I_pa hI
  refine sw_aload_n X dX5_isBroken_0 rfl 0 rfl ?_
  refine sw_iload_n X dX5_isBroken_1 rfl 1 rfl ?_
  refine px_xVQ (C := RX5) (As := [.int (J c)]) (rest := []) X (c_X5_carAt l hfl D k N st q (L) (M) c hI hC (by omega)) (cwV 1 (sw_ts X) (sw_goodV gw2_136 gw2_138 gws_5 gw1_1 gw2_139) rfl rfl rfl (by decide +kernel) ⟨Nat.le_of_ble_eq_true rfl, Nat.le_of_ble_eq_true rfl⟩) ⟨o0.1, o0.2.2⟩ (by decide) rfl rfl dX5_isBroken_2 rfl rfl (Nat.le_of_ble_eq_true rfl) ⟨Nat.le_of_ble_eq_true rfl, Nat.le_of_ble_eq_true rfl⟩ (fun E9 w9 hx => XO_ _ _ _ _ _ _ _ (Nat.le_of_ble_eq_true rfl) (Nat.le_of_ble_eq_true rfl) (by obtain ⟨rfl, rfl, hx⟩ := hx; exact ⟨rfl, ⟨rfl, by unfold kCar; split <;> (try split) <;> (try split) <;> omega⟩⟩)) (fun z1 w9 hp2 => ?_)
  obtain ⟨rfl, hrz1, rfl⟩ := hp2
  obtain ⟨hWc, ⟨cO, cR⟩, c0, c1, c2, c3, ⟨dO, dN⟩, dV⟩ := hCa c (by omega) (by omega)
  have hWc2 := hWc
  obtain ⟨⟨⟨wL, wG, wK⟩, w40⟩, w41, w42, w43, w44, ⟨⟨aL, aG, aK⟩, aN⟩, hp⟩ := hWc2
  have k44 := w44.trans (clk_v (st := st) (c := c) (by omega))
  have k42 := w42.trans (cel_v hI (c := c) (by omega))
  have hk9 := clk_b hI (c := c) (by omega) (by omega)
  have hct := I_c hI c (by omega) (by omega)
  refine px_callVI (C := RX0) (As := []) (rest := []) X (c_X0_isDown l D k (L) (M) (q (30 + c)) ⟨cO.1, cO.2.2⟩ (by rw [show (M) 2 (q (30 + c)) 0 = st 14 c from c2]; omega)) (cwV 0 (sw_ts X) (sw_goodV gw2_145 gw2_146 gw2_147 gw1_12 gw2_148) rfl rfl rfl (by decide +kernel) ⟨Nat.le_of_ble_eq_true rfl, Nat.le_of_ble_eq_true rfl⟩) ⟨cO.1, cO.2.2⟩ (by decide) rfl rfl dX5_isBroken_5 rfl rfl (Nat.le_of_ble_eq_true rfl) ⟨Nat.le_of_ble_eq_true rfl, Nat.le_of_ble_eq_true rfl⟩ (fun z3 w9 hp4 => ?_)
  obtain ⟨rfl, hp4⟩ := hp4
  rw [show (M) 2 (q (30 + c)) 0 = st 14 c from c2] at hp4
  exact RI _ _ _ _ _ _ dX5_isBroken_8 (Nat.le_of_ble_eq_true rfl) (Nat.le_of_ble_eq_true rfl) (nar_b (by omega)) ⟨by unfold kCar; split <;> (try split) <;> (try split) <;> omega, by unfold vBroken; split <;> omega, q, L, M, rfl, rfl, hC⟩
abbrev rm_X5_followed : Room := { frames := 7, cells := 1, slots := 6, locals := 104 }
set_option maxHeartbeats 4000000 in
set_option maxRecDepth 100000 in
theorem c_X5_followed (l : Launch) (hfl : l.stackTraces = false) (D : va_G) (k : Nat → ClassId) (N : Int) (st : ST) (q : Int → Nat) (L : List Nat) (M : MM) (c : Int) (hI : I6 N st) (hC : CW st q L M) (h_c : (-2147483648 ≤ c ∧ c < 2147483648)) : XI l yX5_followed cX5_followed 2 (some .int) rm_X5_followed D k [.ref (q 0), .int (J c)] (pW k L M) (xP k q (st) (kCar st c) ((folS st c (nP st c)).1)) (fun E w' => w' = pW k L M ∧ ((E = "java/lang/IndexOutOfBoundsException" ∧ kCar st c = 1))) := by
  refine XI.of hfl (by decide +kernel) rfl (Nat.le_of_ble_eq_true rfl) (fun pᵢ eᵢ sᵢ mᵢ argsᵢ belowᵢ methᵢ cᵢ Aᵢ Qᵢ X RI XO_ XT_ => ?_)
  show SW pᵢ l eᵢ rm_X5_followed sᵢ mᵢ argsᵢ belowᵢ methᵢ cᵢ 2 D Aᵢ 0 0 Qᵢ (pW k L M) 0 [(0, .ref (q 0)), (1, .int (J c))] []
  have hC2 := hC
  obtain ⟨⟨⟨o0, o1, o2, o3, o4⟩, ⟨n1, n2, n3, n4⟩, ⟨r51, r52, r55, r57, r59⟩, v50, v53, v54, v56, v58⟩, hBk, hCa, hGa, hPa⟩ := hC2
  have i1 := I_st hI
  have i2 := I_en hI
  have i5 := I_ga hI
  have i8 := I_cu hI
  have i9 := I_ca hI
  have i17 := I_pa hI
  obtain ⟨⟨⟨zL, zG, zK⟩, z40⟩, hBk2⟩ := hBk
  refine sw_aload_n X dX5_followed_0 rfl 0 rfl ?_
  refine sw_iload_n X dX5_followed_1 rfl 1 rfl ?_
  refine px_xVQ (C := RX5) (As := [.int (J c)]) (rest := []) X (c_X5_carAt l hfl D k N st q (L) (M) c hI hC (by omega)) (cwV 1 (sw_ts X) (sw_goodV gw2_136 gw2_138 gws_5 gw1_1 gw2_139) rfl rfl rfl (by decide +kernel) ⟨Nat.le_of_ble_eq_true rfl, Nat.le_of_ble_eq_true rfl⟩) ⟨o0.1, o0.2.2⟩ (by decide) rfl rfl dX5_followed_2 rfl rfl (Nat.le_of_ble_eq_true rfl) ⟨Nat.le_of_ble_eq_true rfl, Nat.le_of_ble_eq_true rfl⟩ (fun E9 w9 hx => XO_ _ _ _ _ _ _ _ (Nat.le_of_ble_eq_true rfl) (Nat.le_of_ble_eq_true rfl) (by obtain ⟨rfl, rfl, hx⟩ := hx; exact ⟨rfl, ⟨rfl, by unfold kCar; split <;> (try split) <;> (try split) <;> omega⟩⟩)) (fun z1 w9 hp2 => ?_)
  obtain ⟨rfl, hrz1, rfl⟩ := hp2
  obtain ⟨hWc, ⟨cO, cR⟩, c0, c1, c2, c3, ⟨dO, dN⟩, dV⟩ := hCa c (by omega) (by omega)
  have hWc2 := hWc
  obtain ⟨⟨⟨wL, wG, wK⟩, w40⟩, w41, w42, w43, w44, ⟨⟨aL, aG, aK⟩, aN⟩, hp⟩ := hWc2
  have k44 := w44.trans (clk_v (st := st) (c := c) (by omega))
  have k42 := w42.trans (cel_v hI (c := c) (by omega))
  have hk9 := clk_b hI (c := c) (by omega) (by omega)
  have hct := I_c hI c (by omega) (by omega)
  refine px_getN (n := "") (d := "") (v := .ref (q (10 + c))) X iw_X0 cO.1 (by decide) cO.2.2 rfl 0 (by decide) (List.mem_of_getElem? (i := 14) rfl) rfl (congrArg some (rf_of c0)) dX5_followed_5 ?_
  refine sw_aload_n X dX5_followed_8 rfl 0 rfl ?_
  refine px_get (v := .ref (q (10 + -1))) X iw_X5 o0.1 (by decide) o0.2.2 rfl 1 (by decide) gw1_58 rfl (congrArg some (rf_of r51)) dX5_followed_9 ?_
  refine px_callVI (C := RX4) (As := [.ref (q (10 + -1))]) (rest := []) X (c_X4_followedOf l D k N st q L M c hI (by omega) hWc hC.2.1) (cwV 1 (sw_ts X) (sw_goodV gw3_86 gw3_87 gw3_88 gw1_2 gw3_89) rfl rfl rfl (by decide +kernel) ⟨Nat.le_of_ble_eq_true rfl, Nat.le_of_ble_eq_true rfl⟩) ⟨wL, wK⟩ (by decide) rfl rfl dX5_followed_12 rfl rfl (Nat.le_of_ble_eq_true rfl) ⟨Nat.le_of_ble_eq_true rfl, Nat.le_of_ble_eq_true rfl⟩ (fun z3 w9 hp4 => ?_)
  obtain ⟨rfl, rfl⟩ := hp4
  exact RI _ _ _ _ _ _ dX5_followed_15 (Nat.le_of_ble_eq_true rfl) (Nat.le_of_ble_eq_true rfl) rfl ⟨by unfold kCar; split <;> (try split) <;> (try split) <;> omega, rfl, q, L, M, rfl, rfl, hC⟩
abbrev rm_X5_cellAt : Room := { frames := 7, cells := 2, slots := 12, locals := 104 }
set_option maxHeartbeats 4000000 in
set_option maxRecDepth 100000 in
theorem c_X5_cellAt (l : Launch) (hfl : l.stackTraces = false) (D : va_G) (k : Nat → ClassId) (N : Int) (st : ST) (q : Int → Nat) (L : List Nat) (M : MM) (c a : Int) (hI : I6 N st) (hC : CW st q L M) (h_c : (-2147483648 ≤ c ∧ c < 2147483648)) (h_a : (-2147483648 ≤ a ∧ a < 2147483648)) : XI l yX5_cellAt cX5_cellAt 4 (some .int) rm_X5_cellAt D k [.ref (q 0), .int (J c), .int (J a)] (pW k L M) (xP k q (st) (kCellAt st c a) (aC st c a)) (fun E w' => w' = pW k L M ∧ ((E = "java/lang/IndexOutOfBoundsException" ∧ kCellAt st c a = 1) ∨ (E = "java/lang/IllegalArgumentException" ∧ kCellAt st c a = 2))) := by
  refine XI.of hfl (by decide +kernel) rfl (Nat.le_of_ble_eq_true rfl) (fun pᵢ eᵢ sᵢ mᵢ argsᵢ belowᵢ methᵢ cᵢ Aᵢ Qᵢ X RI XO_ XT_ => ?_)
  show SW pᵢ l eᵢ rm_X5_cellAt sᵢ mᵢ argsᵢ belowᵢ methᵢ cᵢ 4 D Aᵢ 0 0 Qᵢ (pW k L M) 0 [(0, .ref (q 0)), (1, .int (J c)), (2, .int (J a))] []
  have hC2 := hC
  obtain ⟨⟨⟨o0, o1, o2, o3, o4⟩, ⟨n1, n2, n3, n4⟩, ⟨r51, r52, r55, r57, r59⟩, v50, v53, v54, v56, v58⟩, hBk, hCa, hGa, hPa⟩ := hC2
  have i1 := I_st hI
  have i2 := I_en hI
  have i5 := I_ga hI
  have i8 := I_cu hI
  have i9 := I_ca hI
  have i17 := I_pa hI
  refine sw_aload_n X dX5_cellAt_0 rfl 0 rfl ?_
  refine sw_iload_n X dX5_cellAt_1 rfl 1 rfl ?_
  refine px_xVQ (C := RX5) (As := [.int (J c)]) (rest := []) X (c_X5_carAt l hfl D k N st q (L) (M) c hI hC (by omega)) (cwV 1 (sw_ts X) (sw_goodV gw2_136 gw2_138 gws_5 gw1_1 gw2_139) rfl rfl rfl (by decide +kernel) ⟨Nat.le_of_ble_eq_true rfl, Nat.le_of_ble_eq_true rfl⟩) ⟨o0.1, o0.2.2⟩ (by decide) rfl rfl dX5_cellAt_2 rfl rfl (Nat.le_of_ble_eq_true rfl) ⟨Nat.le_of_ble_eq_true rfl, Nat.le_of_ble_eq_true rfl⟩ (fun E9 w9 hx => XO_ _ _ _ _ _ _ _ (Nat.le_of_ble_eq_true rfl) (Nat.le_of_ble_eq_true rfl) (by obtain ⟨rfl, rfl, hx⟩ := hx; exact ⟨rfl, Or.inl ⟨rfl, by unfold kCellAt; split <;> (try split) <;> (try split) <;> omega⟩⟩)) (fun z1 w9 hp2 => ?_)
  obtain ⟨rfl, hrz1, rfl⟩ := hp2
  obtain ⟨hWc, ⟨cO, cR⟩, c0, c1, c2, c3, ⟨dO, dN⟩, dV⟩ := hCa c (by omega) (by omega)
  have hWc2 := hWc
  obtain ⟨⟨⟨wL, wG, wK⟩, w40⟩, w41, w42, w43, w44, ⟨⟨aL, aG, aK⟩, aN⟩, hp⟩ := hWc2
  have k44 := w44.trans (clk_v (st := st) (c := c) (by omega))
  have k42 := w42.trans (cel_v hI (c := c) (by omega))
  have hk9 := clk_b hI (c := c) (by omega) (by omega)
  have hct := I_c hI c (by omega) (by omega)
  refine px_getN (n := "") (d := "") (v := .ref (q (10 + c))) X iw_X0 cO.1 (by decide) cO.2.2 rfl 0 (by decide) (List.mem_of_getElem? (i := 14) rfl) rfl (congrArg some (rf_of c0)) dX5_cellAt_5 ?_
  refine sw_astore_n (lv' := [(3, .ref (q (10 + c))), (0, .ref (q 0)), (1, .int (J c)), (2, .int (J a))]) X dX5_cellAt_8 rfl (by decide) rfl ?_
  refine sw_iload_n X dX5_cellAt_9 rfl 3 rfl ?_
  refine sw_iconst X dX5_cellAt_10 ?_
  refine sw_aload_n X dX5_cellAt_11 rfl 0 rfl ?_
  refine px_getN (n := "") (d := "") (v := .int (J (clk st c))) X iw_X4 wL (by decide) wK rfl 4 (by decide) (List.mem_of_getElem? (i := 2) rfl) rfl (congrArg (fun z => some (Value.int (J z))) k44) dX5_cellAt_12 ?_
  refine sw_callSI0 (As := [.int (J a), .int (J 0), .int (J (clk st c))]) (rest := []) X (c_X5_isWithin l D k (pW k L M) a 0 (clk st c) (by omega)) (va_cwS 3 (sw_ts X) (sw_goodS gw1_102 gw1_103 gw1_1 gw1_104) rfl rfl rfl (by decide +kernel) ⟨Nat.le_of_ble_eq_true rfl, Nat.le_of_ble_eq_true rfl⟩) dX5_cellAt_15 rfl rfl (Nat.le_of_ble_eq_true rfl) ⟨Nat.le_of_ble_eq_true rfl, Nat.le_of_ble_eq_true rfl⟩ (fun z3 w9 hp4 => ?_)
  obtain ⟨rfl, hp4⟩ := hp4
  refine sw_xSV (As := [.int (J z3)]) (rest := []) X (c_X5_checkArgument l hfl D k (pW k L M) z3 (by omega)) (va_cwS 1 (sw_ts X) (sw_goodS gw1_105 gw1_106 gw1_1 gw1_107) rfl rfl rfl (by decide +kernel) ⟨Nat.le_of_ble_eq_true rfl, Nat.le_of_ble_eq_true rfl⟩) dX5_cellAt_18 rfl rfl (Nat.le_of_ble_eq_true rfl) ⟨Nat.le_of_ble_eq_true rfl, Nat.le_of_ble_eq_true rfl⟩ (fun E9 w9 hx => XO_ _ _ _ _ _ _ _ (Nat.le_of_ble_eq_true rfl) (Nat.le_of_ble_eq_true rfl) (by obtain ⟨rfl, rfl, hx⟩ := hx; exact ⟨rfl, Or.inr (⟨rfl, by unfold kCellAt; split <;> (try split) <;> (try split) <;> omega⟩)⟩)) (fun w9 hp6 => ?_)
  obtain ⟨rfl, hp6⟩ := hp6
  refine sw_aload_n X dX5_cellAt_21 rfl 0 rfl ?_
  refine sw_iload_n X dX5_cellAt_22 rfl 3 rfl ?_
  refine sw_aload_n X dX5_cellAt_23 rfl 0 rfl ?_
  refine sw_iload_n X dX5_cellAt_24 rfl 3 rfl ?_
  refine sw_iconst X dX5_cellAt_25 ?_
  refine px_callVI (C := RX4) (As := [.int (J a), .int (J 0)]) (rest := [.int (J a), .ref (q (10 + c))]) X (c_X4_pieceAtMinute l D k N st q L M c a 0 hI (by omega) hWc (by omega) (Or.inl rfl) (by omega)) (cwV 2 (sw_ts X) (sw_goodV gw3_101 gw3_102 gw3_103 gw1_2 gw3_104) rfl rfl rfl (by decide +kernel) ⟨Nat.le_of_ble_eq_true rfl, Nat.le_of_ble_eq_true rfl⟩) ⟨wL, wK⟩ (by decide) rfl rfl dX5_cellAt_26 rfl rfl (Nat.le_of_ble_eq_true rfl) ⟨Nat.le_of_ble_eq_true rfl, Nat.le_of_ble_eq_true rfl⟩ (fun z7 w9 hp8 => ?_)
  obtain ⟨rfl, n2, hz2, hq2, hx2⟩ := hp8
  have hv9 := vN_t (st := st) (c := c) (by omega)
  refine px_callVI (C := RX4) (As := [.int (J a), .int (J z7)]) (rest := []) X (c_X4_cellAtMinute l D k N st q L M c a z7 n2 hI (by omega) hWc hz2 (by omega) (by omega) hq2 hx2) (cwV 2 (sw_ts X) (sw_goodV gw3_109 gw3_110 gw3_111 gw1_2 gw3_112) rfl rfl rfl (by decide +kernel) ⟨Nat.le_of_ble_eq_true rfl, Nat.le_of_ble_eq_true rfl⟩) ⟨wL, wK⟩ (by decide) rfl rfl dX5_cellAt_29 rfl rfl (Nat.le_of_ble_eq_true rfl) ⟨Nat.le_of_ble_eq_true rfl, Nat.le_of_ble_eq_true rfl⟩ (fun z9 w9 hp10 => ?_)
  obtain ⟨rfl, rfl⟩ := hp10
  exact RI _ _ _ _ _ _ dX5_cellAt_32 (Nat.le_of_ble_eq_true rfl) (Nat.le_of_ble_eq_true rfl) rfl ⟨by unfold kCellAt; split <;> (try split) <;> (try split) <;> omega, rfl, q, L, M, rfl, rfl, hC⟩
abbrev rm_X5_byTrack : Room := { frames := 8, cells := 2, slots := 12, locals := 123 }
set_option maxHeartbeats 4000000 in
set_option maxRecDepth 100000 in
theorem c_X5_byTrack (l : Launch) (hfl : l.stackTraces = false) (D : va_G) (k : Nat → ClassId) (N : Int) (st : ST) (q : Int → Nat) (L : List Nat) (M : MM) (c b : Int) (hI : I6 N st) (hC : CW st q L M) (h_c : (-2147483648 ≤ c ∧ c < 2147483648)) (h_b : (-2147483648 ≤ b ∧ b < 2147483648)) : XI l yX5_byTrack cX5_byTrack 4 (some .int) rm_X5_byTrack D k [.ref (q 0), .int (J c), .int (J b)] (pW k L M) (xP k q (st) (kCG st c b) (pas st c b)) (fun E w' => w' = pW k L M ∧ ((E = "java/lang/IndexOutOfBoundsException" ∧ kCG st c b = 1))) := by
  refine XI.of hfl (by decide +kernel) rfl (Nat.le_of_ble_eq_true rfl) (fun pᵢ eᵢ sᵢ mᵢ argsᵢ belowᵢ methᵢ cᵢ Aᵢ Qᵢ X RI XO_ XT_ => ?_)
  show SW pᵢ l eᵢ rm_X5_byTrack sᵢ mᵢ argsᵢ belowᵢ methᵢ cᵢ 4 D Aᵢ 0 0 Qᵢ (pW k L M) 0 [(0, .ref (q 0)), (1, .int (J c)), (2, .int (J b))] []
  have hC2 := hC
  obtain ⟨⟨⟨o0, o1, o2, o3, o4⟩, ⟨n1, n2, n3, n4⟩, ⟨r51, r52, r55, r57, r59⟩, v50, v53, v54, v56, v58⟩, hBk, hCa, hGa, hPa⟩ := hC2
  have i1 := I_st hI
  have i2 := I_en hI
  have i5 := I_ga hI
  have i8 := I_cu hI
  have i9 := I_ca hI
  have i17 := I_pa hI
  refine sw_aload_n X dX5_byTrack_0 rfl 0 rfl ?_
  refine sw_iload_n X dX5_byTrack_1 rfl 1 rfl ?_
  refine px_xVQ (C := RX5) (As := [.int (J c)]) (rest := []) X (c_X5_carAt l hfl D k N st q (L) (M) c hI hC (by omega)) (cwV 1 (sw_ts X) (sw_goodV gw2_136 gw2_138 gws_5 gw1_1 gw2_139) rfl rfl rfl (by decide +kernel) ⟨Nat.le_of_ble_eq_true rfl, Nat.le_of_ble_eq_true rfl⟩) ⟨o0.1, o0.2.2⟩ (by decide) rfl rfl dX5_byTrack_2 rfl rfl (Nat.le_of_ble_eq_true rfl) ⟨Nat.le_of_ble_eq_true rfl, Nat.le_of_ble_eq_true rfl⟩ (fun E9 w9 hx => XO_ _ _ _ _ _ _ _ (Nat.le_of_ble_eq_true rfl) (Nat.le_of_ble_eq_true rfl) (by obtain ⟨rfl, rfl, hx⟩ := hx; exact ⟨rfl, ⟨rfl, by unfold kCG; split <;> (try split) <;> (try split) <;> omega⟩⟩)) (fun z1 w9 hp2 => ?_)
  obtain ⟨rfl, hrz1, rfl⟩ := hp2
  obtain ⟨hWc, ⟨cO, cR⟩, c0, c1, c2, c3, ⟨dO, dN⟩, dV⟩ := hCa c (by omega) (by omega)
  have hWc2 := hWc
  obtain ⟨⟨⟨wL, wG, wK⟩, w40⟩, w41, w42, w43, w44, ⟨⟨aL, aG, aK⟩, aN⟩, hp⟩ := hWc2
  have k44 := w44.trans (clk_v (st := st) (c := c) (by omega))
  have k42 := w42.trans (cel_v hI (c := c) (by omega))
  have hk9 := clk_b hI (c := c) (by omega) (by omega)
  have hct := I_c hI c (by omega) (by omega)
  refine sw_astore_n (lv' := [(3, .ref (q (30 + c))), (0, .ref (q 0)), (1, .int (J c)), (2, .int (J b))]) X dX5_byTrack_5 rfl (by decide) rfl ?_
  refine sw_aload_n X dX5_byTrack_6 rfl 1 rfl ?_
  refine sw_iload_n X dX5_byTrack_7 rfl 3 rfl ?_
  refine px_xVV (C := RX5) (As := [.int (J b)]) (rest := []) X (c_X5_checkGate l hfl D k N st q (L) (M) b hI hC (by omega)) (cwV 1 (sw_ts X) (sw_goodV gw3_17 gw3_19 gws_11 gw1_1 gw3_20) rfl rfl rfl (by decide +kernel) ⟨Nat.le_of_ble_eq_true rfl, Nat.le_of_ble_eq_true rfl⟩) ⟨o0.1, o0.2.2⟩ (by decide) rfl rfl dX5_byTrack_8 rfl rfl (Nat.le_of_ble_eq_true rfl) ⟨Nat.le_of_ble_eq_true rfl, Nat.le_of_ble_eq_true rfl⟩ (fun E9 w9 hx => XO_ _ _ _ _ _ _ _ (Nat.le_of_ble_eq_true rfl) (Nat.le_of_ble_eq_true rfl) (by obtain ⟨rfl, rfl, hx⟩ := hx; exact ⟨rfl, ⟨rfl, by unfold kCG; split <;> (try split) <;> (try split) <;> omega⟩⟩)) (fun w9 hp4 => ?_)
  obtain ⟨rfl, hrz3⟩ := hp4
  refine sw_aload_n X dX5_byTrack_11 rfl 1 rfl ?_
  refine sw_aload_n X dX5_byTrack_12 rfl 0 rfl ?_
  refine sw_iload_n X dX5_byTrack_13 rfl 3 rfl ?_
  refine px_callVI (C := RX5) (As := [.ref (q (30 + c)), .int (J b)]) (rest := []) X (c_X5_passMinute l D k N st q (L) (M) c b hI hC (by omega) (by omega)) (cwV 2 (sw_ts X) (sw_goodV gw3_21 gw3_23 gws_12 gw1_1 gw3_24) rfl rfl rfl (by decide +kernel) ⟨Nat.le_of_ble_eq_true rfl, Nat.le_of_ble_eq_true rfl⟩) ⟨o0.1, o0.2.2⟩ (by decide) rfl rfl dX5_byTrack_14 rfl rfl (Nat.le_of_ble_eq_true rfl) ⟨Nat.le_of_ble_eq_true rfl, Nat.le_of_ble_eq_true rfl⟩ (fun z5 w9 hp6 => ?_)
  obtain ⟨rfl, rfl⟩ := hp6
  have hpb := pas_b hI (c := c) (by omega) b
  exact RI _ _ _ _ _ _ dX5_byTrack_17 (Nat.le_of_ble_eq_true rfl) (Nat.le_of_ble_eq_true rfl) rfl ⟨by unfold kCG; split <;> (try split) <;> (try split) <;> omega, rfl, q, L, M, rfl, rfl, hC⟩
abbrev rm_X5_time : Room := { frames := 8, cells := 2, slots := 12, locals := 123 }
set_option maxHeartbeats 4000000 in
set_option maxRecDepth 100000 in
theorem c_X5_time (l : Launch) (hfl : l.stackTraces = false) (D : va_G) (k : Nat → ClassId) (N : Int) (st : ST) (q : Int → Nat) (L : List Nat) (M : MM) (c b : Int) (hI : I6 N st) (hC : CW st q L M) (h_c : (-2147483648 ≤ c ∧ c < 2147483648)) (h_b : (-2147483648 ≤ b ∧ b < 2147483648)) : XI l yX5_time cX5_time 4 (some .int) rm_X5_time D k [.ref (q 0), .int (J c), .int (J b)] (pW k L M) (xP k q (st) (kCG st c b) (tim st c b)) (fun E w' => w' = pW k L M ∧ ((E = "java/lang/IndexOutOfBoundsException" ∧ kCG st c b = 1))) := by
  refine XI.of hfl (by decide +kernel) rfl (Nat.le_of_ble_eq_true rfl) (fun pᵢ eᵢ sᵢ mᵢ argsᵢ belowᵢ methᵢ cᵢ Aᵢ Qᵢ X RI XO_ XT_ => ?_)
  show SW pᵢ l eᵢ rm_X5_time sᵢ mᵢ argsᵢ belowᵢ methᵢ cᵢ 4 D Aᵢ 0 0 Qᵢ (pW k L M) 0 [(0, .ref (q 0)), (1, .int (J c)), (2, .int (J b))] []
  have hC2 := hC
  obtain ⟨⟨⟨o0, o1, o2, o3, o4⟩, ⟨n1, n2, n3, n4⟩, ⟨r51, r52, r55, r57, r59⟩, v50, v53, v54, v56, v58⟩, hBk, hCa, hGa, hPa⟩ := hC2
  have i1 := I_st hI
  have i2 := I_en hI
  have i5 := I_ga hI
  have i8 := I_cu hI
  have i9 := I_ca hI
  have i17 := I_pa hI
  refine sw_aload_n X dX5_time_0 rfl 0 rfl ?_
  refine sw_iload_n X dX5_time_1 rfl 1 rfl ?_
  refine px_xVQ (C := RX5) (As := [.int (J c)]) (rest := []) X (c_X5_carAt l hfl D k N st q (L) (M) c hI hC (by omega)) (cwV 1 (sw_ts X) (sw_goodV gw2_136 gw2_138 gws_5 gw1_1 gw2_139) rfl rfl rfl (by decide +kernel) ⟨Nat.le_of_ble_eq_true rfl, Nat.le_of_ble_eq_true rfl⟩) ⟨o0.1, o0.2.2⟩ (by decide) rfl rfl dX5_time_2 rfl rfl (Nat.le_of_ble_eq_true rfl) ⟨Nat.le_of_ble_eq_true rfl, Nat.le_of_ble_eq_true rfl⟩ (fun E9 w9 hx => XO_ _ _ _ _ _ _ _ (Nat.le_of_ble_eq_true rfl) (Nat.le_of_ble_eq_true rfl) (by obtain ⟨rfl, rfl, hx⟩ := hx; exact ⟨rfl, ⟨rfl, by unfold kCG; split <;> (try split) <;> (try split) <;> omega⟩⟩)) (fun z1 w9 hp2 => ?_)
  obtain ⟨rfl, hrz1, rfl⟩ := hp2
  obtain ⟨hWc, ⟨cO, cR⟩, c0, c1, c2, c3, ⟨dO, dN⟩, dV⟩ := hCa c (by omega) (by omega)
  have hWc2 := hWc
  obtain ⟨⟨⟨wL, wG, wK⟩, w40⟩, w41, w42, w43, w44, ⟨⟨aL, aG, aK⟩, aN⟩, hp⟩ := hWc2
  have k44 := w44.trans (clk_v (st := st) (c := c) (by omega))
  have k42 := w42.trans (cel_v hI (c := c) (by omega))
  have hk9 := clk_b hI (c := c) (by omega) (by omega)
  have hct := I_c hI c (by omega) (by omega)
  refine sw_astore_n (lv' := [(3, .ref (q (30 + c))), (0, .ref (q 0)), (1, .int (J c)), (2, .int (J b))]) X dX5_time_5 rfl (by decide) rfl ?_
  refine sw_aload_n X dX5_time_6 rfl 1 rfl ?_
  refine sw_iload_n X dX5_time_7 rfl 3 rfl ?_
  refine px_xVV (C := RX5) (As := [.int (J b)]) (rest := []) X (c_X5_checkGate l hfl D k N st q (L) (M) b hI hC (by omega)) (cwV 1 (sw_ts X) (sw_goodV gw3_17 gw3_19 gws_11 gw1_1 gw3_20) rfl rfl rfl (by decide +kernel) ⟨Nat.le_of_ble_eq_true rfl, Nat.le_of_ble_eq_true rfl⟩) ⟨o0.1, o0.2.2⟩ (by decide) rfl rfl dX5_time_8 rfl rfl (Nat.le_of_ble_eq_true rfl) ⟨Nat.le_of_ble_eq_true rfl, Nat.le_of_ble_eq_true rfl⟩ (fun E9 w9 hx => XO_ _ _ _ _ _ _ _ (Nat.le_of_ble_eq_true rfl) (Nat.le_of_ble_eq_true rfl) (by obtain ⟨rfl, rfl, hx⟩ := hx; exact ⟨rfl, ⟨rfl, by unfold kCG; split <;> (try split) <;> (try split) <;> omega⟩⟩)) (fun w9 hp4 => ?_)
  obtain ⟨rfl, hrz3⟩ := hp4
  refine sw_aload_n X dX5_time_11 rfl 0 rfl ?_
  refine sw_iload_n X dX5_time_12 rfl 3 rfl ?_
  refine sw_aload_n X dX5_time_13 rfl 1 rfl ?_
  refine sw_aload_n X dX5_time_14 rfl 0 rfl ?_
  refine sw_iload_n X dX5_time_15 rfl 3 rfl ?_
  refine px_callVI (C := RX5) (As := [.ref (q (30 + c)), .int (J b)]) (rest := [.int (J b), .ref (q (30 + c))]) X (c_X5_passMinute l D k N st q (L) (M) c b hI hC (by omega) (by omega)) (cwV 2 (sw_ts X) (sw_goodV gw3_21 gw3_23 gws_12 gw1_1 gw3_24) rfl rfl rfl (by decide +kernel) ⟨Nat.le_of_ble_eq_true rfl, Nat.le_of_ble_eq_true rfl⟩) ⟨o0.1, o0.2.2⟩ (by decide) rfl rfl dX5_time_16 rfl rfl (Nat.le_of_ble_eq_true rfl) ⟨Nat.le_of_ble_eq_true rfl, Nat.le_of_ble_eq_true rfl⟩ (fun z5 w9 hp6 => ?_)
  obtain ⟨rfl, rfl⟩ := hp6
  have hpb := pas_b hI (c := c) (by omega) b
  refine px_callVI (C := RX0) (As := [.int (J b), .int (J (pas st c b))]) (rest := []) X (c_X0_timeAt l D k L M (q (30 + c)) (q (40 + c)) b (pas st c b) ⟨cO.1, cO.2.2⟩ c1 ⟨dO.1, dO.2.2⟩ dN (by omega) (by rw [dV b (by omega) (by omega)]; exact I_r hI c b (by omega) (by omega) (by omega) (by omega))) (cwV 2 (sw_ts X) (sw_goodV gw3_44 gw3_45 gw3_46 gw1_12 gw3_47) rfl rfl rfl (by decide +kernel) ⟨Nat.le_of_ble_eq_true rfl, Nat.le_of_ble_eq_true rfl⟩) ⟨cO.1, cO.2.2⟩ (by decide) rfl rfl dX5_time_19 rfl rfl (Nat.le_of_ble_eq_true rfl) ⟨Nat.le_of_ble_eq_true rfl, Nat.le_of_ble_eq_true rfl⟩ (fun z7 w9 hp8 => ?_)
  obtain ⟨rfl, hp8⟩ := hp8
  rw [dV b (by omega) (by omega)] at hp8
  have ht8 : z7 = tim st c b := hp8
  subst ht8
  have htb := tim_b hI (c := c) (g := b) (by omega) (by omega)
  exact RI _ _ _ _ _ _ dX5_time_22 (Nat.le_of_ble_eq_true rfl) (Nat.le_of_ble_eq_true rfl) rfl ⟨by unfold kCG; split <;> (try split) <;> (try split) <;> omega, rfl, q, L, M, rfl, rfl, hC⟩
abbrev rm_X5_points : Room := { frames := 7, cells := 1, slots := 6, locals := 104 }
set_option maxHeartbeats 4000000 in
set_option maxRecDepth 100000 in
theorem c_X5_points (l : Launch) (hfl : l.stackTraces = false) (D : va_G) (k : Nat → ClassId) (N : Int) (st : ST) (q : Int → Nat) (L : List Nat) (M : MM) (c : Int) (hI : I6 N st) (hC : CW st q L M) (h_c : (-2147483648 ≤ c ∧ c < 2147483648)) (hN : N ≤ 100000) : XI l yX5_points cX5_points 2 (some .int) rm_X5_points D k [.ref (q 0), .int (J c)] (pW k L M) (xP k q (st) (kCar st c) (pts st c)) (fun E w' => w' = pW k L M ∧ ((E = "java/lang/IndexOutOfBoundsException" ∧ kCar st c = 1))) := by
  refine XI.of hfl (by decide +kernel) rfl (Nat.le_of_ble_eq_true rfl) (fun pᵢ eᵢ sᵢ mᵢ argsᵢ belowᵢ methᵢ cᵢ Aᵢ Qᵢ X RI XO_ XT_ => ?_)
  show SW pᵢ l eᵢ rm_X5_points sᵢ mᵢ argsᵢ belowᵢ methᵢ cᵢ 2 D Aᵢ 0 0 Qᵢ (pW k L M) 0 [(0, .ref (q 0)), (1, .int (J c))] []
  have hC2 := hC
  obtain ⟨⟨⟨o0, o1, o2, o3, o4⟩, ⟨n1, n2, n3, n4⟩, ⟨r51, r52, r55, r57, r59⟩, v50, v53, v54, v56, v58⟩, hBk, hCa, hGa, hPa⟩ := hC2
  have i1 := I_st hI
  have i2 := I_en hI
  have i5 := I_ga hI
  have i8 := I_cu hI
  have i9 := I_ca hI
  have i17 := I_pa hI
  refine sw_aload_n X dX5_points_0 rfl 0 rfl ?_
  refine sw_aload_n X dX5_points_1 rfl 0 rfl ?_
  refine sw_iload_n X dX5_points_2 rfl 1 rfl ?_
  refine px_xVQ (C := RX5) (As := [.int (J c)]) (rest := [.ref (q 0)]) X (c_X5_carAt l hfl D k N st q (L) (M) c hI hC (by omega)) (cwV 1 (sw_ts X) (sw_goodV gw2_136 gw2_138 gws_5 gw1_1 gw2_139) rfl rfl rfl (by decide +kernel) ⟨Nat.le_of_ble_eq_true rfl, Nat.le_of_ble_eq_true rfl⟩) ⟨o0.1, o0.2.2⟩ (by decide) rfl rfl dX5_points_3 rfl rfl (Nat.le_of_ble_eq_true rfl) ⟨Nat.le_of_ble_eq_true rfl, Nat.le_of_ble_eq_true rfl⟩ (fun E9 w9 hx => XO_ _ _ _ _ _ _ _ (Nat.le_of_ble_eq_true rfl) (Nat.le_of_ble_eq_true rfl) (by obtain ⟨rfl, rfl, hx⟩ := hx; exact ⟨rfl, ⟨rfl, by unfold kCar; split <;> (try split) <;> (try split) <;> omega⟩⟩)) (fun z1 w9 hp2 => ?_)
  obtain ⟨rfl, hrz1, rfl⟩ := hp2
  obtain ⟨hWc, ⟨cO, cR⟩, c0, c1, c2, c3, ⟨dO, dN⟩, dV⟩ := hCa c (by omega) (by omega)
  have hWc2 := hWc
  obtain ⟨⟨⟨wL, wG, wK⟩, w40⟩, w41, w42, w43, w44, ⟨⟨aL, aG, aK⟩, aN⟩, hp⟩ := hWc2
  have k44 := w44.trans (clk_v (st := st) (c := c) (by omega))
  have k42 := w42.trans (cel_v hI (c := c) (by omega))
  have hk9 := clk_b hI (c := c) (by omega) (by omega)
  have hct := I_c hI c (by omega) (by omega)
  refine px_callVI (C := RX5) (As := [.ref (q (30 + c))]) (rest := []) X (c_X5_pointsOf l D k N st q (L) (M) c hI hC (by omega) hN) (cwV 1 (sw_ts X) (sw_goodV gw3_155 gw3_157 gws_15 gw1_1 gw3_158) rfl rfl rfl (by decide +kernel) ⟨Nat.le_of_ble_eq_true rfl, Nat.le_of_ble_eq_true rfl⟩) ⟨o0.1, o0.2.2⟩ (by decide) rfl rfl dX5_points_6 rfl rfl (Nat.le_of_ble_eq_true rfl) ⟨Nat.le_of_ble_eq_true rfl, Nat.le_of_ble_eq_true rfl⟩ (fun z3 w9 hp4 => ?_)
  obtain ⟨rfl, rfl⟩ := hp4
  exact RI _ _ _ _ _ _ dX5_points_9 (Nat.le_of_ble_eq_true rfl) (Nat.le_of_ble_eq_true rfl) rfl ⟨by unfold kCar; split <;> (try split) <;> (try split) <;> omega, rfl, q, L, M, rfl, rfl, hC⟩
abbrev rm_X5_byMinutes : Room := { frames := 8, cells := 2, slots := 12, locals := 123 }
set_option maxHeartbeats 4000000 in
set_option maxRecDepth 100000 in
theorem c_X5_byMinutes (l : Launch) (hfl : l.stackTraces = false) (D : va_G) (k : Nat → ClassId) (N : Int) (st : ST) (q : Int → Nat) (L : List Nat) (M : MM) (c b : Int) (hI : I6 N st) (hC : CW st q L M) (h_c : (-2147483648 ≤ c ∧ c < 2147483648)) (h_b : (-2147483648 ≤ b ∧ b < 2147483648)) : XI l yX5_byMinutes cX5_byMinutes 7 (some .int) rm_X5_byMinutes D k [.ref (q 0), .int (J c), .int (J b)] (pW k L M) (xP k q (st) (kCG st c b) (pas st c b)) (fun E w' => w' = pW k L M ∧ ((E = "java/lang/IndexOutOfBoundsException" ∧ kCG st c b = 1))) := by
  refine XI.of hfl (by decide +kernel) rfl (Nat.le_of_ble_eq_true rfl) (fun pᵢ eᵢ sᵢ mᵢ argsᵢ belowᵢ methᵢ cᵢ Aᵢ Qᵢ X RI XO_ XT_ => ?_)
  show SW pᵢ l eᵢ rm_X5_byMinutes sᵢ mᵢ argsᵢ belowᵢ methᵢ cᵢ 7 D Aᵢ 0 0 Qᵢ (pW k L M) 0 [(0, .ref (q 0)), (1, .int (J c)), (2, .int (J b))] []
  have hC2 := hC
  obtain ⟨⟨⟨o0, o1, o2, o3, o4⟩, ⟨n1, n2, n3, n4⟩, ⟨r51, r52, r55, r57, r59⟩, v50, v53, v54, v56, v58⟩, hBk, hCa, hGa, hPa⟩ := hC2
  have i1 := I_st hI
  have i2 := I_en hI
  have i5 := I_ga hI
  have i8 := I_cu hI
  have i9 := I_ca hI
  have i17 := I_pa hI
  refine sw_aload_n X dX5_byMinutes_0 rfl 0 rfl ?_
  refine sw_iload_n X dX5_byMinutes_1 rfl 1 rfl ?_
  refine px_xVQ (C := RX5) (As := [.int (J c)]) (rest := []) X (c_X5_carAt l hfl D k N st q (L) (M) c hI hC (by omega)) (cwV 1 (sw_ts X) (sw_goodV gw2_136 gw2_138 gws_5 gw1_1 gw2_139) rfl rfl rfl (by decide +kernel) ⟨Nat.le_of_ble_eq_true rfl, Nat.le_of_ble_eq_true rfl⟩) ⟨o0.1, o0.2.2⟩ (by decide) rfl rfl dX5_byMinutes_2 rfl rfl (Nat.le_of_ble_eq_true rfl) ⟨Nat.le_of_ble_eq_true rfl, Nat.le_of_ble_eq_true rfl⟩ (fun E9 w9 hx => XO_ _ _ _ _ _ _ _ (Nat.le_of_ble_eq_true rfl) (Nat.le_of_ble_eq_true rfl) (by obtain ⟨rfl, rfl, hx⟩ := hx; exact ⟨rfl, ⟨rfl, by unfold kCG; split <;> (try split) <;> (try split) <;> omega⟩⟩)) (fun z1 w9 hp2 => ?_)
  obtain ⟨rfl, hrz1, rfl⟩ := hp2
  obtain ⟨hWc, ⟨cO, cR⟩, c0, c1, c2, c3, ⟨dO, dN⟩, dV⟩ := hCa c (by omega) (by omega)
  have hWc2 := hWc
  obtain ⟨⟨⟨wL, wG, wK⟩, w40⟩, w41, w42, w43, w44, ⟨⟨aL, aG, aK⟩, aN⟩, hp⟩ := hWc2
  have k44 := w44.trans (clk_v (st := st) (c := c) (by omega))
  have k42 := w42.trans (cel_v hI (c := c) (by omega))
  have hk9 := clk_b hI (c := c) (by omega) (by omega)
  have hct := I_c hI c (by omega) (by omega)
  refine px_getN (n := "") (d := "") (v := .ref (q (10 + c))) X iw_X0 cO.1 (by decide) cO.2.2 rfl 0 (by decide) (List.mem_of_getElem? (i := 14) rfl) rfl (congrArg some (rf_of c0)) dX5_byMinutes_5 ?_
  refine sw_astore_n (lv' := [(3, .ref (q (10 + c))), (0, .ref (q 0)), (1, .int (J c)), (2, .int (J b))]) X dX5_byMinutes_8 rfl (by decide) rfl ?_
  refine sw_aload_n X dX5_byMinutes_9 rfl 1 rfl ?_
  refine sw_iload_n X dX5_byMinutes_10 rfl 3 rfl ?_
  refine px_xVV (C := RX5) (As := [.int (J b)]) (rest := []) X (c_X5_checkGate l hfl D k N st q (L) (M) b hI hC (by omega)) (cwV 1 (sw_ts X) (sw_goodV gw3_17 gw3_19 gws_11 gw1_1 gw3_20) rfl rfl rfl (by decide +kernel) ⟨Nat.le_of_ble_eq_true rfl, Nat.le_of_ble_eq_true rfl⟩) ⟨o0.1, o0.2.2⟩ (by decide) rfl rfl dX5_byMinutes_11 rfl rfl (Nat.le_of_ble_eq_true rfl) ⟨Nat.le_of_ble_eq_true rfl, Nat.le_of_ble_eq_true rfl⟩ (fun E9 w9 hx => XO_ _ _ _ _ _ _ _ (Nat.le_of_ble_eq_true rfl) (Nat.le_of_ble_eq_true rfl) (by obtain ⟨rfl, rfl, hx⟩ := hx; exact ⟨rfl, ⟨rfl, by unfold kCG; split <;> (try split) <;> (try split) <;> omega⟩⟩)) (fun w9 hp4 => ?_)
  obtain ⟨rfl, hrz3⟩ := hp4
  refine sw_iconst X dX5_byMinutes_14 ?_
  refine sw_istore (lv' := [(4, .int (J 0)), (3, .ref (q (10 + c))), (0, .ref (q 0)), (1, .int (J c)), (2, .int (J b))]) X dX5_byMinutes_15 (by decide) rfl ?_
  refine sw_iconst X dX5_byMinutes_17 ?_
  refine sw_istore (lv' := [(5, .int (J (-1))), (4, .int (J 0)), (3, .ref (q (10 + c))), (0, .ref (q 0)), (1, .int (J c)), (2, .int (J b))]) X dX5_byMinutes_18 (by decide) rfl ?_
  refine sw_iconst X dX5_byMinutes_20 ?_
  refine sw_istore (lv' := [(6, .int (J 0)), (5, .int (J (-1))), (4, .int (J 0)), (3, .ref (q (10 + c))), (0, .ref (q 0)), (1, .int (J c)), (2, .int (J b))]) X dX5_byMinutes_21 (by decide) rfl ?_
  have lp6 : ∀ (n7 : Nat) (n : Nat) (u v i : Int), b + 1 - i < (n7 : Nat) → (i = (n : Int)) → ((n : Int) ≤ b + 1) → (0 ≤ u ∧ u ≤ clk st c) → (u = (pasL st c n).1) → (v = (pasL st c n).2) → SW pᵢ l eᵢ rm_X5_byMinutes sᵢ mᵢ argsᵢ belowᵢ methᵢ cᵢ 7 D Aᵢ 2 12 Qᵢ (pW k L M) 23 [(0, .ref (q 0)), (1, .int (J c)), (2, .int (J b)), (3, .ref (q (10 + c))), (4, .int (J u)), (5, .int (J v)), (6, .int (J i))] [] := by
    intro n7
    induction n7 with
    | zero => intro n u v i hm8 hi hn hu hl hv; exact absurd hm8 (by omega)
    | succ n7 ih5 =>
      intro n u v i hm8 hi hn hu hl hv
      refine sw_iload X dX5_byMinutes_23 6 rfl ?_
      refine sw_iload_n X dX5_byMinutes_25 rfl 2 rfl ?_
      refine sw_icmp_gt (tgt := 61) X (by omega) (by omega) dX5_byMinutes_26 (by decide) (fun h9 => ?_) (fun h9 => ?_)
      · refine sw_iload X dX5_byMinutes_61 5 rfl ?_
        exact RI _ _ _ _ _ _ dX5_byMinutes_63 (Nat.le_of_ble_eq_true rfl) (Nat.le_of_ble_eq_true rfl) rfl ⟨by unfold kCG; split <;> (try split) <;> (try split) <;> omega, pas_l (by omega) (by omega) hv, q, L, M, rfl, rfl, hC⟩
      · refine sw_aload_n X dX5_byMinutes_29 rfl 3 rfl ?_
        refine sw_aload_n X dX5_byMinutes_30 rfl 0 rfl ?_
        refine sw_iload X dX5_byMinutes_31 6 rfl ?_
        refine px_callVQ (C := RX5) (As := [.int (J i)]) (rest := [.ref (q (10 + c))]) X (c_X5_gateAt_n l D k N st q (L) (M) i hI hC (by omega)) (cwV 1 (sw_ts X) (sw_goodV gw2_67 gw2_69 gws_4 gw1_1 gw2_70) rfl rfl rfl (by decide +kernel) ⟨Nat.le_of_ble_eq_true rfl, Nat.le_of_ble_eq_true rfl⟩) ⟨o0.1, o0.2.2⟩ (by decide) rfl rfl dX5_byMinutes_33 rfl rfl (Nat.le_of_ble_eq_true rfl) ⟨Nat.le_of_ble_eq_true rfl, Nat.le_of_ble_eq_true rfl⟩ (fun z10 w9 hp11 => ?_)
        obtain ⟨rfl, rfl⟩ := hp11
        obtain ⟨⟨gO, gR⟩, g10, g11, g12⟩ := hGa i (by omega) (by omega)
        have gb1 := gC_b hI (g := i) (by omega)
        have gb2 := gD_b hI (g := i) (by omega)
        have gb3 := I_g hI i (by omega) (by omega)
        refine px_getN (n := "") (d := "") (v := .int (J (gC st i))) X iw_X1 gO.1 (by decide) gO.2.2 rfl 1 (by decide) (List.mem_of_getElem? (i := 12) rfl) rfl (congrArg (fun z => some (Value.int (J z))) g11) dX5_byMinutes_36 ?_
        refine sw_iload X dX5_byMinutes_39 4 rfl ?_
        refine px_callVI (C := RX4) (As := [.int (J (gC st i)), .int (J u)]) (rest := []) X (c_X4_firstOfAllMinutes l D k N st q L M c (gC st i) u hI (by omega) hWc (by omega) (by omega)) (cwV 2 (sw_ts X) (sw_goodV gw3_135 gw3_136 gw3_137 gw1_2 gw3_138) rfl rfl rfl (by decide +kernel) ⟨Nat.le_of_ble_eq_true rfl, Nat.le_of_ble_eq_true rfl⟩) ⟨wL, wK⟩ (by decide) rfl rfl dX5_byMinutes_41 rfl rfl (Nat.le_of_ble_eq_true rfl) ⟨Nat.le_of_ble_eq_true rfl, Nat.le_of_ble_eq_true rfl⟩ (fun z12 w9 hp13 => ?_)
        obtain ⟨rfl, rfl⟩ := hp13
        have hr8 := isF_rng (fF_is (aC st c) (e := clk st c) (v := gC st i) (a := u))
        refine sw_istore (lv' := [(5, .int (J (fF (aC st c) (clk st c) (gC st i) u))), (0, .ref (q 0)), (1, .int (J c)), (2, .int (J b)), (3, .ref (q (10 + c))), (4, .int (J u)), (6, .int (J i))]) X dX5_byMinutes_44 (by decide) rfl ?_
        refine sw_iload X dX5_byMinutes_46 5 rfl ?_
        refine sw_iload X dX5_byMinutes_48 0 rfl ?_
        refine sw_max X (by omega) (by omega) gw3_43 gw3_36 gw1_15 gw3_37 (Nat.le_of_ble_eq_true rfl) (Nat.le_of_ble_eq_true rfl) ⟨Nat.le_of_ble_eq_true rfl, Nat.le_of_ble_eq_true rfl⟩ dX5_byMinutes_50 ?_
        refine sw_istore (lv' := [(4, .int (J (if u < fF (aC st c) (clk st c) (gC st i) u then fF (aC st c) (clk st c) (gC st i) u else u))), (5, .int (J (fF (aC st c) (clk st c) (gC st i) u))), (0, .ref (q 0)), (1, .int (J c)), (2, .int (J b)), (3, .ref (q (10 + c))), (6, .int (J i))]) X dX5_byMinutes_53 (by decide) rfl ?_
        refine sw_iinc (lv' := [(6, .int (J (i + 1))), (4, .int (J (if u < fF (aC st c) (clk st c) (gC st i) u then fF (aC st c) (clk st c) (gC st i) u else u))), (5, .int (J (fF (aC st c) (clk st c) (gC st i) u))), (0, .ref (q 0)), (1, .int (J c)), (2, .int (J b)), (3, .ref (q (10 + c)))]) X dX5_byMinutes_55 6 rfl (by decide) rfl ?_
        refine sw_goto (tgt := 23) X dX5_byMinutes_58 (by decide) ?_
        refine sw_sub [3, 4, 5, 6, 1, 2, 0] rfl ?_
        exact ih5 (n + 1) (if u < fF (aC st c) (clk st c) (gC st i) u then fF (aC st c) (clk st c) (gC st i) u else u) (fF (aC st c) (clk st c) (gC st i) u) (i + 1) (by omega) (by omega) (by omega) (by have := (pasL_b hI (c := c) (by omega) (n + 1)).1; rw [pa_nx hi hl hu.1 (by omega)]; exact this) (pa_nx hi hl hu.1 (by omega)) (pas_f hi hl)
  refine sw_sub [4, 5, 6, 3, 2, 1, 0] rfl ?_
  exact lp6 (b + 1 - 0).toNat.succ 0 0 (-1) 0 (by omega) (by simp) (by omega) (by omega) (rfl) (rfl)
theorem le_is {st : ST} {j c z u : Int} (h23 : st 20 j = -2 → u = st 21 j) (h : (z = 1 ∧ st 19 j = c ∧ ((st 20 j = -2 ∧ u ≠ c) ∨ (st 20 j ≠ -2 ∧ st 20 j ≠ c))) ∨ (z = 0 ∧ ¬ (st 19 j = c ∧ ((st 20 j = -2 ∧ u ≠ c) ∨ (st 20 j ≠ -2 ∧ st 20 j ≠ c))))) : z = isL st c j := by
  unfold isL
  by_cases h2 : st 20 j = -2
  · rw [h23 h2] at h
    split <;> omega
  · split <;> omega
abbrev rm_X5_lent : Room := { frames := 7, cells := 1, slots := 6, locals := 102 }
set_option maxHeartbeats 4000000 in
set_option maxRecDepth 100000 in
theorem c_X5_lent (l : Launch) (hfl : l.stackTraces = false) (D : va_G) (k : Nat → ClassId) (N : Int) (st : ST) (q : Int → Nat) (L : List Nat) (M : MM) (c : Int) (hI : I6 N st) (hC : CW st q L M) (h_c : (-2147483648 ≤ c ∧ c < 2147483648)) : XI l yX5_lent cX5_lent 4 (some .int) rm_X5_lent D k [.ref (q 0), .int (J c)] (pW k L M) (xP k q (st) (kCar st c) (len st c)) (fun E w' => w' = pW k L M ∧ ((E = "java/lang/IndexOutOfBoundsException" ∧ kCar st c = 1))) := by
  refine XI.of hfl (by decide +kernel) rfl (Nat.le_of_ble_eq_true rfl) (fun pᵢ eᵢ sᵢ mᵢ argsᵢ belowᵢ methᵢ cᵢ Aᵢ Qᵢ X RI XO_ XT_ => ?_)
  show SW pᵢ l eᵢ rm_X5_lent sᵢ mᵢ argsᵢ belowᵢ methᵢ cᵢ 4 D Aᵢ 0 0 Qᵢ (pW k L M) 0 [(0, .ref (q 0)), (1, .int (J c))] []
  have hC2 := hC
  obtain ⟨⟨⟨o0, o1, o2, o3, o4⟩, ⟨n1, n2, n3, n4⟩, ⟨r51, r52, r55, r57, r59⟩, v50, v53, v54, v56, v58⟩, hBk, hCa, hGa, hPa⟩ := hC2
  have i1 := I_st hI
  have i2 := I_en hI
  have i5 := I_ga hI
  have i8 := I_cu hI
  have i9 := I_ca hI
  have i17 := I_pa hI
  refine sw_aload_n X dX5_lent_0 rfl 0 rfl ?_
  refine sw_iload_n X dX5_lent_1 rfl 1 rfl ?_
  refine px_callVI (C := RX5) (As := [.int (J c)]) (rest := []) X (c_X5_isCar l D k N st q (L) (M) c hI hC (by omega)) (cwV 1 (sw_ts X) (sw_goodV gw2_140 gw2_142 gws_6 gw1_1 gw2_143) rfl rfl rfl (by decide +kernel) ⟨Nat.le_of_ble_eq_true rfl, Nat.le_of_ble_eq_true rfl⟩) ⟨o0.1, o0.2.2⟩ (by decide) rfl rfl dX5_lent_2 rfl rfl (Nat.le_of_ble_eq_true rfl) ⟨Nat.le_of_ble_eq_true rfl, Nat.le_of_ble_eq_true rfl⟩ (fun z1 w9 hp2 => ?_)
  obtain ⟨rfl, hp2⟩ := hp2
  refine sw_xSV (As := [.int (J z1)]) (rest := []) X (c_X5_checkIndex l hfl D k (pW k L M) z1 (by omega)) (va_cwS 1 (sw_ts X) (sw_goodS gw2_167 gw2_168 gw1_1 gw2_169) rfl rfl rfl (by decide +kernel) ⟨Nat.le_of_ble_eq_true rfl, Nat.le_of_ble_eq_true rfl⟩) dX5_lent_5 rfl rfl (Nat.le_of_ble_eq_true rfl) ⟨Nat.le_of_ble_eq_true rfl, Nat.le_of_ble_eq_true rfl⟩ (fun E9 w9 hx => XO_ _ _ _ _ _ _ _ (Nat.le_of_ble_eq_true rfl) (Nat.le_of_ble_eq_true rfl) (by obtain ⟨rfl, rfl, hx⟩ := hx; exact ⟨rfl, ⟨rfl, by unfold kCar; split <;> (try split) <;> (try split) <;> omega⟩⟩)) (fun w9 hp4 => ?_)
  obtain ⟨rfl, hp4⟩ := hp4
  refine sw_iconst X dX5_lent_8 ?_
  refine sw_istore_n (lv' := [(2, .int (J 0)), (0, .ref (q 0)), (1, .int (J c))]) X dX5_lent_9 rfl (by decide) rfl ?_
  refine sw_iconst X dX5_lent_10 ?_
  refine sw_istore_n (lv' := [(3, .int (J 0)), (2, .int (J 0)), (0, .ref (q 0)), (1, .int (J c))]) X dX5_lent_11 rfl (by decide) rfl ?_
  have lp6 : ∀ (n7 : Nat) (n : Nat) (u i : Int), st 17 0 - i < (n7 : Nat) → (i = (n : Int)) → ((n : Int) ≤ st 17 0) → (0 ≤ u ∧ u ≤ n) → (u = sM (fun j => isL st c (j : Int)) n) → SW pᵢ l eᵢ rm_X5_lent sᵢ mᵢ argsᵢ belowᵢ methᵢ cᵢ 4 D Aᵢ 1 6 Qᵢ (pW k L M) 12 [(0, .ref (q 0)), (1, .int (J c)), (2, .int (J u)), (3, .int (J i))] [] := by
    intro n7
    induction n7 with
    | zero => intro n u i hm8 hi hn hu hs; exact absurd hm8 (by omega)
    | succ n7 ih5 =>
      intro n u i hm8 hi hn hu hs
      refine sw_iload_n X dX5_lent_12 rfl 3 rfl ?_
      refine sw_aload_n X dX5_lent_13 rfl 0 rfl ?_
      refine px_get (v := .int (J (st 17 0))) X iw_X5 o0.1 (by decide) o0.2.2 rfl 8 (by decide) gw1_65 rfl (congrArg (fun z => some (Value.int (J z))) v58) dX5_lent_14 ?_
      refine sw_icmp_ge (tgt := 41) X (by omega) (by omega) dX5_lent_17 (by decide) (fun h9 => ?_) (fun h9 => ?_)
      · refine sw_iload_n X dX5_lent_41 rfl 2 rfl ?_
        exact RI _ _ _ _ _ _ dX5_lent_42 (Nat.le_of_ble_eq_true rfl) (Nat.le_of_ble_eq_true rfl) rfl ⟨by unfold kCar; split <;> (try split) <;> (try split) <;> omega, by rw [hs, show n = (st 17 0).toNat by omega]; rfl, q, L, M, rfl, rfl, hC⟩
      · refine sw_aload_n X dX5_lent_20 rfl 0 rfl ?_
        refine sw_iload_n X dX5_lent_21 rfl 3 rfl ?_
        refine px_callVQ (C := RX5) (As := [.int (J i)]) (rest := []) X (c_X5_partAt_n l D k N st q (L) (M) i hI hC (by omega)) (cwV 1 (sw_ts X) (sw_goodV gw2_183 gw2_185 gws_8 gw1_1 gw2_186) rfl rfl rfl (by decide +kernel) ⟨Nat.le_of_ble_eq_true rfl, Nat.le_of_ble_eq_true rfl⟩) ⟨o0.1, o0.2.2⟩ (by decide) rfl rfl dX5_lent_22 rfl rfl (Nat.le_of_ble_eq_true rfl) ⟨Nat.le_of_ble_eq_true rfl, Nat.le_of_ble_eq_true rfl⟩ (fun z10 w9 hp11 => ?_)
        obtain ⟨rfl, rfl⟩ := hp11
        obtain ⟨⟨pO, pR⟩, p20, p21, p22, p23, p24, p25⟩ := hPa i (by omega) (by omega)
        have pb1 := I_j hI i (by omega) (by omega)
        refine sw_iload_n X dX5_lent_25 rfl 1 rfl ?_
        refine px_callVI (C := RX2) (As := [.int (J c)]) (rest := []) X (c_X2_isLentBy l D k L M (q (60 + i)) c ⟨pO.1, pO.2.2⟩ (by rw [p21, p22]; omega)) (cwV 1 (sw_ts X) (sw_goodV gw3_191 gw3_192 gw3_193 gw1_14 gw3_194) rfl rfl rfl (by decide +kernel) ⟨Nat.le_of_ble_eq_true rfl, Nat.le_of_ble_eq_true rfl⟩) ⟨pO.1, pO.2.2⟩ (by decide) rfl rfl dX5_lent_26 rfl rfl (Nat.le_of_ble_eq_true rfl) ⟨Nat.le_of_ble_eq_true rfl, Nat.le_of_ble_eq_true rfl⟩ (fun z12 w9 hp13 => ?_)
        obtain ⟨rfl, hp13⟩ := hp13
        rw [p21, p22] at hp13
        have hl8 := le_is (st := st) (j := i) (c := c) p23 hp13
        refine sw_if_eq (tgt := 35) X (by omega) dX5_lent_29 (by decide) (fun h14 => ?_) (fun h14 => ?_)
        · refine sw_iinc (lv' := [(3, .int (J (i + 1))), (0, .ref (q 0)), (1, .int (J c)), (2, .int (J u))]) X dX5_lent_35 3 rfl (by decide) rfl ?_
          refine sw_goto (tgt := 12) X dX5_lent_38 (by decide) ?_
          refine sw_sub [1, 2, 3, 0] rfl ?_
          exact ih5 (n + 1) u (i + 1) (by omega) (by omega) (by omega) (by omega) (by rw [sM_s, ← hi]; omega)
        · refine sw_iinc (lv' := [(2, .int (J (u + 1))), (0, .ref (q 0)), (1, .int (J c)), (3, .int (J i))]) X dX5_lent_32 2 rfl (by decide) rfl ?_
          refine sw_iinc (lv' := [(3, .int (J (i + 1))), (2, .int (J (u + 1))), (0, .ref (q 0)), (1, .int (J c))]) X dX5_lent_35 3 rfl (by decide) rfl ?_
          refine sw_goto (tgt := 12) X dX5_lent_38 (by decide) ?_
          refine sw_sub [2, 3, 1, 0] rfl ?_
          exact ih5 (n + 1) (u + 1) (i + 1) (by omega) (by omega) (by omega) (by omega) (by rw [sM_s, ← hi]; omega)
  refine sw_sub [2, 3, 1, 0] rfl ?_
  exact lp6 (st 17 0 - 0).toNat.succ 0 0 0 (by omega) (by simp) (by omega) (by omega) (rfl)
