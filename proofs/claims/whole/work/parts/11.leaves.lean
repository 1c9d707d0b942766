/-! the reference's small methods -/
abbrev rm_X6_thrown : Room := { frames := 0, cells := 0, slots := 0, locals := 0 }
set_option maxHeartbeats 4000000 in
set_option maxRecDepth 100000 in
theorem c_X6_thrown (l : Launch) (D : va_G) (k : Nat → ClassId) (ad : Nat → Nat) (st : Nat → Int → Int) (tl : Int → Int) (t x y h : Int)  : CI l yX6_thrown cX6_thrown 1 (some .int) rm_X6_thrown D k [.ref (ad 0)] (mW k ad st tl t x y h) (fun z w' => z = t ∧ w' = mW k ad st tl t x y h) := by
  refine CI.of (by decide +kernel) (Nat.le_of_ble_eq_true rfl) (fun pᵢ eᵢ sᵢ mᵢ argsᵢ belowᵢ methᵢ cᵢ Aᵢ Qᵢ X RI => ?_)
  show SW pᵢ l eᵢ rm_X6_thrown sᵢ mᵢ argsᵢ belowᵢ methᵢ cᵢ 1 D Aᵢ 0 0 Qᵢ (mW k ad st tl t x y h) 0 [(0, .ref (ad 0))] []
  refine sw_aload_n X dX6_thrown_0 rfl 0 rfl ?_
  refine sw_get (q0 := 0) (v := .int (J t)) X iw_X6 rfl rfl 0 (by decide) gw3_208 rfl rfl dX6_thrown_1 ?_
  exact RI _ _ _ _ _ _ dX6_thrown_4 (by decide) (by decide) rfl ⟨rfl, rfl⟩
abbrev rm_X6_in : Room := { frames := 0, cells := 0, slots := 0, locals := 0 }
set_option maxHeartbeats 4000000 in
set_option maxRecDepth 100000 in
theorem c_X6_in (l : Launch) (D : va_G) (k : Nat → ClassId) (w : va_W) (v a b : Int) (hr : (-2147483648 ≤ v ∧ v < 2147483648) ∧ (-2147483648 ≤ a ∧ a < 2147483648) ∧ (-2147483648 ≤ b ∧ b < 2147483648)) : CI l yX6_in cX6_in 3 (some .boolean) rm_X6_in D k [.int (J v), .int (J a), .int (J b)] (w) (fun z w' => w' = w ∧ ((z = 1 ∧ a ≤ v ∧ v ≤ b) ∨ (z = 0 ∧ (v < a ∨ b < v)))) := by
  refine CI.of (by decide +kernel) (Nat.le_of_ble_eq_true rfl) (fun pᵢ eᵢ sᵢ mᵢ argsᵢ belowᵢ methᵢ cᵢ Aᵢ Qᵢ X RI => ?_)
  show SW pᵢ l eᵢ rm_X6_in sᵢ mᵢ argsᵢ belowᵢ methᵢ cᵢ 3 D Aᵢ 0 0 Qᵢ (w) 0 [(0, .int (J v)), (1, .int (J a)), (2, .int (J b))] []
  refine sw_iload_n X dX6_in_0 rfl 0 rfl ?_
  refine sw_iload_n X dX6_in_1 rfl 1 rfl ?_
  refine sw_icmp_lt (tgt := 14) X (by omega) (by omega) dX6_in_2 (by decide) (fun h1 => ?_) (fun h1 => ?_)
  · refine sw_iconst X dX6_in_14 ?_
    exact RI _ _ _ _ _ _ dX6_in_15 (by decide) (by decide) rfl ⟨rfl, by omega⟩
  · refine sw_iload_n X dX6_in_5 rfl 0 rfl ?_
    refine sw_iload_n X dX6_in_6 rfl 2 rfl ?_
    refine sw_icmp_gt (tgt := 14) X (by omega) (by omega) dX6_in_7 (by decide) (fun h2 => ?_) (fun h2 => ?_)
    · refine sw_iconst X dX6_in_14 ?_
      exact RI _ _ _ _ _ _ dX6_in_15 (by decide) (by decide) rfl ⟨rfl, by omega⟩
    · refine sw_iconst X dX6_in_10 ?_
      refine sw_goto (tgt := 15) X dX6_in_11 (by decide) ?_
      exact RI _ _ _ _ _ _ dX6_in_15 (by decide) (by decide) rfl ⟨rfl, by omega⟩
abbrev rm_X6_goesWell : Room := { frames := 0, cells := 0, slots := 0, locals := 0 }
set_option maxHeartbeats 4000000 in
set_option maxRecDepth 100000 in
theorem c_X6_goesWell (l : Launch) (D : va_G) (k : Nat → ClassId) (ad : Nat → Nat) (st : Nat → Int → Int) (tl : Int → Int) (t x y h : Int) (a : Int) (hr : (-2147483648 ≤ a ∧ a < 2147483648)) : CI l yX6_goesWell cX6_goesWell 2 (some .boolean) rm_X6_goesWell D k [.ref (ad 0), .int (J a)] (mW k ad st tl t x y h) (fun z w' => w' = mW k ad st tl a x y h ∧ ((z = 1 ∧ a = 0) ∨ (z = 0 ∧ ¬ a = 0))) := by
  refine CI.of (by decide +kernel) (Nat.le_of_ble_eq_true rfl) (fun pᵢ eᵢ sᵢ mᵢ argsᵢ belowᵢ methᵢ cᵢ Aᵢ Qᵢ X RI => ?_)
  show SW pᵢ l eᵢ rm_X6_goesWell sᵢ mᵢ argsᵢ belowᵢ methᵢ cᵢ 2 D Aᵢ 0 0 Qᵢ (mW k ad st tl t x y h) 0 [(0, .ref (ad 0)), (1, .int (J a))] []
  refine sw_aload_n X dX6_goesWell_0 rfl 0 rfl ?_
  refine sw_iload_n X dX6_goesWell_1 rfl 1 rfl ?_
  refine sw_put (q0 := 0) X iw_X6 tyX6 tyX6_ok nmX6 rfl rfl 0 (by decide) gw3_208 rfl rfl (ty := .int) (by decide +kernel) rfl rfl (Nat.le_of_ble_eq_true rfl) mW_p0 dX6_goesWell_2 ?_
  refine sw_iload_n X dX6_goesWell_5 rfl 1 rfl ?_
  refine sw_if_ne (tgt := 13) X (by omega) dX6_goesWell_6 (by decide) (fun h1 => ?_) (fun h1 => ?_)
  · refine sw_iconst X dX6_goesWell_13 ?_
    exact RI _ _ _ _ _ _ dX6_goesWell_14 (by decide) (by decide) rfl ⟨rfl, by omega⟩
  · refine sw_iconst X dX6_goesWell_9 ?_
    refine sw_goto (tgt := 14) X dX6_goesWell_10 (by decide) ?_
    exact RI _ _ _ _ _ _ dX6_goesWell_14 (by decide) (by decide) rfl ⟨rfl, by omega⟩
abbrev rm_X6_isCar : Room := { frames := 1, cells := 0, slots := 0, locals := 22 }
set_option maxHeartbeats 4000000 in
set_option maxRecDepth 100000 in
theorem c_X6_isCar (l : Launch) (D : va_G) (k : Nat → ClassId) (ad : Nat → Nat) (st : Nat → Int → Int) (tl : Int → Int) (t x y h : Int) (a : Int) (hr : (-2147483648 ≤ a ∧ a < 2147483648)) (hb : 0 ≤ st 9 0 ∧ st 9 0 ≤ 8) : CI l yX6_isCar cX6_isCar 2 (some .boolean) rm_X6_isCar D k [.ref (ad 0), .int (J a)] (mW k ad st tl t x y h) (fun z w' => w' = mW k ad st tl t x y h ∧ ((z = 1 ∧ 0 ≤ a ∧ a < st 9 0) ∨ (z = 0 ∧ (a < 0 ∨ st 9 0 ≤ a)))) := by
  refine CI.of (by decide +kernel) (Nat.le_of_ble_eq_true rfl) (fun pᵢ eᵢ sᵢ mᵢ argsᵢ belowᵢ methᵢ cᵢ Aᵢ Qᵢ X RI => ?_)
  show SW pᵢ l eᵢ rm_X6_isCar sᵢ mᵢ argsᵢ belowᵢ methᵢ cᵢ 2 D Aᵢ 0 0 Qᵢ (mW k ad st tl t x y h) 0 [(0, .ref (ad 0)), (1, .int (J a))] []
  refine sw_iload_n X dX6_isCar_0 rfl 1 rfl ?_
  refine sw_iconst X dX6_isCar_1 ?_
  refine sw_aload_n X dX6_isCar_2 rfl 0 rfl ?_
  refine sw_get (q0 := 0) (v := .int (J (st 9 0))) X iw_X6 rfl rfl 9 (by decide) gw3_217 rfl rfl dX6_isCar_3 ?_
  refine sw_iconst X dX6_isCar_6 ?_
  refine sw_isub X dX6_isCar_7 ?_
  refine sw_callSI0 (As := [.int (J a), .int (J 0), .int (J ((st 9 0) - 1))]) (rest := []) X (c_X6_in l D k (mW k ad st tl t x y h) a 0 ((st 9 0) - 1) (by omega)) (va_cwS 3 (sw_ts X) (sw_goodS gw4_55 gw4_56 gw1_3 gw4_57) rfl rfl rfl (by decide +kernel) ⟨Nat.le_of_ble_eq_true rfl, Nat.le_of_ble_eq_true rfl⟩) dX6_isCar_8 rfl rfl (Nat.le_of_ble_eq_true rfl) ⟨Nat.le_of_ble_eq_true rfl, Nat.le_of_ble_eq_true rfl⟩ (fun z1 w9 hp2 => ?_)
  obtain ⟨rfl, hp2⟩ := hp2
  exact RI _ _ _ _ _ _ dX6_isCar_11 (by decide) (by decide) (nar_b (by omega)) ⟨rfl, by omega⟩
abbrev rm_X6_isGate : Room := { frames := 1, cells := 0, slots := 0, locals := 22 }
set_option maxHeartbeats 4000000 in
set_option maxRecDepth 100000 in
theorem c_X6_isGate (l : Launch) (D : va_G) (k : Nat → ClassId) (ad : Nat → Nat) (st : Nat → Int → Int) (tl : Int → Int) (t x y h : Int) (a : Int) (hr : (-2147483648 ≤ a ∧ a < 2147483648)) (hb : 0 ≤ st 5 0 ∧ st 5 0 ≤ 10) : CI l yX6_isGate cX6_isGate 2 (some .boolean) rm_X6_isGate D k [.ref (ad 0), .int (J a)] (mW k ad st tl t x y h) (fun z w' => w' = mW k ad st tl t x y h ∧ ((z = 1 ∧ 0 ≤ a ∧ a < st 5 0) ∨ (z = 0 ∧ (a < 0 ∨ st 5 0 ≤ a)))) := by
  refine CI.of (by decide +kernel) (Nat.le_of_ble_eq_true rfl) (fun pᵢ eᵢ sᵢ mᵢ argsᵢ belowᵢ methᵢ cᵢ Aᵢ Qᵢ X RI => ?_)
  show SW pᵢ l eᵢ rm_X6_isGate sᵢ mᵢ argsᵢ belowᵢ methᵢ cᵢ 2 D Aᵢ 0 0 Qᵢ (mW k ad st tl t x y h) 0 [(0, .ref (ad 0)), (1, .int (J a))] []
  refine sw_iload_n X dX6_isGate_0 rfl 1 rfl ?_
  refine sw_iconst X dX6_isGate_1 ?_
  refine sw_aload_n X dX6_isGate_2 rfl 0 rfl ?_
  refine sw_get (q0 := 0) (v := .int (J (st 5 0))) X iw_X6 rfl rfl 5 (by decide) gw3_213 rfl rfl dX6_isGate_3 ?_
  refine sw_iconst X dX6_isGate_6 ?_
  refine sw_isub X dX6_isGate_7 ?_
  refine sw_callSI0 (As := [.int (J a), .int (J 0), .int (J ((st 5 0) - 1))]) (rest := []) X (c_X6_in l D k (mW k ad st tl t x y h) a 0 ((st 5 0) - 1) (by omega)) (va_cwS 3 (sw_ts X) (sw_goodS gw4_55 gw4_56 gw1_3 gw4_57) rfl rfl rfl (by decide +kernel) ⟨Nat.le_of_ble_eq_true rfl, Nat.le_of_ble_eq_true rfl⟩) dX6_isGate_8 rfl rfl (Nat.le_of_ble_eq_true rfl) ⟨Nat.le_of_ble_eq_true rfl, Nat.le_of_ble_eq_true rfl⟩ (fun z1 w9 hp2 => ?_)
  obtain ⟨rfl, hp2⟩ := hp2
  exact RI _ _ _ _ _ _ dX6_isGate_11 (by decide) (by decide) (nar_b (by omega)) ⟨rfl, by omega⟩
abbrev rm_X6_isPart : Room := { frames := 1, cells := 0, slots := 0, locals := 22 }
set_option maxHeartbeats 4000000 in
set_option maxRecDepth 100000 in
theorem c_X6_isPart (l : Launch) (D : va_G) (k : Nat → ClassId) (ad : Nat → Nat) (st : Nat → Int → Int) (tl : Int → Int) (t x y h : Int) (a : Int) (hr : (-2147483648 ≤ a ∧ a < 2147483648)) (hb : 0 ≤ st 17 0 ∧ st 17 0 ≤ 40) : CI l yX6_isPart cX6_isPart 2 (some .boolean) rm_X6_isPart D k [.ref (ad 0), .int (J a)] (mW k ad st tl t x y h) (fun z w' => w' = mW k ad st tl t x y h ∧ ((z = 1 ∧ 0 ≤ a ∧ a < st 17 0) ∨ (z = 0 ∧ (a < 0 ∨ st 17 0 ≤ a)))) := by
  refine CI.of (by decide +kernel) (Nat.le_of_ble_eq_true rfl) (fun pᵢ eᵢ sᵢ mᵢ argsᵢ belowᵢ methᵢ cᵢ Aᵢ Qᵢ X RI => ?_)
  show SW pᵢ l eᵢ rm_X6_isPart sᵢ mᵢ argsᵢ belowᵢ methᵢ cᵢ 2 D Aᵢ 0 0 Qᵢ (mW k ad st tl t x y h) 0 [(0, .ref (ad 0)), (1, .int (J a))] []
  refine sw_iload_n X dX6_isPart_0 rfl 1 rfl ?_
  refine sw_iconst X dX6_isPart_1 ?_
  refine sw_aload_n X dX6_isPart_2 rfl 0 rfl ?_
  refine sw_get (q0 := 0) (v := .int (J (st 17 0))) X iw_X6 rfl rfl 17 (by decide) gw3_225 rfl rfl dX6_isPart_3 ?_
  refine sw_iconst X dX6_isPart_6 ?_
  refine sw_isub X dX6_isPart_7 ?_
  refine sw_callSI0 (As := [.int (J a), .int (J 0), .int (J ((st 17 0) - 1))]) (rest := []) X (c_X6_in l D k (mW k ad st tl t x y h) a 0 ((st 17 0) - 1) (by omega)) (va_cwS 3 (sw_ts X) (sw_goodS gw4_55 gw4_56 gw1_3 gw4_57) rfl rfl rfl (by decide +kernel) ⟨Nat.le_of_ble_eq_true rfl, Nat.le_of_ble_eq_true rfl⟩) dX6_isPart_8 rfl rfl (Nat.le_of_ble_eq_true rfl) ⟨Nat.le_of_ble_eq_true rfl, Nat.le_of_ble_eq_true rfl⟩ (fun z1 w9 hp2 => ?_)
  obtain ⟨rfl, hp2⟩ := hp2
  exact RI _ _ _ _ _ _ dX6_isPart_11 (by decide) (by decide) (nar_b (by omega)) ⟨rfl, by omega⟩
abbrev rm_X6_begin : Room := { frames := 0, cells := 0, slots := 0, locals := 0 }
set_option maxHeartbeats 4000000 in
set_option maxRecDepth 100000 in
theorem c_X6_begin (l : Launch) (D : va_G) (k : Nat → ClassId) (ad : Nat → Nat) (st : Nat → Int → Int) (tl : Int → Int) (t x y h : Int) (hb : 0 ≤ st 1 0 ∧ st 1 0 ≤ 255) : CV l yX6_begin cX6_begin 1 none rm_X6_begin D k [.ref (ad 0)] (mW k ad st tl t x y h) (fun w' => w' = mW k ad st tl t (st 1 0 / 16) (st 1 0 % 16) 0) := by
  refine CV.of (by decide +kernel) (Nat.le_of_ble_eq_true rfl) (fun pᵢ eᵢ sᵢ mᵢ argsᵢ belowᵢ methᵢ cᵢ Aᵢ Qᵢ X hnm RV => ?_)
  show SW pᵢ l eᵢ rm_X6_begin sᵢ mᵢ argsᵢ belowᵢ methᵢ cᵢ 1 D Aᵢ 0 0 Qᵢ (mW k ad st tl t x y h) 0 [(0, .ref (ad 0))] []
  refine sw_aload_n X dX6_begin_0 rfl 0 rfl ?_
  refine sw_aload_n X dX6_begin_1 rfl 0 rfl ?_
  refine sw_get (q0 := 0) (v := .int (J (st 1 0))) X iw_X6 rfl rfl 1 (by decide) gw3_209 rfl rfl dX6_begin_2 ?_
  refine sw_bipush X dX6_begin_5 (by decide +kernel) ?_
  refine sw_idiv X (by omega) (by omega) (by omega) dX6_begin_7 ?_
  refine sw_put (q0 := 0) X iw_X6 tyX6 tyX6_ok nmX6 rfl rfl 23 (by decide) gw3_231 rfl rfl (ty := .int) (by decide +kernel) rfl rfl (Nat.le_of_ble_eq_true rfl) mW_p23 dX6_begin_8 ?_
  refine sw_aload_n X dX6_begin_11 rfl 0 rfl ?_
  refine sw_aload_n X dX6_begin_12 rfl 0 rfl ?_
  refine sw_get (q0 := 0) (v := .int (J (st 1 0))) X iw_X6 rfl rfl 1 (by decide) gw3_209 rfl rfl dX6_begin_13 ?_
  refine sw_bipush X dX6_begin_16 (by decide +kernel) ?_
  refine sw_irem X (by omega) (by omega) (by omega) dX6_begin_18 ?_
  refine sw_put (q0 := 0) X iw_X6 tyX6 tyX6_ok nmX6 rfl rfl 24 (by decide) gw3_232 rfl rfl (ty := .int) (by decide +kernel) rfl rfl (Nat.le_of_ble_eq_true rfl) mW_p24 dX6_begin_19 ?_
  refine sw_aload_n X dX6_begin_22 rfl 0 rfl ?_
  refine sw_iconst X dX6_begin_23 ?_
  refine sw_put (q0 := 0) X iw_X6 tyX6 tyX6_ok nmX6 rfl rfl 25 (by decide) gw3_233 rfl rfl (ty := .int) (by decide +kernel) rfl rfl (Nat.le_of_ble_eq_true rfl) mW_p25 dX6_begin_24 ?_
  exact RV _ _ _ _ _ dX6_begin_27 (by decide) (by decide) rfl
abbrev rm_X6_goOn : Room := { frames := 0, cells := 0, slots := 0, locals := 0 }
set_option maxHeartbeats 4000000 in
set_option maxRecDepth 100000 in
theorem c_X6_goOn (l : Launch) (D : va_G) (k : Nat → ClassId) (ad : Nat → Nat) (st : Nat → Int → Int) (tl : Int → Int) (t x y h : Int) (a : Int) (hh : 0 ≤ h ∧ h ≤ 3) : CV l yX6_goOn cX6_goOn 2 none rm_X6_goOn D k [.ref (ad 0), .int (J a)] (mW k ad st tl t x y h) (fun w' => w' = mW k ad st tl t (x + dx h a) (y + dy h a) h) := by
  refine CV.of (by decide +kernel) (Nat.le_of_ble_eq_true rfl) (fun pᵢ eᵢ sᵢ mᵢ argsᵢ belowᵢ methᵢ cᵢ Aᵢ Qᵢ X hnm RV => ?_)
  show SW pᵢ l eᵢ rm_X6_goOn sᵢ mᵢ argsᵢ belowᵢ methᵢ cᵢ 2 D Aᵢ 0 0 Qᵢ (mW k ad st tl t x y h) 0 [(0, .ref (ad 0)), (1, .int (J a))] []
  refine sw_aload_n X dX6_goOn_0 rfl 0 rfl ?_
  refine sw_dup X dX6_goOn_1 rfl ?_
  refine sw_get (q0 := 0) (v := .int (J x)) X iw_X6 rfl rfl 23 (by decide) gw3_231 rfl rfl dX6_goOn_2 ?_
  refine sw_aload_n X dX6_goOn_5 rfl 0 rfl ?_
  refine sw_get (q0 := 0) (v := .int (J h)) X iw_X6 rfl rfl 25 (by decide) gw3_233 rfl rfl dX6_goOn_6 ?_
  refine sw_iconst X dX6_goOn_9 ?_
  refine sw_icmp_ne (tgt := 17) X (by omega) (by omega) dX6_goOn_10 (by decide) (fun h1 => ?_) (fun h1 => ?_)
  · refine sw_aload_n X dX6_goOn_17 rfl 0 rfl ?_
    refine sw_get (q0 := 0) (v := .int (J h)) X iw_X6 rfl rfl 25 (by decide) gw3_233 rfl rfl dX6_goOn_18 ?_
    refine sw_iconst X dX6_goOn_21 ?_
    refine sw_icmp_ne (tgt := 30) X (by omega) (by omega) dX6_goOn_22 (by decide) (fun h2 => ?_) (fun h2 => ?_)
    · refine sw_iconst X dX6_goOn_30 ?_
      refine sw_iadd X dX6_goOn_31 ?_
      refine sw_put (q0 := 0) X iw_X6 tyX6 tyX6_ok nmX6 rfl rfl 23 (by decide) gw3_231 rfl rfl (ty := .int) (by decide +kernel) rfl rfl (Nat.le_of_ble_eq_true rfl) mW_p23 dX6_goOn_32 ?_
      refine sw_aload_n X dX6_goOn_35 rfl 0 rfl ?_
      refine sw_dup X dX6_goOn_36 rfl ?_
      refine sw_get (q0 := 0) (v := .int (J y)) X iw_X6 rfl rfl 24 (by decide) gw3_232 rfl rfl dX6_goOn_37 ?_
      refine sw_aload_n X dX6_goOn_40 rfl 0 rfl ?_
      refine sw_get (q0 := 0) (v := .int (J h)) X iw_X6 rfl rfl 25 (by decide) gw3_233 rfl rfl dX6_goOn_41 ?_
      refine sw_if_ne (tgt := 51) X (by omega) dX6_goOn_44 (by decide) (fun h3 => ?_) (fun h3 => ?_)
      · refine sw_aload_n X dX6_goOn_51 rfl 0 rfl ?_
        refine sw_get (q0 := 0) (v := .int (J h)) X iw_X6 rfl rfl 25 (by decide) gw3_233 rfl rfl dX6_goOn_52 ?_
        refine sw_iconst X dX6_goOn_55 ?_
        refine sw_icmp_ne (tgt := 64) X (by omega) (by omega) dX6_goOn_56 (by decide) (fun h4 => ?_) (fun h4 => ?_)
        · refine sw_iconst X dX6_goOn_64 ?_
          refine sw_iadd X dX6_goOn_65 ?_
          refine sw_put (q0 := 0) X iw_X6 tyX6 tyX6_ok nmX6 rfl rfl 24 (by decide) gw3_232 rfl rfl (ty := .int) (by decide +kernel) rfl rfl (Nat.le_of_ble_eq_true rfl) mW_p24 dX6_goOn_66 ?_
          exact RV _ _ _ _ _ dX6_goOn_69 (by decide) (by decide) (by rw [show dx h a = (0) from by unfold dx; split <;> (try split) <;> omega, show dy h a = (0) from by unfold dy; split <;> (try split) <;> omega])
        · refine sw_iload_n X dX6_goOn_59 rfl 1 rfl ?_
          refine sw_ineg X dX6_goOn_60 ?_
          refine sw_goto (tgt := 65) X dX6_goOn_61 (by decide) ?_
          refine sw_iadd X dX6_goOn_65 ?_
          refine sw_put (q0 := 0) X iw_X6 tyX6 tyX6_ok nmX6 rfl rfl 24 (by decide) gw3_232 rfl rfl (ty := .int) (by decide +kernel) rfl rfl (Nat.le_of_ble_eq_true rfl) mW_p24 dX6_goOn_66 ?_
          exact RV _ _ _ _ _ dX6_goOn_69 (by decide) (by decide) (by rw [show dx h a = (0) from by unfold dx; split <;> (try split) <;> omega, show dy h a = ((-a)) from by unfold dy; split <;> (try split) <;> omega])
      · refine sw_iload_n X dX6_goOn_47 rfl 1 rfl ?_
        refine sw_goto (tgt := 65) X dX6_goOn_48 (by decide) ?_
        refine sw_iadd X dX6_goOn_65 ?_
        refine sw_put (q0 := 0) X iw_X6 tyX6 tyX6_ok nmX6 rfl rfl 24 (by decide) gw3_232 rfl rfl (ty := .int) (by decide +kernel) rfl rfl (Nat.le_of_ble_eq_true rfl) mW_p24 dX6_goOn_66 ?_
        exact RV _ _ _ _ _ dX6_goOn_69 (by decide) (by decide) (by rw [show dx h a = (0) from by unfold dx; split <;> (try split) <;> omega, show dy h a = (a) from by unfold dy; split <;> (try split) <;> omega])
    · refine sw_iload_n X dX6_goOn_25 rfl 1 rfl ?_
      refine sw_ineg X dX6_goOn_26 ?_
      refine sw_goto (tgt := 31) X dX6_goOn_27 (by decide) ?_
      refine sw_iadd X dX6_goOn_31 ?_
      refine sw_put (q0 := 0) X iw_X6 tyX6 tyX6_ok nmX6 rfl rfl 23 (by decide) gw3_231 rfl rfl (ty := .int) (by decide +kernel) rfl rfl (Nat.le_of_ble_eq_true rfl) mW_p23 dX6_goOn_32 ?_
      refine sw_aload_n X dX6_goOn_35 rfl 0 rfl ?_
      refine sw_dup X dX6_goOn_36 rfl ?_
      refine sw_get (q0 := 0) (v := .int (J y)) X iw_X6 rfl rfl 24 (by decide) gw3_232 rfl rfl dX6_goOn_37 ?_
      refine sw_aload_n X dX6_goOn_40 rfl 0 rfl ?_
      refine sw_get (q0 := 0) (v := .int (J h)) X iw_X6 rfl rfl 25 (by decide) gw3_233 rfl rfl dX6_goOn_41 ?_
      refine sw_if_ne (tgt := 51) X (by omega) dX6_goOn_44 (by decide) (fun h5 => ?_) (fun h5 => ?_)
      · refine sw_aload_n X dX6_goOn_51 rfl 0 rfl ?_
        refine sw_get (q0 := 0) (v := .int (J h)) X iw_X6 rfl rfl 25 (by decide) gw3_233 rfl rfl dX6_goOn_52 ?_
        refine sw_iconst X dX6_goOn_55 ?_
        refine sw_icmp_ne (tgt := 64) X (by omega) (by omega) dX6_goOn_56 (by decide) (fun h6 => ?_) (fun h6 => ?_)
        · refine sw_iconst X dX6_goOn_64 ?_
          refine sw_iadd X dX6_goOn_65 ?_
          refine sw_put (q0 := 0) X iw_X6 tyX6 tyX6_ok nmX6 rfl rfl 24 (by decide) gw3_232 rfl rfl (ty := .int) (by decide +kernel) rfl rfl (Nat.le_of_ble_eq_true rfl) mW_p24 dX6_goOn_66 ?_
          exact RV _ _ _ _ _ dX6_goOn_69 (by decide) (by decide) (by rw [show dx h a = ((-a)) from by unfold dx; split <;> (try split) <;> omega, show dy h a = (0) from by unfold dy; split <;> (try split) <;> omega])
        · refine sw_iload_n X dX6_goOn_59 rfl 1 rfl ?_
          refine sw_ineg X dX6_goOn_60 ?_
          refine sw_goto (tgt := 65) X dX6_goOn_61 (by decide) ?_
          refine sw_iadd X dX6_goOn_65 ?_
          refine sw_put (q0 := 0) X iw_X6 tyX6 tyX6_ok nmX6 rfl rfl 24 (by decide) gw3_232 rfl rfl (ty := .int) (by decide +kernel) rfl rfl (Nat.le_of_ble_eq_true rfl) mW_p24 dX6_goOn_66 ?_
          exact RV _ _ _ _ _ dX6_goOn_69 (by decide) (by decide) (by rw [show dx h a = ((-a)) from by unfold dx; split <;> (try split) <;> omega, show dy h a = ((-a)) from by unfold dy; split <;> (try split) <;> omega])
      · refine sw_iload_n X dX6_goOn_47 rfl 1 rfl ?_
        refine sw_goto (tgt := 65) X dX6_goOn_48 (by decide) ?_
        refine sw_iadd X dX6_goOn_65 ?_
        refine sw_put (q0 := 0) X iw_X6 tyX6 tyX6_ok nmX6 rfl rfl 24 (by decide) gw3_232 rfl rfl (ty := .int) (by decide +kernel) rfl rfl (Nat.le_of_ble_eq_true rfl) mW_p24 dX6_goOn_66 ?_
        exact RV _ _ _ _ _ dX6_goOn_69 (by decide) (by decide) (by rw [show dx h a = ((-a)) from by unfold dx; split <;> (try split) <;> omega, show dy h a = (a) from by unfold dy; split <;> (try split) <;> omega])
  · refine sw_iload_n X dX6_goOn_13 rfl 1 rfl ?_
    refine sw_goto (tgt := 31) X dX6_goOn_14 (by decide) ?_
    refine sw_iadd X dX6_goOn_31 ?_
    refine sw_put (q0 := 0) X iw_X6 tyX6 tyX6_ok nmX6 rfl rfl 23 (by decide) gw3_231 rfl rfl (ty := .int) (by decide +kernel) rfl rfl (Nat.le_of_ble_eq_true rfl) mW_p23 dX6_goOn_32 ?_
    refine sw_aload_n X dX6_goOn_35 rfl 0 rfl ?_
    refine sw_dup X dX6_goOn_36 rfl ?_
    refine sw_get (q0 := 0) (v := .int (J y)) X iw_X6 rfl rfl 24 (by decide) gw3_232 rfl rfl dX6_goOn_37 ?_
    refine sw_aload_n X dX6_goOn_40 rfl 0 rfl ?_
    refine sw_get (q0 := 0) (v := .int (J h)) X iw_X6 rfl rfl 25 (by decide) gw3_233 rfl rfl dX6_goOn_41 ?_
    refine sw_if_ne (tgt := 51) X (by omega) dX6_goOn_44 (by decide) (fun h7 => ?_) (fun h7 => ?_)
    · refine sw_aload_n X dX6_goOn_51 rfl 0 rfl ?_
      refine sw_get (q0 := 0) (v := .int (J h)) X iw_X6 rfl rfl 25 (by decide) gw3_233 rfl rfl dX6_goOn_52 ?_
      refine sw_iconst X dX6_goOn_55 ?_
      refine sw_icmp_ne (tgt := 64) X (by omega) (by omega) dX6_goOn_56 (by decide) (fun h8 => ?_) (fun h8 => ?_)
      · refine sw_iconst X dX6_goOn_64 ?_
        refine sw_iadd X dX6_goOn_65 ?_
        refine sw_put (q0 := 0) X iw_X6 tyX6 tyX6_ok nmX6 rfl rfl 24 (by decide) gw3_232 rfl rfl (ty := .int) (by decide +kernel) rfl rfl (Nat.le_of_ble_eq_true rfl) mW_p24 dX6_goOn_66 ?_
        exact RV _ _ _ _ _ dX6_goOn_69 (by decide) (by decide) (by rw [show dx h a = (a) from by unfold dx; split <;> (try split) <;> omega, show dy h a = (0) from by unfold dy; split <;> (try split) <;> omega])
      · refine sw_iload_n X dX6_goOn_59 rfl 1 rfl ?_
        refine sw_ineg X dX6_goOn_60 ?_
        refine sw_goto (tgt := 65) X dX6_goOn_61 (by decide) ?_
        refine sw_iadd X dX6_goOn_65 ?_
        refine sw_put (q0 := 0) X iw_X6 tyX6 tyX6_ok nmX6 rfl rfl 24 (by decide) gw3_232 rfl rfl (ty := .int) (by decide +kernel) rfl rfl (Nat.le_of_ble_eq_true rfl) mW_p24 dX6_goOn_66 ?_
        exact RV _ _ _ _ _ dX6_goOn_69 (by decide) (by decide) (by rw [show dx h a = (a) from by unfold dx; split <;> (try split) <;> omega, show dy h a = ((-a)) from by unfold dy; split <;> (try split) <;> omega])
    · refine sw_iload_n X dX6_goOn_47 rfl 1 rfl ?_
      refine sw_goto (tgt := 65) X dX6_goOn_48 (by decide) ?_
      refine sw_iadd X dX6_goOn_65 ?_
      refine sw_put (q0 := 0) X iw_X6 tyX6 tyX6_ok nmX6 rfl rfl 24 (by decide) gw3_232 rfl rfl (ty := .int) (by decide +kernel) rfl rfl (Nat.le_of_ble_eq_true rfl) mW_p24 dX6_goOn_66 ?_
      exact RV _ _ _ _ _ dX6_goOn_69 (by decide) (by decide) (by rw [show dx h a = (a) from by unfold dx; split <;> (try split) <;> omega, show dy h a = (a) from by unfold dy; split <;> (try split) <;> omega])
abbrev rm_X6_cell : Room := { frames := 0, cells := 0, slots := 0, locals := 0 }
set_option maxHeartbeats 4000000 in
set_option maxRecDepth 100000 in
theorem c_X6_cell (l : Launch) (D : va_G) (k : Nat → ClassId) (ad : Nat → Nat) (st : Nat → Int → Int) (tl : Int → Int) (t x y h : Int)  : CI l yX6_cell cX6_cell 1 (some .int) rm_X6_cell D k [.ref (ad 0)] (mW k ad st tl t x y h) (fun z w' => w' = mW k ad st tl t x y h ∧ z = 16 * x + y) := by
  refine CI.of (by decide +kernel) (Nat.le_of_ble_eq_true rfl) (fun pᵢ eᵢ sᵢ mᵢ argsᵢ belowᵢ methᵢ cᵢ Aᵢ Qᵢ X RI => ?_)
  show SW pᵢ l eᵢ rm_X6_cell sᵢ mᵢ argsᵢ belowᵢ methᵢ cᵢ 1 D Aᵢ 0 0 Qᵢ (mW k ad st tl t x y h) 0 [(0, .ref (ad 0))] []
  refine sw_bipush X dX6_cell_0 (by decide +kernel) ?_
  refine sw_aload_n X dX6_cell_2 rfl 0 rfl ?_
  refine sw_get (q0 := 0) (v := .int (J x)) X iw_X6 rfl rfl 23 (by decide) gw3_231 rfl rfl dX6_cell_3 ?_
  refine sw_imul X dX6_cell_6 ?_
  refine sw_aload_n X dX6_cell_7 rfl 0 rfl ?_
  refine sw_get (q0 := 0) (v := .int (J y)) X iw_X6 rfl rfl 24 (by decide) gw3_232 rfl rfl dX6_cell_8 ?_
  refine sw_iadd X dX6_cell_11 ?_
  exact RI _ _ _ _ _ _ dX6_cell_12 (by decide) (by decide) rfl ⟨rfl, rfl⟩
abbrev rm_X6_isOnGround : Room := { frames := 1, cells := 0, slots := 0, locals := 22 }
set_option maxHeartbeats 4000000 in
set_option maxRecDepth 100000 in
theorem c_X6_isOnGround (l : Launch) (D : va_G) (k : Nat → ClassId) (ad : Nat → Nat) (st : Nat → Int → Int) (tl : Int → Int) (t x y h : Int) (hr : (-2147483648 ≤ x ∧ x < 2147483648) ∧ (-2147483648 ≤ y ∧ y < 2147483648)) : CI l yX6_isOnGround cX6_isOnGround 1 (some .boolean) rm_X6_isOnGround D k [.ref (ad 0)] (mW k ad st tl t x y h) (fun z w' => w' = mW k ad st tl t x y h ∧ ((z = 1 ∧ 0 ≤ x ∧ x ≤ 15 ∧ 0 ≤ y ∧ y ≤ 15) ∨ (z = 0 ∧ ¬ (0 ≤ x ∧ x ≤ 15 ∧ 0 ≤ y ∧ y ≤ 15)))) := by
  refine CI.of (by decide +kernel) (Nat.le_of_ble_eq_true rfl) (fun pᵢ eᵢ sᵢ mᵢ argsᵢ belowᵢ methᵢ cᵢ Aᵢ Qᵢ X RI => ?_)
  show SW pᵢ l eᵢ rm_X6_isOnGround sᵢ mᵢ argsᵢ belowᵢ methᵢ cᵢ 1 D Aᵢ 0 0 Qᵢ (mW k ad st tl t x y h) 0 [(0, .ref (ad 0))] []
  refine sw_aload_n X dX6_isOnGround_0 rfl 0 rfl ?_
  refine sw_get (q0 := 0) (v := .int (J x)) X iw_X6 rfl rfl 23 (by decide) gw3_231 rfl rfl dX6_isOnGround_1 ?_
  refine sw_iconst X dX6_isOnGround_4 ?_
  refine sw_bipush X dX6_isOnGround_5 (by decide +kernel) ?_
  refine sw_callSI0 (As := [.int (J x), .int (J 0), .int (J 15)]) (rest := []) X (c_X6_in l D k (mW k ad st tl t x y h) x 0 15 (by omega)) (va_cwS 3 (sw_ts X) (sw_goodS gw4_55 gw4_56 gw1_3 gw4_57) rfl rfl rfl (by decide +kernel) ⟨Nat.le_of_ble_eq_true rfl, Nat.le_of_ble_eq_true rfl⟩) dX6_isOnGround_7 rfl rfl (Nat.le_of_ble_eq_true rfl) ⟨Nat.le_of_ble_eq_true rfl, Nat.le_of_ble_eq_true rfl⟩ (fun z1 w9 hp2 => ?_)
  obtain ⟨rfl, hp2⟩ := hp2
  refine sw_if_eq (tgt := 30) X (by omega) dX6_isOnGround_10 (by decide) (fun h3 => ?_) (fun h3 => ?_)
  · refine sw_iconst X dX6_isOnGround_30 ?_
    exact RI _ _ _ _ _ _ dX6_isOnGround_31 (by decide) (by decide) rfl ⟨rfl, by omega⟩
  · refine sw_aload_n X dX6_isOnGround_13 rfl 0 rfl ?_
    refine sw_get (q0 := 0) (v := .int (J y)) X iw_X6 rfl rfl 24 (by decide) gw3_232 rfl rfl dX6_isOnGround_14 ?_
    refine sw_iconst X dX6_isOnGround_17 ?_
    refine sw_bipush X dX6_isOnGround_18 (by decide +kernel) ?_
    refine sw_callSI0 (As := [.int (J y), .int (J 0), .int (J 15)]) (rest := []) X (c_X6_in l D k (mW k ad st tl t x y h) y 0 15 (by omega)) (va_cwS 3 (sw_ts X) (sw_goodS gw4_55 gw4_56 gw1_3 gw4_57) rfl rfl rfl (by decide +kernel) ⟨Nat.le_of_ble_eq_true rfl, Nat.le_of_ble_eq_true rfl⟩) dX6_isOnGround_20 rfl rfl (Nat.le_of_ble_eq_true rfl) ⟨Nat.le_of_ble_eq_true rfl, Nat.le_of_ble_eq_true rfl⟩ (fun z4 w9 hp5 => ?_)
    obtain ⟨rfl, hp5⟩ := hp5
    refine sw_if_eq (tgt := 30) X (by omega) dX6_isOnGround_23 (by decide) (fun h6 => ?_) (fun h6 => ?_)
    · refine sw_iconst X dX6_isOnGround_30 ?_
      exact RI _ _ _ _ _ _ dX6_isOnGround_31 (by decide) (by decide) rfl ⟨rfl, by omega⟩
    · refine sw_iconst X dX6_isOnGround_26 ?_
      refine sw_goto (tgt := 31) X dX6_isOnGround_27 (by decide) ?_
      exact RI _ _ _ _ _ _ dX6_isOnGround_31 (by decide) (by decide) rfl ⟨rfl, by omega⟩
