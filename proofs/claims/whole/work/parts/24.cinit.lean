abbrev rm_X3_init : Room := { frames := 1, cells := 0, slots := 0, locals := 12 }
set_option maxHeartbeats 4000000 in
set_option maxRecDepth 100000 in
theorem c_X3_init (l : Launch) (D : va_G) (k : Nat → ClassId) (L : List Nat) (M : MM) (a : Nat) (b m c h t d : Int) (hq : a ∈ L ∧ M 90 a 0 = 3) (hd : d = 0 ∨ d = 1) : CV l yX3_init cX3_init 7 none rm_X3_init D k [.ref a, .int (J b), .int (J m), .int (J c), .int (J h), .int (J t), .int (J d)] (pW k L M) (fun w' => w' = pW k L (upM (upM (upM (upM (upM (upM (M) 30 a 0 b) 31 a 0 m) 32 a 0 c) 33 a 0 h) 34 a 0 t) 35 a 0 d)) := by
  refine CV.of (by decide +kernel) (Nat.le_of_ble_eq_true rfl) (fun pᵢ eᵢ sᵢ mᵢ argsᵢ belowᵢ methᵢ cᵢ Aᵢ Qᵢ X hnm RV => ?_)
  show SW pᵢ l eᵢ rm_X3_init sᵢ mᵢ argsᵢ belowᵢ methᵢ cᵢ 7 D Aᵢ 0 0 Qᵢ (pW k L M) 0 [(0, .ref a), (1, .int (J b)), (2, .int (J m)), (3, .int (J c)), (4, .int (J h)), (5, .int (J t)), (6, .int (J d))] []
  refine sw_aload_n X dX3_init_0 rfl 0 rfl ?_
  refine sw_objInit X gw1_228 (Nat.le_of_ble_eq_true rfl) (Nat.le_of_ble_eq_true rfl) dX3_init_1 ?_
  refine sw_aload_n X dX3_init_4 rfl 0 rfl ?_
  refine sw_iload_n X dX3_init_5 rfl 1 rfl ?_
  refine px_putF (f := 30) (z := b) X hnm iw_X3 tyX3 tyX3_ok nmX3 hq.1 (by decide) hq.2 rfl 0 (by decide) gw1_229 rfl rfl rfl (ty := .int) (by decide +kernel) rfl rfl (Nat.le_of_ble_eq_true rfl) (by decide) (pS30 _ _ _) dX3_init_6 ?_
  refine sw_aload_n X dX3_init_9 rfl 0 rfl ?_
  refine sw_iload_n X dX3_init_10 rfl 2 rfl ?_
  refine px_putF (M := upM M 30 a 0 b) (f := 31) (z := m) X hnm iw_X3 tyX3 tyX3_ok nmX3 hq.1 (by decide) hq.2 rfl 1 (by decide) gw1_231 rfl rfl rfl (ty := .int) (by decide +kernel) rfl rfl (Nat.le_of_ble_eq_true rfl) (by decide) (pS31 _ _ _) dX3_init_11 ?_
  refine sw_aload_n X dX3_init_14 rfl 0 rfl ?_
  refine sw_iload_n X dX3_init_15 rfl 3 rfl ?_
  refine px_putF (M := upM (upM M 30 a 0 b) 31 a 0 m) (f := 32) (z := c) X hnm iw_X3 tyX3 tyX3_ok nmX3 hq.1 (by decide) hq.2 rfl 2 (by decide) gw1_232 rfl rfl rfl (ty := .int) (by decide +kernel) rfl rfl (Nat.le_of_ble_eq_true rfl) (by decide) (pS32 _ _ _) dX3_init_16 ?_
  refine sw_aload_n X dX3_init_19 rfl 0 rfl ?_
  refine sw_iload X dX3_init_20 4 rfl ?_
  refine px_putF (M := upM (upM (upM M 30 a 0 b) 31 a 0 m) 32 a 0 c) (f := 33) (z := h) X hnm iw_X3 tyX3 tyX3_ok nmX3 hq.1 (by decide) hq.2 rfl 3 (by decide) gw1_233 rfl rfl rfl (ty := .int) (by decide +kernel) rfl rfl (Nat.le_of_ble_eq_true rfl) (by decide) (pS33 _ _ _) dX3_init_22 ?_
  refine sw_aload_n X dX3_init_25 rfl 0 rfl ?_
  refine sw_iload X dX3_init_26 5 rfl ?_
  refine px_putF (M := upM (upM (upM (upM M 30 a 0 b) 31 a 0 m) 32 a 0 c) 33 a 0 h) (f := 34) (z := t) X hnm iw_X3 tyX3 tyX3_ok nmX3 hq.1 (by decide) hq.2 rfl 4 (by decide) gw1_235 rfl rfl rfl (ty := .int) (by decide +kernel) rfl rfl (Nat.le_of_ble_eq_true rfl) (by decide) (pS34 _ _ _) dX3_init_28 ?_
  refine sw_aload_n X dX3_init_31 rfl 0 rfl ?_
  refine sw_iload X dX3_init_32 6 rfl ?_
  refine px_putF (M := upM (upM (upM (upM (upM M 30 a 0 b) 31 a 0 m) 32 a 0 c) 33 a 0 h) 34 a 0 t) (f := 35) (z := d) X hnm iw_X3 tyX3 tyX3_ok nmX3 hq.1 (by decide) hq.2 rfl 5 (by decide) gw1_237 rfl rfl rfl (ty := .boolean) (by decide +kernel) (nar_b (by omega)) (fit_b (by omega)) (Nat.le_of_ble_eq_true rfl) (by decide) (pS35 _ _ _) dX3_init_34 ?_
  exact RV _ _ _ _ _ dX3_init_37 (Nat.le_of_ble_eq_true rfl) (Nat.le_of_ble_eq_true rfl) rfl
abbrev rm_X1_init : Room := { frames := 1, cells := 0, slots := 0, locals := 12 }
set_option maxHeartbeats 4000000 in
set_option maxRecDepth 100000 in
theorem c_X1_init (l : Launch) (D : va_G) (k : Nat → ClassId) (L : List Nat) (M : MM) (a : Nat) (e c d : Int) (hq : a ∈ L ∧ M 90 a 0 = 1) : CV l yX1_init cX1_init 4 none rm_X1_init D k [.ref a, .int (J e), .int (J c), .int (J d)] (pW k L M) (fun w' => w' = pW k L (upM (upM (upM (M) 10 a 0 e) 11 a 0 c) 12 a 0 d)) := by
  refine CV.of (by decide +kernel) (Nat.le_of_ble_eq_true rfl) (fun pᵢ eᵢ sᵢ mᵢ argsᵢ belowᵢ methᵢ cᵢ Aᵢ Qᵢ X hnm RV => ?_)
  show SW pᵢ l eᵢ rm_X1_init sᵢ mᵢ argsᵢ belowᵢ methᵢ cᵢ 4 D Aᵢ 0 0 Qᵢ (pW k L M) 0 [(0, .ref a), (1, .int (J e)), (2, .int (J c)), (3, .int (J d))] []
  refine sw_aload_n X dX1_init_0 rfl 0 rfl ?_
  refine sw_objInit X gw2_78 (Nat.le_of_ble_eq_true rfl) (Nat.le_of_ble_eq_true rfl) dX1_init_1 ?_
  refine sw_aload_n X dX1_init_4 rfl 0 rfl ?_
  refine sw_iload_n X dX1_init_5 rfl 1 rfl ?_
  refine px_putF (f := 10) (z := e) X hnm iw_X1 tyX1 tyX1_ok nmX1 hq.1 (by decide) hq.2 rfl 0 (by decide) gw2_79 rfl rfl rfl (ty := .int) (by decide +kernel) rfl rfl (Nat.le_of_ble_eq_true rfl) (by decide) (pS10 _ _ _) dX1_init_6 ?_
  refine sw_aload_n X dX1_init_9 rfl 0 rfl ?_
  refine sw_iload_n X dX1_init_10 rfl 2 rfl ?_
  refine px_putF (M := upM M 10 a 0 e) (f := 11) (z := c) X hnm iw_X1 tyX1 tyX1_ok nmX1 hq.1 (by decide) hq.2 rfl 1 (by decide) gw2_81 rfl rfl rfl (ty := .int) (by decide +kernel) rfl rfl (Nat.le_of_ble_eq_true rfl) (by decide) (pS11 _ _ _) dX1_init_11 ?_
  refine sw_aload_n X dX1_init_14 rfl 0 rfl ?_
  refine sw_iload_n X dX1_init_15 rfl 3 rfl ?_
  refine px_putF (M := upM (upM M 10 a 0 e) 11 a 0 c) (f := 12) (z := d) X hnm iw_X1 tyX1 tyX1_ok nmX1 hq.1 (by decide) hq.2 rfl 2 (by decide) gw2_83 rfl rfl rfl (ty := .int) (by decide +kernel) rfl rfl (Nat.le_of_ble_eq_true rfl) (by decide) (pS12 _ _ _) dX1_init_16 ?_
  exact RV _ _ _ _ _ dX1_init_19 (Nat.le_of_ble_eq_true rfl) (Nat.le_of_ble_eq_true rfl) rfl
abbrev rm_X2_init : Room := { frames := 1, cells := 0, slots := 0, locals := 12 }
set_option maxHeartbeats 4000000 in
set_option maxRecDepth 100000 in
theorem c_X2_init (l : Launch) (D : va_G) (k : Nat → ClassId) (L : List Nat) (M : MM) (a : Nat) (q o : Int) (hq : a ∈ L ∧ M 90 a 0 = 2) : CV l yX2_init cX2_init 3 none rm_X2_init D k [.ref a, .int (J q), .int (J o)] (pW k L M) (fun w' => w' = pW k L (upM (upM (upM (upM (M) 20 a 0 q) 21 a 0 o) 22 a 0 o) 23 a 0 (-1))) := by
  refine CV.of (by decide +kernel) (Nat.le_of_ble_eq_true rfl) (fun pᵢ eᵢ sᵢ mᵢ argsᵢ belowᵢ methᵢ cᵢ Aᵢ Qᵢ X hnm RV => ?_)
  show SW pᵢ l eᵢ rm_X2_init sᵢ mᵢ argsᵢ belowᵢ methᵢ cᵢ 3 D Aᵢ 0 0 Qᵢ (pW k L M) 0 [(0, .ref a), (1, .int (J q)), (2, .int (J o))] []
  refine sw_aload_n X dX2_init_0 rfl 0 rfl ?_
  refine sw_objInit X gw2_223 (Nat.le_of_ble_eq_true rfl) (Nat.le_of_ble_eq_true rfl) dX2_init_1 ?_
  refine sw_aload_n X dX2_init_4 rfl 0 rfl ?_
  refine sw_iload_n X dX2_init_5 rfl 1 rfl ?_
  refine px_putF (f := 20) (z := q) X hnm iw_X2 tyX2 tyX2_ok nmX2 hq.1 (by decide) hq.2 rfl 0 (by decide) gw2_224 rfl rfl rfl (ty := .int) (by decide +kernel) rfl rfl (Nat.le_of_ble_eq_true rfl) (by decide) (pS20 _ _ _) dX2_init_6 ?_
  refine sw_aload_n X dX2_init_9 rfl 0 rfl ?_
  refine sw_iload_n X dX2_init_10 rfl 2 rfl ?_
  refine px_putF (M := upM M 20 a 0 q) (f := 21) (z := o) X hnm iw_X2 tyX2 tyX2_ok nmX2 hq.1 (by decide) hq.2 rfl 1 (by decide) gw2_226 rfl rfl rfl (ty := .int) (by decide +kernel) rfl rfl (Nat.le_of_ble_eq_true rfl) (by decide) (pS21 _ _ _) dX2_init_11 ?_
  refine sw_aload_n X dX2_init_14 rfl 0 rfl ?_
  refine sw_iload_n X dX2_init_15 rfl 2 rfl ?_
  refine px_put (M := upM (upM M 20 a 0 q) 21 a 0 o) (f := 22) (z := o) X iw_X2 tyX2 tyX2_ok nmX2 hq.1 (by decide) hq.2 rfl 2 (by decide) gw2_227 rfl rfl (ty := .int) (by decide +kernel) rfl rfl (Nat.le_of_ble_eq_true rfl) (by decide) (pS22 _ _ _) dX2_init_16 ?_
  refine sw_aload_n X dX2_init_19 rfl 0 rfl ?_
  refine sw_iconst X dX2_init_20 ?_
  refine px_put (M := upM (upM (upM M 20 a 0 q) 21 a 0 o) 22 a 0 o) (f := 23) (z := -1) X iw_X2 tyX2 tyX2_ok nmX2 hq.1 (by decide) hq.2 rfl 3 (by decide) gw2_229 rfl rfl (ty := .int) (by decide +kernel) rfl rfl (Nat.le_of_ble_eq_true rfl) (by decide) (pS23 _ _ _) dX2_init_21 ?_
  exact RV _ _ _ _ _ dX2_init_24 (Nat.le_of_ble_eq_true rfl) (Nat.le_of_ble_eq_true rfl) rfl
abbrev rm_X4_init : Room := { frames := 1, cells := 1, slots := 60, locals := 12 }
set_option maxHeartbeats 4000000 in
set_option maxRecDepth 100000 in
theorem c_X4_init60 (l : Launch) (D : va_G) (k : Nat → ClassId) (L : List Nat) (M : MM) (a : Nat) (s0 : Int) (hq : a ∈ L ∧ M 90 a 0 = 4) : CV l yX4_init cX4_init 3 none rm_X4_init D k [.ref a, .int (J 60), .int (J s0)] (pW k L M) (fun w' => ∃ b : Nat, b ∉ L ∧ w' = pW k (L ++ [b]) (upM (upM (upM (upM (upM (alM M b 15 60) 40 a 0 (b : Int)) 41 a 0 0) 42 a 0 s0) 43 a 0 0) 44 a 0 0)) := by
  refine CV.of (by decide +kernel) (Nat.le_of_ble_eq_true rfl) (fun pᵢ eᵢ sᵢ mᵢ argsᵢ belowᵢ methᵢ cᵢ Aᵢ Qᵢ X hnm RV => ?_)
  show SW pᵢ l eᵢ rm_X4_init sᵢ mᵢ argsᵢ belowᵢ methᵢ cᵢ 3 D Aᵢ 0 0 Qᵢ (pW k L M) 0 [(0, .ref a), (1, .int (J 60)), (2, .int (J s0))] []
  refine sw_aload_n X dX4_init_0 rfl 0 rfl ?_
  refine sw_objInit X gw1_29 (Nat.le_of_ble_eq_true rfl) (Nat.le_of_ble_eq_true rfl) dX4_init_1 ?_
  refine sw_aload_n X dX4_init_4 rfl 0 rfl ?_
  refine sw_iload_n X dX4_init_5 rfl 1 rfl ?_
  refine px_newQ (C := RX3) X 5 (by decide) rfl gw1_30 (by decide) 60 (by decide) ⟨Nat.le_of_ble_eq_true rfl, Nat.le_of_ble_eq_true rfl⟩ dX4_init_6 (fun q1 hq1 => ?_)
  refine px_putF (M := alM M q1 15 60) (f := 40) (z := (q1 : Int)) X hnm iw_X4 tyX4 tyX4_ok nmX4 (List.mem_append_left _ hq.1) (by decide) ((alM_o _ _ _ _ _ (sw_ne hq.1 hq1)).trans hq.2) rfl 0 (by decide) gw1_32 rfl rfl rfl (ty := (.array (.object "OriginRally$Piece"))) (by decide +kernel) rfl rfl (Nat.le_of_ble_eq_true rfl) (by decide) (pS40 _ _ _) dX4_init_9 ?_
  refine sw_aload_n X dX4_init_12 rfl 0 rfl ?_
  refine sw_iconst X dX4_init_13 ?_
  refine px_put (M := upM (alM M q1 15 60) 40 a 0 ((q1 : Int))) (f := 41) (z := 0) X iw_X4 tyX4 tyX4_ok nmX4 (List.mem_append_left _ hq.1) (by decide) ((alM_o _ _ _ _ _ (sw_ne hq.1 hq1)).trans hq.2) rfl 1 (by decide) gw1_33 rfl rfl (ty := .int) (by decide +kernel) rfl rfl (Nat.le_of_ble_eq_true rfl) (by decide) (pS41 _ _ _) dX4_init_14 ?_
  refine sw_aload_n X dX4_init_17 rfl 0 rfl ?_
  refine sw_iload_n X dX4_init_18 rfl 2 rfl ?_
  refine px_put (M := upM (upM (alM M q1 15 60) 40 a 0 ((q1 : Int))) 41 a 0 0) (f := 42) (z := s0) X iw_X4 tyX4 tyX4_ok nmX4 (List.mem_append_left _ hq.1) (by decide) ((alM_o _ _ _ _ _ (sw_ne hq.1 hq1)).trans hq.2) rfl 2 (by decide) gw1_35 rfl rfl (ty := .int) (by decide +kernel) rfl rfl (Nat.le_of_ble_eq_true rfl) (by decide) (pS42 _ _ _) dX4_init_19 ?_
  refine sw_aload_n X dX4_init_22 rfl 0 rfl ?_
  refine sw_iconst X dX4_init_23 ?_
  refine px_put (M := upM (upM (upM (alM M q1 15 60) 40 a 0 ((q1 : Int))) 41 a 0 0) 42 a 0 s0) (f := 43) (z := 0) X iw_X4 tyX4 tyX4_ok nmX4 (List.mem_append_left _ hq.1) (by decide) ((alM_o _ _ _ _ _ (sw_ne hq.1 hq1)).trans hq.2) rfl 3 (by decide) gw1_37 rfl rfl (ty := .int) (by decide +kernel) rfl rfl (Nat.le_of_ble_eq_true rfl) (by decide) (pS43 _ _ _) dX4_init_24 ?_
  refine sw_aload_n X dX4_init_27 rfl 0 rfl ?_
  refine sw_iconst X dX4_init_28 ?_
  refine px_put (M := upM (upM (upM (upM (alM M q1 15 60) 40 a 0 ((q1 : Int))) 41 a 0 0) 42 a 0 s0) 43 a 0 0) (f := 44) (z := 0) X iw_X4 tyX4 tyX4_ok nmX4 (List.mem_append_left _ hq.1) (by decide) ((alM_o _ _ _ _ _ (sw_ne hq.1 hq1)).trans hq.2) rfl 4 (by decide) gw1_38 rfl rfl (ty := .int) (by decide +kernel) rfl rfl (Nat.le_of_ble_eq_true rfl) (by decide) (pS44 _ _ _) dX4_init_29 ?_
  exact RV _ _ _ _ _ dX4_init_32 (Nat.le_of_ble_eq_true rfl) (Nat.le_of_ble_eq_true rfl) ⟨q1, hq1, rfl⟩
set_option maxHeartbeats 4000000 in
set_option maxRecDepth 100000 in
theorem c_X4_init30 (l : Launch) (D : va_G) (k : Nat → ClassId) (L : List Nat) (M : MM) (a : Nat) (s0 : Int) (hq : a ∈ L ∧ M 90 a 0 = 4) : CV l yX4_init cX4_init 3 none rm_X4_init D k [.ref a, .int (J 30), .int (J s0)] (pW k L M) (fun w' => ∃ b : Nat, b ∉ L ∧ w' = pW k (L ++ [b]) (upM (upM (upM (upM (upM (alM M b 15 30) 40 a 0 (b : Int)) 41 a 0 0) 42 a 0 s0) 43 a 0 0) 44 a 0 0)) := by
  refine CV.of (by decide +kernel) (Nat.le_of_ble_eq_true rfl) (fun pᵢ eᵢ sᵢ mᵢ argsᵢ belowᵢ methᵢ cᵢ Aᵢ Qᵢ X hnm RV => ?_)
  show SW pᵢ l eᵢ rm_X4_init sᵢ mᵢ argsᵢ belowᵢ methᵢ cᵢ 3 D Aᵢ 0 0 Qᵢ (pW k L M) 0 [(0, .ref a), (1, .int (J 30)), (2, .int (J s0))] []
  refine sw_aload_n X dX4_init_0 rfl 0 rfl ?_
  refine sw_objInit X gw1_29 (Nat.le_of_ble_eq_true rfl) (Nat.le_of_ble_eq_true rfl) dX4_init_1 ?_
  refine sw_aload_n X dX4_init_4 rfl 0 rfl ?_
  refine sw_iload_n X dX4_init_5 rfl 1 rfl ?_
  refine px_newQ (C := RX3) X 5 (by decide) rfl gw1_30 (by decide) 30 (by decide) ⟨Nat.le_of_ble_eq_true rfl, Nat.le_of_ble_eq_true rfl⟩ dX4_init_6 (fun q1 hq1 => ?_)
  refine px_putF (M := alM M q1 15 30) (f := 40) (z := (q1 : Int)) X hnm iw_X4 tyX4 tyX4_ok nmX4 (List.mem_append_left _ hq.1) (by decide) ((alM_o _ _ _ _ _ (sw_ne hq.1 hq1)).trans hq.2) rfl 0 (by decide) gw1_32 rfl rfl rfl (ty := (.array (.object "OriginRally$Piece"))) (by decide +kernel) rfl rfl (Nat.le_of_ble_eq_true rfl) (by decide) (pS40 _ _ _) dX4_init_9 ?_
  refine sw_aload_n X dX4_init_12 rfl 0 rfl ?_
  refine sw_iconst X dX4_init_13 ?_
  refine px_put (M := upM (alM M q1 15 30) 40 a 0 ((q1 : Int))) (f := 41) (z := 0) X iw_X4 tyX4 tyX4_ok nmX4 (List.mem_append_left _ hq.1) (by decide) ((alM_o _ _ _ _ _ (sw_ne hq.1 hq1)).trans hq.2) rfl 1 (by decide) gw1_33 rfl rfl (ty := .int) (by decide +kernel) rfl rfl (Nat.le_of_ble_eq_true rfl) (by decide) (pS41 _ _ _) dX4_init_14 ?_
  refine sw_aload_n X dX4_init_17 rfl 0 rfl ?_
  refine sw_iload_n X dX4_init_18 rfl 2 rfl ?_
  refine px_put (M := upM (upM (alM M q1 15 30) 40 a 0 ((q1 : Int))) 41 a 0 0) (f := 42) (z := s0) X iw_X4 tyX4 tyX4_ok nmX4 (List.mem_append_left _ hq.1) (by decide) ((alM_o _ _ _ _ _ (sw_ne hq.1 hq1)).trans hq.2) rfl 2 (by decide) gw1_35 rfl rfl (ty := .int) (by decide +kernel) rfl rfl (Nat.le_of_ble_eq_true rfl) (by decide) (pS42 _ _ _) dX4_init_19 ?_
  refine sw_aload_n X dX4_init_22 rfl 0 rfl ?_
  refine sw_iconst X dX4_init_23 ?_
  refine px_put (M := upM (upM (upM (alM M q1 15 30) 40 a 0 ((q1 : Int))) 41 a 0 0) 42 a 0 s0) (f := 43) (z := 0) X iw_X4 tyX4 tyX4_ok nmX4 (List.mem_append_left _ hq.1) (by decide) ((alM_o _ _ _ _ _ (sw_ne hq.1 hq1)).trans hq.2) rfl 3 (by decide) gw1_37 rfl rfl (ty := .int) (by decide +kernel) rfl rfl (Nat.le_of_ble_eq_true rfl) (by decide) (pS43 _ _ _) dX4_init_24 ?_
  refine sw_aload_n X dX4_init_27 rfl 0 rfl ?_
  refine sw_iconst X dX4_init_28 ?_
  refine px_put (M := upM (upM (upM (upM (alM M q1 15 30) 40 a 0 ((q1 : Int))) 41 a 0 0) 42 a 0 s0) 43 a 0 0) (f := 44) (z := 0) X iw_X4 tyX4 tyX4_ok nmX4 (List.mem_append_left _ hq.1) (by decide) ((alM_o _ _ _ _ _ (sw_ne hq.1 hq1)).trans hq.2) rfl 4 (by decide) gw1_38 rfl rfl (ty := .int) (by decide +kernel) rfl rfl (Nat.le_of_ble_eq_true rfl) (by decide) (pS44 _ _ _) dX4_init_29 ?_
  exact RV _ _ _ _ _ dX4_init_32 (Nat.le_of_ble_eq_true rfl) (Nat.le_of_ble_eq_true rfl) ⟨q1, hq1, rfl⟩
theorem car_end {k : Nat → ClassId} {L : List Nat} {M : MM} {a : Nat} {s0 : Int} {w1 b r : Nat} (hq : a ∈ L ∧ M 90 a 0 = 0) (h1 : w1 ∉ L) (h2 : b ∉ L ++ [w1]) (h3 : r ∉ (L ++ [w1]) ++ [b]) :
    ∃ w1' b' r' : Nat, ∃ M1 : MM, pW k (((L ++ [w1]) ++ [b]) ++ [r]) (upM (upM (upM (upM (upM (upM (upM (upM (upM (upM (upM (upM (upM (alM (upM (upM (upM (upM (upM (upM (alM (alM M w1 4 0) b 15 60) 40 w1 0 ((b : Int))) 41 w1 0 0) 42 w1 0 s0) 43 w1 0 0) 44 w1 0 0) 0 a 0 ((w1 : Int))) r 10 10) 1 a 0 ((r : Int))) 92 r 0 (-1)) 92 r 1 (-1)) 92 r 2 (-1)) 92 r 3 (-1)) 92 r 4 (-1)) 92 r 5 (-1)) 92 r 6 (-1)) 92 r 7 (-1)) 92 r 8 (-1)) 92 r 9 (-1)) 2 a 0 (-1)) 3 a 0 0) = pW k (((L ++ [w1']) ++ [b']) ++ [r']) M1 ∧ (w1' ∉ L ∧ b' ∉ L ++ [w1'] ∧ r' ∉ (L ++ [w1']) ++ [b']) ∧ (∀ f x i, x ∈ L → x ≠ a → M1 f x i = M f x i) ∧ (M1 90 a 0 = 0 ∧ M1 0 a 0 = (w1' : Int) ∧ M1 1 a 0 = (r' : Int) ∧ M1 2 a 0 = -1 ∧ M1 3 a 0 = 0) ∧ (M1 90 w1' 0 = 4 ∧ M1 40 w1' 0 = (b' : Int) ∧ M1 41 w1' 0 = 0 ∧ M1 42 w1' 0 = s0 ∧ M1 43 w1' 0 = 0 ∧ M1 44 w1' 0 = 0) ∧ (M1 90 b' 0 = 15 ∧ M1 91 b' 0 = 60) ∧ (M1 90 r' 0 = 10 ∧ M1 91 r' 0 = 10 ∧ ∀ g : Int, 0 ≤ g → g < 10 → M1 92 r' g = -1) := by
  have e1 : a ≠ w1 := sw_ne hq.1 h1
  have e2 : a ≠ b := sw_ne (List.mem_append_left _ hq.1) h2
  have e3 : a ≠ r := sw_ne (List.mem_append_left _ (List.mem_append_left _ hq.1)) h3
  have e4 : w1 ≠ b := sw_ne (List.mem_append_right _ List.mem_cons_self) h2
  have e5 : w1 ≠ r := sw_ne (List.mem_append_left _ (List.mem_append_right _ List.mem_cons_self)) h3
  have e6 : b ≠ r := sw_ne (List.mem_append_right _ List.mem_cons_self) h3
  refine ⟨w1, b, r, _, rfl, ⟨h1, h2, h3⟩, fun f x i hx hxa => ?_, ?_, ?_, ?_, ?_⟩
  · have f1 : x ≠ w1 := sw_ne hx h1
    have f2 : x ≠ b := sw_ne (List.mem_append_left _ hx) h2
    have f3 : x ≠ r := sw_ne (List.mem_append_left _ (List.mem_append_left _ hx)) h3
    simp [upM, alM, hxa, f1, f2, f3]
  · refine ⟨?_, ?_, ?_, ?_, ?_⟩ <;> simp [upM, alM, dfM, e1, e2, e3, e4, e5, e6, hq.2]
  · refine ⟨?_, ?_, ?_, ?_, ?_, ?_⟩ <;> simp [upM, alM, dfM, e1, e2, e3, e4, e5, e6, e1.symm, e2.symm, e3.symm]
  · refine ⟨?_, ?_⟩ <;> simp [upM, alM, dfM, e1, e2, e3, e4, e5, e6, e1.symm, e2.symm, e3.symm, e4.symm, e5.symm, e6.symm]
  · refine ⟨?_, ?_, fun g a0 a1 => ?_⟩
    · simp [upM, alM, dfM, e1, e2, e3, e4, e5, e6, e1.symm, e2.symm, e3.symm, e4.symm, e5.symm, e6.symm]
    · simp [upM, alM, dfM, e1, e2, e3, e4, e5, e6, e1.symm, e2.symm, e3.symm, e4.symm, e5.symm, e6.symm]
    · have : g = 0 ∨ g = 1 ∨ g = 2 ∨ g = 3 ∨ g = 4 ∨ g = 5 ∨ g = 6 ∨ g = 7 ∨ g = 8 ∨ g = 9 := by omega
      rcases this with rfl | rfl | rfl | rfl | rfl | rfl | rfl | rfl | rfl | rfl <;> simp [upM, alM, dfM, e1, e2, e3, e4, e5, e6, e1.symm, e2.symm, e3.symm, e4.symm, e5.symm, e6.symm]
abbrev rm_X0_init : Room := { frames := 2, cells := 3, slots := 75, locals := 34 }
set_option maxHeartbeats 4000000 in
set_option maxRecDepth 100000 in
theorem c_X0_init (l : Launch) (D : va_G) (k : Nat → ClassId) (L : List Nat) (M : MM) (a : Nat) (s0 : Int) (hq : a ∈ L ∧ M 90 a 0 = 0) : CV l yX0_init cX0_init 3 none rm_X0_init D k [.ref a, .int (J s0)] (pW k L M) (fun w' => ∃ w1 b r : Nat, ∃ M1 : MM, w' = pW k (((L ++ [w1]) ++ [b]) ++ [r]) M1 ∧ (w1 ∉ L ∧ b ∉ L ++ [w1] ∧ r ∉ (L ++ [w1]) ++ [b]) ∧ (∀ f x i, x ∈ L → x ≠ a → M1 f x i = M f x i) ∧ (M1 90 a 0 = 0 ∧ M1 0 a 0 = (w1 : Int) ∧ M1 1 a 0 = (r : Int) ∧ M1 2 a 0 = -1 ∧ M1 3 a 0 = 0) ∧ (M1 90 w1 0 = 4 ∧ M1 40 w1 0 = (b : Int) ∧ M1 41 w1 0 = 0 ∧ M1 42 w1 0 = s0 ∧ M1 43 w1 0 = 0 ∧ M1 44 w1 0 = 0) ∧ (M1 90 b 0 = 15 ∧ M1 91 b 0 = 60) ∧ (M1 90 r 0 = 10 ∧ M1 91 r 0 = 10 ∧ ∀ g : Int, 0 ≤ g → g < 10 → M1 92 r g = -1)) := by
  refine CV.of (by decide +kernel) (Nat.le_of_ble_eq_true rfl) (fun pᵢ eᵢ sᵢ mᵢ argsᵢ belowᵢ methᵢ cᵢ Aᵢ Qᵢ X hnm RV => ?_)
  show SW pᵢ l eᵢ rm_X0_init sᵢ mᵢ argsᵢ belowᵢ methᵢ cᵢ 3 D Aᵢ 0 0 Qᵢ (pW k L M) 0 [(0, .ref a), (1, .int (J s0))] []
  refine sw_aload_n X dX0_init_0 rfl 0 rfl ?_
  refine sw_objInit X gw2_110 (Nat.le_of_ble_eq_true rfl) (Nat.le_of_ble_eq_true rfl) dX0_init_1 ?_
  refine sw_aload_n X dX0_init_4 rfl 0 rfl ?_
  refine px_new (ci := 4) (N := 5) (T := TX4) (C := RX4) X iw_X4 tyX4 tyX4_ok gw2_111 gw1_25 gw1_2 rfl (by decide) dv_X4 (al_X4 _) ⟨Nat.le_of_ble_eq_true rfl, Nat.le_of_ble_eq_true rfl⟩ dX0_init_5 (fun q1 hq1 => ?_)
  refine sw_dup X dX0_init_8 rfl ?_
  refine sw_bipush X dX0_init_9 (by decide +kernel) ?_
  refine sw_iload_n X dX0_init_11 rfl 1 rfl ?_
  refine sw_callIV0 (As := [.int (J 60), .int (J s0)]) (rest := [.ref q1, .ref a]) X (c_X4_init60 l D k (L ++ [q1]) (alM M q1 4 0) q1 s0 ⟨(List.mem_append_right _ List.mem_cons_self), (alM_n _ _ _ _ _ _)⟩) ⟨callB_of 2 (sw_ts X) (sw_goodI gw1_28) rfl rfl rfl (sw_ts X _ gw1_2) (sw_ts X _ gw2_112) (by decide +kernel) ⟨Nat.le_of_ble_eq_true rfl, Nat.le_of_ble_eq_true rfl⟩, rfl, sw_ts X _ gw1_27⟩ dX0_init_12 rfl rfl (Nat.le_of_ble_eq_true rfl) ⟨Nat.le_of_ble_eq_true rfl, Nat.le_of_ble_eq_true rfl⟩ (fun w9 hp3 => ?_)
  obtain ⟨q4, hq4, rfl⟩ := hp3
  refine px_putF (M := upM (upM (upM (upM (upM (alM (alM M q1 4 0) q4 15 60) 40 q1 0 ((q4 : Int))) 41 q1 0 0) 42 q1 0 s0) 43 q1 0 0) 44 q1 0 0) (f := 0) (z := (q1 : Int)) X hnm iw_X0 tyX0 tyX0_ok nmX0 (List.mem_append_left _ (List.mem_append_left _ hq.1)) (by decide) ((alM_o _ _ _ _ _ (sw_ne (List.mem_append_left _ hq.1) hq4)).trans ((alM_o _ _ _ _ _ (sw_ne hq.1 hq1)).trans hq.2)) rfl 0 (by decide) gw2_113 rfl rfl rfl (ty := (.object "OriginRally$Way")) (by decide +kernel) rfl rfl (Nat.le_of_ble_eq_true rfl) (by decide) (pS0 _ _ _) dX0_init_15 ?_
  refine sw_aload_n X dX0_init_18 rfl 0 rfl ?_
  refine sw_bipush X dX0_init_19 (by decide +kernel) ?_
  refine px_newI X 10 (by decide) ⟨Nat.le_of_ble_eq_true rfl, Nat.le_of_ble_eq_true rfl⟩ dX0_init_21 (fun q5 hq5 => ?_)
  refine px_putF (M := alM (upM (upM (upM (upM (upM (upM (alM (alM M q1 4 0) q4 15 60) 40 q1 0 ((q4 : Int))) 41 q1 0 0) 42 q1 0 s0) 43 q1 0 0) 44 q1 0 0) 0 a 0 ((q1 : Int))) q5 10 10) (f := 1) (z := (q5 : Int)) X hnm iw_X0 tyX0 tyX0_ok nmX0 (List.mem_append_left _ (List.mem_append_left _ (List.mem_append_left _ hq.1))) (by decide) ((alM_o _ _ _ _ _ (sw_ne (List.mem_append_left _ (List.mem_append_left _ hq.1)) hq5)).trans ((alM_o _ _ _ _ _ (sw_ne (List.mem_append_left _ hq.1) hq4)).trans ((alM_o _ _ _ _ _ (sw_ne hq.1 hq1)).trans hq.2))) rfl 1 (by decide) gw2_115 rfl rfl rfl (ty := (.array .int)) (by decide +kernel) rfl rfl (Nat.le_of_ble_eq_true rfl) (by decide) (pS1 _ _ _) dX0_init_23 ?_
  refine sw_iconst X dX0_init_26 ?_
  refine sw_istore_n (lv' := [(2, .int (J 0)), (0, .ref a), (1, .int (J s0))]) X dX0_init_27 rfl (by decide) rfl ?_
  refine sw_iload_n X dX0_init_28 rfl 0 rfl ?_
  refine sw_bipush X dX0_init_29 (by decide +kernel) ?_
  refine sw_icmp_ge (tgt := 47) X (by omega) (by omega) dX0_init_31 (by decide) (fun h6 => ?_) (fun h6 => ?_)
  · exfalso; revert h6; decide
  · refine sw_aload_n X dX0_init_34 rfl 1 rfl ?_
    refine px_get (M := upM (alM (upM (upM (upM (upM (upM (upM (alM (alM M q1 4 0) q4 15 60) 40 q1 0 ((q4 : Int))) 41 q1 0 0) 42 q1 0 s0) 43 q1 0 0) 44 q1 0 0) 0 a 0 ((q1 : Int))) q5 10 10) 1 a 0 ((q5 : Int))) (v := .ref q5) X iw_X0 (List.mem_append_left _ (List.mem_append_left _ (List.mem_append_left _ hq.1))) (by decide) ((alM_o _ _ _ _ _ (sw_ne (List.mem_append_left _ (List.mem_append_left _ hq.1)) hq5)).trans ((alM_o _ _ _ _ _ (sw_ne (List.mem_append_left _ hq.1) hq4)).trans ((alM_o _ _ _ _ _ (sw_ne hq.1 hq1)).trans hq.2))) rfl 1 (by decide) gw2_115 rfl (congrArg some (rf_of (by simp [upM]))) dX0_init_35 ?_
    refine sw_iload_n X dX0_init_38 rfl 0 rfl ?_
    refine sw_iconst X dX0_init_39 ?_
    refine px_iast (M := upM (alM (upM (upM (upM (upM (upM (upM (alM (alM M q1 4 0) q4 15 60) 40 q1 0 ((q4 : Int))) 41 q1 0 0) 42 q1 0 s0) 43 q1 0 0) 44 q1 0 0) 0 a 0 ((q1 : Int))) q5 10 10) 1 a 0 ((q5 : Int))) X (List.mem_append_right _ List.mem_cons_self) (alM_n _ _ _ _ _ _) (alM_n _ _ _ _ _ _) (by omega) (by omega) (by omega) dX0_init_40 ?_
    refine sw_iinc (lv' := [(2, .int (J 1)), (0, .ref a), (1, .int (J s0))]) X dX0_init_41 0 rfl (by decide) rfl ?_
    refine sw_goto (tgt := 28) X dX0_init_44 (by decide) ?_
    refine sw_iload_n X dX0_init_28 rfl 0 rfl ?_
    refine sw_bipush X dX0_init_29 (by decide +kernel) ?_
    refine sw_icmp_ge (tgt := 47) X (by omega) (by omega) dX0_init_31 (by decide) (fun h7 => ?_) (fun h7 => ?_)
    · exfalso; revert h7; decide
    · refine sw_aload_n X dX0_init_34 rfl 1 rfl ?_
      refine px_get (M := upM (upM (alM (upM (upM (upM (upM (upM (upM (alM (alM M q1 4 0) q4 15 60) 40 q1 0 ((q4 : Int))) 41 q1 0 0) 42 q1 0 s0) 43 q1 0 0) 44 q1 0 0) 0 a 0 ((q1 : Int))) q5 10 10) 1 a 0 ((q5 : Int))) 92 q5 0 (-1)) (v := .ref q5) X iw_X0 (List.mem_append_left _ (List.mem_append_left _ (List.mem_append_left _ hq.1))) (by decide) ((alM_o _ _ _ _ _ (sw_ne (List.mem_append_left _ (List.mem_append_left _ hq.1)) hq5)).trans ((alM_o _ _ _ _ _ (sw_ne (List.mem_append_left _ hq.1) hq4)).trans ((alM_o _ _ _ _ _ (sw_ne hq.1 hq1)).trans hq.2))) rfl 1 (by decide) gw2_115 rfl (congrArg some (rf_of (by simp [upM]))) dX0_init_35 ?_
      refine sw_iload_n X dX0_init_38 rfl 0 rfl ?_
      refine sw_iconst X dX0_init_39 ?_
      refine px_iast (M := upM (upM (alM (upM (upM (upM (upM (upM (upM (alM (alM M q1 4 0) q4 15 60) 40 q1 0 ((q4 : Int))) 41 q1 0 0) 42 q1 0 s0) 43 q1 0 0) 44 q1 0 0) 0 a 0 ((q1 : Int))) q5 10 10) 1 a 0 ((q5 : Int))) 92 q5 0 (-1)) X (List.mem_append_right _ List.mem_cons_self) (alM_n _ _ _ _ _ _) (alM_n _ _ _ _ _ _) (by omega) (by omega) (by omega) dX0_init_40 ?_
      refine sw_iinc (lv' := [(2, .int (J 2)), (0, .ref a), (1, .int (J s0))]) X dX0_init_41 0 rfl (by decide) rfl ?_
      refine sw_goto (tgt := 28) X dX0_init_44 (by decide) ?_
      refine sw_iload_n X dX0_init_28 rfl 0 rfl ?_
      refine sw_bipush X dX0_init_29 (by decide +kernel) ?_
      refine sw_icmp_ge (tgt := 47) X (by omega) (by omega) dX0_init_31 (by decide) (fun h8 => ?_) (fun h8 => ?_)
      · exfalso; revert h8; decide
      · refine sw_aload_n X dX0_init_34 rfl 1 rfl ?_
        refine px_get (M := upM (upM (upM (alM (upM (upM (upM (upM (upM (upM (alM (alM M q1 4 0) q4 15 60) 40 q1 0 ((q4 : Int))) 41 q1 0 0) 42 q1 0 s0) 43 q1 0 0) 44 q1 0 0) 0 a 0 ((q1 : Int))) q5 10 10) 1 a 0 ((q5 : Int))) 92 q5 0 (-1)) 92 q5 1 (-1)) (v := .ref q5) X iw_X0 (List.mem_append_left _ (List.mem_append_left _ (List.mem_append_left _ hq.1))) (by decide) ((alM_o _ _ _ _ _ (sw_ne (List.mem_append_left _ (List.mem_append_left _ hq.1)) hq5)).trans ((alM_o _ _ _ _ _ (sw_ne (List.mem_append_left _ hq.1) hq4)).trans ((alM_o _ _ _ _ _ (sw_ne hq.1 hq1)).trans hq.2))) rfl 1 (by decide) gw2_115 rfl (congrArg some (rf_of (by simp [upM]))) dX0_init_35 ?_
        refine sw_iload_n X dX0_init_38 rfl 0 rfl ?_
        refine sw_iconst X dX0_init_39 ?_
        refine px_iast (M := upM (upM (upM (alM (upM (upM (upM (upM (upM (upM (alM (alM M q1 4 0) q4 15 60) 40 q1 0 ((q4 : Int))) 41 q1 0 0) 42 q1 0 s0) 43 q1 0 0) 44 q1 0 0) 0 a 0 ((q1 : Int))) q5 10 10) 1 a 0 ((q5 : Int))) 92 q5 0 (-1)) 92 q5 1 (-1)) X (List.mem_append_right _ List.mem_cons_self) (alM_n _ _ _ _ _ _) (alM_n _ _ _ _ _ _) (by omega) (by omega) (by omega) dX0_init_40 ?_
        refine sw_iinc (lv' := [(2, .int (J 3)), (0, .ref a), (1, .int (J s0))]) X dX0_init_41 0 rfl (by decide) rfl ?_
        refine sw_goto (tgt := 28) X dX0_init_44 (by decide) ?_
        refine sw_iload_n X dX0_init_28 rfl 0 rfl ?_
        refine sw_bipush X dX0_init_29 (by decide +kernel) ?_
        refine sw_icmp_ge (tgt := 47) X (by omega) (by omega) dX0_init_31 (by decide) (fun h9 => ?_) (fun h9 => ?_)
        · exfalso; revert h9; decide
        · refine sw_aload_n X dX0_init_34 rfl 1 rfl ?_
          refine px_get (M := upM (upM (upM (upM (alM (upM (upM (upM (upM (upM (upM (alM (alM M q1 4 0) q4 15 60) 40 q1 0 ((q4 : Int))) 41 q1 0 0) 42 q1 0 s0) 43 q1 0 0) 44 q1 0 0) 0 a 0 ((q1 : Int))) q5 10 10) 1 a 0 ((q5 : Int))) 92 q5 0 (-1)) 92 q5 1 (-1)) 92 q5 2 (-1)) (v := .ref q5) X iw_X0 (List.mem_append_left _ (List.mem_append_left _ (List.mem_append_left _ hq.1))) (by decide) ((alM_o _ _ _ _ _ (sw_ne (List.mem_append_left _ (List.mem_append_left _ hq.1)) hq5)).trans ((alM_o _ _ _ _ _ (sw_ne (List.mem_append_left _ hq.1) hq4)).trans ((alM_o _ _ _ _ _ (sw_ne hq.1 hq1)).trans hq.2))) rfl 1 (by decide) gw2_115 rfl (congrArg some (rf_of (by simp [upM]))) dX0_init_35 ?_
          refine sw_iload_n X dX0_init_38 rfl 0 rfl ?_
          refine sw_iconst X dX0_init_39 ?_
          refine px_iast (M := upM (upM (upM (upM (alM (upM (upM (upM (upM (upM (upM (alM (alM M q1 4 0) q4 15 60) 40 q1 0 ((q4 : Int))) 41 q1 0 0) 42 q1 0 s0) 43 q1 0 0) 44 q1 0 0) 0 a 0 ((q1 : Int))) q5 10 10) 1 a 0 ((q5 : Int))) 92 q5 0 (-1)) 92 q5 1 (-1)) 92 q5 2 (-1)) X (List.mem_append_right _ List.mem_cons_self) (alM_n _ _ _ _ _ _) (alM_n _ _ _ _ _ _) (by omega) (by omega) (by omega) dX0_init_40 ?_
          refine sw_iinc (lv' := [(2, .int (J 4)), (0, .ref a), (1, .int (J s0))]) X dX0_init_41 0 rfl (by decide) rfl ?_
          refine sw_goto (tgt := 28) X dX0_init_44 (by decide) ?_
          refine sw_iload_n X dX0_init_28 rfl 0 rfl ?_
          refine sw_bipush X dX0_init_29 (by decide +kernel) ?_
          refine sw_icmp_ge (tgt := 47) X (by omega) (by omega) dX0_init_31 (by decide) (fun h10 => ?_) (fun h10 => ?_)
          · exfalso; revert h10; decide
          · refine sw_aload_n X dX0_init_34 rfl 1 rfl ?_
            refine px_get (M := upM (upM (upM (upM (upM (alM (upM (upM (upM (upM (upM (upM (alM (alM M q1 4 0) q4 15 60) 40 q1 0 ((q4 : Int))) 41 q1 0 0) 42 q1 0 s0) 43 q1 0 0) 44 q1 0 0) 0 a 0 ((q1 : Int))) q5 10 10) 1 a 0 ((q5 : Int))) 92 q5 0 (-1)) 92 q5 1 (-1)) 92 q5 2 (-1)) 92 q5 3 (-1)) (v := .ref q5) X iw_X0 (List.mem_append_left _ (List.mem_append_left _ (List.mem_append_left _ hq.1))) (by decide) ((alM_o _ _ _ _ _ (sw_ne (List.mem_append_left _ (List.mem_append_left _ hq.1)) hq5)).trans ((alM_o _ _ _ _ _ (sw_ne (List.mem_append_left _ hq.1) hq4)).trans ((alM_o _ _ _ _ _ (sw_ne hq.1 hq1)).trans hq.2))) rfl 1 (by decide) gw2_115 rfl (congrArg some (rf_of (by simp [upM]))) dX0_init_35 ?_
            refine sw_iload_n X dX0_init_38 rfl 0 rfl ?_
            refine sw_iconst X dX0_init_39 ?_
            refine px_iast (M := upM (upM (upM (upM (upM (alM (upM (upM (upM (upM (upM (upM (alM (alM M q1 4 0) q4 15 60) 40 q1 0 ((q4 : Int))) 41 q1 0 0) 42 q1 0 s0) 43 q1 0 0) 44 q1 0 0) 0 a 0 ((q1 : Int))) q5 10 10) 1 a 0 ((q5 : Int))) 92 q5 0 (-1)) 92 q5 1 (-1)) 92 q5 2 (-1)) 92 q5 3 (-1)) X (List.mem_append_right _ List.mem_cons_self) (alM_n _ _ _ _ _ _) (alM_n _ _ _ _ _ _) (by omega) (by omega) (by omega) dX0_init_40 ?_
            refine sw_iinc (lv' := [(2, .int (J 5)), (0, .ref a), (1, .int (J s0))]) X dX0_init_41 0 rfl (by decide) rfl ?_
            refine sw_goto (tgt := 28) X dX0_init_44 (by decide) ?_
            refine sw_iload_n X dX0_init_28 rfl 0 rfl ?_
            refine sw_bipush X dX0_init_29 (by decide +kernel) ?_
            refine sw_icmp_ge (tgt := 47) X (by omega) (by omega) dX0_init_31 (by decide) (fun h11 => ?_) (fun h11 => ?_)
            · exfalso; revert h11; decide
            · refine sw_aload_n X dX0_init_34 rfl 1 rfl ?_
              refine px_get (M := upM (upM (upM (upM (upM (upM (alM (upM (upM (upM (upM (upM (upM (alM (alM M q1 4 0) q4 15 60) 40 q1 0 ((q4 : Int))) 41 q1 0 0) 42 q1 0 s0) 43 q1 0 0) 44 q1 0 0) 0 a 0 ((q1 : Int))) q5 10 10) 1 a 0 ((q5 : Int))) 92 q5 0 (-1)) 92 q5 1 (-1)) 92 q5 2 (-1)) 92 q5 3 (-1)) 92 q5 4 (-1)) (v := .ref q5) X iw_X0 (List.mem_append_left _ (List.mem_append_left _ (List.mem_append_left _ hq.1))) (by decide) ((alM_o _ _ _ _ _ (sw_ne (List.mem_append_left _ (List.mem_append_left _ hq.1)) hq5)).trans ((alM_o _ _ _ _ _ (sw_ne (List.mem_append_left _ hq.1) hq4)).trans ((alM_o _ _ _ _ _ (sw_ne hq.1 hq1)).trans hq.2))) rfl 1 (by decide) gw2_115 rfl (congrArg some (rf_of (by simp [upM]))) dX0_init_35 ?_
              refine sw_iload_n X dX0_init_38 rfl 0 rfl ?_
              refine sw_iconst X dX0_init_39 ?_
              refine px_iast (M := upM (upM (upM (upM (upM (upM (alM (upM (upM (upM (upM (upM (upM (alM (alM M q1 4 0) q4 15 60) 40 q1 0 ((q4 : Int))) 41 q1 0 0) 42 q1 0 s0) 43 q1 0 0) 44 q1 0 0) 0 a 0 ((q1 : Int))) q5 10 10) 1 a 0 ((q5 : Int))) 92 q5 0 (-1)) 92 q5 1 (-1)) 92 q5 2 (-1)) 92 q5 3 (-1)) 92 q5 4 (-1)) X (List.mem_append_right _ List.mem_cons_self) (alM_n _ _ _ _ _ _) (alM_n _ _ _ _ _ _) (by omega) (by omega) (by omega) dX0_init_40 ?_
              refine sw_iinc (lv' := [(2, .int (J 6)), (0, .ref a), (1, .int (J s0))]) X dX0_init_41 0 rfl (by decide) rfl ?_
              refine sw_goto (tgt := 28) X dX0_init_44 (by decide) ?_
              refine sw_iload_n X dX0_init_28 rfl 0 rfl ?_
              refine sw_bipush X dX0_init_29 (by decide +kernel) ?_
              refine sw_icmp_ge (tgt := 47) X (by omega) (by omega) dX0_init_31 (by decide) (fun h12 => ?_) (fun h12 => ?_)
              · exfalso; revert h12; decide
              · refine sw_aload_n X dX0_init_34 rfl 1 rfl ?_
                refine px_get (M := upM (upM (upM (upM (upM (upM (upM (alM (upM (upM (upM (upM (upM (upM (alM (alM M q1 4 0) q4 15 60) 40 q1 0 ((q4 : Int))) 41 q1 0 0) 42 q1 0 s0) 43 q1 0 0) 44 q1 0 0) 0 a 0 ((q1 : Int))) q5 10 10) 1 a 0 ((q5 : Int))) 92 q5 0 (-1)) 92 q5 1 (-1)) 92 q5 2 (-1)) 92 q5 3 (-1)) 92 q5 4 (-1)) 92 q5 5 (-1)) (v := .ref q5) X iw_X0 (List.mem_append_left _ (List.mem_append_left _ (List.mem_append_left _ hq.1))) (by decide) ((alM_o _ _ _ _ _ (sw_ne (List.mem_append_left _ (List.mem_append_left _ hq.1)) hq5)).trans ((alM_o _ _ _ _ _ (sw_ne (List.mem_append_left _ hq.1) hq4)).trans ((alM_o _ _ _ _ _ (sw_ne hq.1 hq1)).trans hq.2))) rfl 1 (by decide) gw2_115 rfl (congrArg some (rf_of (by simp [upM]))) dX0_init_35 ?_
                refine sw_iload_n X dX0_init_38 rfl 0 rfl ?_
                refine sw_iconst X dX0_init_39 ?_
                refine px_iast (M := upM (upM (upM (upM (upM (upM (upM (alM (upM (upM (upM (upM (upM (upM (alM (alM M q1 4 0) q4 15 60) 40 q1 0 ((q4 : Int))) 41 q1 0 0) 42 q1 0 s0) 43 q1 0 0) 44 q1 0 0) 0 a 0 ((q1 : Int))) q5 10 10) 1 a 0 ((q5 : Int))) 92 q5 0 (-1)) 92 q5 1 (-1)) 92 q5 2 (-1)) 92 q5 3 (-1)) 92 q5 4 (-1)) 92 q5 5 (-1)) X (List.mem_append_right _ List.mem_cons_self) (alM_n _ _ _ _ _ _) (alM_n _ _ _ _ _ _) (by omega) (by omega) (by omega) dX0_init_40 ?_
                refine sw_iinc (lv' := [(2, .int (J 7)), (0, .ref a), (1, .int (J s0))]) X dX0_init_41 0 rfl (by decide) rfl ?_
                refine sw_goto (tgt := 28) X dX0_init_44 (by decide) ?_
                refine sw_iload_n X dX0_init_28 rfl 0 rfl ?_
                refine sw_bipush X dX0_init_29 (by decide +kernel) ?_
                refine sw_icmp_ge (tgt := 47) X (by omega) (by omega) dX0_init_31 (by decide) (fun h13 => ?_) (fun h13 => ?_)
                · exfalso; revert h13; decide
                · refine sw_aload_n X dX0_init_34 rfl 1 rfl ?_
                  refine px_get (M := upM (upM (upM (upM (upM (upM (upM (upM (alM (upM (upM (upM (upM (upM (upM (alM (alM M q1 4 0) q4 15 60) 40 q1 0 ((q4 : Int))) 41 q1 0 0) 42 q1 0 s0) 43 q1 0 0) 44 q1 0 0) 0 a 0 ((q1 : Int))) q5 10 10) 1 a 0 ((q5 : Int))) 92 q5 0 (-1)) 92 q5 1 (-1)) 92 q5 2 (-1)) 92 q5 3 (-1)) 92 q5 4 (-1)) 92 q5 5 (-1)) 92 q5 6 (-1)) (v := .ref q5) X iw_X0 (List.mem_append_left _ (List.mem_append_left _ (List.mem_append_left _ hq.1))) (by decide) ((alM_o _ _ _ _ _ (sw_ne (List.mem_append_left _ (List.mem_append_left _ hq.1)) hq5)).trans ((alM_o _ _ _ _ _ (sw_ne (List.mem_append_left _ hq.1) hq4)).trans ((alM_o _ _ _ _ _ (sw_ne hq.1 hq1)).trans hq.2))) rfl 1 (by decide) gw2_115 rfl (congrArg some (rf_of (by simp [upM]))) dX0_init_35 ?_
                  refine sw_iload_n X dX0_init_38 rfl 0 rfl ?_
                  refine sw_iconst X dX0_init_39 ?_
                  refine px_iast (M := upM (upM (upM (upM (upM (upM (upM (upM (alM (upM (upM (upM (upM (upM (upM (alM (alM M q1 4 0) q4 15 60) 40 q1 0 ((q4 : Int))) 41 q1 0 0) 42 q1 0 s0) 43 q1 0 0) 44 q1 0 0) 0 a 0 ((q1 : Int))) q5 10 10) 1 a 0 ((q5 : Int))) 92 q5 0 (-1)) 92 q5 1 (-1)) 92 q5 2 (-1)) 92 q5 3 (-1)) 92 q5 4 (-1)) 92 q5 5 (-1)) 92 q5 6 (-1)) X (List.mem_append_right _ List.mem_cons_self) (alM_n _ _ _ _ _ _) (alM_n _ _ _ _ _ _) (by omega) (by omega) (by omega) dX0_init_40 ?_
                  refine sw_iinc (lv' := [(2, .int (J 8)), (0, .ref a), (1, .int (J s0))]) X dX0_init_41 0 rfl (by decide) rfl ?_
                  refine sw_goto (tgt := 28) X dX0_init_44 (by decide) ?_
                  refine sw_iload_n X dX0_init_28 rfl 0 rfl ?_
                  refine sw_bipush X dX0_init_29 (by decide +kernel) ?_
                  refine sw_icmp_ge (tgt := 47) X (by omega) (by omega) dX0_init_31 (by decide) (fun h14 => ?_) (fun h14 => ?_)
                  · exfalso; revert h14; decide
                  · refine sw_aload_n X dX0_init_34 rfl 1 rfl ?_
                    refine px_get (M := upM (upM (upM (upM (upM (upM (upM (upM (upM (alM (upM (upM (upM (upM (upM (upM (alM (alM M q1 4 0) q4 15 60) 40 q1 0 ((q4 : Int))) 41 q1 0 0) 42 q1 0 s0) 43 q1 0 0) 44 q1 0 0) 0 a 0 ((q1 : Int))) q5 10 10) 1 a 0 ((q5 : Int))) 92 q5 0 (-1)) 92 q5 1 (-1)) 92 q5 2 (-1)) 92 q5 3 (-1)) 92 q5 4 (-1)) 92 q5 5 (-1)) 92 q5 6 (-1)) 92 q5 7 (-1)) (v := .ref q5) X iw_X0 (List.mem_append_left _ (List.mem_append_left _ (List.mem_append_left _ hq.1))) (by decide) ((alM_o _ _ _ _ _ (sw_ne (List.mem_append_left _ (List.mem_append_left _ hq.1)) hq5)).trans ((alM_o _ _ _ _ _ (sw_ne (List.mem_append_left _ hq.1) hq4)).trans ((alM_o _ _ _ _ _ (sw_ne hq.1 hq1)).trans hq.2))) rfl 1 (by decide) gw2_115 rfl (congrArg some (rf_of (by simp [upM]))) dX0_init_35 ?_
                    refine sw_iload_n X dX0_init_38 rfl 0 rfl ?_
                    refine sw_iconst X dX0_init_39 ?_
                    refine px_iast (M := upM (upM (upM (upM (upM (upM (upM (upM (upM (alM (upM (upM (upM (upM (upM (upM (alM (alM M q1 4 0) q4 15 60) 40 q1 0 ((q4 : Int))) 41 q1 0 0) 42 q1 0 s0) 43 q1 0 0) 44 q1 0 0) 0 a 0 ((q1 : Int))) q5 10 10) 1 a 0 ((q5 : Int))) 92 q5 0 (-1)) 92 q5 1 (-1)) 92 q5 2 (-1)) 92 q5 3 (-1)) 92 q5 4 (-1)) 92 q5 5 (-1)) 92 q5 6 (-1)) 92 q5 7 (-1)) X (List.mem_append_right _ List.mem_cons_self) (alM_n _ _ _ _ _ _) (alM_n _ _ _ _ _ _) (by omega) (by omega) (by omega) dX0_init_40 ?_
                    refine sw_iinc (lv' := [(2, .int (J 9)), (0, .ref a), (1, .int (J s0))]) X dX0_init_41 0 rfl (by decide) rfl ?_
                    refine sw_goto (tgt := 28) X dX0_init_44 (by decide) ?_
                    refine sw_iload_n X dX0_init_28 rfl 0 rfl ?_
                    refine sw_bipush X dX0_init_29 (by decide +kernel) ?_
                    refine sw_icmp_ge (tgt := 47) X (by omega) (by omega) dX0_init_31 (by decide) (fun h15 => ?_) (fun h15 => ?_)
                    · exfalso; revert h15; decide
                    · refine sw_aload_n X dX0_init_34 rfl 1 rfl ?_
                      refine px_get (M := upM (upM (upM (upM (upM (upM (upM (upM (upM (upM (alM (upM (upM (upM (upM (upM (upM (alM (alM M q1 4 0) q4 15 60) 40 q1 0 ((q4 : Int))) 41 q1 0 0) 42 q1 0 s0) 43 q1 0 0) 44 q1 0 0) 0 a 0 ((q1 : Int))) q5 10 10) 1 a 0 ((q5 : Int))) 92 q5 0 (-1)) 92 q5 1 (-1)) 92 q5 2 (-1)) 92 q5 3 (-1)) 92 q5 4 (-1)) 92 q5 5 (-1)) 92 q5 6 (-1)) 92 q5 7 (-1)) 92 q5 8 (-1)) (v := .ref q5) X iw_X0 (List.mem_append_left _ (List.mem_append_left _ (List.mem_append_left _ hq.1))) (by decide) ((alM_o _ _ _ _ _ (sw_ne (List.mem_append_left _ (List.mem_append_left _ hq.1)) hq5)).trans ((alM_o _ _ _ _ _ (sw_ne (List.mem_append_left _ hq.1) hq4)).trans ((alM_o _ _ _ _ _ (sw_ne hq.1 hq1)).trans hq.2))) rfl 1 (by decide) gw2_115 rfl (congrArg some (rf_of (by simp [upM]))) dX0_init_35 ?_
                      refine sw_iload_n X dX0_init_38 rfl 0 rfl ?_
                      refine sw_iconst X dX0_init_39 ?_
                      refine px_iast (M := upM (upM (upM (upM (upM (upM (upM (upM (upM (upM (alM (upM (upM (upM (upM (upM (upM (alM (alM M q1 4 0) q4 15 60) 40 q1 0 ((q4 : Int))) 41 q1 0 0) 42 q1 0 s0) 43 q1 0 0) 44 q1 0 0) 0 a 0 ((q1 : Int))) q5 10 10) 1 a 0 ((q5 : Int))) 92 q5 0 (-1)) 92 q5 1 (-1)) 92 q5 2 (-1)) 92 q5 3 (-1)) 92 q5 4 (-1)) 92 q5 5 (-1)) 92 q5 6 (-1)) 92 q5 7 (-1)) 92 q5 8 (-1)) X (List.mem_append_right _ List.mem_cons_self) (alM_n _ _ _ _ _ _) (alM_n _ _ _ _ _ _) (by omega) (by omega) (by omega) dX0_init_40 ?_
                      refine sw_iinc (lv' := [(2, .int (J 10)), (0, .ref a), (1, .int (J s0))]) X dX0_init_41 0 rfl (by decide) rfl ?_
                      refine sw_goto (tgt := 28) X dX0_init_44 (by decide) ?_
                      refine sw_iload_n X dX0_init_28 rfl 0 rfl ?_
                      refine sw_bipush X dX0_init_29 (by decide +kernel) ?_
                      refine sw_icmp_ge (tgt := 47) X (by omega) (by omega) dX0_init_31 (by decide) (fun h16 => ?_) (fun h16 => ?_)
                      · refine sw_aload_n X dX0_init_47 rfl 1 rfl ?_
                        refine sw_iconst X dX0_init_48 ?_
                        refine px_put (M := upM (upM (upM (upM (upM (upM (upM (upM (upM (upM (upM (alM (upM (upM (upM (upM (upM (upM (alM (alM M q1 4 0) q4 15 60) 40 q1 0 ((q4 : Int))) 41 q1 0 0) 42 q1 0 s0) 43 q1 0 0) 44 q1 0 0) 0 a 0 ((q1 : Int))) q5 10 10) 1 a 0 ((q5 : Int))) 92 q5 0 (-1)) 92 q5 1 (-1)) 92 q5 2 (-1)) 92 q5 3 (-1)) 92 q5 4 (-1)) 92 q5 5 (-1)) 92 q5 6 (-1)) 92 q5 7 (-1)) 92 q5 8 (-1)) 92 q5 9 (-1)) (f := 2) (z := -1) X iw_X0 tyX0 tyX0_ok nmX0 (List.mem_append_left _ (List.mem_append_left _ (List.mem_append_left _ hq.1))) (by decide) ((alM_o _ _ _ _ _ (sw_ne (List.mem_append_left _ (List.mem_append_left _ hq.1)) hq5)).trans ((alM_o _ _ _ _ _ (sw_ne (List.mem_append_left _ hq.1) hq4)).trans ((alM_o _ _ _ _ _ (sw_ne hq.1 hq1)).trans hq.2))) rfl 2 (by decide) gw2_116 rfl rfl (ty := .int) (by decide +kernel) rfl rfl (Nat.le_of_ble_eq_true rfl) (by decide) (pS2 _ _ _) dX0_init_49 ?_
                        refine sw_aload_n X dX0_init_52 rfl 1 rfl ?_
                        refine sw_iconst X dX0_init_53 ?_
                        refine px_put (M := upM (upM (upM (upM (upM (upM (upM (upM (upM (upM (upM (upM (alM (upM (upM (upM (upM (upM (upM (alM (alM M q1 4 0) q4 15 60) 40 q1 0 ((q4 : Int))) 41 q1 0 0) 42 q1 0 s0) 43 q1 0 0) 44 q1 0 0) 0 a 0 ((q1 : Int))) q5 10 10) 1 a 0 ((q5 : Int))) 92 q5 0 (-1)) 92 q5 1 (-1)) 92 q5 2 (-1)) 92 q5 3 (-1)) 92 q5 4 (-1)) 92 q5 5 (-1)) 92 q5 6 (-1)) 92 q5 7 (-1)) 92 q5 8 (-1)) 92 q5 9 (-1)) 2 a 0 (-1)) (f := 3) (z := 0) X iw_X0 tyX0 tyX0_ok nmX0 (List.mem_append_left _ (List.mem_append_left _ (List.mem_append_left _ hq.1))) (by decide) ((alM_o _ _ _ _ _ (sw_ne (List.mem_append_left _ (List.mem_append_left _ hq.1)) hq5)).trans ((alM_o _ _ _ _ _ (sw_ne (List.mem_append_left _ hq.1) hq4)).trans ((alM_o _ _ _ _ _ (sw_ne hq.1 hq1)).trans hq.2))) rfl 3 (by decide) gw2_118 rfl rfl (ty := .int) (by decide +kernel) rfl rfl (Nat.le_of_ble_eq_true rfl) (by decide) (pS3 _ _ _) dX0_init_54 ?_
                        exact RV _ _ _ _ _ dX0_init_57 (Nat.le_of_ble_eq_true rfl) (Nat.le_of_ble_eq_true rfl) (car_end hq hq1 hq4 hq5)
                      · exfalso; revert h16; decide
