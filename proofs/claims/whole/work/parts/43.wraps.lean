/-! the wrappers -/
abbrev rm_L_cellOf : Room := { frames := 8, cells := 1, slots := 6, locals := 125 }
set_option maxHeartbeats 4000000 in
set_option maxRecDepth 100000 in
theorem c_L_cellOf (l : Launch) (hfl : l.stackTraces = false) (D : va_G) (k : Nat → ClassId) (N : Int) (st : ST) (q : Int → Nat) (L : List Nat) (M : MM) (o : Nat) (f : Nat → Int64) (a : Int) (hI : I6 N st) (hC : CW st q L M) (h_a : (-2147483648 ≤ a ∧ a < 2147483648)) : HI l yL_cellOf cL_cellOf 4 [(0, 9, 12, 24)] rm_L_cellOf D k [.ref (q 0), .int (J a), .ref o] ([(o, oE k f)] ++ pW k L M) (hP k o f L M q (st) (kGate st a) ((J (gC st a)).toInt64)) := by
  refine HI.of (by decide +kernel) (Nat.le_of_ble_eq_true rfl) (fun pᵢ eᵢ sᵢ mᵢ argsᵢ belowᵢ methᵢ cᵢ Aᵢ Qᵢ X htb RI => ?_)
  show SW pᵢ l eᵢ rm_L_cellOf sᵢ mᵢ argsᵢ belowᵢ methᵢ cᵢ 4 D Aᵢ 0 0 Qᵢ ([(o, oE k f)] ++ pW k L M) 0 [(0, .ref (q 0)), (1, .int (J a)), (2, .ref o)] []
  refine sw_aload_n X dL_cellOf_0 rfl 2 rfl ?_
  refine sw_iconst X dL_cellOf_1 ?_
  refine sw_aload_n X dL_cellOf_2 rfl 0 rfl ?_
  refine sw_iload_n X dL_cellOf_3 rfl 1 rfl ?_
  refine px_hVI (wr := [(o, oE k f)]) (C := RX5) (As := [.int (J a)]) (rest := [.int (J 0), .ref o]) X (c_X5_cellOf l hfl D k N st q L M a hI hC h_a) (cwV 1 (sw_ts X) (sw_goodV gw3_68 gw3_69 gw3_70 gw1_1 gw3_71) rfl rfl rfl (by decide +kernel) ⟨Nat.le_of_ble_eq_true rfl, Nat.le_of_ble_eq_true rfl⟩) ⟨hC.1.1.1.1, hC.1.1.1.2.2⟩ (by decide) rfl rfl dL_cellOf_4 rfl rfl (Nat.le_of_ble_eq_true rfl) ⟨Nat.le_of_ble_eq_true rfl, Nat.le_of_ble_eq_true rfl⟩ (fun E w9 hx => ?_) (fun z w9 hp => ?_)
  · obtain ⟨rfl, hx⟩ := hx
    obtain ⟨rfl, hK⟩ := hx
    refine sw_catch X htb (hh := [(0, 9, 12, 24)]) [] ⟨0, 9, 12, 24⟩ [] rfl (List.mem_of_getElem? (i := 0) rfl) (fun z hz => absurd hz List.not_mem_nil) rfl (by decide) gw2_34 (fun q9 => ?_)
    refine sw_astore_n (lv' := [(3, .ref q9), (0, .ref (q 0)), (1, .int (J a)), (2, .ref o)]) X dL_cellOf_12 rfl (by decide) rfl ?_
    refine sw_iconst X dL_cellOf_13 ?_
    exact RI _ _ _ _ _ _ dL_cellOf_14 (Nat.le_of_ble_eq_true rfl) (Nat.le_of_ble_eq_true rfl) (Or.inr ⟨by omega, by omega, rfl⟩)
  · obtain ⟨hK, rfl, q', L', M', rfl, hq0, hC'⟩ := hp
    refine sw_i2l X dL_cellOf_7 ?_
    refine sw_last (q0 := 0) (w' := [(o, oE k (vp_updL f 0 (J (gC st a)).toInt64))] ++ pW k L' M') X rfl rfl dL_cellOf_8 ?_
    refine sw_goto (tgt := 15) X dL_cellOf_9 (by decide) ?_
    refine sw_iconst X dL_cellOf_15 ?_
    exact RI _ _ _ _ _ _ dL_cellOf_16 (Nat.le_of_ble_eq_true rfl) (Nat.le_of_ble_eq_true rfl) (Or.inl ⟨hK, rfl, _, q', L', M', rfl, rfl, hq0, hC'⟩)
abbrev rm_L_due : Room := { frames := 8, cells := 1, slots := 6, locals := 125 }
set_option maxHeartbeats 4000000 in
set_option maxRecDepth 100000 in
theorem c_L_due (l : Launch) (hfl : l.stackTraces = false) (D : va_G) (k : Nat → ClassId) (N : Int) (st : ST) (q : Int → Nat) (L : List Nat) (M : MM) (o : Nat) (f : Nat → Int64) (a : Int) (hI : I6 N st) (hC : CW st q L M) (h_a : (-2147483648 ≤ a ∧ a < 2147483648)) : HI l yL_due cL_due 4 [(0, 9, 12, 24)] rm_L_due D k [.ref (q 0), .int (J a), .ref o] ([(o, oE k f)] ++ pW k L M) (hP k o f L M q (st) (kGate st a) ((J (gD st a)).toInt64)) := by
  refine HI.of (by decide +kernel) (Nat.le_of_ble_eq_true rfl) (fun pᵢ eᵢ sᵢ mᵢ argsᵢ belowᵢ methᵢ cᵢ Aᵢ Qᵢ X htb RI => ?_)
  show SW pᵢ l eᵢ rm_L_due sᵢ mᵢ argsᵢ belowᵢ methᵢ cᵢ 4 D Aᵢ 0 0 Qᵢ ([(o, oE k f)] ++ pW k L M) 0 [(0, .ref (q 0)), (1, .int (J a)), (2, .ref o)] []
  refine sw_aload_n X dL_due_0 rfl 2 rfl ?_
  refine sw_iconst X dL_due_1 ?_
  refine sw_aload_n X dL_due_2 rfl 0 rfl ?_
  refine sw_iload_n X dL_due_3 rfl 1 rfl ?_
  refine px_hVI (wr := [(o, oE k f)]) (C := RX5) (As := [.int (J a)]) (rest := [.int (J 0), .ref o]) X (c_X5_due l hfl D k N st q L M a hI hC h_a) (cwV 1 (sw_ts X) (sw_goodV gw3_75 gw3_76 gw3_77 gw1_1 gw3_78) rfl rfl rfl (by decide +kernel) ⟨Nat.le_of_ble_eq_true rfl, Nat.le_of_ble_eq_true rfl⟩) ⟨hC.1.1.1.1, hC.1.1.1.2.2⟩ (by decide) rfl rfl dL_due_4 rfl rfl (Nat.le_of_ble_eq_true rfl) ⟨Nat.le_of_ble_eq_true rfl, Nat.le_of_ble_eq_true rfl⟩ (fun E w9 hx => ?_) (fun z w9 hp => ?_)
  · obtain ⟨rfl, hx⟩ := hx
    obtain ⟨rfl, hK⟩ := hx
    refine sw_catch X htb (hh := [(0, 9, 12, 24)]) [] ⟨0, 9, 12, 24⟩ [] rfl (List.mem_of_getElem? (i := 0) rfl) (fun z hz => absurd hz List.not_mem_nil) rfl (by decide) gw2_34 (fun q9 => ?_)
    refine sw_astore_n (lv' := [(3, .ref q9), (0, .ref (q 0)), (1, .int (J a)), (2, .ref o)]) X dL_due_12 rfl (by decide) rfl ?_
    refine sw_iconst X dL_due_13 ?_
    exact RI _ _ _ _ _ _ dL_due_14 (Nat.le_of_ble_eq_true rfl) (Nat.le_of_ble_eq_true rfl) (Or.inr ⟨by omega, by omega, rfl⟩)
  · obtain ⟨hK, rfl, q', L', M', rfl, hq0, hC'⟩ := hp
    refine sw_i2l X dL_due_7 ?_
    refine sw_last (q0 := 0) (w' := [(o, oE k (vp_updL f 0 (J (gD st a)).toInt64))] ++ pW k L' M') X rfl rfl dL_due_8 ?_
    refine sw_goto (tgt := 15) X dL_due_9 (by decide) ?_
    refine sw_iconst X dL_due_15 ?_
    exact RI _ _ _ _ _ _ dL_due_16 (Nat.le_of_ble_eq_true rfl) (Nat.le_of_ble_eq_true rfl) (Or.inl ⟨hK, rfl, _, q', L', M', rfl, rfl, hq0, hC'⟩)
abbrev rm_L_clock : Room := { frames := 8, cells := 1, slots := 6, locals := 125 }
set_option maxHeartbeats 4000000 in
set_option maxRecDepth 100000 in
theorem c_L_clock (l : Launch) (hfl : l.stackTraces = false) (D : va_G) (k : Nat → ClassId) (N : Int) (st : ST) (q : Int → Nat) (L : List Nat) (M : MM) (o : Nat) (f : Nat → Int64) (c : Int) (hI : I6 N st) (hC : CW st q L M) (h_c : (-2147483648 ≤ c ∧ c < 2147483648)) : HI l yL_clock cL_clock 4 [(0, 9, 12, 24)] rm_L_clock D k [.ref (q 0), .int (J c), .ref o] ([(o, oE k f)] ++ pW k L M) (hP k o f L M q (st) (kCar st c) ((J (clk st c)).toInt64)) := by
  refine HI.of (by decide +kernel) (Nat.le_of_ble_eq_true rfl) (fun pᵢ eᵢ sᵢ mᵢ argsᵢ belowᵢ methᵢ cᵢ Aᵢ Qᵢ X htb RI => ?_)
  show SW pᵢ l eᵢ rm_L_clock sᵢ mᵢ argsᵢ belowᵢ methᵢ cᵢ 4 D Aᵢ 0 0 Qᵢ ([(o, oE k f)] ++ pW k L M) 0 [(0, .ref (q 0)), (1, .int (J c)), (2, .ref o)] []
  refine sw_aload_n X dL_clock_0 rfl 2 rfl ?_
  refine sw_iconst X dL_clock_1 ?_
  refine sw_aload_n X dL_clock_2 rfl 0 rfl ?_
  refine sw_iload_n X dL_clock_3 rfl 1 rfl ?_
  refine px_hVI (wr := [(o, oE k f)]) (C := RX5) (As := [.int (J c)]) (rest := [.int (J 0), .ref o]) X (c_X5_clock l hfl D k N st q L M c hI hC h_c) (cwV 1 (sw_ts X) (sw_goodV gw3_117 gw3_118 gw3_119 gw1_1 gw3_120) rfl rfl rfl (by decide +kernel) ⟨Nat.le_of_ble_eq_true rfl, Nat.le_of_ble_eq_true rfl⟩) ⟨hC.1.1.1.1, hC.1.1.1.2.2⟩ (by decide) rfl rfl dL_clock_4 rfl rfl (Nat.le_of_ble_eq_true rfl) ⟨Nat.le_of_ble_eq_true rfl, Nat.le_of_ble_eq_true rfl⟩ (fun E w9 hx => ?_) (fun z w9 hp => ?_)
  · obtain ⟨rfl, hx⟩ := hx
    obtain ⟨rfl, hK⟩ := hx
    refine sw_catch X htb (hh := [(0, 9, 12, 24)]) [] ⟨0, 9, 12, 24⟩ [] rfl (List.mem_of_getElem? (i := 0) rfl) (fun z hz => absurd hz List.not_mem_nil) rfl (by decide) gw2_34 (fun q9 => ?_)
    refine sw_astore_n (lv' := [(3, .ref q9), (0, .ref (q 0)), (1, .int (J c)), (2, .ref o)]) X dL_clock_12 rfl (by decide) rfl ?_
    refine sw_iconst X dL_clock_13 ?_
    exact RI _ _ _ _ _ _ dL_clock_14 (Nat.le_of_ble_eq_true rfl) (Nat.le_of_ble_eq_true rfl) (Or.inr ⟨by omega, by omega, rfl⟩)
  · obtain ⟨hK, rfl, q', L', M', rfl, hq0, hC'⟩ := hp
    refine sw_i2l X dL_clock_7 ?_
    refine sw_last (q0 := 0) (w' := [(o, oE k (vp_updL f 0 (J (clk st c)).toInt64))] ++ pW k L' M') X rfl rfl dL_clock_8 ?_
    refine sw_goto (tgt := 15) X dL_clock_9 (by decide) ?_
    refine sw_iconst X dL_clock_15 ?_
    exact RI _ _ _ _ _ _ dL_clock_16 (Nat.le_of_ble_eq_true rfl) (Nat.le_of_ble_eq_true rfl) (Or.inl ⟨hK, rfl, _, q', L', M', rfl, rfl, hq0, hC'⟩)
abbrev rm_L_where : Room := { frames := 8, cells := 1, slots := 6, locals := 125 }
set_option maxHeartbeats 4000000 in
set_option maxRecDepth 100000 in
theorem c_L_where (l : Launch) (hfl : l.stackTraces = false) (D : va_G) (k : Nat → ClassId) (N : Int) (st : ST) (q : Int → Nat) (L : List Nat) (M : MM) (o : Nat) (f : Nat → Int64) (a : Int) (hI : I6 N st) (hC : CW st q L M) (h_a : (-2147483648 ≤ a ∧ a < 2147483648)) : HI l yL_where cL_where 4 [(0, 9, 12, 24)] rm_L_where D k [.ref (q 0), .int (J a), .ref o] ([(o, oE k f)] ++ pW k L M) (hP k o f L M q (st) (kPart st a) ((J (st 20 a)).toInt64)) := by
  refine HI.of (by decide +kernel) (Nat.le_of_ble_eq_true rfl) (fun pᵢ eᵢ sᵢ mᵢ argsᵢ belowᵢ methᵢ cᵢ Aᵢ Qᵢ X htb RI => ?_)
  show SW pᵢ l eᵢ rm_L_where sᵢ mᵢ argsᵢ belowᵢ methᵢ cᵢ 4 D Aᵢ 0 0 Qᵢ ([(o, oE k f)] ++ pW k L M) 0 [(0, .ref (q 0)), (1, .int (J a)), (2, .ref o)] []
  refine sw_aload_n X dL_where_0 rfl 2 rfl ?_
  refine sw_iconst X dL_where_1 ?_
  refine sw_aload_n X dL_where_2 rfl 0 rfl ?_
  refine sw_iload_n X dL_where_3 rfl 1 rfl ?_
  refine px_hVI (wr := [(o, oE k f)]) (C := RX5) (As := [.int (J a)]) (rest := [.int (J 0), .ref o]) X (c_X5_where l hfl D k N st q L M a hI hC h_a) (cwV 1 (sw_ts X) (sw_goodV gw3_180 gw3_181 gw3_182 gw1_1 gw3_183) rfl rfl rfl (by decide +kernel) ⟨Nat.le_of_ble_eq_true rfl, Nat.le_of_ble_eq_true rfl⟩) ⟨hC.1.1.1.1, hC.1.1.1.2.2⟩ (by decide) rfl rfl dL_where_4 rfl rfl (Nat.le_of_ble_eq_true rfl) ⟨Nat.le_of_ble_eq_true rfl, Nat.le_of_ble_eq_true rfl⟩ (fun E w9 hx => ?_) (fun z w9 hp => ?_)
  · obtain ⟨rfl, hx⟩ := hx
    obtain ⟨rfl, hK⟩ := hx
    refine sw_catch X htb (hh := [(0, 9, 12, 24)]) [] ⟨0, 9, 12, 24⟩ [] rfl (List.mem_of_getElem? (i := 0) rfl) (fun z hz => absurd hz List.not_mem_nil) rfl (by decide) gw2_34 (fun q9 => ?_)
    refine sw_astore_n (lv' := [(3, .ref q9), (0, .ref (q 0)), (1, .int (J a)), (2, .ref o)]) X dL_where_12 rfl (by decide) rfl ?_
    refine sw_iconst X dL_where_13 ?_
    exact RI _ _ _ _ _ _ dL_where_14 (Nat.le_of_ble_eq_true rfl) (Nat.le_of_ble_eq_true rfl) (Or.inr ⟨by omega, by omega, rfl⟩)
  · obtain ⟨hK, rfl, q', L', M', rfl, hq0, hC'⟩ := hp
    refine sw_i2l X dL_where_7 ?_
    refine sw_last (q0 := 0) (w' := [(o, oE k (vp_updL f 0 (J (st 20 a)).toInt64))] ++ pW k L' M') X rfl rfl dL_where_8 ?_
    refine sw_goto (tgt := 15) X dL_where_9 (by decide) ?_
    refine sw_iconst X dL_where_15 ?_
    exact RI _ _ _ _ _ _ dL_where_16 (Nat.le_of_ble_eq_true rfl) (Nat.le_of_ble_eq_true rfl) (Or.inl ⟨hK, rfl, _, q', L', M', rfl, rfl, hq0, hC'⟩)
abbrev rm_L_isBroken : Room := { frames := 8, cells := 1, slots := 6, locals := 125 }
set_option maxHeartbeats 4000000 in
set_option maxRecDepth 100000 in
theorem c_L_isBroken (l : Launch) (hfl : l.stackTraces = false) (D : va_G) (k : Nat → ClassId) (N : Int) (st : ST) (q : Int → Nat) (L : List Nat) (M : MM) (o : Nat) (f : Nat → Int64) (c : Int) (hI : I6 N st) (hC : CW st q L M) (h_c : (-2147483648 ≤ c ∧ c < 2147483648)) : HI l yL_isBroken cL_isBroken 4 [(0, 16, 19, 24)] rm_L_isBroken D k [.ref (q 0), .int (J c), .ref o] ([(o, oE k f)] ++ pW k L M) (hP k o f L M q (st) (kCar st c) (if vBroken st c = 0 then 0 else 1)) := by
  refine HI.of (by decide +kernel) (Nat.le_of_ble_eq_true rfl) (fun pᵢ eᵢ sᵢ mᵢ argsᵢ belowᵢ methᵢ cᵢ Aᵢ Qᵢ X htb RI => ?_)
  show SW pᵢ l eᵢ rm_L_isBroken sᵢ mᵢ argsᵢ belowᵢ methᵢ cᵢ 4 D Aᵢ 0 0 Qᵢ ([(o, oE k f)] ++ pW k L M) 0 [(0, .ref (q 0)), (1, .int (J c)), (2, .ref o)] []
  refine sw_aload_n X dL_isBroken_0 rfl 2 rfl ?_
  refine sw_iconst X dL_isBroken_1 ?_
  refine sw_aload_n X dL_isBroken_2 rfl 0 rfl ?_
  refine sw_iload_n X dL_isBroken_3 rfl 1 rfl ?_
  refine px_hVI (wr := [(o, oE k f)]) (C := RX5) (As := [.int (J c)]) (rest := [.int (J 0), .ref o]) X (c_X5_isBroken l hfl D k N st q L M c hI hC h_c) (cwV 1 (sw_ts X) (sw_goodV gw3_198 gw3_199 gw3_200 gw1_1 gw3_201) rfl rfl rfl (by decide +kernel) ⟨Nat.le_of_ble_eq_true rfl, Nat.le_of_ble_eq_true rfl⟩) ⟨hC.1.1.1.1, hC.1.1.1.2.2⟩ (by decide) rfl rfl dL_isBroken_4 rfl rfl (Nat.le_of_ble_eq_true rfl) ⟨Nat.le_of_ble_eq_true rfl, Nat.le_of_ble_eq_true rfl⟩ (fun E w9 hx => ?_) (fun z w9 hp => ?_)
  · obtain ⟨rfl, hx⟩ := hx
    obtain ⟨rfl, hK⟩ := hx
    refine sw_catch X htb (hh := [(0, 16, 19, 24)]) [] ⟨0, 16, 19, 24⟩ [] rfl (List.mem_of_getElem? (i := 0) rfl) (fun z hz => absurd hz List.not_mem_nil) rfl (by decide) gw2_34 (fun q9 => ?_)
    refine sw_astore_n (lv' := [(3, .ref q9), (0, .ref (q 0)), (1, .int (J c)), (2, .ref o)]) X dL_isBroken_19 rfl (by decide) rfl ?_
    refine sw_iconst X dL_isBroken_20 ?_
    exact RI _ _ _ _ _ _ dL_isBroken_21 (Nat.le_of_ble_eq_true rfl) (Nat.le_of_ble_eq_true rfl) (Or.inr ⟨by omega, by omega, rfl⟩)
  · obtain ⟨hK, rfl, q', L', M', rfl, hq0, hC'⟩ := hp
    refine sw_if_eq (tgt := 14) X (by unfold vBroken; split <;> omega) dL_isBroken_7 (by decide) (fun h1 => ?_) (fun h1 => ?_)
    · refine sw_lconst (v := 0) X dL_isBroken_14 rfl ?_
      refine sw_last (q0 := 0) (w' := [(o, oE k (vp_updL f 0 0))] ++ pW k L' M') X rfl rfl dL_isBroken_15 ?_
      refine sw_goto (tgt := 22) X dL_isBroken_16 (by decide) ?_
      refine sw_iconst X dL_isBroken_22 ?_
      exact RI _ _ _ _ _ _ dL_isBroken_23 (Nat.le_of_ble_eq_true rfl) (Nat.le_of_ble_eq_true rfl) (Or.inl ⟨hK, rfl, _, q', L', M', rfl, (show (0 : Int64) = _ by rw [if_pos h1]), hq0, hC'⟩)
    · refine sw_lconst (v := 1) X dL_isBroken_10 rfl ?_
      refine sw_goto (tgt := 15) X dL_isBroken_11 (by decide) ?_
      refine sw_last (q0 := 0) (w' := [(o, oE k (vp_updL f 0 1))] ++ pW k L' M') X rfl rfl dL_isBroken_15 ?_
      refine sw_goto (tgt := 22) X dL_isBroken_16 (by decide) ?_
      refine sw_iconst X dL_isBroken_22 ?_
      exact RI _ _ _ _ _ _ dL_isBroken_23 (Nat.le_of_ble_eq_true rfl) (Nat.le_of_ble_eq_true rfl) (Or.inl ⟨hK, rfl, _, q', L', M', rfl, (show (1 : Int64) = _ by rw [if_neg h1]), hq0, hC'⟩)
abbrev rm_L_followed : Room := { frames := 8, cells := 1, slots := 6, locals := 125 }
set_option maxHeartbeats 4000000 in
set_option maxRecDepth 100000 in
theorem c_L_followed (l : Launch) (hfl : l.stackTraces = false) (D : va_G) (k : Nat → ClassId) (N : Int) (st : ST) (q : Int → Nat) (L : List Nat) (M : MM) (o : Nat) (f : Nat → Int64) (c : Int) (hI : I6 N st) (hC : CW st q L M) (h_c : (-2147483648 ≤ c ∧ c < 2147483648)) : HI l yL_followed cL_followed 4 [(0, 9, 12, 24)] rm_L_followed D k [.ref (q 0), .int (J c), .ref o] ([(o, oE k f)] ++ pW k L M) (hP k o f L M q (st) (kCar st c) ((J ((folS st c (nP st c)).1)).toInt64)) := by
  refine HI.of (by decide +kernel) (Nat.le_of_ble_eq_true rfl) (fun pᵢ eᵢ sᵢ mᵢ argsᵢ belowᵢ methᵢ cᵢ Aᵢ Qᵢ X htb RI => ?_)
  show SW pᵢ l eᵢ rm_L_followed sᵢ mᵢ argsᵢ belowᵢ methᵢ cᵢ 4 D Aᵢ 0 0 Qᵢ ([(o, oE k f)] ++ pW k L M) 0 [(0, .ref (q 0)), (1, .int (J c)), (2, .ref o)] []
  refine sw_aload_n X dL_followed_0 rfl 2 rfl ?_
  refine sw_iconst X dL_followed_1 ?_
  refine sw_aload_n X dL_followed_2 rfl 0 rfl ?_
  refine sw_iload_n X dL_followed_3 rfl 1 rfl ?_
  refine px_hVI (wr := [(o, oE k f)]) (C := RX5) (As := [.int (J c)]) (rest := [.int (J 0), .ref o]) X (c_X5_followed l hfl D k N st q L M c hI hC h_c) (cwV 1 (sw_ts X) (sw_goodV gw3_82 gw3_83 gw3_84 gw1_1 gw3_85) rfl rfl rfl (by decide +kernel) ⟨Nat.le_of_ble_eq_true rfl, Nat.le_of_ble_eq_true rfl⟩) ⟨hC.1.1.1.1, hC.1.1.1.2.2⟩ (by decide) rfl rfl dL_followed_4 rfl rfl (Nat.le_of_ble_eq_true rfl) ⟨Nat.le_of_ble_eq_true rfl, Nat.le_of_ble_eq_true rfl⟩ (fun E w9 hx => ?_) (fun z w9 hp => ?_)
  · obtain ⟨rfl, hx⟩ := hx
    obtain ⟨rfl, hK⟩ := hx
    refine sw_catch X htb (hh := [(0, 9, 12, 24)]) [] ⟨0, 9, 12, 24⟩ [] rfl (List.mem_of_getElem? (i := 0) rfl) (fun z hz => absurd hz List.not_mem_nil) rfl (by decide) gw2_34 (fun q9 => ?_)
    refine sw_astore_n (lv' := [(3, .ref q9), (0, .ref (q 0)), (1, .int (J c)), (2, .ref o)]) X dL_followed_12 rfl (by decide) rfl ?_
    refine sw_iconst X dL_followed_13 ?_
    exact RI _ _ _ _ _ _ dL_followed_14 (Nat.le_of_ble_eq_true rfl) (Nat.le_of_ble_eq_true rfl) (Or.inr ⟨by omega, by omega, rfl⟩)
  · obtain ⟨hK, rfl, q', L', M', rfl, hq0, hC'⟩ := hp
    refine sw_i2l X dL_followed_7 ?_
    refine sw_last (q0 := 0) (w' := [(o, oE k (vp_updL f 0 (J ((folS st c (nP st c)).1)).toInt64))] ++ pW k L' M') X rfl rfl dL_followed_8 ?_
    refine sw_goto (tgt := 15) X dL_followed_9 (by decide) ?_
    refine sw_iconst X dL_followed_15 ?_
    exact RI _ _ _ _ _ _ dL_followed_16 (Nat.le_of_ble_eq_true rfl) (Nat.le_of_ble_eq_true rfl) (Or.inl ⟨hK, rfl, _, q', L', M', rfl, rfl, hq0, hC'⟩)
abbrev rm_L_cellAt : Room := { frames := 8, cells := 2, slots := 12, locals := 127 }
set_option maxHeartbeats 4000000 in
set_option maxRecDepth 100000 in
theorem c_L_cellAt (l : Launch) (hfl : l.stackTraces = false) (D : va_G) (k : Nat → ClassId) (N : Int) (st : ST) (q : Int → Nat) (L : List Nat) (M : MM) (o : Nat) (f : Nat → Int64) (c a : Int) (hI : I6 N st) (hC : CW st q L M) (h_c : (-2147483648 ≤ c ∧ c < 2147483648)) (h_a : (-2147483648 ≤ a ∧ a < 2147483648)) : HI l yL_cellAt cL_cellAt 5 [(0, 10, 13, 24), (0, 10, 17, 13)] rm_L_cellAt D k [.ref (q 0), .int (J c), .int (J a), .ref o] ([(o, oE k f)] ++ pW k L M) (hP k o f L M q (st) (kCellAt st c a) ((J (aC st c a)).toInt64)) := by
  refine HI.of (by decide +kernel) (Nat.le_of_ble_eq_true rfl) (fun pᵢ eᵢ sᵢ mᵢ argsᵢ belowᵢ methᵢ cᵢ Aᵢ Qᵢ X htb RI => ?_)
  show SW pᵢ l eᵢ rm_L_cellAt sᵢ mᵢ argsᵢ belowᵢ methᵢ cᵢ 5 D Aᵢ 0 0 Qᵢ ([(o, oE k f)] ++ pW k L M) 0 [(0, .ref (q 0)), (1, .int (J c)), (2, .int (J a)), (3, .ref o)] []
  refine sw_aload_n X dL_cellAt_0 rfl 3 rfl ?_
  refine sw_iconst X dL_cellAt_1 ?_
  refine sw_aload_n X dL_cellAt_2 rfl 0 rfl ?_
  refine sw_iload_n X dL_cellAt_3 rfl 1 rfl ?_
  refine sw_iload_n X dL_cellAt_4 rfl 2 rfl ?_
  refine px_hVI (wr := [(o, oE k f)]) (C := RX5) (As := [.int (J c), .int (J a)]) (rest := [.int (J 0), .ref o]) X (c_X5_cellAt l hfl D k N st q L M c a hI hC h_c h_a) (cwV 2 (sw_ts X) (sw_goodV gw3_97 gw3_98 gw3_99 gw1_1 gw3_100) rfl rfl rfl (by decide +kernel) ⟨Nat.le_of_ble_eq_true rfl, Nat.le_of_ble_eq_true rfl⟩) ⟨hC.1.1.1.1, hC.1.1.1.2.2⟩ (by decide) rfl rfl dL_cellAt_5 rfl rfl (Nat.le_of_ble_eq_true rfl) ⟨Nat.le_of_ble_eq_true rfl, Nat.le_of_ble_eq_true rfl⟩ (fun E w9 hx => ?_) (fun z w9 hp => ?_)
  · obtain ⟨rfl, hx⟩ := hx
    rcases hx with ⟨rfl, hK⟩ | ⟨rfl, hK⟩
    · refine sw_catch X htb (hh := [(0, 10, 13, 24), (0, 10, 17, 13)]) [] ⟨0, 10, 13, 24⟩ [⟨0, 10, 17, 13⟩] rfl (List.mem_of_getElem? (i := 0) rfl) (fun z hz => absurd hz List.not_mem_nil) rfl (by decide) gw2_34 (fun q9 => ?_)
      refine sw_astore (lv' := [(4, .ref q9), (0, .ref (q 0)), (1, .int (J c)), (2, .int (J a)), (3, .ref o)]) X dL_cellAt_13 (by decide) rfl ?_
      refine sw_iconst X dL_cellAt_15 ?_
      exact RI _ _ _ _ _ _ dL_cellAt_16 (Nat.le_of_ble_eq_true rfl) (Nat.le_of_ble_eq_true rfl) (Or.inr ⟨by omega, by omega, rfl⟩)
    · refine sw_catch X htb (hh := [(0, 10, 13, 24), (0, 10, 17, 13)]) [⟨0, 10, 13, 24⟩] ⟨0, 10, 17, 13⟩ [] rfl (List.mem_of_getElem? (i := 1) rfl) (fun z hz => by simp only [List.mem_cons, List.not_mem_nil, or_false] at hz; rcases hz with rfl <;> exact ⟨by decide, "java/lang/IndexOutOfBoundsException", gw2_34, (List.mem_of_getElem? (i := 0) rfl), by decide⟩) rfl (by decide) gw1_96 (fun q9 => ?_)
      refine sw_astore (lv' := [(4, .ref q9), (0, .ref (q 0)), (1, .int (J c)), (2, .int (J a)), (3, .ref o)]) X dL_cellAt_17 (by decide) rfl ?_
      refine sw_iconst X dL_cellAt_19 ?_
      exact RI _ _ _ _ _ _ dL_cellAt_20 (Nat.le_of_ble_eq_true rfl) (Nat.le_of_ble_eq_true rfl) (Or.inr ⟨by omega, by omega, rfl⟩)
  · obtain ⟨hK, rfl, q', L', M', rfl, hq0, hC'⟩ := hp
    refine sw_i2l X dL_cellAt_8 ?_
    refine sw_last (q0 := 0) (w' := [(o, oE k (vp_updL f 0 (J (aC st c a)).toInt64))] ++ pW k L' M') X rfl rfl dL_cellAt_9 ?_
    refine sw_goto (tgt := 21) X dL_cellAt_10 (by decide) ?_
    refine sw_iconst X dL_cellAt_21 ?_
    exact RI _ _ _ _ _ _ dL_cellAt_22 (Nat.le_of_ble_eq_true rfl) (Nat.le_of_ble_eq_true rfl) (Or.inl ⟨hK, rfl, _, q', L', M', rfl, rfl, hq0, hC'⟩)
abbrev rm_L_byTrack : Room := { frames := 9, cells := 2, slots := 12, locals := 146 }
set_option maxHeartbeats 4000000 in
set_option maxRecDepth 100000 in
theorem c_L_byTrack (l : Launch) (hfl : l.stackTraces = false) (D : va_G) (k : Nat → ClassId) (N : Int) (st : ST) (q : Int → Nat) (L : List Nat) (M : MM) (o : Nat) (f : Nat → Int64) (c b : Int) (hI : I6 N st) (hC : CW st q L M) (h_c : (-2147483648 ≤ c ∧ c < 2147483648)) (h_b : (-2147483648 ≤ b ∧ b < 2147483648)) : HI l yL_byTrack cL_byTrack 5 [(0, 10, 13, 24)] rm_L_byTrack D k [.ref (q 0), .int (J c), .int (J b), .ref o] ([(o, oE k f)] ++ pW k L M) (hP k o f L M q (st) (kCG st c b) ((J (pas st c b)).toInt64)) := by
  refine HI.of (by decide +kernel) (Nat.le_of_ble_eq_true rfl) (fun pᵢ eᵢ sᵢ mᵢ argsᵢ belowᵢ methᵢ cᵢ Aᵢ Qᵢ X htb RI => ?_)
  show SW pᵢ l eᵢ rm_L_byTrack sᵢ mᵢ argsᵢ belowᵢ methᵢ cᵢ 5 D Aᵢ 0 0 Qᵢ ([(o, oE k f)] ++ pW k L M) 0 [(0, .ref (q 0)), (1, .int (J c)), (2, .int (J b)), (3, .ref o)] []
  refine sw_aload_n X dL_byTrack_0 rfl 3 rfl ?_
  refine sw_iconst X dL_byTrack_1 ?_
  refine sw_aload_n X dL_byTrack_2 rfl 0 rfl ?_
  refine sw_iload_n X dL_byTrack_3 rfl 1 rfl ?_
  refine sw_iload_n X dL_byTrack_4 rfl 2 rfl ?_
  refine px_hVI (wr := [(o, oE k f)]) (C := RX5) (As := [.int (J c), .int (J b)]) (rest := [.int (J 0), .ref o]) X (c_X5_byTrack l hfl D k N st q L M c b hI hC h_c h_b) (cwV 2 (sw_ts X) (sw_goodV gw3_124 gw3_125 gw3_126 gw1_1 gw3_127) rfl rfl rfl (by decide +kernel) ⟨Nat.le_of_ble_eq_true rfl, Nat.le_of_ble_eq_true rfl⟩) ⟨hC.1.1.1.1, hC.1.1.1.2.2⟩ (by decide) rfl rfl dL_byTrack_5 rfl rfl (Nat.le_of_ble_eq_true rfl) ⟨Nat.le_of_ble_eq_true rfl, Nat.le_of_ble_eq_true rfl⟩ (fun E w9 hx => ?_) (fun z w9 hp => ?_)
  · obtain ⟨rfl, hx⟩ := hx
    obtain ⟨rfl, hK⟩ := hx
    refine sw_catch X htb (hh := [(0, 10, 13, 24)]) [] ⟨0, 10, 13, 24⟩ [] rfl (List.mem_of_getElem? (i := 0) rfl) (fun z hz => absurd hz List.not_mem_nil) rfl (by decide) gw2_34 (fun q9 => ?_)
    refine sw_astore (lv' := [(4, .ref q9), (0, .ref (q 0)), (1, .int (J c)), (2, .int (J b)), (3, .ref o)]) X dL_byTrack_13 (by decide) rfl ?_
    refine sw_iconst X dL_byTrack_15 ?_
    exact RI _ _ _ _ _ _ dL_byTrack_16 (Nat.le_of_ble_eq_true rfl) (Nat.le_of_ble_eq_true rfl) (Or.inr ⟨by omega, by omega, rfl⟩)
  · obtain ⟨hK, rfl, q', L', M', rfl, hq0, hC'⟩ := hp
    refine sw_i2l X dL_byTrack_8 ?_
    refine sw_last (q0 := 0) (w' := [(o, oE k (vp_updL f 0 (J (pas st c b)).toInt64))] ++ pW k L' M') X rfl rfl dL_byTrack_9 ?_
    refine sw_goto (tgt := 17) X dL_byTrack_10 (by decide) ?_
    refine sw_iconst X dL_byTrack_17 ?_
    exact RI _ _ _ _ _ _ dL_byTrack_18 (Nat.le_of_ble_eq_true rfl) (Nat.le_of_ble_eq_true rfl) (Or.inl ⟨hK, rfl, _, q', L', M', rfl, rfl, hq0, hC'⟩)
abbrev rm_L_time : Room := { frames := 9, cells := 2, slots := 12, locals := 146 }
set_option maxHeartbeats 4000000 in
set_option maxRecDepth 100000 in
theorem c_L_time (l : Launch) (hfl : l.stackTraces = false) (D : va_G) (k : Nat → ClassId) (N : Int) (st : ST) (q : Int → Nat) (L : List Nat) (M : MM) (o : Nat) (f : Nat → Int64) (c b : Int) (hI : I6 N st) (hC : CW st q L M) (h_c : (-2147483648 ≤ c ∧ c < 2147483648)) (h_b : (-2147483648 ≤ b ∧ b < 2147483648)) : HI l yL_time cL_time 5 [(0, 10, 13, 24)] rm_L_time D k [.ref (q 0), .int (J c), .int (J b), .ref o] ([(o, oE k f)] ++ pW k L M) (hP k o f L M q (st) (kCG st c b) ((J (tim st c b)).toInt64)) := by
  refine HI.of (by decide +kernel) (Nat.le_of_ble_eq_true rfl) (fun pᵢ eᵢ sᵢ mᵢ argsᵢ belowᵢ methᵢ cᵢ Aᵢ Qᵢ X htb RI => ?_)
  show SW pᵢ l eᵢ rm_L_time sᵢ mᵢ argsᵢ belowᵢ methᵢ cᵢ 5 D Aᵢ 0 0 Qᵢ ([(o, oE k f)] ++ pW k L M) 0 [(0, .ref (q 0)), (1, .int (J c)), (2, .int (J b)), (3, .ref o)] []
  refine sw_aload_n X dL_time_0 rfl 3 rfl ?_
  refine sw_iconst X dL_time_1 ?_
  refine sw_aload_n X dL_time_2 rfl 0 rfl ?_
  refine sw_iload_n X dL_time_3 rfl 1 rfl ?_
  refine sw_iload_n X dL_time_4 rfl 2 rfl ?_
  refine px_hVI (wr := [(o, oE k f)]) (C := RX5) (As := [.int (J c), .int (J b)]) (rest := [.int (J 0), .ref o]) X (c_X5_time l hfl D k N st q L M c b hI hC h_c h_b) (cwV 2 (sw_ts X) (sw_goodV gw3_144 gw3_145 gw3_146 gw1_1 gw3_147) rfl rfl rfl (by decide +kernel) ⟨Nat.le_of_ble_eq_true rfl, Nat.le_of_ble_eq_true rfl⟩) ⟨hC.1.1.1.1, hC.1.1.1.2.2⟩ (by decide) rfl rfl dL_time_5 rfl rfl (Nat.le_of_ble_eq_true rfl) ⟨Nat.le_of_ble_eq_true rfl, Nat.le_of_ble_eq_true rfl⟩ (fun E w9 hx => ?_) (fun z w9 hp => ?_)
  · obtain ⟨rfl, hx⟩ := hx
    obtain ⟨rfl, hK⟩ := hx
    refine sw_catch X htb (hh := [(0, 10, 13, 24)]) [] ⟨0, 10, 13, 24⟩ [] rfl (List.mem_of_getElem? (i := 0) rfl) (fun z hz => absurd hz List.not_mem_nil) rfl (by decide) gw2_34 (fun q9 => ?_)
    refine sw_astore (lv' := [(4, .ref q9), (0, .ref (q 0)), (1, .int (J c)), (2, .int (J b)), (3, .ref o)]) X dL_time_13 (by decide) rfl ?_
    refine sw_iconst X dL_time_15 ?_
    exact RI _ _ _ _ _ _ dL_time_16 (Nat.le_of_ble_eq_true rfl) (Nat.le_of_ble_eq_true rfl) (Or.inr ⟨by omega, by omega, rfl⟩)
  · obtain ⟨hK, rfl, q', L', M', rfl, hq0, hC'⟩ := hp
    refine sw_i2l X dL_time_8 ?_
    refine sw_last (q0 := 0) (w' := [(o, oE k (vp_updL f 0 (J (tim st c b)).toInt64))] ++ pW k L' M') X rfl rfl dL_time_9 ?_
    refine sw_goto (tgt := 17) X dL_time_10 (by decide) ?_
    refine sw_iconst X dL_time_17 ?_
    exact RI _ _ _ _ _ _ dL_time_18 (Nat.le_of_ble_eq_true rfl) (Nat.le_of_ble_eq_true rfl) (Or.inl ⟨hK, rfl, _, q', L', M', rfl, rfl, hq0, hC'⟩)
abbrev rm_L_points : Room := { frames := 8, cells := 1, slots := 6, locals := 125 }
set_option maxHeartbeats 4000000 in
set_option maxRecDepth 100000 in
theorem c_L_points (l : Launch) (hfl : l.stackTraces = false) (D : va_G) (k : Nat → ClassId) (N : Int) (st : ST) (q : Int → Nat) (L : List Nat) (M : MM) (o : Nat) (f : Nat → Int64) (c : Int) (hI : I6 N st) (hC : CW st q L M) (h_c : (-2147483648 ≤ c ∧ c < 2147483648)) (hN : N ≤ 100000) : HI l yL_points cL_points 4 [(0, 9, 12, 24)] rm_L_points D k [.ref (q 0), .int (J c), .ref o] ([(o, oE k f)] ++ pW k L M) (hP k o f L M q (st) (kCar st c) ((J (pts st c)).toInt64)) := by
  refine HI.of (by decide +kernel) (Nat.le_of_ble_eq_true rfl) (fun pᵢ eᵢ sᵢ mᵢ argsᵢ belowᵢ methᵢ cᵢ Aᵢ Qᵢ X htb RI => ?_)
  show SW pᵢ l eᵢ rm_L_points sᵢ mᵢ argsᵢ belowᵢ methᵢ cᵢ 4 D Aᵢ 0 0 Qᵢ ([(o, oE k f)] ++ pW k L M) 0 [(0, .ref (q 0)), (1, .int (J c)), (2, .ref o)] []
  refine sw_aload_n X dL_points_0 rfl 2 rfl ?_
  refine sw_iconst X dL_points_1 ?_
  refine sw_aload_n X dL_points_2 rfl 0 rfl ?_
  refine sw_iload_n X dL_points_3 rfl 1 rfl ?_
  refine px_hVI (wr := [(o, oE k f)]) (C := RX5) (As := [.int (J c)]) (rest := [.int (J 0), .ref o]) X (c_X5_points l hfl D k N st q L M c hI hC h_c hN) (cwV 1 (sw_ts X) (sw_goodV gw3_151 gw3_152 gw3_153 gw1_1 gw3_154) rfl rfl rfl (by decide +kernel) ⟨Nat.le_of_ble_eq_true rfl, Nat.le_of_ble_eq_true rfl⟩) ⟨hC.1.1.1.1, hC.1.1.1.2.2⟩ (by decide) rfl rfl dL_points_4 rfl rfl (Nat.le_of_ble_eq_true rfl) ⟨Nat.le_of_ble_eq_true rfl, Nat.le_of_ble_eq_true rfl⟩ (fun E w9 hx => ?_) (fun z w9 hp => ?_)
  · obtain ⟨rfl, hx⟩ := hx
    obtain ⟨rfl, hK⟩ := hx
    refine sw_catch X htb (hh := [(0, 9, 12, 24)]) [] ⟨0, 9, 12, 24⟩ [] rfl (List.mem_of_getElem? (i := 0) rfl) (fun z hz => absurd hz List.not_mem_nil) rfl (by decide) gw2_34 (fun q9 => ?_)
    refine sw_astore_n (lv' := [(3, .ref q9), (0, .ref (q 0)), (1, .int (J c)), (2, .ref o)]) X dL_points_12 rfl (by decide) rfl ?_
    refine sw_iconst X dL_points_13 ?_
    exact RI _ _ _ _ _ _ dL_points_14 (Nat.le_of_ble_eq_true rfl) (Nat.le_of_ble_eq_true rfl) (Or.inr ⟨by omega, by omega, rfl⟩)
  · obtain ⟨hK, rfl, q', L', M', rfl, hq0, hC'⟩ := hp
    refine sw_i2l X dL_points_7 ?_
    refine sw_last (q0 := 0) (w' := [(o, oE k (vp_updL f 0 (J (pts st c)).toInt64))] ++ pW k L' M') X rfl rfl dL_points_8 ?_
    refine sw_goto (tgt := 15) X dL_points_9 (by decide) ?_
    refine sw_iconst X dL_points_15 ?_
    exact RI _ _ _ _ _ _ dL_points_16 (Nat.le_of_ble_eq_true rfl) (Nat.le_of_ble_eq_true rfl) (Or.inl ⟨hK, rfl, _, q', L', M', rfl, rfl, hq0, hC'⟩)
abbrev rm_L_byMinutes : Room := { frames := 9, cells := 2, slots := 12, locals := 149 }
set_option maxHeartbeats 4000000 in
set_option maxRecDepth 100000 in
theorem c_L_byMinutes (l : Launch) (hfl : l.stackTraces = false) (D : va_G) (k : Nat → ClassId) (N : Int) (st : ST) (q : Int → Nat) (L : List Nat) (M : MM) (o : Nat) (f : Nat → Int64) (c b : Int) (hI : I6 N st) (hC : CW st q L M) (h_c : (-2147483648 ≤ c ∧ c < 2147483648)) (h_b : (-2147483648 ≤ b ∧ b < 2147483648)) : HI l yL_byMinutes cL_byMinutes 5 [(0, 10, 13, 24)] rm_L_byMinutes D k [.ref (q 0), .int (J c), .int (J b), .ref o] ([(o, oE k f)] ++ pW k L M) (hP k o f L M q (st) (kCG st c b) ((J (pas st c b)).toInt64)) := by
  refine HI.of (by decide +kernel) (Nat.le_of_ble_eq_true rfl) (fun pᵢ eᵢ sᵢ mᵢ argsᵢ belowᵢ methᵢ cᵢ Aᵢ Qᵢ X htb RI => ?_)
  show SW pᵢ l eᵢ rm_L_byMinutes sᵢ mᵢ argsᵢ belowᵢ methᵢ cᵢ 5 D Aᵢ 0 0 Qᵢ ([(o, oE k f)] ++ pW k L M) 0 [(0, .ref (q 0)), (1, .int (J c)), (2, .int (J b)), (3, .ref o)] []
  refine sw_aload_n X dL_byMinutes_0 rfl 3 rfl ?_
  refine sw_iconst X dL_byMinutes_1 ?_
  refine sw_aload_n X dL_byMinutes_2 rfl 0 rfl ?_
  refine sw_iload_n X dL_byMinutes_3 rfl 1 rfl ?_
  refine sw_iload_n X dL_byMinutes_4 rfl 2 rfl ?_
  refine px_hVI (wr := [(o, oE k f)]) (C := RX5) (As := [.int (J c), .int (J b)]) (rest := [.int (J 0), .ref o]) X (c_X5_byMinutes l hfl D k N st q L M c b hI hC h_c h_b) (cwV 2 (sw_ts X) (sw_goodV gw3_131 gw3_132 gw3_133 gw1_1 gw3_134) rfl rfl rfl (by decide +kernel) ⟨Nat.le_of_ble_eq_true rfl, Nat.le_of_ble_eq_true rfl⟩) ⟨hC.1.1.1.1, hC.1.1.1.2.2⟩ (by decide) rfl rfl dL_byMinutes_5 rfl rfl (Nat.le_of_ble_eq_true rfl) ⟨Nat.le_of_ble_eq_true rfl, Nat.le_of_ble_eq_true rfl⟩ (fun E w9 hx => ?_) (fun z w9 hp => ?_)
  · obtain ⟨rfl, hx⟩ := hx
    obtain ⟨rfl, hK⟩ := hx
    refine sw_catch X htb (hh := [(0, 10, 13, 24)]) [] ⟨0, 10, 13, 24⟩ [] rfl (List.mem_of_getElem? (i := 0) rfl) (fun z hz => absurd hz List.not_mem_nil) rfl (by decide) gw2_34 (fun q9 => ?_)
    refine sw_astore (lv' := [(4, .ref q9), (0, .ref (q 0)), (1, .int (J c)), (2, .int (J b)), (3, .ref o)]) X dL_byMinutes_13 (by decide) rfl ?_
    refine sw_iconst X dL_byMinutes_15 ?_
    exact RI _ _ _ _ _ _ dL_byMinutes_16 (Nat.le_of_ble_eq_true rfl) (Nat.le_of_ble_eq_true rfl) (Or.inr ⟨by omega, by omega, rfl⟩)
  · obtain ⟨hK, rfl, q', L', M', rfl, hq0, hC'⟩ := hp
    refine sw_i2l X dL_byMinutes_8 ?_
    refine sw_last (q0 := 0) (w' := [(o, oE k (vp_updL f 0 (J (pas st c b)).toInt64))] ++ pW k L' M') X rfl rfl dL_byMinutes_9 ?_
    refine sw_goto (tgt := 17) X dL_byMinutes_10 (by decide) ?_
    refine sw_iconst X dL_byMinutes_17 ?_
    exact RI _ _ _ _ _ _ dL_byMinutes_18 (Nat.le_of_ble_eq_true rfl) (Nat.le_of_ble_eq_true rfl) (Or.inl ⟨hK, rfl, _, q', L', M', rfl, rfl, hq0, hC'⟩)
abbrev rm_L_lent : Room := { frames := 8, cells := 1, slots := 6, locals := 125 }
set_option maxHeartbeats 4000000 in
set_option maxRecDepth 100000 in
theorem c_L_lent (l : Launch) (hfl : l.stackTraces = false) (D : va_G) (k : Nat → ClassId) (N : Int) (st : ST) (q : Int → Nat) (L : List Nat) (M : MM) (o : Nat) (f : Nat → Int64) (c : Int) (hI : I6 N st) (hC : CW st q L M) (h_c : (-2147483648 ≤ c ∧ c < 2147483648)) : HI l yL_lent cL_lent 4 [(0, 9, 12, 24)] rm_L_lent D k [.ref (q 0), .int (J c), .ref o] ([(o, oE k f)] ++ pW k L M) (hP k o f L M q (st) (kCar st c) ((J (len st c)).toInt64)) := by
  refine HI.of (by decide +kernel) (Nat.le_of_ble_eq_true rfl) (fun pᵢ eᵢ sᵢ mᵢ argsᵢ belowᵢ methᵢ cᵢ Aᵢ Qᵢ X htb RI => ?_)
  show SW pᵢ l eᵢ rm_L_lent sᵢ mᵢ argsᵢ belowᵢ methᵢ cᵢ 4 D Aᵢ 0 0 Qᵢ ([(o, oE k f)] ++ pW k L M) 0 [(0, .ref (q 0)), (1, .int (J c)), (2, .ref o)] []
  refine sw_aload_n X dL_lent_0 rfl 2 rfl ?_
  refine sw_iconst X dL_lent_1 ?_
  refine sw_aload_n X dL_lent_2 rfl 0 rfl ?_
  refine sw_iload_n X dL_lent_3 rfl 1 rfl ?_
  refine px_hVI (wr := [(o, oE k f)]) (C := RX5) (As := [.int (J c)]) (rest := [.int (J 0), .ref o]) X (c_X5_lent l hfl D k N st q L M c hI hC h_c) (cwV 1 (sw_ts X) (sw_goodV gw3_187 gw3_188 gw3_189 gw1_1 gw3_190) rfl rfl rfl (by decide +kernel) ⟨Nat.le_of_ble_eq_true rfl, Nat.le_of_ble_eq_true rfl⟩) ⟨hC.1.1.1.1, hC.1.1.1.2.2⟩ (by decide) rfl rfl dL_lent_4 rfl rfl (Nat.le_of_ble_eq_true rfl) ⟨Nat.le_of_ble_eq_true rfl, Nat.le_of_ble_eq_true rfl⟩ (fun E w9 hx => ?_) (fun z w9 hp => ?_)
  · obtain ⟨rfl, hx⟩ := hx
    obtain ⟨rfl, hK⟩ := hx
    refine sw_catch X htb (hh := [(0, 9, 12, 24)]) [] ⟨0, 9, 12, 24⟩ [] rfl (List.mem_of_getElem? (i := 0) rfl) (fun z hz => absurd hz List.not_mem_nil) rfl (by decide) gw2_34 (fun q9 => ?_)
    refine sw_astore_n (lv' := [(3, .ref q9), (0, .ref (q 0)), (1, .int (J c)), (2, .ref o)]) X dL_lent_12 rfl (by decide) rfl ?_
    refine sw_iconst X dL_lent_13 ?_
    exact RI _ _ _ _ _ _ dL_lent_14 (Nat.le_of_ble_eq_true rfl) (Nat.le_of_ble_eq_true rfl) (Or.inr ⟨by omega, by omega, rfl⟩)
  · obtain ⟨hK, rfl, q', L', M', rfl, hq0, hC'⟩ := hp
    refine sw_i2l X dL_lent_7 ?_
    refine sw_last (q0 := 0) (w' := [(o, oE k (vp_updL f 0 (J (len st c)).toInt64))] ++ pW k L' M') X rfl rfl dL_lent_8 ?_
    refine sw_goto (tgt := 15) X dL_lent_9 (by decide) ?_
    refine sw_iconst X dL_lent_15 ?_
    exact RI _ _ _ _ _ _ dL_lent_16 (Nat.le_of_ble_eq_true rfl) (Nat.le_of_ble_eq_true rfl) (Or.inl ⟨hK, rfl, _, q', L', M', rfl, rfl, hq0, hC'⟩)
abbrev rm_L_setStart : Room := { frames := 8, cells := 2, slots := 12, locals := 124 }
set_option maxHeartbeats 4000000 in
set_option maxRecDepth 100000 in
theorem c_L_setStart (l : Launch) (hfl : l.stackTraces = false) (D : va_G) (k : Nat → ClassId) (N : Int) (st : ST) (q : Int → Nat) (L : List Nat) (M : MM) (o : Nat) (f : Nat → Int64) (a : Int) (hI : I6 N st) (hC : CW st q L M) (h_a : (-2147483648 ≤ a ∧ a < 2147483648)) : HI l yL_setStart cL_setStart 4 [(0, 9, 12, 13), (0, 9, 15, 15)] rm_L_setStart D k [.ref (q 0), .int (J a), .ref o] ([(o, oE k f)] ++ pW k L M) (hP k o f L M q (up2 st 1 0 a) (kSetStart st a) ((J (st 1 0)).toInt64)) := by
  refine HI.of (by decide +kernel) (Nat.le_of_ble_eq_true rfl) (fun pᵢ eᵢ sᵢ mᵢ argsᵢ belowᵢ methᵢ cᵢ Aᵢ Qᵢ X htb RI => ?_)
  show SW pᵢ l eᵢ rm_L_setStart sᵢ mᵢ argsᵢ belowᵢ methᵢ cᵢ 4 D Aᵢ 0 0 Qᵢ ([(o, oE k f)] ++ pW k L M) 0 [(0, .ref (q 0)), (1, .int (J a)), (2, .ref o)] []
  refine sw_aload_n X dL_setStart_0 rfl 2 rfl ?_
  refine sw_iconst X dL_setStart_1 ?_
  refine sw_aload_n X dL_setStart_2 rfl 0 rfl ?_
  refine sw_iload_n X dL_setStart_3 rfl 1 rfl ?_
  refine px_hVI (wr := [(o, oE k f)]) (C := RX5) (As := [.int (J a)]) (rest := [.int (J 0), .ref o]) X (c_X5_setStart l hfl D k N st q L M a hI hC h_a) (cwV 1 (sw_ts X) (sw_goodV gw1_98 gw1_99 gw1_100 gw1_1 gw1_101) rfl rfl rfl (by decide +kernel) ⟨Nat.le_of_ble_eq_true rfl, Nat.le_of_ble_eq_true rfl⟩) ⟨hC.1.1.1.1, hC.1.1.1.2.2⟩ (by decide) rfl rfl dL_setStart_4 rfl rfl (Nat.le_of_ble_eq_true rfl) ⟨Nat.le_of_ble_eq_true rfl, Nat.le_of_ble_eq_true rfl⟩ (fun E w9 hx => ?_) (fun z w9 hp => ?_)
  · obtain ⟨rfl, hx⟩ := hx
    rcases hx with ⟨rfl, hK⟩ | ⟨rfl, hK⟩
    · refine sw_catch X htb (hh := [(0, 9, 12, 13), (0, 9, 15, 15)]) [] ⟨0, 9, 12, 13⟩ [⟨0, 9, 15, 15⟩] rfl (List.mem_of_getElem? (i := 1) rfl) (fun z hz => absurd hz List.not_mem_nil) rfl (by decide) gw1_96 (fun q9 => ?_)
      refine sw_astore_n (lv' := [(3, .ref q9), (0, .ref (q 0)), (1, .int (J a)), (2, .ref o)]) X dL_setStart_12 rfl (by decide) rfl ?_
      refine sw_iconst X dL_setStart_13 ?_
      exact RI _ _ _ _ _ _ dL_setStart_14 (Nat.le_of_ble_eq_true rfl) (Nat.le_of_ble_eq_true rfl) (Or.inr ⟨by omega, by omega, rfl⟩)
    · refine sw_catch X htb (hh := [(0, 9, 12, 13), (0, 9, 15, 15)]) [⟨0, 9, 12, 13⟩] ⟨0, 9, 15, 15⟩ [] rfl (List.mem_of_getElem? (i := 2) rfl) (fun z hz => by simp only [List.mem_cons, List.not_mem_nil, or_false] at hz; rcases hz with rfl <;> exact ⟨by decide, "java/lang/IllegalArgumentException", gw1_96, (List.mem_of_getElem? (i := 1) rfl), by decide⟩) rfl (by decide) gw1_97 (fun q9 => ?_)
      refine sw_astore_n (lv' := [(3, .ref q9), (0, .ref (q 0)), (1, .int (J a)), (2, .ref o)]) X dL_setStart_15 rfl (by decide) rfl ?_
      refine sw_iconst X dL_setStart_16 ?_
      exact RI _ _ _ _ _ _ dL_setStart_17 (Nat.le_of_ble_eq_true rfl) (Nat.le_of_ble_eq_true rfl) (Or.inr ⟨by omega, by omega, rfl⟩)
  · obtain ⟨hK, rfl, q', L', M', rfl, hq0, hC'⟩ := hp
    refine sw_i2l X dL_setStart_7 ?_
    refine sw_last (q0 := 0) (w' := [(o, oE k (vp_updL f 0 (J (st 1 0)).toInt64))] ++ pW k L' M') X rfl rfl dL_setStart_8 ?_
    refine sw_goto (tgt := 18) X dL_setStart_9 (by decide) ?_
    refine sw_iconst X dL_setStart_18 ?_
    exact RI _ _ _ _ _ _ dL_setStart_19 (Nat.le_of_ble_eq_true rfl) (Nat.le_of_ble_eq_true rfl) (Or.inl ⟨hK, rfl, _, q', L', M', rfl, rfl, hq0, hC'⟩)
abbrev rm_L_cut : Room := { frames := 8, cells := 1, slots := 6, locals := 124 }
set_option maxHeartbeats 4000000 in
set_option maxRecDepth 100000 in
theorem c_L_cut (l : Launch) (hfl : l.stackTraces = false) (D : va_G) (k : Nat → ClassId) (N : Int) (st : ST) (q : Int → Nat) (L : List Nat) (M : MM) (o : Nat) (f : Nat → Int64) (a : Int) (hI : I6 N st) (hC : CW st q L M) (h_a : (-2147483648 ≤ a ∧ a < 2147483648)) : HI l yL_cut cL_cut 4 [(0, 9, 12, 13)] rm_L_cut D k [.ref (q 0), .int (J a), .ref o] ([(o, oE k f)] ++ pW k L M) (hP k o f L M q (up2 st 8 0 a) (kCut a) ((J (st 8 0)).toInt64)) := by
  refine HI.of (by decide +kernel) (Nat.le_of_ble_eq_true rfl) (fun pᵢ eᵢ sᵢ mᵢ argsᵢ belowᵢ methᵢ cᵢ Aᵢ Qᵢ X htb RI => ?_)
  show SW pᵢ l eᵢ rm_L_cut sᵢ mᵢ argsᵢ belowᵢ methᵢ cᵢ 4 D Aᵢ 0 0 Qᵢ ([(o, oE k f)] ++ pW k L M) 0 [(0, .ref (q 0)), (1, .int (J a)), (2, .ref o)] []
  refine sw_aload_n X dL_cut_0 rfl 2 rfl ?_
  refine sw_iconst X dL_cut_1 ?_
  refine sw_aload_n X dL_cut_2 rfl 0 rfl ?_
  refine sw_iload_n X dL_cut_3 rfl 1 rfl ?_
  refine px_hVI (wr := [(o, oE k f)]) (C := RX5) (As := [.int (J a)]) (rest := [.int (J 0), .ref o]) X (c_X5_cut l hfl D k N st q L M a hI hC h_a) (cwV 1 (sw_ts X) (sw_goodV gw2_95 gw2_96 gw2_97 gw1_1 gw2_98) rfl rfl rfl (by decide +kernel) ⟨Nat.le_of_ble_eq_true rfl, Nat.le_of_ble_eq_true rfl⟩) ⟨hC.1.1.1.1, hC.1.1.1.2.2⟩ (by decide) rfl rfl dL_cut_4 rfl rfl (Nat.le_of_ble_eq_true rfl) ⟨Nat.le_of_ble_eq_true rfl, Nat.le_of_ble_eq_true rfl⟩ (fun E w9 hx => ?_) (fun z w9 hp => ?_)
  · obtain ⟨rfl, hx⟩ := hx
    obtain ⟨rfl, hK⟩ := hx
    refine sw_catch X htb (hh := [(0, 9, 12, 13)]) [] ⟨0, 9, 12, 13⟩ [] rfl (List.mem_of_getElem? (i := 1) rfl) (fun z hz => absurd hz List.not_mem_nil) rfl (by decide) gw1_96 (fun q9 => ?_)
    refine sw_astore_n (lv' := [(3, .ref q9), (0, .ref (q 0)), (1, .int (J a)), (2, .ref o)]) X dL_cut_12 rfl (by decide) rfl ?_
    refine sw_iconst X dL_cut_13 ?_
    exact RI _ _ _ _ _ _ dL_cut_14 (Nat.le_of_ble_eq_true rfl) (Nat.le_of_ble_eq_true rfl) (Or.inr ⟨by omega, by omega, rfl⟩)
  · obtain ⟨hK, rfl, q', L', M', rfl, hq0, hC'⟩ := hp
    refine sw_i2l X dL_cut_7 ?_
    refine sw_last (q0 := 0) (w' := [(o, oE k (vp_updL f 0 (J (st 8 0)).toInt64))] ++ pW k L' M') X rfl rfl dL_cut_8 ?_
    refine sw_goto (tgt := 15) X dL_cut_9 (by decide) ?_
    refine sw_iconst X dL_cut_15 ?_
    exact RI _ _ _ _ _ _ dL_cut_16 (Nat.le_of_ble_eq_true rfl) (Nat.le_of_ble_eq_true rfl) (Or.inl ⟨hK, rfl, _, q', L', M', rfl, rfl, hq0, hC'⟩)
abbrev rm_L_addEntry : Room := { frames := 8, cells := 3, slots := 18, locals := 124 }
set_option maxHeartbeats 4000000 in
set_option maxRecDepth 100000 in
theorem c_L_addEntry (l : Launch) (hfl : l.stackTraces = false) (D : va_G) (k : Nat → ClassId) (N : Int) (st : ST) (q : Int → Nat) (L : List Nat) (M : MM) (o : Nat) (f : Nat → Int64) (a b : Int) (hI : I6 N st) (hC : CW st q L M) (h_a : (-2147483648 ≤ a ∧ a < 2147483648)) (h_b : (-2147483648 ≤ b ∧ b < 2147483648)) : HI l yL_addEntry cL_addEntry 5 [(0, 10, 13, 13), (0, 10, 17, 15)] rm_L_addEntry D k [.ref (q 0), .int (J a), .int (J b), .ref o] ([(o, oE k f)] ++ pW k L M) (hP k o f L M q (sAddEntry st a b) (kAddEntry st a b) ((J (vAddEntry st a)).toInt64)) := by
  refine HI.of (by decide +kernel) (Nat.le_of_ble_eq_true rfl) (fun pᵢ eᵢ sᵢ mᵢ argsᵢ belowᵢ methᵢ cᵢ Aᵢ Qᵢ X htb RI => ?_)
  show SW pᵢ l eᵢ rm_L_addEntry sᵢ mᵢ argsᵢ belowᵢ methᵢ cᵢ 5 D Aᵢ 0 0 Qᵢ ([(o, oE k f)] ++ pW k L M) 0 [(0, .ref (q 0)), (1, .int (J a)), (2, .int (J b)), (3, .ref o)] []
  refine sw_aload_n X dL_addEntry_0 rfl 3 rfl ?_
  refine sw_iconst X dL_addEntry_1 ?_
  refine sw_aload_n X dL_addEntry_2 rfl 0 rfl ?_
  refine sw_iload_n X dL_addEntry_3 rfl 1 rfl ?_
  refine sw_iload_n X dL_addEntry_4 rfl 2 rfl ?_
  refine px_hVI (wr := [(o, oE k f)]) (C := RX5) (As := [.int (J a), .int (J b)]) (rest := [.int (J 0), .ref o]) X (c_X5_addEntry l hfl D k N st q L M a b hI hC h_a h_b) (cwV 2 (sw_ts X) (sw_goodV gw1_203 gw1_204 gw1_205 gw1_1 gw1_206) rfl rfl rfl (by decide +kernel) ⟨Nat.le_of_ble_eq_true rfl, Nat.le_of_ble_eq_true rfl⟩) ⟨hC.1.1.1.1, hC.1.1.1.2.2⟩ (by decide) rfl rfl dL_addEntry_5 rfl rfl (Nat.le_of_ble_eq_true rfl) ⟨Nat.le_of_ble_eq_true rfl, Nat.le_of_ble_eq_true rfl⟩ (fun E w9 hx => ?_) (fun z w9 hp => ?_)
  · obtain ⟨rfl, hx⟩ := hx
    rcases hx with ⟨rfl, hK⟩ | ⟨rfl, hK⟩
    · refine sw_catch X htb (hh := [(0, 10, 13, 13), (0, 10, 17, 15)]) [] ⟨0, 10, 13, 13⟩ [⟨0, 10, 17, 15⟩] rfl (List.mem_of_getElem? (i := 1) rfl) (fun z hz => absurd hz List.not_mem_nil) rfl (by decide) gw1_96 (fun q9 => ?_)
      refine sw_astore (lv' := [(4, .ref q9), (0, .ref (q 0)), (1, .int (J a)), (2, .int (J b)), (3, .ref o)]) X dL_addEntry_13 (by decide) rfl ?_
      refine sw_iconst X dL_addEntry_15 ?_
      exact RI _ _ _ _ _ _ dL_addEntry_16 (Nat.le_of_ble_eq_true rfl) (Nat.le_of_ble_eq_true rfl) (Or.inr ⟨by omega, by omega, rfl⟩)
    · refine sw_catch X htb (hh := [(0, 10, 13, 13), (0, 10, 17, 15)]) [⟨0, 10, 13, 13⟩] ⟨0, 10, 17, 15⟩ [] rfl (List.mem_of_getElem? (i := 2) rfl) (fun z hz => by simp only [List.mem_cons, List.not_mem_nil, or_false] at hz; rcases hz with rfl <;> exact ⟨by decide, "java/lang/IllegalArgumentException", gw1_96, (List.mem_of_getElem? (i := 1) rfl), by decide⟩) rfl (by decide) gw1_97 (fun q9 => ?_)
      refine sw_astore (lv' := [(4, .ref q9), (0, .ref (q 0)), (1, .int (J a)), (2, .int (J b)), (3, .ref o)]) X dL_addEntry_17 (by decide) rfl ?_
      refine sw_iconst X dL_addEntry_19 ?_
      exact RI _ _ _ _ _ _ dL_addEntry_20 (Nat.le_of_ble_eq_true rfl) (Nat.le_of_ble_eq_true rfl) (Or.inr ⟨by omega, by omega, rfl⟩)
  · obtain ⟨hK, rfl, q', L', M', rfl, hq0, hC'⟩ := hp
    refine sw_i2l X dL_addEntry_8 ?_
    refine sw_last (q0 := 0) (w' := [(o, oE k (vp_updL f 0 (J (vAddEntry st a)).toInt64))] ++ pW k L' M') X rfl rfl dL_addEntry_9 ?_
    refine sw_goto (tgt := 21) X dL_addEntry_10 (by decide) ?_
    refine sw_iconst X dL_addEntry_21 ?_
    exact RI _ _ _ _ _ _ dL_addEntry_22 (Nat.le_of_ble_eq_true rfl) (Nat.le_of_ble_eq_true rfl) (Or.inl ⟨hK, rfl, _, q', L', M', rfl, rfl, hq0, hC'⟩)
abbrev rm_L_drive : Room := { frames := 8, cells := 4, slots := 24, locals := 128 }
set_option maxHeartbeats 4000000 in
set_option maxRecDepth 100000 in
theorem c_L_drive (l : Launch) (hfl : l.stackTraces = false) (D : va_G) (k : Nat → ClassId) (N : Int) (st : ST) (q : Int → Nat) (L : List Nat) (M : MM) (o : Nat) (f : Nat → Int64) (c a b : Int) (hI : I6 N st) (hC : CW st q L M) (h_c : (-2147483648 ≤ c ∧ c < 2147483648)) (h_a : (-2147483648 ≤ a ∧ a < 2147483648)) (h_b : (-2147483648 ≤ b ∧ b < 2147483648)) : HI l yL_drive cL_drive 6 [(0, 12, 15, 24), (0, 12, 19, 13), (0, 12, 23, 15)] rm_L_drive D k [.ref (q 0), .int (J c), .int (J a), .int (J b), .ref o] ([(o, oE k f)] ++ pW k L M) (hP k o f L M q (aP st c a a b) (kDrive st c a b) ((J (clk (aP st c a a b) c)).toInt64)) := by
  refine HI.of (by decide +kernel) (Nat.le_of_ble_eq_true rfl) (fun pᵢ eᵢ sᵢ mᵢ argsᵢ belowᵢ methᵢ cᵢ Aᵢ Qᵢ X htb RI => ?_)
  show SW pᵢ l eᵢ rm_L_drive sᵢ mᵢ argsᵢ belowᵢ methᵢ cᵢ 6 D Aᵢ 0 0 Qᵢ ([(o, oE k f)] ++ pW k L M) 0 [(0, .ref (q 0)), (1, .int (J c)), (2, .int (J a)), (3, .int (J b)), (4, .ref o)] []
  refine sw_aload X dL_drive_0 4 rfl ?_
  refine sw_iconst X dL_drive_2 ?_
  refine sw_aload_n X dL_drive_3 rfl 0 rfl ?_
  refine sw_iload_n X dL_drive_4 rfl 1 rfl ?_
  refine sw_iload_n X dL_drive_5 rfl 2 rfl ?_
  refine sw_iload_n X dL_drive_6 rfl 3 rfl ?_
  refine px_hVI (wr := [(o, oE k f)]) (C := RX5) (As := [.int (J c), .int (J a), .int (J b)]) (rest := [.int (J 0), .ref o]) X (c_X5_drive l hfl D k N st q L M c a b hI hC h_c h_a h_b) (cwV 3 (sw_ts X) (sw_goodV gw2_132 gw2_133 gw2_134 gw1_1 gw2_135) rfl rfl rfl (by decide +kernel) ⟨Nat.le_of_ble_eq_true rfl, Nat.le_of_ble_eq_true rfl⟩) ⟨hC.1.1.1.1, hC.1.1.1.2.2⟩ (by decide) rfl rfl dL_drive_7 rfl rfl (Nat.le_of_ble_eq_true rfl) ⟨Nat.le_of_ble_eq_true rfl, Nat.le_of_ble_eq_true rfl⟩ (fun E w9 hx => ?_) (fun z w9 hp => ?_)
  · obtain ⟨rfl, hx⟩ := hx
    rcases hx with ⟨rfl, hK⟩ | ⟨rfl, hK⟩ | ⟨rfl, hK⟩
    · refine sw_catch X htb (hh := [(0, 12, 15, 24), (0, 12, 19, 13), (0, 12, 23, 15)]) [] ⟨0, 12, 15, 24⟩ [⟨0, 12, 19, 13⟩, ⟨0, 12, 23, 15⟩] rfl (List.mem_of_getElem? (i := 0) rfl) (fun z hz => absurd hz List.not_mem_nil) rfl (by decide) gw2_34 (fun q9 => ?_)
      refine sw_astore (lv' := [(5, .ref q9), (0, .ref (q 0)), (1, .int (J c)), (2, .int (J a)), (3, .int (J b)), (4, .ref o)]) X dL_drive_15 (by decide) rfl ?_
      refine sw_iconst X dL_drive_17 ?_
      exact RI _ _ _ _ _ _ dL_drive_18 (Nat.le_of_ble_eq_true rfl) (Nat.le_of_ble_eq_true rfl) (Or.inr ⟨by omega, by omega, rfl⟩)
    · refine sw_catch X htb (hh := [(0, 12, 15, 24), (0, 12, 19, 13), (0, 12, 23, 15)]) [⟨0, 12, 15, 24⟩] ⟨0, 12, 19, 13⟩ [⟨0, 12, 23, 15⟩] rfl (List.mem_of_getElem? (i := 1) rfl) (fun z hz => by simp only [List.mem_cons, List.not_mem_nil, or_false] at hz; rcases hz with rfl <;> exact ⟨by decide, "java/lang/IndexOutOfBoundsException", gw2_34, (List.mem_of_getElem? (i := 0) rfl), by decide⟩) rfl (by decide) gw1_96 (fun q9 => ?_)
      refine sw_astore (lv' := [(5, .ref q9), (0, .ref (q 0)), (1, .int (J c)), (2, .int (J a)), (3, .int (J b)), (4, .ref o)]) X dL_drive_19 (by decide) rfl ?_
      refine sw_iconst X dL_drive_21 ?_
      exact RI _ _ _ _ _ _ dL_drive_22 (Nat.le_of_ble_eq_true rfl) (Nat.le_of_ble_eq_true rfl) (Or.inr ⟨by omega, by omega, rfl⟩)
    · refine sw_catch X htb (hh := [(0, 12, 15, 24), (0, 12, 19, 13), (0, 12, 23, 15)]) [⟨0, 12, 15, 24⟩, ⟨0, 12, 19, 13⟩] ⟨0, 12, 23, 15⟩ [] rfl (List.mem_of_getElem? (i := 2) rfl) (fun z hz => by simp only [List.mem_cons, List.not_mem_nil, or_false] at hz; rcases hz with rfl | rfl; exact ⟨by decide, "java/lang/IndexOutOfBoundsException", gw2_34, (List.mem_of_getElem? (i := 0) rfl), by decide⟩; exact ⟨by decide, "java/lang/IllegalArgumentException", gw1_96, (List.mem_of_getElem? (i := 1) rfl), by decide⟩) rfl (by decide) gw1_97 (fun q9 => ?_)
      refine sw_astore (lv' := [(5, .ref q9), (0, .ref (q 0)), (1, .int (J c)), (2, .int (J a)), (3, .int (J b)), (4, .ref o)]) X dL_drive_23 (by decide) rfl ?_
      refine sw_iconst X dL_drive_25 ?_
      exact RI _ _ _ _ _ _ dL_drive_26 (Nat.le_of_ble_eq_true rfl) (Nat.le_of_ble_eq_true rfl) (Or.inr ⟨by omega, by omega, rfl⟩)
  · obtain ⟨hK, rfl, q', L', M', rfl, hq0, hC'⟩ := hp
    refine sw_i2l X dL_drive_10 ?_
    refine sw_last (q0 := 0) (w' := [(o, oE k (vp_updL f 0 (J (clk (aP st c a a b) c)).toInt64))] ++ pW k L' M') X rfl rfl dL_drive_11 ?_
    refine sw_goto (tgt := 27) X dL_drive_12 (by decide) ?_
    refine sw_iconst X dL_drive_27 ?_
    exact RI _ _ _ _ _ _ dL_drive_28 (Nat.le_of_ble_eq_true rfl) (Nat.le_of_ble_eq_true rfl) (Or.inl ⟨hK, rfl, _, q', L', M', rfl, rfl, hq0, hC'⟩)
abbrev rm_L_stand : Room := { frames := 8, cells := 4, slots := 24, locals := 127 }
set_option maxHeartbeats 4000000 in
set_option maxRecDepth 100000 in
theorem c_L_stand (l : Launch) (hfl : l.stackTraces = false) (D : va_G) (k : Nat → ClassId) (N : Int) (st : ST) (q : Int → Nat) (L : List Nat) (M : MM) (o : Nat) (f : Nat → Int64) (c a : Int) (hI : I6 N st) (hC : CW st q L M) (h_c : (-2147483648 ≤ c ∧ c < 2147483648)) (h_a : (-2147483648 ≤ a ∧ a < 2147483648)) : HI l yL_stand cL_stand 5 [(0, 10, 13, 24), (0, 10, 17, 13), (0, 10, 21, 15)] rm_L_stand D k [.ref (q 0), .int (J c), .int (J a), .ref o] ([(o, oE k f)] ++ pW k L M) (hP k o f L M q (aP st c (-1) a 0) (kStand st c a) ((J (clk (aP st c (-1) a 0) c)).toInt64)) := by
  refine HI.of (by decide +kernel) (Nat.le_of_ble_eq_true rfl) (fun pᵢ eᵢ sᵢ mᵢ argsᵢ belowᵢ methᵢ cᵢ Aᵢ Qᵢ X htb RI => ?_)
  show SW pᵢ l eᵢ rm_L_stand sᵢ mᵢ argsᵢ belowᵢ methᵢ cᵢ 5 D Aᵢ 0 0 Qᵢ ([(o, oE k f)] ++ pW k L M) 0 [(0, .ref (q 0)), (1, .int (J c)), (2, .int (J a)), (3, .ref o)] []
  refine sw_aload_n X dL_stand_0 rfl 3 rfl ?_
  refine sw_iconst X dL_stand_1 ?_
  refine sw_aload_n X dL_stand_2 rfl 0 rfl ?_
  refine sw_iload_n X dL_stand_3 rfl 1 rfl ?_
  refine sw_iload_n X dL_stand_4 rfl 2 rfl ?_
  refine px_hVI (wr := [(o, oE k f)]) (C := RX5) (As := [.int (J c), .int (J a)]) (rest := [.int (J 0), .ref o]) X (c_X5_stand l hfl D k N st q L M c a hI hC h_c h_a) (cwV 2 (sw_ts X) (sw_goodV gw2_152 gw2_153 gw2_154 gw1_1 gw2_155) rfl rfl rfl (by decide +kernel) ⟨Nat.le_of_ble_eq_true rfl, Nat.le_of_ble_eq_true rfl⟩) ⟨hC.1.1.1.1, hC.1.1.1.2.2⟩ (by decide) rfl rfl dL_stand_5 rfl rfl (Nat.le_of_ble_eq_true rfl) ⟨Nat.le_of_ble_eq_true rfl, Nat.le_of_ble_eq_true rfl⟩ (fun E w9 hx => ?_) (fun z w9 hp => ?_)
  · obtain ⟨rfl, hx⟩ := hx
    rcases hx with ⟨rfl, hK⟩ | ⟨rfl, hK⟩ | ⟨rfl, hK⟩
    · refine sw_catch X htb (hh := [(0, 10, 13, 24), (0, 10, 17, 13), (0, 10, 21, 15)]) [] ⟨0, 10, 13, 24⟩ [⟨0, 10, 17, 13⟩, ⟨0, 10, 21, 15⟩] rfl (List.mem_of_getElem? (i := 0) rfl) (fun z hz => absurd hz List.not_mem_nil) rfl (by decide) gw2_34 (fun q9 => ?_)
      refine sw_astore (lv' := [(4, .ref q9), (0, .ref (q 0)), (1, .int (J c)), (2, .int (J a)), (3, .ref o)]) X dL_stand_13 (by decide) rfl ?_
      refine sw_iconst X dL_stand_15 ?_
      exact RI _ _ _ _ _ _ dL_stand_16 (Nat.le_of_ble_eq_true rfl) (Nat.le_of_ble_eq_true rfl) (Or.inr ⟨by omega, by omega, rfl⟩)
    · refine sw_catch X htb (hh := [(0, 10, 13, 24), (0, 10, 17, 13), (0, 10, 21, 15)]) [⟨0, 10, 13, 24⟩] ⟨0, 10, 17, 13⟩ [⟨0, 10, 21, 15⟩] rfl (List.mem_of_getElem? (i := 1) rfl) (fun z hz => by simp only [List.mem_cons, List.not_mem_nil, or_false] at hz; rcases hz with rfl <;> exact ⟨by decide, "java/lang/IndexOutOfBoundsException", gw2_34, (List.mem_of_getElem? (i := 0) rfl), by decide⟩) rfl (by decide) gw1_96 (fun q9 => ?_)
      refine sw_astore (lv' := [(4, .ref q9), (0, .ref (q 0)), (1, .int (J c)), (2, .int (J a)), (3, .ref o)]) X dL_stand_17 (by decide) rfl ?_
      refine sw_iconst X dL_stand_19 ?_
      exact RI _ _ _ _ _ _ dL_stand_20 (Nat.le_of_ble_eq_true rfl) (Nat.le_of_ble_eq_true rfl) (Or.inr ⟨by omega, by omega, rfl⟩)
    · refine sw_catch X htb (hh := [(0, 10, 13, 24), (0, 10, 17, 13), (0, 10, 21, 15)]) [⟨0, 10, 13, 24⟩, ⟨0, 10, 17, 13⟩] ⟨0, 10, 21, 15⟩ [] rfl (List.mem_of_getElem? (i := 2) rfl) (fun z hz => by simp only [List.mem_cons, List.not_mem_nil, or_false] at hz; rcases hz with rfl | rfl; exact ⟨by decide, "java/lang/IndexOutOfBoundsException", gw2_34, (List.mem_of_getElem? (i := 0) rfl), by decide⟩; exact ⟨by decide, "java/lang/IllegalArgumentException", gw1_96, (List.mem_of_getElem? (i := 1) rfl), by decide⟩) rfl (by decide) gw1_97 (fun q9 => ?_)
      refine sw_astore (lv' := [(4, .ref q9), (0, .ref (q 0)), (1, .int (J c)), (2, .int (J a)), (3, .ref o)]) X dL_stand_21 (by decide) rfl ?_
      refine sw_iconst X dL_stand_23 ?_
      exact RI _ _ _ _ _ _ dL_stand_24 (Nat.le_of_ble_eq_true rfl) (Nat.le_of_ble_eq_true rfl) (Or.inr ⟨by omega, by omega, rfl⟩)
  · obtain ⟨hK, rfl, q', L', M', rfl, hq0, hC'⟩ := hp
    refine sw_i2l X dL_stand_8 ?_
    refine sw_last (q0 := 0) (w' := [(o, oE k (vp_updL f 0 (J (clk (aP st c (-1) a 0) c)).toInt64))] ++ pW k L' M') X rfl rfl dL_stand_9 ?_
    refine sw_goto (tgt := 25) X dL_stand_10 (by decide) ?_
    refine sw_iconst X dL_stand_25 ?_
    exact RI _ _ _ _ _ _ dL_stand_26 (Nat.le_of_ble_eq_true rfl) (Nat.le_of_ble_eq_true rfl) (Or.inl ⟨hK, rfl, _, q', L', M', rfl, rfl, hq0, hC'⟩)
abbrev rm_L_addGate : Room := { frames := 8, cells := 4, slots := 21, locals := 128 }
set_option maxHeartbeats 4000000 in
set_option maxRecDepth 100000 in
theorem c_L_addGate (l : Launch) (hfl : l.stackTraces = false) (D : va_G) (k : Nat → ClassId) (N : Int) (st : ST) (q : Int → Nat) (L : List Nat) (M : MM) (o : Nat) (f : Nat → Int64) (a b : Int) (hI : I6 N st) (hC : CW st q L M) (h_a : (-2147483648 ≤ a ∧ a < 2147483648)) (h_b : (-2147483648 ≤ b ∧ b < 2147483648)) : HI l yL_addGate cL_addGate 5 [(0, 10, 13, 24), (0, 10, 17, 13), (0, 10, 21, 15)] rm_L_addGate D k [.ref (q 0), .int (J a), .int (J b), .ref o] ([(o, oE k f)] ++ pW k L M) (hP k o f L M q (sAddGate st a b) (kAddGate st a b) ((J (st 5 0)).toInt64)) := by
  refine HI.of (by decide +kernel) (Nat.le_of_ble_eq_true rfl) (fun pᵢ eᵢ sᵢ mᵢ argsᵢ belowᵢ methᵢ cᵢ Aᵢ Qᵢ X htb RI => ?_)
  show SW pᵢ l eᵢ rm_L_addGate sᵢ mᵢ argsᵢ belowᵢ methᵢ cᵢ 5 D Aᵢ 0 0 Qᵢ ([(o, oE k f)] ++ pW k L M) 0 [(0, .ref (q 0)), (1, .int (J a)), (2, .int (J b)), (3, .ref o)] []
  refine sw_aload_n X dL_addGate_0 rfl 3 rfl ?_
  refine sw_iconst X dL_addGate_1 ?_
  refine sw_aload_n X dL_addGate_2 rfl 0 rfl ?_
  refine sw_iload_n X dL_addGate_3 rfl 1 rfl ?_
  refine sw_iload_n X dL_addGate_4 rfl 2 rfl ?_
  refine px_hVI (wr := [(o, oE k f)]) (C := RX5) (As := [.int (J a), .int (J b)]) (rest := [.int (J 0), .ref o]) X (c_X5_addGate l hfl D k N st q L M a b hI hC h_a h_b) (cwV 2 (sw_ts X) (sw_goodV gw2_35 gw2_36 gw2_37 gw1_1 gw2_38) rfl rfl rfl (by decide +kernel) ⟨Nat.le_of_ble_eq_true rfl, Nat.le_of_ble_eq_true rfl⟩) ⟨hC.1.1.1.1, hC.1.1.1.2.2⟩ (by decide) rfl rfl dL_addGate_5 rfl rfl (Nat.le_of_ble_eq_true rfl) ⟨Nat.le_of_ble_eq_true rfl, Nat.le_of_ble_eq_true rfl⟩ (fun E w9 hx => ?_) (fun z w9 hp => ?_)
  · obtain ⟨rfl, hx⟩ := hx
    rcases hx with ⟨rfl, hK⟩ | ⟨rfl, hK⟩ | ⟨rfl, hK⟩
    · refine sw_catch X htb (hh := [(0, 10, 13, 24), (0, 10, 17, 13), (0, 10, 21, 15)]) [] ⟨0, 10, 13, 24⟩ [⟨0, 10, 17, 13⟩, ⟨0, 10, 21, 15⟩] rfl (List.mem_of_getElem? (i := 0) rfl) (fun z hz => absurd hz List.not_mem_nil) rfl (by decide) gw2_34 (fun q9 => ?_)
      refine sw_astore (lv' := [(4, .ref q9), (0, .ref (q 0)), (1, .int (J a)), (2, .int (J b)), (3, .ref o)]) X dL_addGate_13 (by decide) rfl ?_
      refine sw_iconst X dL_addGate_15 ?_
      exact RI _ _ _ _ _ _ dL_addGate_16 (Nat.le_of_ble_eq_true rfl) (Nat.le_of_ble_eq_true rfl) (Or.inr ⟨by omega, by omega, rfl⟩)
    · refine sw_catch X htb (hh := [(0, 10, 13, 24), (0, 10, 17, 13), (0, 10, 21, 15)]) [⟨0, 10, 13, 24⟩] ⟨0, 10, 17, 13⟩ [⟨0, 10, 21, 15⟩] rfl (List.mem_of_getElem? (i := 1) rfl) (fun z hz => by simp only [List.mem_cons, List.not_mem_nil, or_false] at hz; rcases hz with rfl <;> exact ⟨by decide, "java/lang/IndexOutOfBoundsException", gw2_34, (List.mem_of_getElem? (i := 0) rfl), by decide⟩) rfl (by decide) gw1_96 (fun q9 => ?_)
      refine sw_astore (lv' := [(4, .ref q9), (0, .ref (q 0)), (1, .int (J a)), (2, .int (J b)), (3, .ref o)]) X dL_addGate_17 (by decide) rfl ?_
      refine sw_iconst X dL_addGate_19 ?_
      exact RI _ _ _ _ _ _ dL_addGate_20 (Nat.le_of_ble_eq_true rfl) (Nat.le_of_ble_eq_true rfl) (Or.inr ⟨by omega, by omega, rfl⟩)
    · refine sw_catch X htb (hh := [(0, 10, 13, 24), (0, 10, 17, 13), (0, 10, 21, 15)]) [⟨0, 10, 13, 24⟩, ⟨0, 10, 17, 13⟩] ⟨0, 10, 21, 15⟩ [] rfl (List.mem_of_getElem? (i := 2) rfl) (fun z hz => by simp only [List.mem_cons, List.not_mem_nil, or_false] at hz; rcases hz with rfl | rfl; exact ⟨by decide, "java/lang/IndexOutOfBoundsException", gw2_34, (List.mem_of_getElem? (i := 0) rfl), by decide⟩; exact ⟨by decide, "java/lang/IllegalArgumentException", gw1_96, (List.mem_of_getElem? (i := 1) rfl), by decide⟩) rfl (by decide) gw1_97 (fun q9 => ?_)
      refine sw_astore (lv' := [(4, .ref q9), (0, .ref (q 0)), (1, .int (J a)), (2, .int (J b)), (3, .ref o)]) X dL_addGate_21 (by decide) rfl ?_
      refine sw_iconst X dL_addGate_23 ?_
      exact RI _ _ _ _ _ _ dL_addGate_24 (Nat.le_of_ble_eq_true rfl) (Nat.le_of_ble_eq_true rfl) (Or.inr ⟨by omega, by omega, rfl⟩)
  · obtain ⟨hK, rfl, q', L', M', rfl, hq0, hC'⟩ := hp
    refine sw_i2l X dL_addGate_8 ?_
    refine sw_last (q0 := 0) (w' := [(o, oE k (vp_updL f 0 (J (st 5 0)).toInt64))] ++ pW k L' M') X rfl rfl dL_addGate_9 ?_
    refine sw_goto (tgt := 25) X dL_addGate_10 (by decide) ?_
    refine sw_iconst X dL_addGate_25 ?_
    exact RI _ _ _ _ _ _ dL_addGate_26 (Nat.le_of_ble_eq_true rfl) (Nat.le_of_ble_eq_true rfl) (Or.inl ⟨hK, rfl, _, q', L', M', rfl, rfl, hq0, hC'⟩)
abbrev rm_L_bring : Room := { frames := 8, cells := 3, slots := 16, locals := 125 }
set_option maxHeartbeats 4000000 in
set_option maxRecDepth 100000 in
theorem c_L_bring (l : Launch) (hfl : l.stackTraces = false) (D : va_G) (k : Nat → ClassId) (N : Int) (st : ST) (q : Int → Nat) (L : List Nat) (M : MM) (o : Nat) (f : Nat → Int64) (a b : Int) (hI : I6 N st) (hC : CW st q L M) (h_a : (-2147483648 ≤ a ∧ a < 2147483648)) (h_b : (-2147483648 ≤ b ∧ b < 2147483648)) : HI l yL_bring cL_bring 5 [(0, 10, 13, 24), (0, 10, 17, 15)] rm_L_bring D k [.ref (q 0), .int (J a), .int (J b), .ref o] ([(o, oE k f)] ++ pW k L M) (hP k o f L M q (sBring st a b) (kBring st a b) ((J (st 17 0)).toInt64)) := by
  refine HI.of (by decide +kernel) (Nat.le_of_ble_eq_true rfl) (fun pᵢ eᵢ sᵢ mᵢ argsᵢ belowᵢ methᵢ cᵢ Aᵢ Qᵢ X htb RI => ?_)
  show SW pᵢ l eᵢ rm_L_bring sᵢ mᵢ argsᵢ belowᵢ methᵢ cᵢ 5 D Aᵢ 0 0 Qᵢ ([(o, oE k f)] ++ pW k L M) 0 [(0, .ref (q 0)), (1, .int (J a)), (2, .int (J b)), (3, .ref o)] []
  refine sw_aload_n X dL_bring_0 rfl 3 rfl ?_
  refine sw_iconst X dL_bring_1 ?_
  refine sw_aload_n X dL_bring_2 rfl 0 rfl ?_
  refine sw_iload_n X dL_bring_3 rfl 1 rfl ?_
  refine sw_iload_n X dL_bring_4 rfl 2 rfl ?_
  refine px_hVI (wr := [(o, oE k f)]) (C := RX5) (As := [.int (J a), .int (J b)]) (rest := [.int (J 0), .ref o]) X (c_X5_bring l hfl D k N st q L M a b hI hC h_a h_b) (cwV 2 (sw_ts X) (sw_goodV gw2_211 gw2_212 gw2_213 gw1_1 gw2_214) rfl rfl rfl (by decide +kernel) ⟨Nat.le_of_ble_eq_true rfl, Nat.le_of_ble_eq_true rfl⟩) ⟨hC.1.1.1.1, hC.1.1.1.2.2⟩ (by decide) rfl rfl dL_bring_5 rfl rfl (Nat.le_of_ble_eq_true rfl) ⟨Nat.le_of_ble_eq_true rfl, Nat.le_of_ble_eq_true rfl⟩ (fun E w9 hx => ?_) (fun z w9 hp => ?_)
  · obtain ⟨rfl, hx⟩ := hx
    rcases hx with ⟨rfl, hK⟩ | ⟨rfl, hK⟩
    · refine sw_catch X htb (hh := [(0, 10, 13, 24), (0, 10, 17, 15)]) [] ⟨0, 10, 13, 24⟩ [⟨0, 10, 17, 15⟩] rfl (List.mem_of_getElem? (i := 0) rfl) (fun z hz => absurd hz List.not_mem_nil) rfl (by decide) gw2_34 (fun q9 => ?_)
      refine sw_astore (lv' := [(4, .ref q9), (0, .ref (q 0)), (1, .int (J a)), (2, .int (J b)), (3, .ref o)]) X dL_bring_13 (by decide) rfl ?_
      refine sw_iconst X dL_bring_15 ?_
      exact RI _ _ _ _ _ _ dL_bring_16 (Nat.le_of_ble_eq_true rfl) (Nat.le_of_ble_eq_true rfl) (Or.inr ⟨by omega, by omega, rfl⟩)
    · refine sw_catch X htb (hh := [(0, 10, 13, 24), (0, 10, 17, 15)]) [⟨0, 10, 13, 24⟩] ⟨0, 10, 17, 15⟩ [] rfl (List.mem_of_getElem? (i := 2) rfl) (fun z hz => by simp only [List.mem_cons, List.not_mem_nil, or_false] at hz; rcases hz with rfl <;> exact ⟨by decide, "java/lang/IndexOutOfBoundsException", gw2_34, (List.mem_of_getElem? (i := 0) rfl), by decide⟩) rfl (by decide) gw1_97 (fun q9 => ?_)
      refine sw_astore (lv' := [(4, .ref q9), (0, .ref (q 0)), (1, .int (J a)), (2, .int (J b)), (3, .ref o)]) X dL_bring_17 (by decide) rfl ?_
      refine sw_iconst X dL_bring_19 ?_
      exact RI _ _ _ _ _ _ dL_bring_20 (Nat.le_of_ble_eq_true rfl) (Nat.le_of_ble_eq_true rfl) (Or.inr ⟨by omega, by omega, rfl⟩)
  · obtain ⟨hK, rfl, q', L', M', rfl, hq0, hC'⟩ := hp
    refine sw_i2l X dL_bring_8 ?_
    refine sw_last (q0 := 0) (w' := [(o, oE k (vp_updL f 0 (J (st 17 0)).toInt64))] ++ pW k L' M') X rfl rfl dL_bring_9 ?_
    refine sw_goto (tgt := 21) X dL_bring_10 (by decide) ?_
    refine sw_iconst X dL_bring_21 ?_
    exact RI _ _ _ _ _ _ dL_bring_22 (Nat.le_of_ble_eq_true rfl) (Nat.le_of_ble_eq_true rfl) (Or.inl ⟨hK, rfl, _, q', L', M', rfl, rfl, hq0, hC'⟩)
abbrev rm_L_enter : Room := { frames := 8, cells := 5, slots := 85, locals := 123 }
set_option maxHeartbeats 4000000 in
set_option maxRecDepth 100000 in
theorem c_L_enter (l : Launch) (hfl : l.stackTraces = false) (D : va_G) (k : Nat → ClassId) (N : Int) (st : ST) (q : Int → Nat) (L : List Nat) (M : MM) (o : Nat) (f : Nat → Int64) (hI : I6 N st) (hC : CW st q L M)  : HI l yL_enter cL_enter 3 [(0, 8, 11, 15)] rm_L_enter D k [.ref (q 0), .ref o] ([(o, oE k f)] ++ pW k L M) (hP k o f L M q (up2 st 9 0 (st 9 0 + 1)) (kEnter st) ((J (st 9 0)).toInt64)) := by
  refine HI.of (by decide +kernel) (Nat.le_of_ble_eq_true rfl) (fun pᵢ eᵢ sᵢ mᵢ argsᵢ belowᵢ methᵢ cᵢ Aᵢ Qᵢ X htb RI => ?_)
  show SW pᵢ l eᵢ rm_L_enter sᵢ mᵢ argsᵢ belowᵢ methᵢ cᵢ 3 D Aᵢ 0 0 Qᵢ ([(o, oE k f)] ++ pW k L M) 0 [(0, .ref (q 0)), (1, .ref o)] []
  refine sw_aload_n X dL_enter_0 rfl 1 rfl ?_
  refine sw_iconst X dL_enter_1 ?_
  refine sw_aload_n X dL_enter_2 rfl 0 rfl ?_
  refine px_hVI (wr := [(o, oE k f)]) (C := RX5) (As := []) (rest := [.int (J 0), .ref o]) X (c_X5_enter l hfl D k N st q L M  hI hC) (cwV 0 (sw_ts X) (sw_goodV gw2_102 gw2_103 gw2_104 gw1_1 gw2_105) rfl rfl rfl (by decide +kernel) ⟨Nat.le_of_ble_eq_true rfl, Nat.le_of_ble_eq_true rfl⟩) ⟨hC.1.1.1.1, hC.1.1.1.2.2⟩ (by decide) rfl rfl dL_enter_3 rfl rfl (Nat.le_of_ble_eq_true rfl) ⟨Nat.le_of_ble_eq_true rfl, Nat.le_of_ble_eq_true rfl⟩ (fun E w9 hx => ?_) (fun z w9 hp => ?_)
  · obtain ⟨rfl, hx⟩ := hx
    obtain ⟨rfl, hK⟩ := hx
    refine sw_catch X htb (hh := [(0, 8, 11, 15)]) [] ⟨0, 8, 11, 15⟩ [] rfl (List.mem_of_getElem? (i := 2) rfl) (fun z hz => absurd hz List.not_mem_nil) rfl (by decide) gw1_97 (fun q9 => ?_)
    refine sw_astore_n (lv' := [(2, .ref q9), (0, .ref (q 0)), (1, .ref o)]) X dL_enter_11 rfl (by decide) rfl ?_
    refine sw_iconst X dL_enter_12 ?_
    exact RI _ _ _ _ _ _ dL_enter_13 (Nat.le_of_ble_eq_true rfl) (Nat.le_of_ble_eq_true rfl) (Or.inr ⟨by omega, by omega, rfl⟩)
  · obtain ⟨hK, rfl, q', L', M', rfl, hq0, hC'⟩ := hp
    refine sw_i2l X dL_enter_6 ?_
    refine sw_last (q0 := 0) (w' := [(o, oE k (vp_updL f 0 (J (st 9 0)).toInt64))] ++ pW k L' M') X rfl rfl dL_enter_7 ?_
    refine sw_goto (tgt := 14) X dL_enter_8 (by decide) ?_
    refine sw_iconst X dL_enter_14 ?_
    exact RI _ _ _ _ _ _ dL_enter_15 (Nat.le_of_ble_eq_true rfl) (Nat.le_of_ble_eq_true rfl) (Or.inl ⟨hK, rfl, _, q', L', M', rfl, rfl, hq0, hC'⟩)
abbrev rm_L_breakDown : Room := { frames := 8, cells := 3, slots := 18, locals := 127 }
set_option maxHeartbeats 4000000 in
set_option maxRecDepth 100000 in
theorem c_L_breakDown (l : Launch) (hfl : l.stackTraces = false) (D : va_G) (k : Nat → ClassId) (N : Int) (st : ST) (q : Int → Nat) (L : List Nat) (M : MM) (o : Nat) (f : Nat → Int64) (c a : Int) (hI : I6 N st) (hC : CW st q L M) (h_c : (-2147483648 ≤ c ∧ c < 2147483648)) (h_a : (-2147483648 ≤ a ∧ a < 2147483648)) : HI l yL_breakDown cL_breakDown 4 [(0, 6, 9, 24), (0, 6, 12, 15)] rm_L_breakDown D k [.ref (q 0), .int (J c), .int (J a)] ([(o, oE k f)] ++ pW k L M) (hP k o f L M q (up2 st 14 c a) (kBreak st c a) (f 0)) := by
  refine HI.of (by decide +kernel) (Nat.le_of_ble_eq_true rfl) (fun pᵢ eᵢ sᵢ mᵢ argsᵢ belowᵢ methᵢ cᵢ Aᵢ Qᵢ X htb RI => ?_)
  show SW pᵢ l eᵢ rm_L_breakDown sᵢ mᵢ argsᵢ belowᵢ methᵢ cᵢ 4 D Aᵢ 0 0 Qᵢ ([(o, oE k f)] ++ pW k L M) 0 [(0, .ref (q 0)), (1, .int (J c)), (2, .int (J a))] []
  refine sw_aload_n X dL_breakDown_0 rfl 0 rfl ?_
  refine sw_iload_n X dL_breakDown_1 rfl 1 rfl ?_
  refine sw_iload_n X dL_breakDown_2 rfl 2 rfl ?_
  refine px_hVV (wr := [(o, oE k f)]) (C := RX5) (As := [.int (J c), .int (J a)]) (rest := []) X (c_X5_breakDown l hfl D k N st q L M c a hI hC h_c h_a) (cwV 2 (sw_ts X) (sw_goodV gw2_163 gw2_164 gw2_165 gw1_1 gw2_166) rfl rfl rfl (by decide +kernel) ⟨Nat.le_of_ble_eq_true rfl, Nat.le_of_ble_eq_true rfl⟩) ⟨hC.1.1.1.1, hC.1.1.1.2.2⟩ (by decide) rfl rfl dL_breakDown_3 rfl rfl (Nat.le_of_ble_eq_true rfl) ⟨Nat.le_of_ble_eq_true rfl, Nat.le_of_ble_eq_true rfl⟩ (fun E w9 hx => ?_) (fun w9 hp => ?_)
  · obtain ⟨rfl, hx⟩ := hx
    rcases hx with ⟨rfl, hK⟩ | ⟨rfl, hK⟩
    · refine sw_catch X htb (hh := [(0, 6, 9, 24), (0, 6, 12, 15)]) [] ⟨0, 6, 9, 24⟩ [⟨0, 6, 12, 15⟩] rfl (List.mem_of_getElem? (i := 0) rfl) (fun z hz => absurd hz List.not_mem_nil) rfl (by decide) gw2_34 (fun q9 => ?_)
      refine sw_astore_n (lv' := [(3, .ref q9), (0, .ref (q 0)), (1, .int (J c)), (2, .int (J a))]) X dL_breakDown_9 rfl (by decide) rfl ?_
      refine sw_iconst X dL_breakDown_10 ?_
      exact RI _ _ _ _ _ _ dL_breakDown_11 (Nat.le_of_ble_eq_true rfl) (Nat.le_of_ble_eq_true rfl) (Or.inr ⟨by omega, by omega, rfl⟩)
    · refine sw_catch X htb (hh := [(0, 6, 9, 24), (0, 6, 12, 15)]) [⟨0, 6, 9, 24⟩] ⟨0, 6, 12, 15⟩ [] rfl (List.mem_of_getElem? (i := 2) rfl) (fun z hz => by simp only [List.mem_cons, List.not_mem_nil, or_false] at hz; rcases hz with rfl <;> exact ⟨by decide, "java/lang/IndexOutOfBoundsException", gw2_34, (List.mem_of_getElem? (i := 0) rfl), by decide⟩) rfl (by decide) gw1_97 (fun q9 => ?_)
      refine sw_astore_n (lv' := [(3, .ref q9), (0, .ref (q 0)), (1, .int (J c)), (2, .int (J a))]) X dL_breakDown_12 rfl (by decide) rfl ?_
      refine sw_iconst X dL_breakDown_13 ?_
      exact RI _ _ _ _ _ _ dL_breakDown_14 (Nat.le_of_ble_eq_true rfl) (Nat.le_of_ble_eq_true rfl) (Or.inr ⟨by omega, by omega, rfl⟩)
  · obtain ⟨hK, -, q', L', M', rfl, hq0, hC'⟩ := hp
    refine sw_goto (tgt := 15) X dL_breakDown_6 (by decide) ?_
    refine sw_iconst X dL_breakDown_15 ?_
    exact RI _ _ _ _ _ _ dL_breakDown_16 (Nat.le_of_ble_eq_true rfl) (Nat.le_of_ble_eq_true rfl) (Or.inl ⟨hK, rfl, _, q', L', M', rfl, rfl, hq0, hC'⟩)
abbrev rm_L_hand : Room := { frames := 8, cells := 3, slots := 18, locals := 128 }
set_option maxHeartbeats 4000000 in
set_option maxRecDepth 100000 in
theorem c_L_hand (l : Launch) (hfl : l.stackTraces = false) (D : va_G) (k : Nat → ClassId) (N : Int) (st : ST) (q : Int → Nat) (L : List Nat) (M : MM) (o : Nat) (f : Nat → Int64) (a b : Int) (hI : I6 N st) (hC : CW st q L M) (h_a : (-2147483648 ≤ a ∧ a < 2147483648)) (h_b : (-2147483648 ≤ b ∧ b < 2147483648)) : HI l yL_hand cL_hand 5 [(0, 10, 13, 24), (0, 10, 17, 15)] rm_L_hand D k [.ref (q 0), .int (J a), .int (J b), .ref o] ([(o, oE k f)] ++ pW k L M) (hP k o f L M q (up2 st 20 a b) (kHand st a b) ((J (st 20 a)).toInt64)) := by
  refine HI.of (by decide +kernel) (Nat.le_of_ble_eq_true rfl) (fun pᵢ eᵢ sᵢ mᵢ argsᵢ belowᵢ methᵢ cᵢ Aᵢ Qᵢ X htb RI => ?_)
  show SW pᵢ l eᵢ rm_L_hand sᵢ mᵢ argsᵢ belowᵢ methᵢ cᵢ 5 D Aᵢ 0 0 Qᵢ ([(o, oE k f)] ++ pW k L M) 0 [(0, .ref (q 0)), (1, .int (J a)), (2, .int (J b)), (3, .ref o)] []
  refine sw_aload_n X dL_hand_0 rfl 3 rfl ?_
  refine sw_iconst X dL_hand_1 ?_
  refine sw_aload_n X dL_hand_2 rfl 0 rfl ?_
  refine sw_iload_n X dL_hand_3 rfl 1 rfl ?_
  refine sw_iload_n X dL_hand_4 rfl 2 rfl ?_
  refine px_hVI (wr := [(o, oE k f)]) (C := RX5) (As := [.int (J a), .int (J b)]) (rest := [.int (J 0), .ref o]) X (c_X5_hand l hfl D k N st q L M a b hI hC h_a h_b) (cwV 2 (sw_ts X) (sw_goodV gw3_2 gw3_3 gw3_4 gw1_1 gw3_5) rfl rfl rfl (by decide +kernel) ⟨Nat.le_of_ble_eq_true rfl, Nat.le_of_ble_eq_true rfl⟩) ⟨hC.1.1.1.1, hC.1.1.1.2.2⟩ (by decide) rfl rfl dL_hand_5 rfl rfl (Nat.le_of_ble_eq_true rfl) ⟨Nat.le_of_ble_eq_true rfl, Nat.le_of_ble_eq_true rfl⟩ (fun E w9 hx => ?_) (fun z w9 hp => ?_)
  · obtain ⟨rfl, hx⟩ := hx
    rcases hx with ⟨rfl, hK⟩ | ⟨rfl, hK⟩
    · refine sw_catch X htb (hh := [(0, 10, 13, 24), (0, 10, 17, 15)]) [] ⟨0, 10, 13, 24⟩ [⟨0, 10, 17, 15⟩] rfl (List.mem_of_getElem? (i := 0) rfl) (fun z hz => absurd hz List.not_mem_nil) rfl (by decide) gw2_34 (fun q9 => ?_)
      refine sw_astore (lv' := [(4, .ref q9), (0, .ref (q 0)), (1, .int (J a)), (2, .int (J b)), (3, .ref o)]) X dL_hand_13 (by decide) rfl ?_
      refine sw_iconst X dL_hand_15 ?_
      exact RI _ _ _ _ _ _ dL_hand_16 (Nat.le_of_ble_eq_true rfl) (Nat.le_of_ble_eq_true rfl) (Or.inr ⟨by omega, by omega, rfl⟩)
    · refine sw_catch X htb (hh := [(0, 10, 13, 24), (0, 10, 17, 15)]) [⟨0, 10, 13, 24⟩] ⟨0, 10, 17, 15⟩ [] rfl (List.mem_of_getElem? (i := 2) rfl) (fun z hz => by simp only [List.mem_cons, List.not_mem_nil, or_false] at hz; rcases hz with rfl <;> exact ⟨by decide, "java/lang/IndexOutOfBoundsException", gw2_34, (List.mem_of_getElem? (i := 0) rfl), by decide⟩) rfl (by decide) gw1_97 (fun q9 => ?_)
      refine sw_astore (lv' := [(4, .ref q9), (0, .ref (q 0)), (1, .int (J a)), (2, .int (J b)), (3, .ref o)]) X dL_hand_17 (by decide) rfl ?_
      refine sw_iconst X dL_hand_19 ?_
      exact RI _ _ _ _ _ _ dL_hand_20 (Nat.le_of_ble_eq_true rfl) (Nat.le_of_ble_eq_true rfl) (Or.inr ⟨by omega, by omega, rfl⟩)
  · obtain ⟨hK, rfl, q', L', M', rfl, hq0, hC'⟩ := hp
    refine sw_i2l X dL_hand_8 ?_
    refine sw_last (q0 := 0) (w' := [(o, oE k (vp_updL f 0 (J (st 20 a)).toInt64))] ++ pW k L' M') X rfl rfl dL_hand_9 ?_
    refine sw_goto (tgt := 21) X dL_hand_10 (by decide) ?_
    refine sw_iconst X dL_hand_21 ?_
    exact RI _ _ _ _ _ _ dL_hand_22 (Nat.le_of_ble_eq_true rfl) (Nat.le_of_ble_eq_true rfl) (Or.inl ⟨hK, rfl, _, q', L', M', rfl, rfl, hq0, hC'⟩)
abbrev rm_L_record : Room := { frames := 9, cells := 3, slots := 18, locals := 148 }
set_option maxHeartbeats 4000000 in
set_option maxRecDepth 100000 in
theorem c_L_record (l : Launch) (hfl : l.stackTraces = false) (D : va_G) (k : Nat → ClassId) (N : Int) (st : ST) (q : Int → Nat) (L : List Nat) (M : MM) (o : Nat) (f : Nat → Int64) (c b a : Int) (hI : I6 N st) (hC : CW st q L M) (h_c : (-2147483648 ≤ c ∧ c < 2147483648)) (h_b : (-2147483648 ≤ b ∧ b < 2147483648)) (h_a : (-2147483648 ≤ a ∧ a < 2147483648)) : HI l yL_record cL_record 6 [(0, 12, 15, 24), (0, 12, 19, 13)] rm_L_record D k [.ref (q 0), .int (J c), .int (J b), .int (J a), .ref o] ([(o, oE k f)] ++ pW k L M) (hP k o f L M q (up2 st 16 (10 * c + b) a) (kRecord st c b a) ((J (tim st c b)).toInt64)) := by
  refine HI.of (by decide +kernel) (Nat.le_of_ble_eq_true rfl) (fun pᵢ eᵢ sᵢ mᵢ argsᵢ belowᵢ methᵢ cᵢ Aᵢ Qᵢ X htb RI => ?_)
  show SW pᵢ l eᵢ rm_L_record sᵢ mᵢ argsᵢ belowᵢ methᵢ cᵢ 6 D Aᵢ 0 0 Qᵢ ([(o, oE k f)] ++ pW k L M) 0 [(0, .ref (q 0)), (1, .int (J c)), (2, .int (J b)), (3, .int (J a)), (4, .ref o)] []
  refine sw_aload X dL_record_0 4 rfl ?_
  refine sw_iconst X dL_record_2 ?_
  refine sw_aload_n X dL_record_3 rfl 0 rfl ?_
  refine sw_iload_n X dL_record_4 rfl 1 rfl ?_
  refine sw_iload_n X dL_record_5 rfl 2 rfl ?_
  refine sw_iload_n X dL_record_6 rfl 3 rfl ?_
  refine px_hVI (wr := [(o, oE k f)]) (C := RX5) (As := [.int (J c), .int (J b), .int (J a)]) (rest := [.int (J 0), .ref o]) X (c_X5_record l hfl D k N st q L M c b a hI hC h_c h_b h_a) (cwV 3 (sw_ts X) (sw_goodV gw3_13 gw3_14 gw3_15 gw1_1 gw3_16) rfl rfl rfl (by decide +kernel) ⟨Nat.le_of_ble_eq_true rfl, Nat.le_of_ble_eq_true rfl⟩) ⟨hC.1.1.1.1, hC.1.1.1.2.2⟩ (by decide) rfl rfl dL_record_7 rfl rfl (Nat.le_of_ble_eq_true rfl) ⟨Nat.le_of_ble_eq_true rfl, Nat.le_of_ble_eq_true rfl⟩ (fun E w9 hx => ?_) (fun z w9 hp => ?_)
  · obtain ⟨rfl, hx⟩ := hx
    rcases hx with ⟨rfl, hK⟩ | ⟨rfl, hK⟩
    · refine sw_catch X htb (hh := [(0, 12, 15, 24), (0, 12, 19, 13)]) [] ⟨0, 12, 15, 24⟩ [⟨0, 12, 19, 13⟩] rfl (List.mem_of_getElem? (i := 0) rfl) (fun z hz => absurd hz List.not_mem_nil) rfl (by decide) gw2_34 (fun q9 => ?_)
      refine sw_astore (lv' := [(5, .ref q9), (0, .ref (q 0)), (1, .int (J c)), (2, .int (J b)), (3, .int (J a)), (4, .ref o)]) X dL_record_15 (by decide) rfl ?_
      refine sw_iconst X dL_record_17 ?_
      exact RI _ _ _ _ _ _ dL_record_18 (Nat.le_of_ble_eq_true rfl) (Nat.le_of_ble_eq_true rfl) (Or.inr ⟨by omega, by omega, rfl⟩)
    · refine sw_catch X htb (hh := [(0, 12, 15, 24), (0, 12, 19, 13)]) [⟨0, 12, 15, 24⟩] ⟨0, 12, 19, 13⟩ [] rfl (List.mem_of_getElem? (i := 1) rfl) (fun z hz => by simp only [List.mem_cons, List.not_mem_nil, or_false] at hz; rcases hz with rfl <;> exact ⟨by decide, "java/lang/IndexOutOfBoundsException", gw2_34, (List.mem_of_getElem? (i := 0) rfl), by decide⟩) rfl (by decide) gw1_96 (fun q9 => ?_)
      refine sw_astore (lv' := [(5, .ref q9), (0, .ref (q 0)), (1, .int (J c)), (2, .int (J b)), (3, .int (J a)), (4, .ref o)]) X dL_record_19 (by decide) rfl ?_
      refine sw_iconst X dL_record_21 ?_
      exact RI _ _ _ _ _ _ dL_record_22 (Nat.le_of_ble_eq_true rfl) (Nat.le_of_ble_eq_true rfl) (Or.inr ⟨by omega, by omega, rfl⟩)
  · obtain ⟨hK, rfl, q', L', M', rfl, hq0, hC'⟩ := hp
    refine sw_i2l X dL_record_10 ?_
    refine sw_last (q0 := 0) (w' := [(o, oE k (vp_updL f 0 (J (tim st c b)).toInt64))] ++ pW k L' M') X rfl rfl dL_record_11 ?_
    refine sw_goto (tgt := 23) X dL_record_12 (by decide) ?_
    refine sw_iconst X dL_record_23 ?_
    exact RI _ _ _ _ _ _ dL_record_24 (Nat.le_of_ble_eq_true rfl) (Nat.le_of_ble_eq_true rfl) (Or.inl ⟨hK, rfl, _, q', L', M', rfl, rfl, hq0, hC'⟩)
abbrev rm_L_appeal : Room := { frames := 9, cells := 3, slots := 18, locals := 147 }
set_option maxHeartbeats 4000000 in
set_option maxRecDepth 100000 in
theorem c_L_appeal (l : Launch) (hfl : l.stackTraces = false) (D : va_G) (k : Nat → ClassId) (N : Int) (st : ST) (q : Int → Nat) (L : List Nat) (M : MM) (o : Nat) (f : Nat → Int64) (c b : Int) (hI : I6 N st) (hC : CW st q L M) (h_c : (-2147483648 ≤ c ∧ c < 2147483648)) (h_b : (-2147483648 ≤ b ∧ b < 2147483648)) : HI l yL_appeal cL_appeal 5 [(0, 17, 20, 24), (0, 17, 24, 15)] rm_L_appeal D k [.ref (q 0), .int (J c), .int (J b), .ref o] ([(o, oE k f)] ++ pW k L M) (hP k o f L M q (sAppeal st c b) (kAppeal st c b) (if vAppeal st c b = 0 then 0 else 1)) := by
  refine HI.of (by decide +kernel) (Nat.le_of_ble_eq_true rfl) (fun pᵢ eᵢ sᵢ mᵢ argsᵢ belowᵢ methᵢ cᵢ Aᵢ Qᵢ X htb RI => ?_)
  show SW pᵢ l eᵢ rm_L_appeal sᵢ mᵢ argsᵢ belowᵢ methᵢ cᵢ 5 D Aᵢ 0 0 Qᵢ ([(o, oE k f)] ++ pW k L M) 0 [(0, .ref (q 0)), (1, .int (J c)), (2, .int (J b)), (3, .ref o)] []
  refine sw_aload_n X dL_appeal_0 rfl 3 rfl ?_
  refine sw_iconst X dL_appeal_1 ?_
  refine sw_aload_n X dL_appeal_2 rfl 0 rfl ?_
  refine sw_iload_n X dL_appeal_3 rfl 1 rfl ?_
  refine sw_iload_n X dL_appeal_4 rfl 2 rfl ?_
  refine px_hVI (wr := [(o, oE k f)]) (C := RX5) (As := [.int (J c), .int (J b)]) (rest := [.int (J 0), .ref o]) X (c_X5_appeal l hfl D k N st q L M c b hI hC h_c h_b) (cwV 2 (sw_ts X) (sw_goodV gw3_60 gw3_61 gw3_62 gw1_1 gw3_63) rfl rfl rfl (by decide +kernel) ⟨Nat.le_of_ble_eq_true rfl, Nat.le_of_ble_eq_true rfl⟩) ⟨hC.1.1.1.1, hC.1.1.1.2.2⟩ (by decide) rfl rfl dL_appeal_5 rfl rfl (Nat.le_of_ble_eq_true rfl) ⟨Nat.le_of_ble_eq_true rfl, Nat.le_of_ble_eq_true rfl⟩ (fun E w9 hx => ?_) (fun z w9 hp => ?_)
  · obtain ⟨rfl, hx⟩ := hx
    rcases hx with ⟨rfl, hK⟩ | ⟨rfl, hK⟩
    · refine sw_catch X htb (hh := [(0, 17, 20, 24), (0, 17, 24, 15)]) [] ⟨0, 17, 20, 24⟩ [⟨0, 17, 24, 15⟩] rfl (List.mem_of_getElem? (i := 0) rfl) (fun z hz => absurd hz List.not_mem_nil) rfl (by decide) gw2_34 (fun q9 => ?_)
      refine sw_astore (lv' := [(4, .ref q9), (0, .ref (q 0)), (1, .int (J c)), (2, .int (J b)), (3, .ref o)]) X dL_appeal_20 (by decide) rfl ?_
      refine sw_iconst X dL_appeal_22 ?_
      exact RI _ _ _ _ _ _ dL_appeal_23 (Nat.le_of_ble_eq_true rfl) (Nat.le_of_ble_eq_true rfl) (Or.inr ⟨by omega, by omega, rfl⟩)
    · refine sw_catch X htb (hh := [(0, 17, 20, 24), (0, 17, 24, 15)]) [⟨0, 17, 20, 24⟩] ⟨0, 17, 24, 15⟩ [] rfl (List.mem_of_getElem? (i := 2) rfl) (fun z hz => by simp only [List.mem_cons, List.not_mem_nil, or_false] at hz; rcases hz with rfl <;> exact ⟨by decide, "java/lang/IndexOutOfBoundsException", gw2_34, (List.mem_of_getElem? (i := 0) rfl), by decide⟩) rfl (by decide) gw1_97 (fun q9 => ?_)
      refine sw_astore (lv' := [(4, .ref q9), (0, .ref (q 0)), (1, .int (J c)), (2, .int (J b)), (3, .ref o)]) X dL_appeal_24 (by decide) rfl ?_
      refine sw_iconst X dL_appeal_26 ?_
      exact RI _ _ _ _ _ _ dL_appeal_27 (Nat.le_of_ble_eq_true rfl) (Nat.le_of_ble_eq_true rfl) (Or.inr ⟨by omega, by omega, rfl⟩)
  · obtain ⟨hK, rfl, q', L', M', rfl, hq0, hC'⟩ := hp
    refine sw_if_eq (tgt := 15) X (by unfold vAppeal; split <;> omega) dL_appeal_8 (by decide) (fun h1 => ?_) (fun h1 => ?_)
    · refine sw_lconst (v := 0) X dL_appeal_15 rfl ?_
      refine sw_last (q0 := 0) (w' := [(o, oE k (vp_updL f 0 0))] ++ pW k L' M') X rfl rfl dL_appeal_16 ?_
      refine sw_goto (tgt := 28) X dL_appeal_17 (by decide) ?_
      refine sw_iconst X dL_appeal_28 ?_
      exact RI _ _ _ _ _ _ dL_appeal_29 (Nat.le_of_ble_eq_true rfl) (Nat.le_of_ble_eq_true rfl) (Or.inl ⟨hK, rfl, _, q', L', M', rfl, (show (0 : Int64) = _ by rw [if_pos h1]), hq0, hC'⟩)
    · refine sw_lconst (v := 1) X dL_appeal_11 rfl ?_
      refine sw_goto (tgt := 16) X dL_appeal_12 (by decide) ?_
      refine sw_last (q0 := 0) (w' := [(o, oE k (vp_updL f 0 1))] ++ pW k L' M') X rfl rfl dL_appeal_16 ?_
      refine sw_goto (tgt := 28) X dL_appeal_17 (by decide) ?_
      refine sw_iconst X dL_appeal_28 ?_
      exact RI _ _ _ _ _ _ dL_appeal_29 (Nat.le_of_ble_eq_true rfl) (Nat.le_of_ble_eq_true rfl) (Or.inl ⟨hK, rfl, _, q', L', M', rfl, (show (1 : Int64) = _ by rw [if_neg h1]), hq0, hC'⟩)
abbrev rm_L_table : Room := { frames := 8, cells := 1, slots := 6, locals := 124 }
set_option maxHeartbeats 4000000 in
set_option maxRecDepth 100000 in
theorem c_L_table (l : Launch) (hfl : l.stackTraces = false) (D : va_G) (k : Nat → ClassId) (N : Int) (st : ST) (q : Int → Nat) (L : List Nat) (M : MM) (o : Nat) (f : Nat → Int64) (a : Int) (hI : I6 N st) (hC : CW st q L M) (h_a : (-2147483648 ≤ a ∧ a < 2147483648)) (hN : N ≤ 100000) : HI l yL_table cL_table 4 [(0, 9, 12, 24)] rm_L_table D k [.ref (q 0), .int (J a), .ref o] ([(o, oE k f)] ++ pW k L M) (hP k o f L M q (st) (kTab st a) ((J (tab st a)).toInt64)) := by
  refine HI.of (by decide +kernel) (Nat.le_of_ble_eq_true rfl) (fun pᵢ eᵢ sᵢ mᵢ argsᵢ belowᵢ methᵢ cᵢ Aᵢ Qᵢ X htb RI => ?_)
  show SW pᵢ l eᵢ rm_L_table sᵢ mᵢ argsᵢ belowᵢ methᵢ cᵢ 4 D Aᵢ 0 0 Qᵢ ([(o, oE k f)] ++ pW k L M) 0 [(0, .ref (q 0)), (1, .int (J a)), (2, .ref o)] []
  refine sw_aload_n X dL_table_0 rfl 2 rfl ?_
  refine sw_iconst X dL_table_1 ?_
  refine sw_aload_n X dL_table_2 rfl 0 rfl ?_
  refine sw_iload_n X dL_table_3 rfl 1 rfl ?_
  refine px_hVI (wr := [(o, oE k f)]) (C := RX5) (As := [.int (J a)]) (rest := [.int (J 0), .ref o]) X (c_X5_table l hfl D k N st q L M a hI hC h_a hN) (cwV 1 (sw_ts X) (sw_goodV gw3_169 gw3_170 gw3_171 gw1_1 gw3_172) rfl rfl rfl (by decide +kernel) ⟨Nat.le_of_ble_eq_true rfl, Nat.le_of_ble_eq_true rfl⟩) ⟨hC.1.1.1.1, hC.1.1.1.2.2⟩ (by decide) rfl rfl dL_table_4 rfl rfl (Nat.le_of_ble_eq_true rfl) ⟨Nat.le_of_ble_eq_true rfl, Nat.le_of_ble_eq_true rfl⟩ (fun E w9 hx => ?_) (fun z w9 hp => ?_)
  · obtain ⟨rfl, hx⟩ := hx
    obtain ⟨rfl, hK⟩ := hx
    refine sw_catch X htb (hh := [(0, 9, 12, 24)]) [] ⟨0, 9, 12, 24⟩ [] rfl (List.mem_of_getElem? (i := 0) rfl) (fun z hz => absurd hz List.not_mem_nil) rfl (by decide) gw2_34 (fun q9 => ?_)
    refine sw_astore_n (lv' := [(3, .ref q9), (0, .ref (q 0)), (1, .int (J a)), (2, .ref o)]) X dL_table_12 rfl (by decide) rfl ?_
    refine sw_iconst X dL_table_13 ?_
    exact RI _ _ _ _ _ _ dL_table_14 (Nat.le_of_ble_eq_true rfl) (Nat.le_of_ble_eq_true rfl) (Or.inr ⟨by omega, by omega, rfl⟩)
  · obtain ⟨hK, rfl, q', L', M', rfl, hq0, hC'⟩ := hp
    refine sw_i2l X dL_table_7 ?_
    refine sw_last (q0 := 0) (w' := [(o, oE k (vp_updL f 0 (J (tab st a)).toInt64))] ++ pW k L' M') X rfl rfl dL_table_8 ?_
    refine sw_goto (tgt := 15) X dL_table_9 (by decide) ?_
    refine sw_iconst X dL_table_15 ?_
    exact RI _ _ _ _ _ _ dL_table_16 (Nat.le_of_ble_eq_true rfl) (Nat.le_of_ble_eq_true rfl) (Or.inl ⟨hK, rfl, _, q', L', M', rfl, rfl, hq0, hC'⟩)
abbrev rm_L_mend : Room := { frames := 8, cells := 3, slots := 18, locals := 127 }
set_option maxHeartbeats 4000000 in
set_option maxRecDepth 100000 in
theorem c_L_mend (l : Launch) (hfl : l.stackTraces = false) (D : va_G) (k : Nat → ClassId) (N : Int) (st : ST) (q : Int → Nat) (L : List Nat) (M : MM) (o : Nat) (f : Nat → Int64) (c : Int) (hI : I6 N st) (hC : CW st q L M) (h_c : (-2147483648 ≤ c ∧ c < 2147483648)) : HI l yL_mend cL_mend 4 [(0, 9, 12, 24), (0, 9, 15, 15), (0, 9, 18, 47)] rm_L_mend D k [.ref (q 0), .int (J c), .ref o] ([(o, oE k f)] ++ pW k L M) (hP k o f L M q (sMend st c) (kMend st c) ((J (fPt st c (st 14 c))).toInt64)) := by
  refine HI.of (by decide +kernel) (Nat.le_of_ble_eq_true rfl) (fun pᵢ eᵢ sᵢ mᵢ argsᵢ belowᵢ methᵢ cᵢ Aᵢ Qᵢ X htb RI => ?_)
  show SW pᵢ l eᵢ rm_L_mend sᵢ mᵢ argsᵢ belowᵢ methᵢ cᵢ 4 D Aᵢ 0 0 Qᵢ ([(o, oE k f)] ++ pW k L M) 0 [(0, .ref (q 0)), (1, .int (J c)), (2, .ref o)] []
  refine sw_aload_n X dL_mend_0 rfl 2 rfl ?_
  refine sw_iconst X dL_mend_1 ?_
  refine sw_aload_n X dL_mend_2 rfl 0 rfl ?_
  refine sw_iload_n X dL_mend_3 rfl 1 rfl ?_
  refine px_hVI (wr := [(o, oE k f)]) (C := RX5) (As := [.int (J c)]) (rest := [.int (J 0), .ref o]) X (c_X5_mend l hfl D k N st q L M c hI hC h_c) (cwV 1 (sw_ts X) (sw_goodV gw2_175 gw2_176 gw2_177 gw1_1 gw2_178) rfl rfl rfl (by decide +kernel) ⟨Nat.le_of_ble_eq_true rfl, Nat.le_of_ble_eq_true rfl⟩) ⟨hC.1.1.1.1, hC.1.1.1.2.2⟩ (by decide) rfl rfl dL_mend_4 rfl rfl (Nat.le_of_ble_eq_true rfl) ⟨Nat.le_of_ble_eq_true rfl, Nat.le_of_ble_eq_true rfl⟩ (fun E w9 hx => ?_) (fun z w9 hp => ?_)
  · obtain ⟨rfl, hx⟩ := hx
    rcases hx with ⟨rfl, hK⟩ | ⟨rfl, hK⟩ | ⟨rfl, hK⟩
    · refine sw_catch X htb (hh := [(0, 9, 12, 24), (0, 9, 15, 15), (0, 9, 18, 47)]) [] ⟨0, 9, 12, 24⟩ [⟨0, 9, 15, 15⟩, ⟨0, 9, 18, 47⟩] rfl (List.mem_of_getElem? (i := 0) rfl) (fun z hz => absurd hz List.not_mem_nil) rfl (by decide) gw2_34 (fun q9 => ?_)
      refine sw_astore_n (lv' := [(3, .ref q9), (0, .ref (q 0)), (1, .int (J c)), (2, .ref o)]) X dL_mend_12 rfl (by decide) rfl ?_
      refine sw_iconst X dL_mend_13 ?_
      exact RI _ _ _ _ _ _ dL_mend_14 (Nat.le_of_ble_eq_true rfl) (Nat.le_of_ble_eq_true rfl) (Or.inr ⟨by omega, by omega, rfl⟩)
    · refine sw_catch X htb (hh := [(0, 9, 12, 24), (0, 9, 15, 15), (0, 9, 18, 47)]) [⟨0, 9, 12, 24⟩] ⟨0, 9, 15, 15⟩ [⟨0, 9, 18, 47⟩] rfl (List.mem_of_getElem? (i := 2) rfl) (fun z hz => by simp only [List.mem_cons, List.not_mem_nil, or_false] at hz; rcases hz with rfl <;> exact ⟨by decide, "java/lang/IndexOutOfBoundsException", gw2_34, (List.mem_of_getElem? (i := 0) rfl), by decide⟩) rfl (by decide) gw1_97 (fun q9 => ?_)
      refine sw_astore_n (lv' := [(3, .ref q9), (0, .ref (q 0)), (1, .int (J c)), (2, .ref o)]) X dL_mend_15 rfl (by decide) rfl ?_
      refine sw_iconst X dL_mend_16 ?_
      exact RI _ _ _ _ _ _ dL_mend_17 (Nat.le_of_ble_eq_true rfl) (Nat.le_of_ble_eq_true rfl) (Or.inr ⟨by omega, by omega, rfl⟩)
    · refine sw_catch X htb (hh := [(0, 9, 12, 24), (0, 9, 15, 15), (0, 9, 18, 47)]) [⟨0, 9, 12, 24⟩, ⟨0, 9, 15, 15⟩] ⟨0, 9, 18, 47⟩ [] rfl (List.mem_of_getElem? (i := 3) rfl) (fun z hz => by simp only [List.mem_cons, List.not_mem_nil, or_false] at hz; rcases hz with rfl | rfl; exact ⟨by decide, "java/lang/IndexOutOfBoundsException", gw2_34, (List.mem_of_getElem? (i := 0) rfl), by decide⟩; exact ⟨by decide, "java/lang/IllegalStateException", gw1_97, (List.mem_of_getElem? (i := 2) rfl), by decide⟩) rfl (by decide) gw2_174 (fun q9 => ?_)
      refine sw_astore_n (lv' := [(3, .ref q9), (0, .ref (q 0)), (1, .int (J c)), (2, .ref o)]) X dL_mend_18 rfl (by decide) rfl ?_
      refine sw_iconst X dL_mend_19 ?_
      exact RI _ _ _ _ _ _ dL_mend_20 (Nat.le_of_ble_eq_true rfl) (Nat.le_of_ble_eq_true rfl) (Or.inr ⟨by omega, by omega, rfl⟩)
  · obtain ⟨hK, rfl, q', L', M', rfl, hq0, hC'⟩ := hp
    refine sw_i2l X dL_mend_7 ?_
    refine sw_last (q0 := 0) (w' := [(o, oE k (vp_updL f 0 (J (fPt st c (st 14 c))).toInt64))] ++ pW k L' M') X rfl rfl dL_mend_8 ?_
    refine sw_goto (tgt := 21) X dL_mend_9 (by decide) ?_
    refine sw_iconst X dL_mend_21 ?_
    exact RI _ _ _ _ _ _ dL_mend_22 (Nat.le_of_ble_eq_true rfl) (Nat.le_of_ble_eq_true rfl) (Or.inl ⟨hK, rfl, _, q', L', M', rfl, rfl, hq0, hC'⟩)
