/-! the class's leaves -/
theorem fit_b {z : Int} (h : z = 0 ∨ z = 1) : fits .boolean (.int (J z)) = true := by rcases h with rfl | rfl <;> rfl
theorem sw_ne {L : List Nat} {a q : Nat} (h : a ∈ L) (hq : q ∉ L) : a ≠ q := fun e => hq (e ▸ h)
theorem sX_r (i : Int) : sX i = 0 ∨ sX i = 1 ∨ sX i = -1 := by unfold sX; split <;> (try split) <;> omega
theorem sY_r (i : Int) : sY i = 0 ∨ sY i = 1 ∨ sY i = -1 := by unfold sY; split <;> (try split) <;> omega
theorem sw_goodI {y : MethodName} {bytes : ByteArray} {maxL : Nat} {ret : Option FieldType} (h5 : Cond.code y bytes maxL ret ∈ WG) : GoodIn WG (sw_ws y bytes maxL ret) := by
  have key : ∀ w ∈ sw_ws y bytes maxL ret, w ∈ WG := fun w hw => by
    rcases List.mem_cons.mp hw with rfl | hw
    · exact h5
    · exact hw
  exact fun w hw => ⟨key w hw, good_of_word (WG_good w (key w hw))⟩
theorem dv_X0 : ∀ j, j < 4 → defaultValue (tyX0 j) = vp_V (cFs 0 (fun f _ _ => dfM f) 0) j := fun j hj => match j, hj with
  | 0, _ => rfl
  | 1, _ => rfl
  | 2, _ => rfl
  | 3, _ => rfl
  | j + 4, hj => absurd hj (by omega)
theorem al_X0 (M : MM) (q : Nat) : cFs 0 (alM M q ((0 : Nat) : Int) 0) q = cFs 0 (fun f _ _ => dfM f) 0 := by simp [cFs, alM]
theorem dv_X1 : ∀ j, j < 3 → defaultValue (tyX1 j) = vp_V (cFs 1 (fun f _ _ => dfM f) 0) j := fun j hj => match j, hj with
  | 0, _ => rfl
  | 1, _ => rfl
  | 2, _ => rfl
  | j + 3, hj => absurd hj (by omega)
theorem al_X1 (M : MM) (q : Nat) : cFs 1 (alM M q ((1 : Nat) : Int) 0) q = cFs 1 (fun f _ _ => dfM f) 0 := by simp [cFs, alM]
theorem dv_X2 : ∀ j, j < 4 → defaultValue (tyX2 j) = vp_V (cFs 2 (fun f _ _ => dfM f) 0) j := fun j hj => match j, hj with
  | 0, _ => rfl
  | 1, _ => rfl
  | 2, _ => rfl
  | 3, _ => rfl
  | j + 4, hj => absurd hj (by omega)
theorem al_X2 (M : MM) (q : Nat) : cFs 2 (alM M q ((2 : Nat) : Int) 0) q = cFs 2 (fun f _ _ => dfM f) 0 := by simp [cFs, alM]
theorem dv_X3 : ∀ j, j < 6 → defaultValue (tyX3 j) = vp_V (cFs 3 (fun f _ _ => dfM f) 0) j := fun j hj => match j, hj with
  | 0, _ => rfl
  | 1, _ => rfl
  | 2, _ => rfl
  | 3, _ => rfl
  | 4, _ => rfl
  | 5, _ => rfl
  | j + 6, hj => absurd hj (by omega)
theorem al_X3 (M : MM) (q : Nat) : cFs 3 (alM M q ((3 : Nat) : Int) 0) q = cFs 3 (fun f _ _ => dfM f) 0 := by simp [cFs, alM]
theorem dv_X4 : ∀ j, j < 5 → defaultValue (tyX4 j) = vp_V (cFs 4 (fun f _ _ => dfM f) 0) j := fun j hj => match j, hj with
  | 0, _ => rfl
  | 1, _ => rfl
  | 2, _ => rfl
  | 3, _ => rfl
  | 4, _ => rfl
  | j + 5, hj => absurd hj (by omega)
theorem al_X4 (M : MM) (q : Nat) : cFs 4 (alM M q ((4 : Nat) : Int) 0) q = cFs 4 (fun f _ _ => dfM f) 0 := by simp [cFs, alM]
theorem dv_X5 : ∀ j, j < 10 → defaultValue (tyX5 j) = vp_V (cFs 5 (fun f _ _ => dfM f) 0) j := fun j hj => match j, hj with
  | 0, _ => rfl
  | 1, _ => rfl
  | 2, _ => rfl
  | 3, _ => rfl
  | 4, _ => rfl
  | 5, _ => rfl
  | 6, _ => rfl
  | 7, _ => rfl
  | 8, _ => rfl
  | 9, _ => rfl
  | j + 10, hj => absurd hj (by omega)
theorem al_X5 (M : MM) (q : Nat) : cFs 5 (alM M q ((5 : Nat) : Int) 0) q = cFs 5 (fun f _ _ => dfM f) 0 := by simp [cFs, alM]
abbrev rm_X5_isWithin : Room := { frames := 0, cells := 0, slots := 0, locals := 0 }
set_option maxHeartbeats 4000000 in
set_option maxRecDepth 100000 in
theorem c_X5_isWithin (l : Launch) (D : va_G) (k : Nat → ClassId) (w : va_W) (v a b : Int) (hr : (-2147483648 ≤ v ∧ v < 2147483648) ∧ (-2147483648 ≤ a ∧ a < 2147483648) ∧ (-2147483648 ≤ b ∧ b < 2147483648)) : CI l yX5_isWithin cX5_isWithin 3 (some .boolean) rm_X5_isWithin D k [.int (J v), .int (J a), .int (J b)] (w) (fun z w' => w' = w ∧ ((z = 1 ∧ a ≤ v ∧ v ≤ b) ∨ (z = 0 ∧ (v < a ∨ b < v)))) := by
  refine CI.of (by decide +kernel) (Nat.le_of_ble_eq_true rfl) (fun pᵢ eᵢ sᵢ mᵢ argsᵢ belowᵢ methᵢ cᵢ Aᵢ Qᵢ X RI => ?_)
  show SW pᵢ l eᵢ rm_X5_isWithin sᵢ mᵢ argsᵢ belowᵢ methᵢ cᵢ 3 D Aᵢ 0 0 Qᵢ (w) 0 [(0, .int (J v)), (1, .int (J a)), (2, .int (J b))] []
  refine sw_iload_n X dX5_isWithin_0 rfl 0 rfl ?_
  refine sw_iload_n X dX5_isWithin_1 rfl 1 rfl ?_
  refine sw_icmp_lt (tgt := 14) X (by omega) (by omega) dX5_isWithin_2 (by decide) (fun h1 => ?_) (fun h1 => ?_)
  · refine sw_iconst X dX5_isWithin_14 ?_
    exact RI _ _ _ _ _ _ dX5_isWithin_15 (Nat.le_of_ble_eq_true rfl) (Nat.le_of_ble_eq_true rfl) rfl ⟨rfl, by omega⟩
  · refine sw_iload_n X dX5_isWithin_5 rfl 0 rfl ?_
    refine sw_iload_n X dX5_isWithin_6 rfl 2 rfl ?_
    refine sw_icmp_gt (tgt := 14) X (by omega) (by omega) dX5_isWithin_7 (by decide) (fun h2 => ?_) (fun h2 => ?_)
    · refine sw_iconst X dX5_isWithin_14 ?_
      exact RI _ _ _ _ _ _ dX5_isWithin_15 (Nat.le_of_ble_eq_true rfl) (Nat.le_of_ble_eq_true rfl) rfl ⟨rfl, by omega⟩
    · refine sw_iconst X dX5_isWithin_10 ?_
      refine sw_goto (tgt := 15) X dX5_isWithin_11 (by decide) ?_
      exact RI _ _ _ _ _ _ dX5_isWithin_15 (Nat.le_of_ble_eq_true rfl) (Nat.le_of_ble_eq_true rfl) rfl ⟨rfl, by omega⟩
abbrev rm_X5_checkIndex : Room := { frames := 6, cells := 1, slots := 6, locals := 82 }
set_option maxHeartbeats 4000000 in
set_option maxRecDepth 100000 in
theorem c_X5_checkIndex (l : Launch) (hfl : l.stackTraces = false) (D : va_G) (k : Nat → ClassId) (w : va_W) (z : Int) (hz : z = 0 ∨ z = 1) : XV l yX5_checkIndex cX5_checkIndex 1 none rm_X5_checkIndex D k [.int (J z)] (w) (fun w' => w' = w ∧ z = 1) (fun E w' => w' = w ∧ E = "java/lang/IndexOutOfBoundsException" ∧ z = 0) := by
  refine XV.of hfl (by decide +kernel) rfl (Nat.le_of_ble_eq_true rfl) (fun pᵢ eᵢ sᵢ mᵢ argsᵢ belowᵢ methᵢ cᵢ Aᵢ Qᵢ X RV XO_ XT_ => ?_)
  show SW pᵢ l eᵢ rm_X5_checkIndex sᵢ mᵢ argsᵢ belowᵢ methᵢ cᵢ 1 D Aᵢ 0 0 Qᵢ (w) 0 [(0, .int (J z))] []
  refine sw_iload_n X dX5_checkIndex_0 rfl 0 rfl ?_
  refine sw_if_ne (tgt := 14) X (by omega) dX5_checkIndex_1 (by decide) (fun h1 => ?_) (fun h1 => ?_)
  · exact RV _ _ _ _ _ dX5_checkIndex_14 (Nat.le_of_ble_eq_true rfl) (Nat.le_of_ble_eq_true rfl) ⟨rfl, by omega⟩
  · exact XT_ _ _ _ 218 220 222 _ _ _ _ _ (by decide +kernel) (List.mem_of_getElem? (i := 1) rfl) gw2_47 gw1_10 thA0 thB0 (List.mem_of_getElem? (i := 0) rfl) thC0 dX5_checkIndex_4 dX5_checkIndex_7 dX5_checkIndex_8 dX5_checkIndex_10 dX5_checkIndex_13 (by decide) (Nat.le_of_ble_eq_true rfl) (Nat.le_of_ble_eq_true rfl) (Nat.le_of_ble_eq_true rfl) ⟨rfl, rfl, by omega⟩
abbrev rm_X5_checkArgument : Room := { frames := 6, cells := 1, slots := 6, locals := 82 }
set_option maxHeartbeats 4000000 in
set_option maxRecDepth 100000 in
theorem c_X5_checkArgument (l : Launch) (hfl : l.stackTraces = false) (D : va_G) (k : Nat → ClassId) (w : va_W) (z : Int) (hz : z = 0 ∨ z = 1) : XV l yX5_checkArgument cX5_checkArgument 1 none rm_X5_checkArgument D k [.int (J z)] (w) (fun w' => w' = w ∧ z = 1) (fun E w' => w' = w ∧ E = "java/lang/IllegalArgumentException" ∧ z = 0) := by
  refine XV.of hfl (by decide +kernel) rfl (Nat.le_of_ble_eq_true rfl) (fun pᵢ eᵢ sᵢ mᵢ argsᵢ belowᵢ methᵢ cᵢ Aᵢ Qᵢ X RV XO_ XT_ => ?_)
  show SW pᵢ l eᵢ rm_X5_checkArgument sᵢ mᵢ argsᵢ belowᵢ methᵢ cᵢ 1 D Aᵢ 0 0 Qᵢ (w) 0 [(0, .int (J z))] []
  refine sw_iload_n X dX5_checkArgument_0 rfl 0 rfl ?_
  refine sw_if_ne (tgt := 14) X (by omega) dX5_checkArgument_1 (by decide) (fun h1 => ?_) (fun h1 => ?_)
  · exact RV _ _ _ _ _ dX5_checkArgument_14 (Nat.le_of_ble_eq_true rfl) (Nat.le_of_ble_eq_true rfl) ⟨rfl, by omega⟩
  · exact XT_ _ _ _ 223 225 227 _ _ _ _ _ (by decide +kernel) (List.mem_of_getElem? (i := 2) rfl) gw1_108 gw1_7 thA1 thB1 (List.mem_of_getElem? (i := 1) rfl) thC1 dX5_checkArgument_4 dX5_checkArgument_7 dX5_checkArgument_8 dX5_checkArgument_10 dX5_checkArgument_13 (by decide) (Nat.le_of_ble_eq_true rfl) (Nat.le_of_ble_eq_true rfl) (Nat.le_of_ble_eq_true rfl) ⟨rfl, rfl, by omega⟩
abbrev rm_X5_checkState : Room := { frames := 6, cells := 1, slots := 6, locals := 82 }
set_option maxHeartbeats 4000000 in
set_option maxRecDepth 100000 in
theorem c_X5_checkState (l : Launch) (hfl : l.stackTraces = false) (D : va_G) (k : Nat → ClassId) (w : va_W) (z : Int) (hz : z = 0 ∨ z = 1) : XV l yX5_checkState cX5_checkState 1 none rm_X5_checkState D k [.int (J z)] (w) (fun w' => w' = w ∧ z = 1) (fun E w' => w' = w ∧ E = "java/lang/IllegalStateException" ∧ z = 0) := by
  refine XV.of hfl (by decide +kernel) rfl (Nat.le_of_ble_eq_true rfl) (fun pᵢ eᵢ sᵢ mᵢ argsᵢ belowᵢ methᵢ cᵢ Aᵢ Qᵢ X RV XO_ XT_ => ?_)
  show SW pᵢ l eᵢ rm_X5_checkState sᵢ mᵢ argsᵢ belowᵢ methᵢ cᵢ 1 D Aᵢ 0 0 Qᵢ (w) 0 [(0, .int (J z))] []
  refine sw_iload_n X dX5_checkState_0 rfl 0 rfl ?_
  refine sw_if_ne (tgt := 14) X (by omega) dX5_checkState_1 (by decide) (fun h1 => ?_) (fun h1 => ?_)
  · exact RV _ _ _ _ _ dX5_checkState_14 (Nat.le_of_ble_eq_true rfl) (Nat.le_of_ble_eq_true rfl) ⟨rfl, by omega⟩
  · exact XT_ _ _ _ 228 230 232 _ _ _ _ _ (by decide +kernel) (List.mem_of_getElem? (i := 3) rfl) gw1_180 gw1_8 thA2 thB2 (List.mem_of_getElem? (i := 2) rfl) thC2 dX5_checkState_4 dX5_checkState_7 dX5_checkState_8 dX5_checkState_10 dX5_checkState_13 (by decide) (Nat.le_of_ble_eq_true rfl) (Nat.le_of_ble_eq_true rfl) (Nat.le_of_ble_eq_true rfl) ⟨rfl, rfl, by omega⟩
abbrev rm_X3_end : Room := { frames := 0, cells := 0, slots := 0, locals := 0 }
set_option maxHeartbeats 4000000 in
set_option maxRecDepth 100000 in
theorem c_X3_end (l : Launch) (D : va_G) (k : Nat → ClassId) (L : List Nat) (M : MM) (a : Nat) (hq : a ∈ L ∧ M 90 a 0 = 3) : CI l yX3_end cX3_end 1 (some .int) rm_X3_end D k [.ref a] (pW k L M) (fun z w' => w' = pW k L M ∧ z = M 30 a 0 + M 31 a 0) := by
  refine CI.of (by decide +kernel) (Nat.le_of_ble_eq_true rfl) (fun pᵢ eᵢ sᵢ mᵢ argsᵢ belowᵢ methᵢ cᵢ Aᵢ Qᵢ X RI => ?_)
  show SW pᵢ l eᵢ rm_X3_end sᵢ mᵢ argsᵢ belowᵢ methᵢ cᵢ 1 D Aᵢ 0 0 Qᵢ (pW k L M) 0 [(0, .ref a)] []
  refine sw_aload_n X dX3_end_0 rfl 0 rfl ?_
  refine px_get (v := .int (J (M 30 a 0))) X iw_X3 hq.1 (by decide) hq.2 rfl 0 (by decide) gw1_229 rfl rfl dX3_end_1 ?_
  refine sw_aload_n X dX3_end_4 rfl 0 rfl ?_
  refine px_get (v := .int (J (M 31 a 0))) X iw_X3 hq.1 (by decide) hq.2 rfl 1 (by decide) gw1_231 rfl rfl dX3_end_5 ?_
  refine sw_iadd X dX3_end_8 ?_
  exact RI _ _ _ _ _ _ dX3_end_9 (Nat.le_of_ble_eq_true rfl) (Nat.le_of_ble_eq_true rfl) rfl ⟨rfl, rfl⟩
def pcA (M : MM) (a : Nat) (m : Int) : Int := if M 35 a 0 = 0 then M 32 a 0 else M 32 a 0 + m * (sX (M 33 a 0 % 4) * 16 + sY (M 33 a 0 % 4))
abbrev rm_X3_cellAfter : Room := { frames := 0, cells := 0, slots := 0, locals := 0 }
set_option maxHeartbeats 4000000 in
set_option maxRecDepth 100000 in
theorem c_X3_cellAfter (l : Launch) (D : va_G) (k : Nat → ClassId) (L : List Nat) (M : MM) (a : Nat) (m : Int) (hq : a ∈ L ∧ M 90 a 0 = 3) (hh : 0 ≤ M 33 a 0 ∧ M 33 a 0 ≤ 3) (hd : M 35 a 0 = 0 ∨ M 35 a 0 = 1) : CI l yX3_cellAfter cX3_cellAfter 3 (some .int) rm_X3_cellAfter D k [.ref a, .int (J m)] (pW k L M) (fun z w' => w' = pW k L M ∧ z = pcA M a m) := by
  refine CI.of (by decide +kernel) (Nat.le_of_ble_eq_true rfl) (fun pᵢ eᵢ sᵢ mᵢ argsᵢ belowᵢ methᵢ cᵢ Aᵢ Qᵢ X RI => ?_)
  show SW pᵢ l eᵢ rm_X3_cellAfter sᵢ mᵢ argsᵢ belowᵢ methᵢ cᵢ 3 D Aᵢ 0 0 Qᵢ (pW k L M) 0 [(0, .ref a), (1, .int (J m))] []
  have hsx := sX_r (M 33 a 0 % 4)
  refine sw_aload_n X dX3_cellAfter_0 rfl 0 rfl ?_
  refine px_get (v := .int (J (M 35 a 0))) X iw_X3 hq.1 (by decide) hq.2 rfl 5 (by decide) gw1_237 rfl rfl dX3_cellAfter_1 ?_
  refine sw_if_ne (tgt := 12) X (by omega) dX3_cellAfter_4 (by decide) (fun h1 => ?_) (fun h1 => ?_)
  · refine sw_aload_n X dX3_cellAfter_12 rfl 0 rfl ?_
    refine px_get (v := .int (J (M 33 a 0))) X iw_X3 hq.1 (by decide) hq.2 rfl 3 (by decide) gw1_233 rfl rfl dX3_cellAfter_13 ?_
    refine sw_iconst X dX3_cellAfter_16 ?_
    refine sw_iand X 2 (by omega) (by omega) (by decide +kernel) dX3_cellAfter_17 ?_
    rw [show (M 33 a 0) % ((2 ^ 2 : Nat) : Int) = (M 33 a 0) % 4 from rfl]
    refine sw_istore_n (lv' := [(2, .int (J ((M 33 a 0) % 4))), (0, .ref a), (1, .int (J m))]) X dX3_cellAfter_18 rfl (by decide) rfl ?_
    refine sw_aload_n X dX3_cellAfter_19 rfl 1 rfl ?_
    refine px_get (v := .int (J (M 32 a 0))) X iw_X3 hq.1 (by decide) hq.2 rfl 2 (by decide) gw1_232 rfl rfl dX3_cellAfter_20 ?_
    refine sw_iload_n X dX3_cellAfter_23 rfl 2 rfl ?_
    refine px_sX X (List.mem_of_getElem? (i := 9) rfl) rfl dX3_cellAfter_24 (fun t2 ht2 => ?_)
    refine sw_iload_n X dX3_cellAfter_27 rfl 0 rfl ?_
    refine px_tX X ht2 (by omega) dX3_cellAfter_28 ?_
    refine sw_iconst X dX3_cellAfter_29 ?_
    refine sw_ishl4 X (by omega) dX3_cellAfter_30 ?_
    refine px_sY X (List.mem_of_getElem? (i := 10) rfl) rfl dX3_cellAfter_31 (fun t3 ht3 => ?_)
    refine sw_iload_n X dX3_cellAfter_34 rfl 0 rfl ?_
    refine px_tY X ht3 (by omega) dX3_cellAfter_35 ?_
    refine sw_iadd X dX3_cellAfter_36 ?_
    refine sw_imul X dX3_cellAfter_37 ?_
    refine sw_iadd X dX3_cellAfter_38 ?_
    exact RI _ _ _ _ _ _ dX3_cellAfter_39 (Nat.le_of_ble_eq_true rfl) (Nat.le_of_ble_eq_true rfl) rfl ⟨rfl, by unfold pcA; rw [if_neg (by omega)]⟩
  · refine sw_aload_n X dX3_cellAfter_7 rfl 0 rfl ?_
    refine px_get (v := .int (J (M 32 a 0))) X iw_X3 hq.1 (by decide) hq.2 rfl 2 (by decide) gw1_232 rfl rfl dX3_cellAfter_8 ?_
    exact RI _ _ _ _ _ _ dX3_cellAfter_11 (Nat.le_of_ble_eq_true rfl) (Nat.le_of_ble_eq_true rfl) rfl ⟨rfl, by unfold pcA; rw [if_pos (by omega)]⟩
abbrev rm_X3_lastCell : Room := { frames := 1, cells := 0, slots := 0, locals := 22 }
set_option maxHeartbeats 4000000 in
set_option maxRecDepth 100000 in
theorem c_X3_lastCell (l : Launch) (D : va_G) (k : Nat → ClassId) (L : List Nat) (M : MM) (a : Nat) (hq : a ∈ L ∧ M 90 a 0 = 3) (hh : 0 ≤ M 33 a 0 ∧ M 33 a 0 ≤ 3) (hd : M 35 a 0 = 0 ∨ M 35 a 0 = 1) : CI l yX3_lastCell cX3_lastCell 1 (some .int) rm_X3_lastCell D k [.ref a] (pW k L M) (fun z w' => w' = pW k L M ∧ z = pcA M a (M 31 a 0)) := by
  refine CI.of (by decide +kernel) (Nat.le_of_ble_eq_true rfl) (fun pᵢ eᵢ sᵢ mᵢ argsᵢ belowᵢ methᵢ cᵢ Aᵢ Qᵢ X RI => ?_)
  show SW pᵢ l eᵢ rm_X3_lastCell sᵢ mᵢ argsᵢ belowᵢ methᵢ cᵢ 1 D Aᵢ 0 0 Qᵢ (pW k L M) 0 [(0, .ref a)] []
  refine sw_aload_n X dX3_lastCell_0 rfl 0 rfl ?_
  refine sw_aload_n X dX3_lastCell_1 rfl 0 rfl ?_
  refine px_get (v := .int (J (M 31 a 0))) X iw_X3 hq.1 (by decide) hq.2 rfl 1 (by decide) gw1_231 rfl rfl dX3_lastCell_2 ?_
  refine px_callVI (C := RX3) (As := [.int (J (M 31 a 0))]) (rest := []) X (c_X3_cellAfter l D k L M a (M 31 a 0) hq hh hd) (cwV 1 (sw_ts X) (sw_goodV gw2_25 gw2_26 gw2_27 gw1_9 gw2_28) rfl rfl rfl (by decide +kernel) ⟨Nat.le_of_ble_eq_true rfl, Nat.le_of_ble_eq_true rfl⟩) ⟨hq.1, hq.2⟩ (by decide) rfl rfl dX3_lastCell_5 rfl rfl (Nat.le_of_ble_eq_true rfl) ⟨Nat.le_of_ble_eq_true rfl, Nat.le_of_ble_eq_true rfl⟩ (fun z1 w9 hp2 => ?_)
  obtain ⟨rfl, rfl⟩ := hp2
  exact RI _ _ _ _ _ _ dX3_lastCell_8 (Nat.le_of_ble_eq_true rfl) (Nat.le_of_ble_eq_true rfl) rfl ⟨rfl, rfl⟩
def pcO (M : MM) (a : Nat) (t : Int) : Int := (t / 16 - M 32 a 0 / 16) * sX (M 33 a 0 % 4) + (t % 16 - M 32 a 0 % 16) * sY (M 33 a 0 % 4)
abbrev rm_X3_cellsOnTo : Room := { frames := 0, cells := 0, slots := 0, locals := 0 }
set_option maxHeartbeats 4000000 in
set_option maxRecDepth 100000 in
theorem c_X3_cellsOnTo (l : Launch) (D : va_G) (k : Nat → ClassId) (L : List Nat) (M : MM) (a : Nat) (t : Int) (hq : a ∈ L ∧ M 90 a 0 = 3) (hh : 0 ≤ M 33 a 0 ∧ M 33 a 0 ≤ 3) (ht : 0 ≤ t ∧ t ≤ 255) (hc : 0 ≤ M 32 a 0 ∧ M 32 a 0 ≤ 255) : CI l yX3_cellsOnTo cX3_cellsOnTo 5 (some .int) rm_X3_cellsOnTo D k [.ref a, .int (J t)] (pW k L M) (fun z w' => w' = pW k L M ∧ z = pcO M a t) := by
  refine CI.of (by decide +kernel) (Nat.le_of_ble_eq_true rfl) (fun pᵢ eᵢ sᵢ mᵢ argsᵢ belowᵢ methᵢ cᵢ Aᵢ Qᵢ X RI => ?_)
  show SW pᵢ l eᵢ rm_X3_cellsOnTo sᵢ mᵢ argsᵢ belowᵢ methᵢ cᵢ 5 D Aᵢ 0 0 Qᵢ (pW k L M) 0 [(0, .ref a), (1, .int (J t))] []
  refine sw_aload_n X dX3_cellsOnTo_0 rfl 0 rfl ?_
  refine px_get (v := .int (J (M 33 a 0))) X iw_X3 hq.1 (by decide) hq.2 rfl 3 (by decide) gw1_233 rfl rfl dX3_cellsOnTo_1 ?_
  refine sw_iconst X dX3_cellsOnTo_4 ?_
  refine sw_iand X 2 (by omega) (by omega) (by decide +kernel) dX3_cellsOnTo_5 ?_
  rw [show (M 33 a 0) % ((2 ^ 2 : Nat) : Int) = (M 33 a 0) % 4 from rfl]
  refine sw_istore_n (lv' := [(2, .int (J ((M 33 a 0) % 4))), (0, .ref a), (1, .int (J t))]) X dX3_cellsOnTo_6 rfl (by decide) rfl ?_
  refine sw_iload_n X dX3_cellsOnTo_7 rfl 2 rfl ?_
  refine sw_iconst X dX3_cellsOnTo_8 ?_
  refine sw_ishr X 4 (by omega) (by omega) (by decide +kernel) dX3_cellsOnTo_9 ?_
  rw [show (t) / ((2 ^ 4 : Nat) : Int) = (t) / 16 from rfl]
  refine sw_aload_n X dX3_cellsOnTo_10 rfl 1 rfl ?_
  refine px_get (v := .int (J (M 32 a 0))) X iw_X3 hq.1 (by decide) hq.2 rfl 2 (by decide) gw1_232 rfl rfl dX3_cellsOnTo_11 ?_
  refine sw_iconst X dX3_cellsOnTo_14 ?_
  refine sw_ishr X 4 (by omega) (by omega) (by decide +kernel) dX3_cellsOnTo_15 ?_
  rw [show (M 32 a 0) / ((2 ^ 4 : Nat) : Int) = (M 32 a 0) / 16 from rfl]
  refine sw_isub X dX3_cellsOnTo_16 ?_
  refine sw_istore_n (lv' := [(3, .int (J ((t / 16) - ((M 32 a 0) / 16)))), (2, .int (J ((M 33 a 0) % 4))), (0, .ref a), (1, .int (J t))]) X dX3_cellsOnTo_17 rfl (by decide) rfl ?_
  refine sw_iload_n X dX3_cellsOnTo_18 rfl 3 rfl ?_
  refine sw_bipush X dX3_cellsOnTo_19 (by decide +kernel) ?_
  refine sw_iand X 4 (by omega) (by omega) (by decide +kernel) dX3_cellsOnTo_21 ?_
  rw [show (t) % ((2 ^ 4 : Nat) : Int) = (t) % 16 from rfl]
  refine sw_aload_n X dX3_cellsOnTo_22 rfl 2 rfl ?_
  refine px_get (v := .int (J (M 32 a 0))) X iw_X3 hq.1 (by decide) hq.2 rfl 2 (by decide) gw1_232 rfl rfl dX3_cellsOnTo_23 ?_
  refine sw_bipush X dX3_cellsOnTo_26 (by decide +kernel) ?_
  refine sw_iand X 4 (by omega) (by omega) (by decide +kernel) dX3_cellsOnTo_28 ?_
  rw [show (M 32 a 0) % ((2 ^ 4 : Nat) : Int) = (M 32 a 0) % 16 from rfl]
  refine sw_isub X dX3_cellsOnTo_29 ?_
  refine sw_istore (lv' := [(4, .int (J ((t % 16) - ((M 32 a 0) % 16)))), (3, .int (J ((t / 16) - ((M 32 a 0) / 16)))), (2, .int (J ((M 33 a 0) % 4))), (0, .ref a), (1, .int (J t))]) X dX3_cellsOnTo_30 (by decide) rfl ?_
  refine sw_iload_n X dX3_cellsOnTo_32 rfl 1 rfl ?_
  refine px_sX X (List.mem_of_getElem? (i := 9) rfl) rfl dX3_cellsOnTo_33 (fun t1 ht1 => ?_)
  refine sw_iload_n X dX3_cellsOnTo_36 rfl 2 rfl ?_
  refine px_tX X ht1 (by omega) dX3_cellsOnTo_37 ?_
  refine sw_imul X dX3_cellsOnTo_38 ?_
  refine sw_iload X dX3_cellsOnTo_39 0 rfl ?_
  refine px_sY X (List.mem_of_getElem? (i := 10) rfl) rfl dX3_cellsOnTo_41 (fun t2 ht2 => ?_)
  refine sw_iload_n X dX3_cellsOnTo_44 rfl 2 rfl ?_
  refine px_tY X ht2 (by omega) dX3_cellsOnTo_45 ?_
  refine sw_imul X dX3_cellsOnTo_46 ?_
  refine sw_iadd X dX3_cellsOnTo_47 ?_
  exact RI _ _ _ _ _ _ dX3_cellsOnTo_48 (Nat.le_of_ble_eq_true rfl) (Nat.le_of_ble_eq_true rfl) rfl ⟨rfl, rfl⟩
abbrev rm_X3_isDrivenLike : Room := { frames := 0, cells := 0, slots := 0, locals := 0 }
set_option maxHeartbeats 4000000 in
set_option maxRecDepth 100000 in
theorem c_X3_isDrivenLike (l : Launch) (D : va_G) (k : Nat → ClassId) (L : List Nat) (M : MM) (a b : Nat) (hq : a ∈ L ∧ M 90 a 0 = 3) (hqb : b ∈ L ∧ M 90 b 0 = 3) (hr : (0 ≤ M 31 a 0 ∧ M 31 a 0 ≤ 1000) ∧ (0 ≤ M 31 b 0 ∧ M 31 b 0 ≤ 1000) ∧ (0 ≤ M 34 a 0 ∧ M 34 a 0 ≤ 3) ∧ (0 ≤ M 34 b 0 ∧ M 34 b 0 ≤ 3) ∧ (M 35 a 0 = 0 ∨ M 35 a 0 = 1)) : CI l yX3_isDrivenLike cX3_isDrivenLike 2 (some .boolean) rm_X3_isDrivenLike D k [.ref a, .ref b] (pW k L M) (fun z w' => w' = pW k L M ∧ ((z = 1 ∧ M 35 a 0 ≠ 0 ∧ M 31 a 0 = M 31 b 0 ∧ M 34 a 0 = M 34 b 0) ∨ (z = 0 ∧ ¬ (M 35 a 0 ≠ 0 ∧ M 31 a 0 = M 31 b 0 ∧ M 34 a 0 = M 34 b 0)))) := by
  refine CI.of (by decide +kernel) (Nat.le_of_ble_eq_true rfl) (fun pᵢ eᵢ sᵢ mᵢ argsᵢ belowᵢ methᵢ cᵢ Aᵢ Qᵢ X RI => ?_)
  show SW pᵢ l eᵢ rm_X3_isDrivenLike sᵢ mᵢ argsᵢ belowᵢ methᵢ cᵢ 2 D Aᵢ 0 0 Qᵢ (pW k L M) 0 [(0, .ref a), (1, .ref b)] []
  refine sw_aload_n X dX3_isDrivenLike_0 rfl 0 rfl ?_
  refine px_get (v := .int (J (M 35 a 0))) X iw_X3 hq.1 (by decide) hq.2 rfl 5 (by decide) gw1_237 rfl rfl dX3_isDrivenLike_1 ?_
  refine sw_if_eq (tgt := 33) X (by omega) dX3_isDrivenLike_4 (by decide) (fun h1 => ?_) (fun h1 => ?_)
  · refine sw_iconst X dX3_isDrivenLike_33 ?_
    exact RI _ _ _ _ _ _ dX3_isDrivenLike_34 (Nat.le_of_ble_eq_true rfl) (Nat.le_of_ble_eq_true rfl) rfl ⟨rfl, by omega⟩
  · refine sw_aload_n X dX3_isDrivenLike_7 rfl 0 rfl ?_
    refine px_get (v := .int (J (M 31 a 0))) X iw_X3 hq.1 (by decide) hq.2 rfl 1 (by decide) gw1_231 rfl rfl dX3_isDrivenLike_8 ?_
    refine sw_aload_n X dX3_isDrivenLike_11 rfl 1 rfl ?_
    refine px_get (v := .int (J (M 31 b 0))) X iw_X3 hqb.1 (by decide) hqb.2 rfl 1 (by decide) gw1_231 rfl rfl dX3_isDrivenLike_12 ?_
    refine sw_icmp_ne (tgt := 33) X (by omega) (by omega) dX3_isDrivenLike_15 (by decide) (fun h2 => ?_) (fun h2 => ?_)
    · refine sw_iconst X dX3_isDrivenLike_33 ?_
      exact RI _ _ _ _ _ _ dX3_isDrivenLike_34 (Nat.le_of_ble_eq_true rfl) (Nat.le_of_ble_eq_true rfl) rfl ⟨rfl, by omega⟩
    · refine sw_aload_n X dX3_isDrivenLike_18 rfl 0 rfl ?_
      refine px_get (v := .int (J (M 34 a 0))) X iw_X3 hq.1 (by decide) hq.2 rfl 4 (by decide) gw1_235 rfl rfl dX3_isDrivenLike_19 ?_
      refine sw_aload_n X dX3_isDrivenLike_22 rfl 1 rfl ?_
      refine px_get (v := .int (J (M 34 b 0))) X iw_X3 hqb.1 (by decide) hqb.2 rfl 4 (by decide) gw1_235 rfl rfl dX3_isDrivenLike_23 ?_
      refine sw_icmp_ne (tgt := 33) X (by omega) (by omega) dX3_isDrivenLike_26 (by decide) (fun h3 => ?_) (fun h3 => ?_)
      · refine sw_iconst X dX3_isDrivenLike_33 ?_
        exact RI _ _ _ _ _ _ dX3_isDrivenLike_34 (Nat.le_of_ble_eq_true rfl) (Nat.le_of_ble_eq_true rfl) rfl ⟨rfl, by omega⟩
      · refine sw_iconst X dX3_isDrivenLike_29 ?_
        refine sw_goto (tgt := 34) X dX3_isDrivenLike_30 (by decide) ?_
        exact RI _ _ _ _ _ _ dX3_isDrivenLike_34 (Nat.le_of_ble_eq_true rfl) (Nat.le_of_ble_eq_true rfl) rfl ⟨rfl, by omega⟩
theorem pcO_b {M : MM} {a : Nat} {t : Int} (hh : 0 ≤ M 33 a 0 ∧ M 33 a 0 ≤ 3) (hc : 0 ≤ M 32 a 0 ∧ M 32 a 0 ≤ 255) (ht : 0 ≤ t ∧ t ≤ 255) : -30 ≤ pcO M a t ∧ pcO M a t ≤ 30 := by
  unfold pcO
  rcases sX_r (M 33 a 0 % 4) with e | e | e <;> rcases sY_r (M 33 a 0 % 4) with e2 | e2 | e2 <;> rw [e, e2] <;> omega
theorem pcA_b {M : MM} {a : Nat} {m : Int} (hh : 0 ≤ M 33 a 0 ∧ M 33 a 0 ≤ 3) (hc : 0 ≤ M 32 a 0 ∧ M 32 a 0 ≤ 255) (hm : -30 ≤ m ∧ m ≤ 30) : -100000 ≤ pcA M a m ∧ pcA M a m ≤ 100000 := by
  unfold pcA
  split
  · omega
  · rcases sX_r (M 33 a 0 % 4) with e | e | e <;> rcases sY_r (M 33 a 0 % 4) with e2 | e2 | e2 <;> rw [e, e2] <;> omega
def pfM (M : MM) (a : Nat) (t f : Int) : Int :=
  if M 35 a 0 = 0 then (if M 32 a 0 = t ∧ f ≤ M 30 a 0 + M 31 a 0 then (if M 30 a 0 < f then f else M 30 a 0) else -1)
  else (if (pcA M a (pcO M a t) = t ∧ 0 ≤ pcO M a t ∧ pcO M a t ≤ M 31 a 0) ∧ f ≤ M 30 a 0 + pcO M a t then M 30 a 0 + pcO M a t else -1)
abbrev rm_X3_firstMinuteIn : Room := { frames := 1, cells := 0, slots := 0, locals := 24 }
set_option maxHeartbeats 4000000 in
set_option maxRecDepth 100000 in
theorem c_X3_firstMinuteIn (l : Launch) (D : va_G) (k : Nat → ClassId) (L : List Nat) (M : MM) (a : Nat) (t f : Int) (hq : a ∈ L ∧ M 90 a 0 = 3) (hh : 0 ≤ M 33 a 0 ∧ M 33 a 0 ≤ 3) (hd : M 35 a 0 = 0 ∨ M 35 a 0 = 1) (ht : 0 ≤ t ∧ t ≤ 255) (hc : 0 ≤ M 32 a 0 ∧ M 32 a 0 ≤ 255) (hf : 0 ≤ f ∧ f ≤ 6000) (hb : (0 ≤ M 30 a 0 ∧ M 30 a 0 ≤ 6000) ∧ 0 ≤ M 31 a 0 ∧ M 31 a 0 ≤ 1000) : CI l yX3_firstMinuteIn cX3_firstMinuteIn 4 (some .int) rm_X3_firstMinuteIn D k [.ref a, .int (J t), .int (J f)] (pW k L M) (fun z w' => w' = pW k L M ∧ z = pfM M a t f) := by
  refine CI.of (by decide +kernel) (Nat.le_of_ble_eq_true rfl) (fun pᵢ eᵢ sᵢ mᵢ argsᵢ belowᵢ methᵢ cᵢ Aᵢ Qᵢ X RI => ?_)
  show SW pᵢ l eᵢ rm_X3_firstMinuteIn sᵢ mᵢ argsᵢ belowᵢ methᵢ cᵢ 4 D Aᵢ 0 0 Qᵢ (pW k L M) 0 [(0, .ref a), (1, .int (J t)), (2, .int (J f))] []
  have hpo := pcO_b hh hc ht
  have hpa := pcA_b (M := M) (a := a) (m := pcO M a t) hh hc hpo
  refine sw_aload_n X dX3_firstMinuteIn_0 rfl 0 rfl ?_
  refine px_get (v := .int (J (M 35 a 0))) X iw_X3 hq.1 (by decide) hq.2 rfl 5 (by decide) gw1_237 rfl rfl dX3_firstMinuteIn_1 ?_
  refine sw_if_ne (tgt := 36) X (by omega) dX3_firstMinuteIn_4 (by decide) (fun h1 => ?_) (fun h1 => ?_)
  · refine sw_aload_n X dX3_firstMinuteIn_36 rfl 0 rfl ?_
    refine sw_iload_n X dX3_firstMinuteIn_37 rfl 1 rfl ?_
    refine px_callVI (C := RX3) (As := [.int (J t)]) (rest := []) X (c_X3_cellsOnTo l D k L M a t hq hh ht hc) (cwV 1 (sw_ts X) (sw_goodV gw3_38 gw3_40 gws_13 gw1_9 gw3_41) rfl rfl rfl (by decide +kernel) ⟨Nat.le_of_ble_eq_true rfl, Nat.le_of_ble_eq_true rfl⟩) ⟨hq.1, hq.2⟩ (by decide) rfl rfl dX3_firstMinuteIn_38 rfl rfl (Nat.le_of_ble_eq_true rfl) ⟨Nat.le_of_ble_eq_true rfl, Nat.le_of_ble_eq_true rfl⟩ (fun z2 w9 hp3 => ?_)
    obtain ⟨rfl, rfl⟩ := hp3
    refine sw_istore_n (lv' := [(3, .int (J (pcO M a t))), (0, .ref a), (1, .int (J t)), (2, .int (J f))]) X dX3_firstMinuteIn_41 rfl (by decide) rfl ?_
    refine sw_aload_n X dX3_firstMinuteIn_42 rfl 1 rfl ?_
    refine sw_iload_n X dX3_firstMinuteIn_43 rfl 0 rfl ?_
    refine px_callVI (C := RX3) (As := [.int (J (pcO M a t))]) (rest := []) X (c_X3_cellAfter l D k L M a (pcO M a t) hq hh hd) (cwV 1 (sw_ts X) (sw_goodV gw2_25 gw2_26 gw2_27 gw1_9 gw2_28) rfl rfl rfl (by decide +kernel) ⟨Nat.le_of_ble_eq_true rfl, Nat.le_of_ble_eq_true rfl⟩) ⟨hq.1, hq.2⟩ (by decide) rfl rfl dX3_firstMinuteIn_44 rfl rfl (Nat.le_of_ble_eq_true rfl) ⟨Nat.le_of_ble_eq_true rfl, Nat.le_of_ble_eq_true rfl⟩ (fun z4 w9 hp5 => ?_)
    obtain ⟨rfl, rfl⟩ := hp5
    refine sw_iload_n X dX3_firstMinuteIn_47 rfl 2 rfl ?_
    refine sw_icmp_ne (tgt := 82) X (by omega) (by omega) dX3_firstMinuteIn_48 (by decide) (fun h6 => ?_) (fun h6 => ?_)
    · refine sw_iconst X dX3_firstMinuteIn_82 ?_
      exact RI _ _ _ _ _ _ dX3_firstMinuteIn_83 (Nat.le_of_ble_eq_true rfl) (Nat.le_of_ble_eq_true rfl) rfl ⟨rfl, by unfold pfM; split <;> (try split) <;> first | omega | rfl⟩
    · refine sw_iload_n X dX3_firstMinuteIn_51 rfl 0 rfl ?_
      refine sw_iconst X dX3_firstMinuteIn_52 ?_
      refine sw_aload_n X dX3_firstMinuteIn_53 rfl 1 rfl ?_
      refine px_get (v := .int (J (M 31 a 0))) X iw_X3 hq.1 (by decide) hq.2 rfl 1 (by decide) gw1_231 rfl rfl dX3_firstMinuteIn_54 ?_
      refine sw_callSNI (As := [.int (J (pcO M a t)), .int (J 0), .int (J (M 31 a 0))]) (rest := []) X (c_X5_isWithin l D k (pW k L M) (pcO M a t) 0 (M 31 a 0) (by omega)) (sw_cwSN X 3 (List.mem_of_getElem? (i := 1) rfl) gw1_103 gw1_1 gw1_104 (by decide +kernel) ⟨Nat.le_of_ble_eq_true rfl, Nat.le_of_ble_eq_true rfl⟩) dX3_firstMinuteIn_57 rfl rfl (Nat.le_of_ble_eq_true rfl) ⟨Nat.le_of_ble_eq_true rfl, Nat.le_of_ble_eq_true rfl⟩ (fun z7 w9 hp8 => ?_)
      obtain ⟨rfl, hp8⟩ := hp8
      refine sw_if_eq (tgt := 82) X (by omega) dX3_firstMinuteIn_60 (by decide) (fun h9 => ?_) (fun h9 => ?_)
      · refine sw_iconst X dX3_firstMinuteIn_82 ?_
        exact RI _ _ _ _ _ _ dX3_firstMinuteIn_83 (Nat.le_of_ble_eq_true rfl) (Nat.le_of_ble_eq_true rfl) rfl ⟨rfl, by unfold pfM; split <;> (try split) <;> first | omega | rfl⟩
      · refine sw_aload_n X dX3_firstMinuteIn_63 rfl 1 rfl ?_
        refine px_get (v := .int (J (M 30 a 0))) X iw_X3 hq.1 (by decide) hq.2 rfl 0 (by decide) gw1_229 rfl rfl dX3_firstMinuteIn_64 ?_
        refine sw_iload_n X dX3_firstMinuteIn_67 rfl 0 rfl ?_
        refine sw_iadd X dX3_firstMinuteIn_68 ?_
        refine sw_iload_n X dX3_firstMinuteIn_69 rfl 3 rfl ?_
        refine sw_icmp_lt (tgt := 82) X (by omega) (by omega) dX3_firstMinuteIn_70 (by decide) (fun h10 => ?_) (fun h10 => ?_)
        · refine sw_iconst X dX3_firstMinuteIn_82 ?_
          exact RI _ _ _ _ _ _ dX3_firstMinuteIn_83 (Nat.le_of_ble_eq_true rfl) (Nat.le_of_ble_eq_true rfl) rfl ⟨rfl, by unfold pfM; split <;> (try split) <;> first | omega | rfl⟩
        · refine sw_aload_n X dX3_firstMinuteIn_73 rfl 1 rfl ?_
          refine px_get (v := .int (J (M 30 a 0))) X iw_X3 hq.1 (by decide) hq.2 rfl 0 (by decide) gw1_229 rfl rfl dX3_firstMinuteIn_74 ?_
          refine sw_iload_n X dX3_firstMinuteIn_77 rfl 0 rfl ?_
          refine sw_iadd X dX3_firstMinuteIn_78 ?_
          refine sw_goto (tgt := 83) X dX3_firstMinuteIn_79 (by decide) ?_
          exact RI _ _ _ _ _ _ dX3_firstMinuteIn_83 (Nat.le_of_ble_eq_true rfl) (Nat.le_of_ble_eq_true rfl) rfl ⟨rfl, by unfold pfM; split <;> (try split) <;> first | omega | rfl⟩
  · refine sw_aload_n X dX3_firstMinuteIn_7 rfl 0 rfl ?_
    refine px_get (v := .int (J (M 32 a 0))) X iw_X3 hq.1 (by decide) hq.2 rfl 2 (by decide) gw1_232 rfl rfl dX3_firstMinuteIn_8 ?_
    refine sw_iload_n X dX3_firstMinuteIn_11 rfl 1 rfl ?_
    refine sw_icmp_ne (tgt := 34) X (by omega) (by omega) dX3_firstMinuteIn_12 (by decide) (fun h11 => ?_) (fun h11 => ?_)
    · refine sw_iconst X dX3_firstMinuteIn_34 ?_
      exact RI _ _ _ _ _ _ dX3_firstMinuteIn_35 (Nat.le_of_ble_eq_true rfl) (Nat.le_of_ble_eq_true rfl) rfl ⟨rfl, by unfold pfM; split <;> (try split) <;> first | omega | rfl⟩
    · refine sw_aload_n X dX3_firstMinuteIn_15 rfl 0 rfl ?_
      refine px_callVI (C := RX3) (As := []) (rest := []) X (c_X3_end l D k L M a hq) (cwV 0 (sw_ts X) (sw_goodV gw3_34 gw2_18 gw2_19 gw1_9 gw2_20) rfl rfl rfl (by decide +kernel) ⟨Nat.le_of_ble_eq_true rfl, Nat.le_of_ble_eq_true rfl⟩) ⟨hq.1, hq.2⟩ (by decide) rfl rfl dX3_firstMinuteIn_16 rfl rfl (Nat.le_of_ble_eq_true rfl) ⟨Nat.le_of_ble_eq_true rfl, Nat.le_of_ble_eq_true rfl⟩ (fun z12 w9 hp13 => ?_)
      obtain ⟨rfl, rfl⟩ := hp13
      refine sw_iload_n X dX3_firstMinuteIn_19 rfl 2 rfl ?_
      refine sw_icmp_lt (tgt := 34) X (by omega) (by omega) dX3_firstMinuteIn_20 (by decide) (fun h14 => ?_) (fun h14 => ?_)
      · refine sw_iconst X dX3_firstMinuteIn_34 ?_
        exact RI _ _ _ _ _ _ dX3_firstMinuteIn_35 (Nat.le_of_ble_eq_true rfl) (Nat.le_of_ble_eq_true rfl) rfl ⟨rfl, by unfold pfM; split <;> (try split) <;> first | omega | rfl⟩
      · refine sw_aload_n X dX3_firstMinuteIn_23 rfl 0 rfl ?_
        refine px_get (v := .int (J (M 30 a 0))) X iw_X3 hq.1 (by decide) hq.2 rfl 0 (by decide) gw1_229 rfl rfl dX3_firstMinuteIn_24 ?_
        refine sw_iload_n X dX3_firstMinuteIn_27 rfl 2 rfl ?_
        refine sw_max X (by omega) (by omega) gw3_35 gw3_36 gw1_15 gw3_37 (Nat.le_of_ble_eq_true rfl) (Nat.le_of_ble_eq_true rfl) ⟨Nat.le_of_ble_eq_true rfl, Nat.le_of_ble_eq_true rfl⟩ dX3_firstMinuteIn_28 ?_
        refine sw_goto (tgt := 35) X dX3_firstMinuteIn_31 (by decide) ?_
        exact RI _ _ _ _ _ _ dX3_firstMinuteIn_35 (Nat.le_of_ble_eq_true rfl) (Nat.le_of_ble_eq_true rfl) rfl ⟨rfl, by unfold pfM; split <;> (try split) <;> first | omega | rfl⟩
def gtP (du p : Int) : Int := if p = -1 then 60 else if 60 < (if p - du < 0 then -(p - du) * 2 else p - du) then 60 else (if p - du < 0 then -(p - du) * 2 else p - du)
abbrev rm_X1_pointsFor : Room := { frames := 1, cells := 0, slots := 0, locals := 13 }
set_option maxHeartbeats 4000000 in
set_option maxRecDepth 100000 in
theorem c_X1_pointsFor (l : Launch) (D : va_G) (k : Nat → ClassId) (L : List Nat) (M : MM) (a : Nat) (p : Int) (hq : a ∈ L ∧ M 90 a 0 = 1) (hp : -1 ≤ p ∧ p ≤ 10000) (hd : 0 ≤ M 12 a 0 ∧ M 12 a 0 ≤ 10000) : CI l yX1_pointsFor cX1_pointsFor 3 (some .int) rm_X1_pointsFor D k [.ref a, .int (J p)] (pW k L M) (fun z w' => w' = pW k L M ∧ z = gtP (M 12 a 0) p) := by
  refine CI.of (by decide +kernel) (Nat.le_of_ble_eq_true rfl) (fun pᵢ eᵢ sᵢ mᵢ argsᵢ belowᵢ methᵢ cᵢ Aᵢ Qᵢ X RI => ?_)
  show SW pᵢ l eᵢ rm_X1_pointsFor sᵢ mᵢ argsᵢ belowᵢ methᵢ cᵢ 3 D Aᵢ 0 0 Qᵢ (pW k L M) 0 [(0, .ref a), (1, .int (J p))] []
  refine sw_iload_n X dX1_pointsFor_0 rfl 1 rfl ?_
  refine sw_iconst X dX1_pointsFor_1 ?_
  refine sw_icmp_ne (tgt := 8) X (by omega) (by omega) dX1_pointsFor_2 (by decide) (fun h1 => ?_) (fun h1 => ?_)
  · refine sw_iload_n X dX1_pointsFor_8 rfl 1 rfl ?_
    refine sw_aload_n X dX1_pointsFor_9 rfl 0 rfl ?_
    refine px_get (v := .int (J (M 12 a 0))) X iw_X1 hq.1 (by decide) hq.2 rfl 2 (by decide) gw2_83 rfl rfl dX1_pointsFor_10 ?_
    refine sw_isub X dX1_pointsFor_13 ?_
    refine sw_istore_n (lv' := [(2, .int (J (p - (M 12 a 0)))), (0, .ref a), (1, .int (J p))]) X dX1_pointsFor_14 rfl (by decide) rfl ?_
    refine sw_bipush X dX1_pointsFor_15 (by decide +kernel) ?_
    refine sw_iload_n X dX1_pointsFor_17 rfl 0 rfl ?_
    refine sw_if_ge (tgt := 28) X (by omega) dX1_pointsFor_18 (by decide) (fun h2 => ?_) (fun h2 => ?_)
    · refine sw_iload_n X dX1_pointsFor_28 rfl 0 rfl ?_
      refine sw_min X (by omega) (by omega) gw3_163 gw3_164 gw1_15 gw3_165 (Nat.le_of_ble_eq_true rfl) (Nat.le_of_ble_eq_true rfl) ⟨Nat.le_of_ble_eq_true rfl, Nat.le_of_ble_eq_true rfl⟩ dX1_pointsFor_29 ?_
      exact RI _ _ _ _ _ _ dX1_pointsFor_32 (Nat.le_of_ble_eq_true rfl) (Nat.le_of_ble_eq_true rfl) rfl ⟨rfl, by unfold gtP; split <;> (try split) <;> (try split) <;> omega⟩
    · refine sw_iload_n X dX1_pointsFor_21 rfl 0 rfl ?_
      refine sw_ineg X dX1_pointsFor_22 ?_
      refine sw_iconst X dX1_pointsFor_23 ?_
      refine sw_imul X dX1_pointsFor_24 ?_
      refine sw_goto (tgt := 29) X dX1_pointsFor_25 (by decide) ?_
      refine sw_min X (by omega) (by omega) gw3_163 gw3_164 gw1_15 gw3_165 (Nat.le_of_ble_eq_true rfl) (Nat.le_of_ble_eq_true rfl) ⟨Nat.le_of_ble_eq_true rfl, Nat.le_of_ble_eq_true rfl⟩ dX1_pointsFor_29 ?_
      exact RI _ _ _ _ _ _ dX1_pointsFor_32 (Nat.le_of_ble_eq_true rfl) (Nat.le_of_ble_eq_true rfl) rfl ⟨rfl, by unfold gtP; split <;> (try split) <;> (try split) <;> omega⟩
  · refine sw_bipush X dX1_pointsFor_5 (by decide +kernel) ?_
    exact RI _ _ _ _ _ _ dX1_pointsFor_7 (Nat.le_of_ble_eq_true rfl) (Nat.le_of_ble_eq_true rfl) rfl ⟨rfl, by unfold gtP; split <;> (try split) <;> (try split) <;> omega⟩
abbrev rm_X2_useUp : Room := { frames := 0, cells := 0, slots := 0, locals := 0 }
set_option maxHeartbeats 4000000 in
set_option maxRecDepth 100000 in
theorem c_X2_useUp (l : Launch) (D : va_G) (k : Nat → ClassId) (L : List Nat) (M : MM) (a : Nat) (c : Int) (hq : a ∈ L ∧ M 90 a 0 = 2) : CV l yX2_useUp cX2_useUp 2 none rm_X2_useUp D k [.ref a, .int (J c)] (pW k L M) (fun w' => w' = pW k L (upM (upM M 22 a 0 (-2)) 23 a 0 c)) := by
  refine CV.of (by decide +kernel) (Nat.le_of_ble_eq_true rfl) (fun pᵢ eᵢ sᵢ mᵢ argsᵢ belowᵢ methᵢ cᵢ Aᵢ Qᵢ X hnm RV => ?_)
  show SW pᵢ l eᵢ rm_X2_useUp sᵢ mᵢ argsᵢ belowᵢ methᵢ cᵢ 2 D Aᵢ 0 0 Qᵢ (pW k L M) 0 [(0, .ref a), (1, .int (J c))] []
  refine sw_aload_n X dX2_useUp_0 rfl 0 rfl ?_
  refine sw_bipush X dX2_useUp_1 (by decide +kernel) ?_
  refine px_put (f := 22) (z := -2) X iw_X2 tyX2 tyX2_ok nmX2 hq.1 (by decide) hq.2 rfl 2 (by decide) gw2_227 rfl rfl (ty := .int) (by decide +kernel) rfl rfl (Nat.le_of_ble_eq_true rfl) (by decide) (pS22 _ _ _) dX2_useUp_3 ?_
  refine sw_aload_n X dX2_useUp_6 rfl 0 rfl ?_
  refine sw_iload_n X dX2_useUp_7 rfl 1 rfl ?_
  refine px_put (M := upM M 22 a 0 (-2)) (f := 23) (z := c) X iw_X2 tyX2 tyX2_ok nmX2 hq.1 (by decide) hq.2 rfl 3 (by decide) gw2_229 rfl rfl (ty := .int) (by decide +kernel) rfl rfl (Nat.le_of_ble_eq_true rfl) (by decide) (pS23 _ _ _) dX2_useUp_8 ?_
  exact RV _ _ _ _ _ dX2_useUp_11 (Nat.le_of_ble_eq_true rfl) (Nat.le_of_ble_eq_true rfl) rfl
abbrev rm_X2_isLentBy : Room := { frames := 0, cells := 0, slots := 0, locals := 0 }
set_option maxHeartbeats 4000000 in
set_option maxRecDepth 100000 in
theorem c_X2_isLentBy (l : Launch) (D : va_G) (k : Nat → ClassId) (L : List Nat) (M : MM) (a : Nat) (c : Int) (hq : a ∈ L ∧ M 90 a 0 = 2) (hr : (-2 ≤ M 21 a 0 ∧ M 21 a 0 ≤ 10) ∧ (-2 ≤ M 22 a 0 ∧ M 22 a 0 ≤ 10) ∧ (-2 ≤ M 23 a 0 ∧ M 23 a 0 ≤ 10) ∧ -2 ≤ c ∧ c ≤ 10) : CI l yX2_isLentBy cX2_isLentBy 2 (some .boolean) rm_X2_isLentBy D k [.ref a, .int (J c)] (pW k L M) (fun z w' => w' = pW k L M ∧ ((z = 1 ∧ M 21 a 0 = c ∧ ((M 22 a 0 = -2 ∧ M 23 a 0 ≠ c) ∨ (M 22 a 0 ≠ -2 ∧ M 22 a 0 ≠ c))) ∨ (z = 0 ∧ ¬ (M 21 a 0 = c ∧ ((M 22 a 0 = -2 ∧ M 23 a 0 ≠ c) ∨ (M 22 a 0 ≠ -2 ∧ M 22 a 0 ≠ c)))))) := by
  refine CI.of (by decide +kernel) (Nat.le_of_ble_eq_true rfl) (fun pᵢ eᵢ sᵢ mᵢ argsᵢ belowᵢ methᵢ cᵢ Aᵢ Qᵢ X RI => ?_)
  show SW pᵢ l eᵢ rm_X2_isLentBy sᵢ mᵢ argsᵢ belowᵢ methᵢ cᵢ 2 D Aᵢ 0 0 Qᵢ (pW k L M) 0 [(0, .ref a), (1, .int (J c))] []
  refine sw_aload_n X dX2_isLentBy_0 rfl 0 rfl ?_
  refine px_get (v := .int (J (M 21 a 0))) X iw_X2 hq.1 (by decide) hq.2 rfl 1 (by decide) gw2_226 rfl rfl dX2_isLentBy_1 ?_
  refine sw_iload_n X dX2_isLentBy_4 rfl 1 rfl ?_
  refine sw_icmp_ne (tgt := 36) X (by omega) (by omega) dX2_isLentBy_5 (by decide) (fun h1 => ?_) (fun h1 => ?_)
  · refine sw_iconst X dX2_isLentBy_36 ?_
    exact RI _ _ _ _ _ _ dX2_isLentBy_37 (Nat.le_of_ble_eq_true rfl) (Nat.le_of_ble_eq_true rfl) rfl ⟨rfl, by omega⟩
  · refine sw_aload_n X dX2_isLentBy_8 rfl 0 rfl ?_
    refine px_get (v := .int (J (M 22 a 0))) X iw_X2 hq.1 (by decide) hq.2 rfl 2 (by decide) gw2_227 rfl rfl dX2_isLentBy_9 ?_
    refine sw_bipush X dX2_isLentBy_12 (by decide +kernel) ?_
    refine sw_icmp_ne (tgt := 24) X (by omega) (by omega) dX2_isLentBy_14 (by decide) (fun h2 => ?_) (fun h2 => ?_)
    · refine sw_aload_n X dX2_isLentBy_24 rfl 0 rfl ?_
      refine px_get (v := .int (J (M 22 a 0))) X iw_X2 hq.1 (by decide) hq.2 rfl 2 (by decide) gw2_227 rfl rfl dX2_isLentBy_25 ?_
      refine sw_iload_n X dX2_isLentBy_28 rfl 1 rfl ?_
      refine sw_icmp_eq (tgt := 36) X (by omega) (by omega) dX2_isLentBy_29 (by decide) (fun h3 => ?_) (fun h3 => ?_)
      · refine sw_iconst X dX2_isLentBy_36 ?_
        exact RI _ _ _ _ _ _ dX2_isLentBy_37 (Nat.le_of_ble_eq_true rfl) (Nat.le_of_ble_eq_true rfl) rfl ⟨rfl, by omega⟩
      · refine sw_iconst X dX2_isLentBy_32 ?_
        refine sw_goto (tgt := 37) X dX2_isLentBy_33 (by decide) ?_
        exact RI _ _ _ _ _ _ dX2_isLentBy_37 (Nat.le_of_ble_eq_true rfl) (Nat.le_of_ble_eq_true rfl) rfl ⟨rfl, by omega⟩
    · refine sw_aload_n X dX2_isLentBy_17 rfl 0 rfl ?_
      refine px_get (v := .int (J (M 23 a 0))) X iw_X2 hq.1 (by decide) hq.2 rfl 3 (by decide) gw2_229 rfl rfl dX2_isLentBy_18 ?_
      refine sw_goto (tgt := 28) X dX2_isLentBy_21 (by decide) ?_
      refine sw_iload_n X dX2_isLentBy_28 rfl 1 rfl ?_
      refine sw_icmp_eq (tgt := 36) X (by omega) (by omega) dX2_isLentBy_29 (by decide) (fun h4 => ?_) (fun h4 => ?_)
      · refine sw_iconst X dX2_isLentBy_36 ?_
        exact RI _ _ _ _ _ _ dX2_isLentBy_37 (Nat.le_of_ble_eq_true rfl) (Nat.le_of_ble_eq_true rfl) rfl ⟨rfl, by omega⟩
      · refine sw_iconst X dX2_isLentBy_32 ?_
        refine sw_goto (tgt := 37) X dX2_isLentBy_33 (by decide) ?_
        exact RI _ _ _ _ _ _ dX2_isLentBy_37 (Nat.le_of_ble_eq_true rfl) (Nat.le_of_ble_eq_true rfl) rfl ⟨rfl, by omega⟩
abbrev rm_X0_isDown : Room := { frames := 0, cells := 0, slots := 0, locals := 0 }
set_option maxHeartbeats 4000000 in
set_option maxRecDepth 100000 in
theorem c_X0_isDown (l : Launch) (D : va_G) (k : Nat → ClassId) (L : List Nat) (M : MM) (a : Nat) (hq : a ∈ L ∧ M 90 a 0 = 0) (hr : -1 ≤ M 2 a 0 ∧ M 2 a 0 ≤ 3) : CI l yX0_isDown cX0_isDown 1 (some .boolean) rm_X0_isDown D k [.ref a] (pW k L M) (fun z w' => w' = pW k L M ∧ ((z = 1 ∧ M 2 a 0 ≠ -1) ∨ (z = 0 ∧ M 2 a 0 = -1))) := by
  refine CI.of (by decide +kernel) (Nat.le_of_ble_eq_true rfl) (fun pᵢ eᵢ sᵢ mᵢ argsᵢ belowᵢ methᵢ cᵢ Aᵢ Qᵢ X RI => ?_)
  show SW pᵢ l eᵢ rm_X0_isDown sᵢ mᵢ argsᵢ belowᵢ methᵢ cᵢ 1 D Aᵢ 0 0 Qᵢ (pW k L M) 0 [(0, .ref a)] []
  refine sw_aload_n X dX0_isDown_0 rfl 0 rfl ?_
  refine px_get (v := .int (J (M 2 a 0))) X iw_X0 hq.1 (by decide) hq.2 rfl 2 (by decide) gw2_116 rfl rfl dX0_isDown_1 ?_
  refine sw_iconst X dX0_isDown_4 ?_
  refine sw_icmp_eq (tgt := 12) X (by omega) (by omega) dX0_isDown_5 (by decide) (fun h1 => ?_) (fun h1 => ?_)
  · refine sw_iconst X dX0_isDown_12 ?_
    exact RI _ _ _ _ _ _ dX0_isDown_13 (Nat.le_of_ble_eq_true rfl) (Nat.le_of_ble_eq_true rfl) rfl ⟨rfl, by omega⟩
  · refine sw_iconst X dX0_isDown_8 ?_
    refine sw_goto (tgt := 13) X dX0_isDown_9 (by decide) ?_
    exact RI _ _ _ _ _ _ dX0_isDown_13 (Nat.le_of_ble_eq_true rfl) (Nat.le_of_ble_eq_true rfl) rfl ⟨rfl, by omega⟩
abbrev rm_X0_recordAt : Room := { frames := 1, cells := 0, slots := 0, locals := 22 }
set_option maxHeartbeats 4000000 in
set_option maxRecDepth 100000 in
theorem c_X0_recordAt (l : Launch) (D : va_G) (k : Nat → ClassId) (L : List Nat) (M : MM) (a r : Nat) (g : Int) (hq : a ∈ L ∧ M 90 a 0 = 0) (hP : M 1 a 0 = (r : Int)) (hr : r ∈ L ∧ M 90 r 0 = 10) (hn : M 91 r 0 = 10) (hg : 0 ≤ g ∧ g < 10) : CI l yX0_recordAt cX0_recordAt 2 (some .int) rm_X0_recordAt D k [.ref a, .int (J g)] (pW k L M) (fun z w' => w' = pW k L M ∧ z = M 92 r g) := by
  refine CI.of (by decide +kernel) (Nat.le_of_ble_eq_true rfl) (fun pᵢ eᵢ sᵢ mᵢ argsᵢ belowᵢ methᵢ cᵢ Aᵢ Qᵢ X RI => ?_)
  show SW pᵢ l eᵢ rm_X0_recordAt sᵢ mᵢ argsᵢ belowᵢ methᵢ cᵢ 2 D Aᵢ 0 0 Qᵢ (pW k L M) 0 [(0, .ref a), (1, .int (J g))] []
  refine sw_iload_n X dX0_recordAt_0 rfl 1 rfl ?_
  refine sw_iconst X dX0_recordAt_1 ?_
  refine sw_bipush X dX0_recordAt_2 (by decide +kernel) ?_
  refine sw_callSNI (As := [.int (J g), .int (J 0), .int (J 9)]) (rest := []) X (c_X5_isWithin l D k (pW k L M) g 0 9 (by omega)) (sw_cwSN X 3 (List.mem_of_getElem? (i := 2) rfl) gw1_103 gw1_1 gw1_104 (by decide +kernel) ⟨Nat.le_of_ble_eq_true rfl, Nat.le_of_ble_eq_true rfl⟩) dX0_recordAt_4 rfl rfl (Nat.le_of_ble_eq_true rfl) ⟨Nat.le_of_ble_eq_true rfl, Nat.le_of_ble_eq_true rfl⟩ (fun z1 w9 hp2 => ?_)
  obtain ⟨rfl, hp2⟩ := hp2
  refine sw_if_eq (tgt := 19) X (by omega) dX0_recordAt_7 (by decide) (fun h3 => ?_) (fun h3 => ?_)
  · refine sw_iconst X dX0_recordAt_19 ?_
    exact RI _ _ _ _ _ _ dX0_recordAt_20 (Nat.le_of_ble_eq_true rfl) (Nat.le_of_ble_eq_true rfl) rfl ⟨rfl, by first | rfl | omega⟩
  · refine sw_aload_n X dX0_recordAt_10 rfl 0 rfl ?_
    refine px_get (v := .ref r) X iw_X0 hq.1 (by decide) hq.2 rfl 1 (by decide) gw2_115 rfl (congrArg some (rf_of hP)) dX0_recordAt_11 ?_
    refine sw_iload_n X dX0_recordAt_14 rfl 1 rfl ?_
    refine px_iald X hr.1 hr.2 hn (by omega) (by omega) (by omega) dX0_recordAt_15 ?_
    refine sw_goto (tgt := 20) X dX0_recordAt_16 (by decide) ?_
    exact RI _ _ _ _ _ _ dX0_recordAt_20 (Nat.le_of_ble_eq_true rfl) (Nat.le_of_ble_eq_true rfl) rfl ⟨rfl, by first | rfl | omega⟩
abbrev rm_X0_setRecord : Room := { frames := 1, cells := 0, slots := 0, locals := 22 }
set_option maxHeartbeats 4000000 in
set_option maxRecDepth 100000 in
theorem c_X0_setRecord (l : Launch) (D : va_G) (k : Nat → ClassId) (L : List Nat) (M : MM) (a r : Nat) (g v : Int) (hq : a ∈ L ∧ M 90 a 0 = 0) (hP : M 1 a 0 = (r : Int)) (hr : r ∈ L ∧ M 90 r 0 = 10) (hn : M 91 r 0 = 10) (hg : 0 ≤ g ∧ g < 10) : CV l yX0_setRecord cX0_setRecord 3 none rm_X0_setRecord D k [.ref a, .int (J g), .int (J v)] (pW k L M) (fun w' => w' = pW k L (upM M 92 r g v)) := by
  refine CV.of (by decide +kernel) (Nat.le_of_ble_eq_true rfl) (fun pᵢ eᵢ sᵢ mᵢ argsᵢ belowᵢ methᵢ cᵢ Aᵢ Qᵢ X hnm RV => ?_)
  show SW pᵢ l eᵢ rm_X0_setRecord sᵢ mᵢ argsᵢ belowᵢ methᵢ cᵢ 3 D Aᵢ 0 0 Qᵢ (pW k L M) 0 [(0, .ref a), (1, .int (J g)), (2, .int (J v))] []
  refine sw_iload_n X dX0_setRecord_0 rfl 1 rfl ?_
  refine sw_iconst X dX0_setRecord_1 ?_
  refine sw_bipush X dX0_setRecord_2 (by decide +kernel) ?_
  refine sw_callSNI (As := [.int (J g), .int (J 0), .int (J 9)]) (rest := []) X (c_X5_isWithin l D k (pW k L M) g 0 9 (by omega)) (sw_cwSN X 3 (List.mem_of_getElem? (i := 2) rfl) gw1_103 gw1_1 gw1_104 (by decide +kernel) ⟨Nat.le_of_ble_eq_true rfl, Nat.le_of_ble_eq_true rfl⟩) dX0_setRecord_4 rfl rfl (Nat.le_of_ble_eq_true rfl) ⟨Nat.le_of_ble_eq_true rfl, Nat.le_of_ble_eq_true rfl⟩ (fun z1 w9 hp2 => ?_)
  obtain ⟨rfl, hp2⟩ := hp2
  refine sw_if_eq (tgt := 17) X (by omega) dX0_setRecord_7 (by decide) (fun h3 => ?_) (fun h3 => ?_)
  · exact RV _ _ _ _ _ dX0_setRecord_17 (Nat.le_of_ble_eq_true rfl) (Nat.le_of_ble_eq_true rfl) (by first | rfl | (exfalso; omega))
  · refine sw_aload_n X dX0_setRecord_10 rfl 0 rfl ?_
    refine px_get (v := .ref r) X iw_X0 hq.1 (by decide) hq.2 rfl 1 (by decide) gw2_115 rfl (congrArg some (rf_of hP)) dX0_setRecord_11 ?_
    refine sw_iload_n X dX0_setRecord_14 rfl 1 rfl ?_
    refine sw_iload_n X dX0_setRecord_15 rfl 2 rfl ?_
    refine px_iast X hr.1 hr.2 hn (by omega) (by omega) (by omega) dX0_setRecord_16 ?_
    exact RV _ _ _ _ _ dX0_setRecord_17 (Nat.le_of_ble_eq_true rfl) (Nat.le_of_ble_eq_true rfl) (by first | rfl | (exfalso; omega))
abbrev rm_X0_timeAt : Room := { frames := 2, cells := 0, slots := 0, locals := 43 }
set_option maxHeartbeats 4000000 in
set_option maxRecDepth 100000 in
theorem c_X0_timeAt (l : Launch) (D : va_G) (k : Nat → ClassId) (L : List Nat) (M : MM) (a r : Nat) (g t : Int) (hq : a ∈ L ∧ M 90 a 0 = 0) (hP : M 1 a 0 = (r : Int)) (hr : r ∈ L ∧ M 90 r 0 = 10) (hn : M 91 r 0 = 10) (hg : 0 ≤ g ∧ g < 10) (hv : -1 ≤ M 92 r g ∧ M 92 r g ≤ 10000) : CI l yX0_timeAt cX0_timeAt 4 (some .int) rm_X0_timeAt D k [.ref a, .int (J g), .int (J t)] (pW k L M) (fun z w' => w' = pW k L M ∧ z = if M 92 r g = -1 then t else M 92 r g) := by
  refine CI.of (by decide +kernel) (Nat.le_of_ble_eq_true rfl) (fun pᵢ eᵢ sᵢ mᵢ argsᵢ belowᵢ methᵢ cᵢ Aᵢ Qᵢ X RI => ?_)
  show SW pᵢ l eᵢ rm_X0_timeAt sᵢ mᵢ argsᵢ belowᵢ methᵢ cᵢ 4 D Aᵢ 0 0 Qᵢ (pW k L M) 0 [(0, .ref a), (1, .int (J g)), (2, .int (J t))] []
  refine sw_aload_n X dX0_timeAt_0 rfl 0 rfl ?_
  refine sw_iload_n X dX0_timeAt_1 rfl 1 rfl ?_
  refine px_callVI (C := RX0) (As := [.int (J g)]) (rest := []) X (c_X0_recordAt l D k L M a r g hq hP hr hn hg) (cwV 1 (sw_ts X) (sw_goodV gw3_48 gw3_49 gw3_50 gw1_12 gw3_51) rfl rfl rfl (by decide +kernel) ⟨Nat.le_of_ble_eq_true rfl, Nat.le_of_ble_eq_true rfl⟩) ⟨hq.1, hq.2⟩ (by decide) rfl rfl dX0_timeAt_2 rfl rfl (Nat.le_of_ble_eq_true rfl) ⟨Nat.le_of_ble_eq_true rfl, Nat.le_of_ble_eq_true rfl⟩ (fun z1 w9 hp2 => ?_)
  obtain ⟨rfl, rfl⟩ := hp2
  refine sw_istore_n (lv' := [(3, .int (J (M 92 r g))), (0, .ref a), (1, .int (J g)), (2, .int (J t))]) X dX0_timeAt_5 rfl (by decide) rfl ?_
  refine sw_iload_n X dX0_timeAt_6 rfl 0 rfl ?_
  refine sw_iconst X dX0_timeAt_7 ?_
  refine sw_icmp_ne (tgt := 15) X (by omega) (by omega) dX0_timeAt_8 (by decide) (fun h3 => ?_) (fun h3 => ?_)
  · refine sw_iload_n X dX0_timeAt_15 rfl 0 rfl ?_
    exact RI _ _ _ _ _ _ dX0_timeAt_16 (Nat.le_of_ble_eq_true rfl) (Nat.le_of_ble_eq_true rfl) rfl ⟨rfl, by split <;> omega⟩
  · refine sw_iload_n X dX0_timeAt_11 rfl 3 rfl ?_
    refine sw_goto (tgt := 16) X dX0_timeAt_12 (by decide) ?_
    exact RI _ _ _ _ _ _ dX0_timeAt_16 (Nat.le_of_ble_eq_true rfl) (Nat.le_of_ble_eq_true rfl) rfl ⟨rfl, by split <;> omega⟩
