/-! what each call answers: which exception (0: none), the state behind it, the answer -/
def cOk (st : ST) (c : Int) : Prop := 0 ≤ c ∧ c < st 9 0
theorem cPl_b {N : Int} {st : ST} {a : Int} (hI : I6 N st) (ha : a = -1 ∨ (0 ≤ a ∧ a < 8)) : 0 ≤ cPl st a ∧ cPl st a ≤ 255 := by
  have h1 := I_st hI
  unfold cPl
  split
  · exact h1
  · rename_i h
    have h8 : 0 ≤ a ∧ a < 8 := by omega
    have h2 := pA_full hI h8.1 h8.2 (m := clk st a) (nP st a) (by rw [nP_e hI h8.1 h8.2]; omega) (Int.le_refl _)
    have h3 := I_t hI a (nP st a) h8.1 h8.2 (by rw [nP_e hI h8.1 h8.2]; omega)
    unfold aC
    rw [h2]
    dsimp only
    omega
def kSetStart (st : ST) (a : Int) : Int := if ¬ (0 ≤ a ∧ a ≤ 255) then 1 else if st 2 0 > 0 ∨ st 9 0 > 0 then 2 else 0
def kAddEntry (st : ST) (a b : Int) : Int := if ¬ ((1 ≤ a ∧ a ≤ 15) ∧ 0 ≤ b ∧ b ≤ 3) then 1 else if st 2 0 = 30 ∨ ¬ ((0 ≤ (bP st (st 2 0).toNat).1 + dx (bP st (st 2 0).toNat).2.2 a ∧ (bP st (st 2 0).toNat).1 + dx (bP st (st 2 0).toNat).2.2 a ≤ 15) ∧ 0 ≤ (bP st (st 2 0).toNat).2.1 + dy (bP st (st 2 0).toNat).2.2 a ∧ (bP st (st 2 0).toNat).2.1 + dy (bP st (st 2 0).toNat).2.2 a ≤ 15) then 2 else 0
def sAddEntry (st : ST) (a b : Int) : ST := up2 (up2 (up2 st 3 (st 2 0) a) 4 (st 2 0) b) 2 0 (st 2 0 + 1)
def vAddEntry (st : ST) (a : Int) : Int := 16 * ((bP st (st 2 0).toNat).1 + dx (bP st (st 2 0).toNat).2.2 a) + ((bP st (st 2 0).toNat).2.1 + dy (bP st (st 2 0).toNat).2.2 a)
def kAddGate (st : ST) (a b : Int) : Int := if ¬ (0 ≤ a ∧ a < st 2 0) then 1 else if ¬ ((0 ≤ b ∧ b ≤ 100) ∧ (st 5 0 = 0 ∨ st 6 (st 5 0 - 1) < a)) then 2 else if st 5 0 = 10 then 3 else 0
def sAddGate (st : ST) (a b : Int) : ST := up2 (up2 (up2 st 6 (st 5 0) a) 7 (st 5 0) b) 5 0 (st 5 0 + 1)
def kCut (a : Int) : Int := if 0 ≤ a ∧ a ≤ 10 then 0 else 1
def kEnter (st : ST) : Int := if st 9 0 = 8 then 1 else 0
def onG (st : ST) (c a : Int) : Prop := (0 ≤ (tP st c (nP st c)).1 + dx (tP st c (nP st c)).2.2 a ∧ (tP st c (nP st c)).1 + dx (tP st c (nP st c)).2.2 a ≤ 15) ∧ 0 ≤ (tP st c (nP st c)).2.1 + dy (tP st c (nP st c)).2.2 a ∧ (tP st c (nP st c)).2.1 + dy (tP st c (nP st c)).2.2 a ≤ 15
def kDrive (st : ST) (c a b : Int) : Int := if ¬ (0 ≤ c ∧ c < st 9 0) then 1 else if ¬ ((0 ≤ a ∧ a ≤ 15) ∧ 0 ≤ b ∧ b ≤ 3) then 2 else if ¬ ((st 14 c = -1 ∧ st 10 c < 60) ∧ (0 ≤ (tP st c (nP st c)).1 + dx (tP st c (nP st c)).2.2 a ∧ (tP st c (nP st c)).1 + dx (tP st c (nP st c)).2.2 a ≤ 15) ∧ 0 ≤ (tP st c (nP st c)).2.1 + dy (tP st c (nP st c)).2.2 a ∧ (tP st c (nP st c)).2.1 + dy (tP st c (nP st c)).2.2 a ≤ 15) then 3 else 0
def kStand (st : ST) (c a : Int) : Int := if ¬ (0 ≤ c ∧ c < st 9 0) then 1 else if ¬ (1 ≤ a ∧ a ≤ 100) then 2 else if st 10 c = 60 then 3 else 0
def kBreak (st : ST) (c a : Int) : Int := if ¬ ((0 ≤ c ∧ c < st 9 0) ∧ 0 ≤ a ∧ a ≤ 3) then 1 else if st 14 c = -1 then 0 else 2
def kMend (st : ST) (c : Int) : Int := if ¬ (0 ≤ c ∧ c < st 9 0) then 1 else if ¬ (st 14 c ≠ -1 ∧ st 10 c < 60) then 2 else if fPt st c (st 14 c) = -1 then 3 else 0
def sMend (st : ST) (c : Int) : ST := up2 (aP (up2 (up2 st 20 (fPt st c (st 14 c)) (-2)) 21 (fPt st c (st 14 c)) c) c (-1) (3 * (st 14 c + 1)) 0) 14 c (-1)
def kBring (st : ST) (a b : Int) : Int := if ¬ ((0 ≤ a ∧ a ≤ 3) ∧ (b = -1 ∨ (0 ≤ b ∧ b < st 9 0))) then 1 else if st 17 0 = 40 then 2 else 0
def sBring (st : ST) (a b : Int) : ST := up2 (up2 (up2 (up2 st 18 (st 17 0) a) 19 (st 17 0) b) 20 (st 17 0) b) 17 0 (st 17 0 + 1)
def kHand (st : ST) (a b : Int) : Int := if ¬ ((0 ≤ a ∧ a < st 17 0) ∧ (b = -1 ∨ (0 ≤ b ∧ b < st 9 0))) then 1 else if ¬ ((st 20 a ≠ -2 ∧ st 20 a ≠ b) ∧ cPl st (st 20 a) = cPl st b) then 2 else 0
def kRecord (st : ST) (c g a : Int) : Int := if ¬ ((0 ≤ c ∧ c < st 9 0) ∧ 0 ≤ g ∧ g < st 5 0) then 1 else if 0 ≤ a ∧ a ≤ 10000 then 0 else 2
def kAppeal (st : ST) (c g : Int) : Int := if ¬ ((0 ≤ c ∧ c < st 9 0) ∧ 0 ≤ g ∧ g < st 5 0) then 1 else if st 16 (10 * c + g) = -1 then 2 else 0
def sAppeal (st : ST) (c g : Int) : ST := if st 16 (10 * c + g) = pas st c g then up2 st 15 c (st 15 c + 1) else up2 st 16 (10 * c + g) (-1)
def vAppeal (st : ST) (c g : Int) : Int := if st 16 (10 * c + g) = pas st c g then 0 else 1
def kGate (st : ST) (g : Int) : Int := if 0 ≤ g ∧ g < st 5 0 then 0 else 1
def kCar (st : ST) (c : Int) : Int := if 0 ≤ c ∧ c < st 9 0 then 0 else 1
def kPart (st : ST) (j : Int) : Int := if 0 ≤ j ∧ j < st 17 0 then 0 else 1
def kCellAt (st : ST) (c a : Int) : Int := if ¬ (0 ≤ c ∧ c < st 9 0) then 1 else if 0 ≤ a ∧ a ≤ clk st c then 0 else 2
def kCG (st : ST) (c g : Int) : Int := if (0 ≤ c ∧ c < st 9 0) ∧ 0 ≤ g ∧ g < st 5 0 then 0 else 1
def vBroken (st : ST) (c : Int) : Int := if st 14 c = -1 then 0 else 1
/-- behind a call of the reference that answers K (a place among its exceptions, or 0) with V, and comes to S -/
def oP (k : Nat → ClassId) (ad : Nat → Nat) (st S : ST) (K V : Int) : Int → va_W → Prop := fun z w' =>
  (∃ (tl' : Int → Int) (q x' y' h' : Int), w' = mW k ad st tl' q x' y' h' ∧ q ≠ 0 ∧ q = K) ∨ (∃ (tl' : Int → Int) (x' y' h' : Int), w' = mW k ad S tl' 0 x' y' h' ∧ K = 0 ∧ z = V)
abbrev rm_X6_setStart : Room := { frames := 1, cells := 0, slots := 0, locals := 22 }
set_option maxHeartbeats 4000000 in
set_option maxRecDepth 100000 in
theorem c_X6_setStart (l : Launch) (D : va_G) (k : Nat → ClassId) (N : Int) (ad : Nat → Nat) (st : Nat → Int → Int) (tl : Int → Int) (t x y h : Int) (a : Int) (hI : I6 N st) (h_a : (-2147483648 ≤ a ∧ a < 2147483648)) : CI l yX6_setStart cX6_setStart 3 (some .int) rm_X6_setStart D k [.ref (ad 0), .int (J a)] (mW k ad st tl t x y h) (oP k ad st (up2 st 1 0 a) (kSetStart st a) (st 1 0)) := by
  refine CI.of (by decide +kernel) (Nat.le_of_ble_eq_true rfl) (fun pᵢ eᵢ sᵢ mᵢ argsᵢ belowᵢ methᵢ cᵢ Aᵢ Qᵢ X RI => ?_)
  show SW pᵢ l eᵢ rm_X6_setStart sᵢ mᵢ argsᵢ belowᵢ methᵢ cᵢ 3 D Aᵢ 0 0 Qᵢ (mW k ad st tl t x y h) 0 [(0, .ref (ad 0)), (1, .int (J a))] []
  have hS_ := I_st hI
  have hE_ := I_en hI
  have hG_ := I_ga hI
  have hU_ := I_cu hI
  have hC_ := I_ca hI
  have hP_ := I_pa hI
  refine sw_aload_n X dX6_setStart_0 rfl 0 rfl ?_
  refine sw_iload_n X dX6_setStart_1 rfl 1 rfl ?_
  refine sw_iconst X dX6_setStart_2 ?_
  refine sw_sipush X dX6_setStart_3 (by decide +kernel) ?_
  refine sw_callSI0 (As := [.int (J a), .int (J 0), .int (J 255)]) (rest := [.ref (ad 0)]) X (c_X6_in l D k (mW k ad st tl t x y h) a 0 255 (by omega)) (va_cwS 3 (sw_ts X) (sw_goodS gw4_55 gw4_56 gw1_3 gw4_57) rfl rfl rfl (by decide +kernel) ⟨Nat.le_of_ble_eq_true rfl, Nat.le_of_ble_eq_true rfl⟩) dX6_setStart_6 rfl rfl (Nat.le_of_ble_eq_true rfl) ⟨Nat.le_of_ble_eq_true rfl, Nat.le_of_ble_eq_true rfl⟩ (fun z1 w9 hp2 => ?_)
  obtain ⟨rfl, hp2⟩ := hp2
  refine sw_if_ne (tgt := 16) X (by omega) dX6_setStart_9 (by decide) (fun h3 => ?_) (fun h3 => ?_)
  · refine sw_aload_n X dX6_setStart_16 rfl 0 rfl ?_
    refine sw_get (q0 := 0) (v := .int (J (st 2 0))) X iw_X6 rfl rfl 2 (by decide) gw3_210 rfl rfl dX6_setStart_17 ?_
    refine sw_if_gt (tgt := 30) X (by omega) dX6_setStart_20 (by decide) (fun h4 => ?_) (fun h4 => ?_)
    · refine sw_iconst X dX6_setStart_30 ?_
      refine sw_goto (tgt := 35) X dX6_setStart_31 (by decide) ?_
      refine sw_callVI0 (C := RX6) (As := [.int (J 2)]) (rest := []) X (c_X6_goesWell l D k ad st tl t x y h 2 (by omega)) (cwV 1 (sw_ts X) (sw_goodV gw4_58 gw4_60 gws_17 gw1_3 gw4_61) rfl rfl rfl (by decide +kernel) ⟨Nat.le_of_ble_eq_true rfl, Nat.le_of_ble_eq_true rfl⟩) 0 (ci := 6) rfl rfl rfl dX6_setStart_35 rfl rfl (Nat.le_of_ble_eq_true rfl) ⟨Nat.le_of_ble_eq_true rfl, Nat.le_of_ble_eq_true rfl⟩ (fun z5 w9 hp6 => ?_)
      obtain ⟨rfl, hp6⟩ := hp6
      obtain rfl : z5 = 0 := by omega
      clear hp6
      refine sw_if_ne (tgt := 43) X (by omega) dX6_setStart_38 (by decide) (fun h7 => ?_) (fun h7 => ?_)
      · exfalso; revert h7; decide
      · refine sw_iconst X dX6_setStart_41 ?_
        exact RI _ _ _ _ _ _ dX6_setStart_42 (by decide) (by decide) rfl (Or.inl ⟨_, _, _, _, _, rfl, by decide, by unfold kSetStart; rw [if_neg (by omega), if_pos (by omega)]⟩)
    · refine sw_aload_n X dX6_setStart_23 rfl 0 rfl ?_
      refine sw_get (q0 := 0) (v := .int (J (st 9 0))) X iw_X6 rfl rfl 9 (by decide) gw3_217 rfl rfl dX6_setStart_24 ?_
      refine sw_if_le (tgt := 34) X (by omega) dX6_setStart_27 (by decide) (fun h8 => ?_) (fun h8 => ?_)
      · refine sw_iconst X dX6_setStart_34 ?_
        refine sw_callVI0 (C := RX6) (As := [.int (J 0)]) (rest := []) X (c_X6_goesWell l D k ad st tl t x y h 0 (by omega)) (cwV 1 (sw_ts X) (sw_goodV gw4_58 gw4_60 gws_17 gw1_3 gw4_61) rfl rfl rfl (by decide +kernel) ⟨Nat.le_of_ble_eq_true rfl, Nat.le_of_ble_eq_true rfl⟩) 0 (ci := 6) rfl rfl rfl dX6_setStart_35 rfl rfl (Nat.le_of_ble_eq_true rfl) ⟨Nat.le_of_ble_eq_true rfl, Nat.le_of_ble_eq_true rfl⟩ (fun z9 w9 hp10 => ?_)
        obtain ⟨rfl, hp10⟩ := hp10
        obtain rfl : z9 = 1 := by omega
        clear hp10
        refine sw_if_ne (tgt := 43) X (by omega) dX6_setStart_38 (by decide) (fun h11 => ?_) (fun h11 => ?_)
        · refine sw_aload_n X dX6_setStart_43 rfl 0 rfl ?_
          refine sw_get (q0 := 0) (v := .int (J (st 1 0))) X iw_X6 rfl rfl 1 (by decide) gw3_209 rfl rfl dX6_setStart_44 ?_
          refine sw_istore_n (lv' := [(2, .int (J (st 1 0))), (0, .ref (ad 0)), (1, .int (J a))]) X dX6_setStart_47 rfl (by decide) rfl ?_
          refine sw_aload_n X dX6_setStart_48 rfl 1 rfl ?_
          refine sw_iload_n X dX6_setStart_49 rfl 2 rfl ?_
          refine sw_put (q0 := 0) X iw_X6 tyX6 tyX6_ok nmX6 rfl rfl 1 (by decide) gw3_209 rfl rfl (ty := .int) (by decide +kernel) rfl rfl (Nat.le_of_ble_eq_true rfl) mW_p1 dX6_setStart_50 ?_
          refine sw_iload_n X dX6_setStart_53 rfl 0 rfl ?_
          exact RI _ _ _ _ _ _ dX6_setStart_54 (by decide) (by decide) rfl (Or.inr ⟨_, _, _, _, rfl, by unfold kSetStart; rw [if_neg (by omega), if_neg (by omega)], rfl⟩)
        · exfalso; revert h11; decide
      · refine sw_iconst X dX6_setStart_30 ?_
        refine sw_goto (tgt := 35) X dX6_setStart_31 (by decide) ?_
        refine sw_callVI0 (C := RX6) (As := [.int (J 2)]) (rest := []) X (c_X6_goesWell l D k ad st tl t x y h 2 (by omega)) (cwV 1 (sw_ts X) (sw_goodV gw4_58 gw4_60 gws_17 gw1_3 gw4_61) rfl rfl rfl (by decide +kernel) ⟨Nat.le_of_ble_eq_true rfl, Nat.le_of_ble_eq_true rfl⟩) 0 (ci := 6) rfl rfl rfl dX6_setStart_35 rfl rfl (Nat.le_of_ble_eq_true rfl) ⟨Nat.le_of_ble_eq_true rfl, Nat.le_of_ble_eq_true rfl⟩ (fun z12 w9 hp13 => ?_)
        obtain ⟨rfl, hp13⟩ := hp13
        obtain rfl : z12 = 0 := by omega
        clear hp13
        refine sw_if_ne (tgt := 43) X (by omega) dX6_setStart_38 (by decide) (fun h14 => ?_) (fun h14 => ?_)
        · exfalso; revert h14; decide
        · refine sw_iconst X dX6_setStart_41 ?_
          exact RI _ _ _ _ _ _ dX6_setStart_42 (by decide) (by decide) rfl (Or.inl ⟨_, _, _, _, _, rfl, by decide, by unfold kSetStart; rw [if_neg (by omega), if_pos (by omega)]⟩)
  · refine sw_iconst X dX6_setStart_12 ?_
    refine sw_goto (tgt := 35) X dX6_setStart_13 (by decide) ?_
    refine sw_callVI0 (C := RX6) (As := [.int (J 1)]) (rest := []) X (c_X6_goesWell l D k ad st tl t x y h 1 (by omega)) (cwV 1 (sw_ts X) (sw_goodV gw4_58 gw4_60 gws_17 gw1_3 gw4_61) rfl rfl rfl (by decide +kernel) ⟨Nat.le_of_ble_eq_true rfl, Nat.le_of_ble_eq_true rfl⟩) 0 (ci := 6) rfl rfl rfl dX6_setStart_35 rfl rfl (Nat.le_of_ble_eq_true rfl) ⟨Nat.le_of_ble_eq_true rfl, Nat.le_of_ble_eq_true rfl⟩ (fun z15 w9 hp16 => ?_)
    obtain ⟨rfl, hp16⟩ := hp16
    obtain rfl : z15 = 0 := by omega
    clear hp16
    refine sw_if_ne (tgt := 43) X (by omega) dX6_setStart_38 (by decide) (fun h17 => ?_) (fun h17 => ?_)
    · exfalso; revert h17; decide
    · refine sw_iconst X dX6_setStart_41 ?_
      exact RI _ _ _ _ _ _ dX6_setStart_42 (by decide) (by decide) rfl (Or.inl ⟨_, _, _, _, _, rfl, by decide, by unfold kSetStart; rw [if_pos (by omega)]⟩)
abbrev rm_X6_cut : Room := { frames := 1, cells := 0, slots := 0, locals := 22 }
set_option maxHeartbeats 4000000 in
set_option maxRecDepth 100000 in
theorem c_X6_cut (l : Launch) (D : va_G) (k : Nat → ClassId) (N : Int) (ad : Nat → Nat) (st : Nat → Int → Int) (tl : Int → Int) (t x y h : Int) (a : Int) (hI : I6 N st) (h_a : (-2147483648 ≤ a ∧ a < 2147483648)) : CI l yX6_cut cX6_cut 3 (some .int) rm_X6_cut D k [.ref (ad 0), .int (J a)] (mW k ad st tl t x y h) (oP k ad st (up2 st 8 0 a) (kCut a) (st 8 0)) := by
  refine CI.of (by decide +kernel) (Nat.le_of_ble_eq_true rfl) (fun pᵢ eᵢ sᵢ mᵢ argsᵢ belowᵢ methᵢ cᵢ Aᵢ Qᵢ X RI => ?_)
  show SW pᵢ l eᵢ rm_X6_cut sᵢ mᵢ argsᵢ belowᵢ methᵢ cᵢ 3 D Aᵢ 0 0 Qᵢ (mW k ad st tl t x y h) 0 [(0, .ref (ad 0)), (1, .int (J a))] []
  have hS_ := I_st hI
  have hE_ := I_en hI
  have hG_ := I_ga hI
  have hU_ := I_cu hI
  have hC_ := I_ca hI
  have hP_ := I_pa hI
  refine sw_aload_n X dX6_cut_0 rfl 0 rfl ?_
  refine sw_iload_n X dX6_cut_1 rfl 1 rfl ?_
  refine sw_iconst X dX6_cut_2 ?_
  refine sw_bipush X dX6_cut_3 (by decide +kernel) ?_
  refine sw_callSI0 (As := [.int (J a), .int (J 0), .int (J 10)]) (rest := [.ref (ad 0)]) X (c_X6_in l D k (mW k ad st tl t x y h) a 0 10 (by omega)) (va_cwS 3 (sw_ts X) (sw_goodS gw4_55 gw4_56 gw1_3 gw4_57) rfl rfl rfl (by decide +kernel) ⟨Nat.le_of_ble_eq_true rfl, Nat.le_of_ble_eq_true rfl⟩) dX6_cut_5 rfl rfl (Nat.le_of_ble_eq_true rfl) ⟨Nat.le_of_ble_eq_true rfl, Nat.le_of_ble_eq_true rfl⟩ (fun z1 w9 hp2 => ?_)
  obtain ⟨rfl, hp2⟩ := hp2
  refine sw_if_eq (tgt := 15) X (by omega) dX6_cut_8 (by decide) (fun h3 => ?_) (fun h3 => ?_)
  · refine sw_iconst X dX6_cut_15 ?_
    refine sw_callVI0 (C := RX6) (As := [.int (J 1)]) (rest := []) X (c_X6_goesWell l D k ad st tl t x y h 1 (by omega)) (cwV 1 (sw_ts X) (sw_goodV gw4_58 gw4_60 gws_17 gw1_3 gw4_61) rfl rfl rfl (by decide +kernel) ⟨Nat.le_of_ble_eq_true rfl, Nat.le_of_ble_eq_true rfl⟩) 0 (ci := 6) rfl rfl rfl dX6_cut_16 rfl rfl (Nat.le_of_ble_eq_true rfl) ⟨Nat.le_of_ble_eq_true rfl, Nat.le_of_ble_eq_true rfl⟩ (fun z4 w9 hp5 => ?_)
    obtain ⟨rfl, hp5⟩ := hp5
    obtain rfl : z4 = 0 := by omega
    clear hp5
    refine sw_if_ne (tgt := 24) X (by omega) dX6_cut_19 (by decide) (fun h6 => ?_) (fun h6 => ?_)
    · exfalso; revert h6; decide
    · refine sw_iconst X dX6_cut_22 ?_
      exact RI _ _ _ _ _ _ dX6_cut_23 (by decide) (by decide) rfl (Or.inl ⟨_, _, _, _, _, rfl, by decide, by unfold kCut; rw [if_neg (by omega)]⟩)
  · refine sw_iconst X dX6_cut_11 ?_
    refine sw_goto (tgt := 16) X dX6_cut_12 (by decide) ?_
    refine sw_callVI0 (C := RX6) (As := [.int (J 0)]) (rest := []) X (c_X6_goesWell l D k ad st tl t x y h 0 (by omega)) (cwV 1 (sw_ts X) (sw_goodV gw4_58 gw4_60 gws_17 gw1_3 gw4_61) rfl rfl rfl (by decide +kernel) ⟨Nat.le_of_ble_eq_true rfl, Nat.le_of_ble_eq_true rfl⟩) 0 (ci := 6) rfl rfl rfl dX6_cut_16 rfl rfl (Nat.le_of_ble_eq_true rfl) ⟨Nat.le_of_ble_eq_true rfl, Nat.le_of_ble_eq_true rfl⟩ (fun z7 w9 hp8 => ?_)
    obtain ⟨rfl, hp8⟩ := hp8
    obtain rfl : z7 = 1 := by omega
    clear hp8
    refine sw_if_ne (tgt := 24) X (by omega) dX6_cut_19 (by decide) (fun h9 => ?_) (fun h9 => ?_)
    · refine sw_aload_n X dX6_cut_24 rfl 0 rfl ?_
      refine sw_get (q0 := 0) (v := .int (J (st 8 0))) X iw_X6 rfl rfl 8 (by decide) gw3_216 rfl rfl dX6_cut_25 ?_
      refine sw_istore_n (lv' := [(2, .int (J (st 8 0))), (0, .ref (ad 0)), (1, .int (J a))]) X dX6_cut_28 rfl (by decide) rfl ?_
      refine sw_aload_n X dX6_cut_29 rfl 1 rfl ?_
      refine sw_iload_n X dX6_cut_30 rfl 2 rfl ?_
      refine sw_put (q0 := 0) X iw_X6 tyX6 tyX6_ok nmX6 rfl rfl 8 (by decide) gw3_216 rfl rfl (ty := .int) (by decide +kernel) rfl rfl (Nat.le_of_ble_eq_true rfl) mW_p8 dX6_cut_31 ?_
      refine sw_iload_n X dX6_cut_34 rfl 0 rfl ?_
      exact RI _ _ _ _ _ _ dX6_cut_35 (by decide) (by decide) rfl (Or.inr ⟨_, _, _, _, rfl, by unfold kCut; rw [if_pos (by omega)], rfl⟩)
    · exfalso; revert h9; decide
abbrev rm_X6_enter : Room := { frames := 1, cells := 0, slots := 0, locals := 21 }
set_option maxHeartbeats 4000000 in
set_option maxRecDepth 100000 in
theorem c_X6_enter (l : Launch) (D : va_G) (k : Nat → ClassId) (N : Int) (ad : Nat → Nat) (st : Nat → Int → Int) (tl : Int → Int) (t x y h : Int) (hI : I6 N st) : CI l yX6_enter cX6_enter 1 (some .int) rm_X6_enter D k [.ref (ad 0)] (mW k ad st tl t x y h) (oP k ad st (up2 st 9 0 (st 9 0 + 1)) (kEnter st) (st 9 0)) := by
  refine CI.of (by decide +kernel) (Nat.le_of_ble_eq_true rfl) (fun pᵢ eᵢ sᵢ mᵢ argsᵢ belowᵢ methᵢ cᵢ Aᵢ Qᵢ X RI => ?_)
  show SW pᵢ l eᵢ rm_X6_enter sᵢ mᵢ argsᵢ belowᵢ methᵢ cᵢ 1 D Aᵢ 0 0 Qᵢ (mW k ad st tl t x y h) 0 [(0, .ref (ad 0))] []
  have hS_ := I_st hI
  have hE_ := I_en hI
  have hG_ := I_ga hI
  have hU_ := I_cu hI
  have hC_ := I_ca hI
  have hP_ := I_pa hI
  refine sw_aload_n X dX6_enter_0 rfl 0 rfl ?_
  refine sw_aload_n X dX6_enter_1 rfl 0 rfl ?_
  refine sw_get (q0 := 0) (v := .int (J (st 9 0))) X iw_X6 rfl rfl 9 (by decide) gw3_217 rfl rfl dX6_enter_2 ?_
  refine sw_bipush X dX6_enter_5 (by decide +kernel) ?_
  refine sw_icmp_ne (tgt := 14) X (by omega) (by omega) dX6_enter_7 (by decide) (fun h1 => ?_) (fun h1 => ?_)
  · refine sw_iconst X dX6_enter_14 ?_
    refine sw_callVI0 (C := RX6) (As := [.int (J 0)]) (rest := []) X (c_X6_goesWell l D k ad st tl t x y h 0 (by omega)) (cwV 1 (sw_ts X) (sw_goodV gw4_58 gw4_60 gws_17 gw1_3 gw4_61) rfl rfl rfl (by decide +kernel) ⟨Nat.le_of_ble_eq_true rfl, Nat.le_of_ble_eq_true rfl⟩) 0 (ci := 6) rfl rfl rfl dX6_enter_15 rfl rfl (Nat.le_of_ble_eq_true rfl) ⟨Nat.le_of_ble_eq_true rfl, Nat.le_of_ble_eq_true rfl⟩ (fun z2 w9 hp3 => ?_)
    obtain ⟨rfl, hp3⟩ := hp3
    obtain rfl : z2 = 1 := by omega
    clear hp3
    refine sw_if_ne (tgt := 23) X (by omega) dX6_enter_18 (by decide) (fun h4 => ?_) (fun h4 => ?_)
    · refine sw_aload_n X dX6_enter_23 rfl 0 rfl ?_
      refine sw_dup X dX6_enter_24 rfl ?_
      refine sw_get (q0 := 0) (v := .int (J (st 9 0))) X iw_X6 rfl rfl 9 (by decide) gw3_217 rfl rfl dX6_enter_25 ?_
      refine sw_iconst X dX6_enter_28 ?_
      refine sw_iadd X dX6_enter_29 ?_
      refine sw_put (q0 := 0) X iw_X6 tyX6 tyX6_ok nmX6 rfl rfl 9 (by decide) gw3_217 rfl rfl (ty := .int) (by decide +kernel) rfl rfl (Nat.le_of_ble_eq_true rfl) mW_p9 dX6_enter_30 ?_
      refine sw_aload_n X dX6_enter_33 rfl 0 rfl ?_
      refine sw_get (q0 := 0) (v := .int (J ((st 9 0) + 1))) X iw_X6 rfl rfl 9 (by decide) gw3_217 rfl rfl dX6_enter_34 ?_
      refine sw_iconst X dX6_enter_37 ?_
      refine sw_isub X dX6_enter_38 ?_
      exact RI _ _ _ _ _ _ dX6_enter_39 (by decide) (by decide) rfl (Or.inr ⟨_, _, _, _, rfl, by unfold kEnter; rw [if_neg (by omega)], by omega⟩)
    · exfalso; revert h4; decide
  · refine sw_iconst X dX6_enter_10 ?_
    refine sw_goto (tgt := 15) X dX6_enter_11 (by decide) ?_
    refine sw_callVI0 (C := RX6) (As := [.int (J 1)]) (rest := []) X (c_X6_goesWell l D k ad st tl t x y h 1 (by omega)) (cwV 1 (sw_ts X) (sw_goodV gw4_58 gw4_60 gws_17 gw1_3 gw4_61) rfl rfl rfl (by decide +kernel) ⟨Nat.le_of_ble_eq_true rfl, Nat.le_of_ble_eq_true rfl⟩) 0 (ci := 6) rfl rfl rfl dX6_enter_15 rfl rfl (Nat.le_of_ble_eq_true rfl) ⟨Nat.le_of_ble_eq_true rfl, Nat.le_of_ble_eq_true rfl⟩ (fun z5 w9 hp6 => ?_)
    obtain ⟨rfl, hp6⟩ := hp6
    obtain rfl : z5 = 0 := by omega
    clear hp6
    refine sw_if_ne (tgt := 23) X (by omega) dX6_enter_18 (by decide) (fun h7 => ?_) (fun h7 => ?_)
    · exfalso; revert h7; decide
    · refine sw_iconst X dX6_enter_21 ?_
      exact RI _ _ _ _ _ _ dX6_enter_22 (by decide) (by decide) rfl (Or.inl ⟨_, _, _, _, _, rfl, by decide, by unfold kEnter; rw [if_pos (by omega)]⟩)
abbrev rm_X6_addEntry : Room := { frames := 2, cells := 0, slots := 0, locals := 43 }
set_option maxHeartbeats 4000000 in
set_option maxRecDepth 100000 in
theorem c_X6_addEntry (l : Launch) (D : va_G) (k : Nat → ClassId) (N : Int) (ad : Nat → Nat) (st : Nat → Int → Int) (tl : Int → Int) (t x y h : Int) (a b : Int) (hI : I6 N st) (h_a : (-2147483648 ≤ a ∧ a < 2147483648)) (h_b : (-2147483648 ≤ b ∧ b < 2147483648)) : CI l yX6_addEntry cX6_addEntry 4 (some .int) rm_X6_addEntry D k [.ref (ad 0), .int (J a), .int (J b)] (mW k ad st tl t x y h) (oP k ad st (sAddEntry st a b) (kAddEntry st a b) (vAddEntry st a)) := by
  refine CI.of (by decide +kernel) (Nat.le_of_ble_eq_true rfl) (fun pᵢ eᵢ sᵢ mᵢ argsᵢ belowᵢ methᵢ cᵢ Aᵢ Qᵢ X RI => ?_)
  show SW pᵢ l eᵢ rm_X6_addEntry sᵢ mᵢ argsᵢ belowᵢ methᵢ cᵢ 4 D Aᵢ 0 0 Qᵢ (mW k ad st tl t x y h) 0 [(0, .ref (ad 0)), (1, .int (J a)), (2, .int (J b))] []
  have hS_ := I_st hI
  have hE_ := I_en hI
  have hG_ := I_ga hI
  have hU_ := I_cu hI
  have hC_ := I_ca hI
  have hP_ := I_pa hI
  have hb1 := I_b hI (st 2 0).toNat (by omega)
  have hb2 := bP_h st (st 2 0).toNat
  refine sw_iload_n X dX6_addEntry_0 rfl 1 rfl ?_
  refine sw_iconst X dX6_addEntry_1 ?_
  refine sw_bipush X dX6_addEntry_2 (by decide +kernel) ?_
  refine sw_callSI0 (As := [.int (J a), .int (J 1), .int (J 15)]) (rest := []) X (c_X6_in l D k (mW k ad st tl t x y h) a 1 15 (by omega)) (va_cwS 3 (sw_ts X) (sw_goodS gw4_55 gw4_56 gw1_3 gw4_57) rfl rfl rfl (by decide +kernel) ⟨Nat.le_of_ble_eq_true rfl, Nat.le_of_ble_eq_true rfl⟩) dX6_addEntry_4 rfl rfl (Nat.le_of_ble_eq_true rfl) ⟨Nat.le_of_ble_eq_true rfl, Nat.le_of_ble_eq_true rfl⟩ (fun z1 w9 hp2 => ?_)
  obtain ⟨rfl, hp2⟩ := hp2
  have jn3 : ∀ (z9 : Int), ((z9 = 1 ∧ (1 ≤ a ∧ a ≤ 15) ∧ 0 ≤ b ∧ b ≤ 3) ∨ (z9 = 0 ∧ ¬ ((1 ≤ a ∧ a ≤ 15) ∧ 0 ≤ b ∧ b ≤ 3))) → SW pᵢ l eᵢ rm_X6_addEntry sᵢ mᵢ argsᵢ belowᵢ methᵢ cᵢ 4 D Aᵢ 0 0 Qᵢ (mW k ad st tl t x y h) 24 [(0, .ref (ad 0)), (1, .int (J a)), (2, .int (J b))] [.int (J z9)] := by
    intro z9 hz9
    refine sw_istore_n (lv' := [(3, .int (J z9)), (0, .ref (ad 0)), (1, .int (J a)), (2, .int (J b))]) X dX6_addEntry_24 rfl (by decide) rfl ?_
    refine sw_aload_n X dX6_addEntry_25 rfl 1 rfl ?_
    refine sw_aload_n X dX6_addEntry_26 rfl 1 rfl ?_
    refine sw_get (q0 := 0) (v := .int (J (st 2 0))) X iw_X6 rfl rfl 2 (by decide) gw3_210 rfl rfl dX6_addEntry_27 ?_
    refine sw_callVV0 (C := RX6) (As := [.int (J (st 2 0))]) (rest := []) X (c_X6_followBook l D k N ad st tl t x y h (st 2 0) hI (by omega)) (cwV 1 (sw_ts X) (sw_goodV gw4_66 gw4_68 gws_18 gw1_3 gw4_69) rfl rfl rfl (by decide +kernel) ⟨Nat.le_of_ble_eq_true rfl, Nat.le_of_ble_eq_true rfl⟩) 0 (ci := 6) rfl rfl rfl dX6_addEntry_30 rfl rfl (Nat.le_of_ble_eq_true rfl) ⟨Nat.le_of_ble_eq_true rfl, Nat.le_of_ble_eq_true rfl⟩ (fun w9 hp5 => ?_)
    subst hp5
    refine sw_aload_n X dX6_addEntry_33 rfl 1 rfl ?_
    refine sw_iload_n X dX6_addEntry_34 rfl 0 rfl ?_
    have jn6 : ∀ (z8 : Int), (z8 = if z9 = 1 then a else 0) → SW pᵢ l eᵢ rm_X6_addEntry sᵢ mᵢ argsᵢ belowᵢ methᵢ cᵢ 4 D Aᵢ 0 0 Qᵢ (mW k ad st tl t ((bP st (st 2 0).toNat).1) ((bP st (st 2 0).toNat).2.1) ((bP st (st 2 0).toNat).2.2)) 43 [(0, .ref (ad 0)), (1, .int (J a)), (2, .int (J b)), (3, .int (J z9))] [.int (J z8), .ref (ad 0)] := by
      intro z8 hz8
      have hz8b : (z9 = 1 ∧ z8 = a) ∨ (z9 = 0 ∧ z8 = 0) := by rw [hz8]; split <;> omega
      have hd1 := dx_b (bP st (st 2 0).toNat).2.2 z8 (by omega)
      have hd2 := dy_b (bP st (st 2 0).toNat).2.2 z8 (by omega)
      refine sw_callVV0 (C := RX6) (As := [.int (J z8)]) (rest := []) X (c_X6_goOn l D k ad st tl t ((bP st (st 2 0).toNat).1) ((bP st (st 2 0).toNat).2.1) ((bP st (st 2 0).toNat).2.2) z8 (by omega)) (cwV 1 (sw_ts X) (sw_goodV gw4_74 gw4_76 gws_20 gw1_3 gw4_77) rfl rfl rfl (by decide +kernel) ⟨Nat.le_of_ble_eq_true rfl, Nat.le_of_ble_eq_true rfl⟩) 0 (ci := 6) rfl rfl rfl dX6_addEntry_43 rfl rfl (Nat.le_of_ble_eq_true rfl) ⟨Nat.le_of_ble_eq_true rfl, Nat.le_of_ble_eq_true rfl⟩ (fun w9 hp8 => ?_)
      subst hp8
      refine sw_aload_n X dX6_addEntry_46 rfl 0 rfl ?_
      refine sw_iload_n X dX6_addEntry_47 rfl 3 rfl ?_
      refine sw_if_ne (tgt := 55) X (by omega) dX6_addEntry_48 (by decide) (fun h9 => ?_) (fun h9 => ?_)
      · refine sw_aload_n X dX6_addEntry_55 rfl 0 rfl ?_
        refine sw_get (q0 := 0) (v := .int (J (st 2 0))) X iw_X6 rfl rfl 2 (by decide) gw3_210 rfl rfl dX6_addEntry_56 ?_
        refine sw_bipush X dX6_addEntry_59 (by decide +kernel) ?_
        refine sw_icmp_eq (tgt := 71) X (by omega) (by omega) dX6_addEntry_61 (by decide) (fun h10 => ?_) (fun h10 => ?_)
        · refine sw_iconst X dX6_addEntry_71 ?_
          refine sw_goto (tgt := 76) X dX6_addEntry_72 (by decide) ?_
          refine sw_callVI0 (C := RX6) (As := [.int (J 2)]) (rest := []) X (c_X6_goesWell l D k ad st tl t (((bP st (st 2 0).toNat).1) + dx ((bP st (st 2 0).toNat).2.2) z8) (((bP st (st 2 0).toNat).2.1) + dy ((bP st (st 2 0).toNat).2.2) z8) ((bP st (st 2 0).toNat).2.2) 2 (by omega)) (cwV 1 (sw_ts X) (sw_goodV gw4_58 gw4_60 gws_17 gw1_3 gw4_61) rfl rfl rfl (by decide +kernel) ⟨Nat.le_of_ble_eq_true rfl, Nat.le_of_ble_eq_true rfl⟩) 0 (ci := 6) rfl rfl rfl dX6_addEntry_76 rfl rfl (Nat.le_of_ble_eq_true rfl) ⟨Nat.le_of_ble_eq_true rfl, Nat.le_of_ble_eq_true rfl⟩ (fun z11 w9 hp12 => ?_)
          obtain ⟨rfl, hp12⟩ := hp12
          obtain rfl : z11 = 0 := by omega
          clear hp12
          refine sw_if_ne (tgt := 84) X (by omega) dX6_addEntry_79 (by decide) (fun h13 => ?_) (fun h13 => ?_)
          · exfalso; revert h13; decide
          · refine sw_iconst X dX6_addEntry_82 ?_
            exact RI _ _ _ _ _ _ dX6_addEntry_83 (by decide) (by decide) rfl (Or.inl ⟨_, _, _, _, _, rfl, by decide, by have q : a = z8 := (by omega); subst q; unfold kAddEntry; rw [if_neg (by omega), if_pos (by omega)]⟩)
        · refine sw_aload_n X dX6_addEntry_64 rfl 0 rfl ?_
          refine sw_callVI0 (C := RX6) (As := []) (rest := [.ref (ad 0)]) X (c_X6_isOnGround l D k ad st tl t (((bP st (st 2 0).toNat).1) + dx ((bP st (st 2 0).toNat).2.2) z8) (((bP st (st 2 0).toNat).2.1) + dy ((bP st (st 2 0).toNat).2.2) z8) ((bP st (st 2 0).toNat).2.2) (by omega)) (cwV 0 (sw_ts X) (sw_goodV gw4_78 gw4_80 gws_21 gw1_3 gw4_81) rfl rfl rfl (by decide +kernel) ⟨Nat.le_of_ble_eq_true rfl, Nat.le_of_ble_eq_true rfl⟩) 0 (ci := 6) rfl rfl rfl dX6_addEntry_65 rfl rfl (Nat.le_of_ble_eq_true rfl) ⟨Nat.le_of_ble_eq_true rfl, Nat.le_of_ble_eq_true rfl⟩ (fun z14 w9 hp15 => ?_)
          obtain ⟨rfl, hp15⟩ := hp15
          refine sw_if_ne (tgt := 75) X (by omega) dX6_addEntry_68 (by decide) (fun h16 => ?_) (fun h16 => ?_)
          · have hza : a = z8 := by omega
            subst hza
            refine sw_iconst X dX6_addEntry_75 ?_
            refine sw_callVI0 (C := RX6) (As := [.int (J 0)]) (rest := []) X (c_X6_goesWell l D k ad st tl t (((bP st (st 2 0).toNat).1) + dx ((bP st (st 2 0).toNat).2.2) a) (((bP st (st 2 0).toNat).2.1) + dy ((bP st (st 2 0).toNat).2.2) a) ((bP st (st 2 0).toNat).2.2) 0 (by omega)) (cwV 1 (sw_ts X) (sw_goodV gw4_58 gw4_60 gws_17 gw1_3 gw4_61) rfl rfl rfl (by decide +kernel) ⟨Nat.le_of_ble_eq_true rfl, Nat.le_of_ble_eq_true rfl⟩) 0 (ci := 6) rfl rfl rfl dX6_addEntry_76 rfl rfl (Nat.le_of_ble_eq_true rfl) ⟨Nat.le_of_ble_eq_true rfl, Nat.le_of_ble_eq_true rfl⟩ (fun z17 w9 hp18 => ?_)
            obtain ⟨rfl, hp18⟩ := hp18
            obtain rfl : z17 = 1 := by omega
            clear hp18
            refine sw_if_ne (tgt := 84) X (by omega) dX6_addEntry_79 (by decide) (fun h19 => ?_) (fun h19 => ?_)
            · refine sw_aload_n X dX6_addEntry_84 rfl 0 rfl ?_
              refine sw_get (q0 := 0) (v := .ref (ad 3)) X iw_X6 rfl rfl 3 (by decide) gw3_211 rfl rfl dX6_addEntry_85 ?_
              refine sw_aload_n X dX6_addEntry_88 rfl 0 rfl ?_
              refine sw_get (q0 := 0) (v := .int (J (st 2 0))) X iw_X6 rfl rfl 2 (by decide) gw3_210 rfl rfl dX6_addEntry_89 ?_
              refine sw_iload_n X dX6_addEntry_92 rfl 1 rfl ?_
              refine sw_iast (q0 := 1) (n := 30) X rfl (by omega) (by omega) (by decide) mW_a3 dX6_addEntry_93 ?_
              refine sw_aload_n X dX6_addEntry_94 rfl 0 rfl ?_
              refine sw_get (q0 := 0) (v := .ref (ad 4)) X iw_X6 rfl rfl 4 (by decide) gw3_212 rfl rfl dX6_addEntry_95 ?_
              refine sw_aload_n X dX6_addEntry_98 rfl 0 rfl ?_
              refine sw_get (q0 := 0) (v := .int (J (st 2 0))) X iw_X6 rfl rfl 2 (by decide) gw3_210 rfl rfl dX6_addEntry_99 ?_
              refine sw_iload_n X dX6_addEntry_102 rfl 2 rfl ?_
              refine sw_iast (q0 := 2) (n := 30) X rfl (by omega) (by omega) (by decide) mW_a4 dX6_addEntry_103 ?_
              refine sw_aload_n X dX6_addEntry_104 rfl 0 rfl ?_
              refine sw_dup X dX6_addEntry_105 rfl ?_
              refine sw_get (q0 := 0) (v := .int (J (st 2 0))) X iw_X6 rfl rfl 2 (by decide) gw3_210 rfl rfl dX6_addEntry_106 ?_
              refine sw_iconst X dX6_addEntry_109 ?_
              refine sw_iadd X dX6_addEntry_110 ?_
              refine sw_put (q0 := 0) X iw_X6 tyX6 tyX6_ok nmX6 rfl rfl 2 (by decide) gw3_210 rfl rfl (ty := .int) (by decide +kernel) rfl rfl (Nat.le_of_ble_eq_true rfl) mW_p2 dX6_addEntry_111 ?_
              refine sw_aload_n X dX6_addEntry_114 rfl 0 rfl ?_
              refine sw_callVI0 (C := RX6) (As := []) (rest := []) X (c_X6_cell l D k ad (up2 (up2 (up2 st 3 (st 2 0) a) 4 (st 2 0) b) 2 0 ((st 2 0) + 1)) tl 0 (((bP st (st 2 0).toNat).1) + dx ((bP st (st 2 0).toNat).2.2) a) (((bP st (st 2 0).toNat).2.1) + dy ((bP st (st 2 0).toNat).2.2) a) ((bP st (st 2 0).toNat).2.2)) (cwV 0 (sw_ts X) (sw_goodV gw4_82 gw4_84 gws_22 gw1_3 gw4_85) rfl rfl rfl (by decide +kernel) ⟨Nat.le_of_ble_eq_true rfl, Nat.le_of_ble_eq_true rfl⟩) 0 (ci := 6) rfl rfl rfl dX6_addEntry_115 rfl rfl (Nat.le_of_ble_eq_true rfl) ⟨Nat.le_of_ble_eq_true rfl, Nat.le_of_ble_eq_true rfl⟩ (fun z20 w9 hp21 => ?_)
              obtain ⟨rfl, rfl⟩ := hp21
              exact RI _ _ _ _ _ _ dX6_addEntry_118 (by decide) (by decide) rfl (Or.inr ⟨_, _, _, _, rfl, by unfold kAddEntry; rw [if_neg (by omega), if_neg (by omega)], rfl⟩)
            · exfalso; revert h19; decide
          · refine sw_iconst X dX6_addEntry_71 ?_
            refine sw_goto (tgt := 76) X dX6_addEntry_72 (by decide) ?_
            refine sw_callVI0 (C := RX6) (As := [.int (J 2)]) (rest := []) X (c_X6_goesWell l D k ad st tl t (((bP st (st 2 0).toNat).1) + dx ((bP st (st 2 0).toNat).2.2) z8) (((bP st (st 2 0).toNat).2.1) + dy ((bP st (st 2 0).toNat).2.2) z8) ((bP st (st 2 0).toNat).2.2) 2 (by omega)) (cwV 1 (sw_ts X) (sw_goodV gw4_58 gw4_60 gws_17 gw1_3 gw4_61) rfl rfl rfl (by decide +kernel) ⟨Nat.le_of_ble_eq_true rfl, Nat.le_of_ble_eq_true rfl⟩) 0 (ci := 6) rfl rfl rfl dX6_addEntry_76 rfl rfl (Nat.le_of_ble_eq_true rfl) ⟨Nat.le_of_ble_eq_true rfl, Nat.le_of_ble_eq_true rfl⟩ (fun z22 w9 hp23 => ?_)
            obtain ⟨rfl, hp23⟩ := hp23
            obtain rfl : z22 = 0 := by omega
            clear hp23
            refine sw_if_ne (tgt := 84) X (by omega) dX6_addEntry_79 (by decide) (fun h24 => ?_) (fun h24 => ?_)
            · exfalso; revert h24; decide
            · refine sw_iconst X dX6_addEntry_82 ?_
              exact RI _ _ _ _ _ _ dX6_addEntry_83 (by decide) (by decide) rfl (Or.inl ⟨_, _, _, _, _, rfl, by decide, by have q : a = z8 := (by omega); subst q; unfold kAddEntry; rw [if_neg (by omega), if_pos (by omega)]⟩)
      · refine sw_iconst X dX6_addEntry_51 ?_
        refine sw_goto (tgt := 76) X dX6_addEntry_52 (by decide) ?_
        refine sw_callVI0 (C := RX6) (As := [.int (J 1)]) (rest := []) X (c_X6_goesWell l D k ad st tl t (((bP st (st 2 0).toNat).1) + dx ((bP st (st 2 0).toNat).2.2) z8) (((bP st (st 2 0).toNat).2.1) + dy ((bP st (st 2 0).toNat).2.2) z8) ((bP st (st 2 0).toNat).2.2) 1 (by omega)) (cwV 1 (sw_ts X) (sw_goodV gw4_58 gw4_60 gws_17 gw1_3 gw4_61) rfl rfl rfl (by decide +kernel) ⟨Nat.le_of_ble_eq_true rfl, Nat.le_of_ble_eq_true rfl⟩) 0 (ci := 6) rfl rfl rfl dX6_addEntry_76 rfl rfl (Nat.le_of_ble_eq_true rfl) ⟨Nat.le_of_ble_eq_true rfl, Nat.le_of_ble_eq_true rfl⟩ (fun z25 w9 hp26 => ?_)
        obtain ⟨rfl, hp26⟩ := hp26
        obtain rfl : z25 = 0 := by omega
        clear hp26
        refine sw_if_ne (tgt := 84) X (by omega) dX6_addEntry_79 (by decide) (fun h27 => ?_) (fun h27 => ?_)
        · exfalso; revert h27; decide
        · refine sw_iconst X dX6_addEntry_82 ?_
          exact RI _ _ _ _ _ _ dX6_addEntry_83 (by decide) (by decide) rfl (Or.inl ⟨_, _, _, _, _, rfl, by decide, by unfold kAddEntry; rw [if_pos (by omega)]⟩)
    refine sw_if_eq (tgt := 42) X (by omega) dX6_addEntry_35 (by decide) (fun h28 => ?_) (fun h28 => ?_)
    · refine sw_iconst X dX6_addEntry_42 ?_
      refine sw_sub [1, 2, 3, 0] rfl ?_
      exact jn6 0 (by split <;> omega)
    · refine sw_iload_n X dX6_addEntry_38 rfl 2 rfl ?_
      refine sw_goto (tgt := 43) X dX6_addEntry_39 (by decide) ?_
      refine sw_sub [1, 2, 3, 0] rfl ?_
      exact jn6 a (by split <;> omega)
  refine sw_if_eq (tgt := 23) X (by omega) dX6_addEntry_7 (by decide) (fun h29 => ?_) (fun h29 => ?_)
  · refine sw_iconst X dX6_addEntry_23 ?_
    exact jn3 0 (by omega)
  · refine sw_iload_n X dX6_addEntry_10 rfl 2 rfl ?_
    refine sw_iconst X dX6_addEntry_11 ?_
    refine sw_iconst X dX6_addEntry_12 ?_
    refine sw_callSI0 (As := [.int (J b), .int (J 0), .int (J 3)]) (rest := []) X (c_X6_in l D k (mW k ad st tl t x y h) b 0 3 (by omega)) (va_cwS 3 (sw_ts X) (sw_goodS gw4_55 gw4_56 gw1_3 gw4_57) rfl rfl rfl (by decide +kernel) ⟨Nat.le_of_ble_eq_true rfl, Nat.le_of_ble_eq_true rfl⟩) dX6_addEntry_13 rfl rfl (Nat.le_of_ble_eq_true rfl) ⟨Nat.le_of_ble_eq_true rfl, Nat.le_of_ble_eq_true rfl⟩ (fun z30 w9 hp31 => ?_)
    obtain ⟨rfl, hp31⟩ := hp31
    refine sw_if_eq (tgt := 23) X (by omega) dX6_addEntry_16 (by decide) (fun h32 => ?_) (fun h32 => ?_)
    · refine sw_iconst X dX6_addEntry_23 ?_
      exact jn3 0 (by omega)
    · refine sw_iconst X dX6_addEntry_19 ?_
      refine sw_goto (tgt := 24) X dX6_addEntry_20 (by decide) ?_
      exact jn3 1 (by omega)
abbrev rm_X6_addGate : Room := { frames := 1, cells := 0, slots := 0, locals := 22 }
set_option maxHeartbeats 4000000 in
set_option maxRecDepth 100000 in
theorem c_X6_addGate (l : Launch) (D : va_G) (k : Nat → ClassId) (N : Int) (ad : Nat → Nat) (st : Nat → Int → Int) (tl : Int → Int) (t x y h : Int) (a b : Int) (hI : I6 N st) (h_a : (-2147483648 ≤ a ∧ a < 2147483648)) (h_b : (-2147483648 ≤ b ∧ b < 2147483648)) : CI l yX6_addGate cX6_addGate 5 (some .int) rm_X6_addGate D k [.ref (ad 0), .int (J a), .int (J b)] (mW k ad st tl t x y h) (oP k ad st (sAddGate st a b) (kAddGate st a b) (st 5 0)) := by
  refine CI.of (by decide +kernel) (Nat.le_of_ble_eq_true rfl) (fun pᵢ eᵢ sᵢ mᵢ argsᵢ belowᵢ methᵢ cᵢ Aᵢ Qᵢ X RI => ?_)
  show SW pᵢ l eᵢ rm_X6_addGate sᵢ mᵢ argsᵢ belowᵢ methᵢ cᵢ 5 D Aᵢ 0 0 Qᵢ (mW k ad st tl t x y h) 0 [(0, .ref (ad 0)), (1, .int (J a)), (2, .int (J b))] []
  have hS_ := I_st hI
  have hE_ := I_en hI
  have hG_ := I_ga hI
  have hU_ := I_cu hI
  have hC_ := I_ca hI
  have hP_ := I_pa hI
  refine sw_iload_n X dX6_addGate_0 rfl 1 rfl ?_
  refine sw_iconst X dX6_addGate_1 ?_
  refine sw_aload_n X dX6_addGate_2 rfl 0 rfl ?_
  refine sw_get (q0 := 0) (v := .int (J (st 2 0))) X iw_X6 rfl rfl 2 (by decide) gw3_210 rfl rfl dX6_addGate_3 ?_
  refine sw_iconst X dX6_addGate_6 ?_
  refine sw_isub X dX6_addGate_7 ?_
  refine sw_callSI0 (As := [.int (J a), .int (J 0), .int (J ((st 2 0) - 1))]) (rest := []) X (c_X6_in l D k (mW k ad st tl t x y h) a 0 ((st 2 0) - 1) (by omega)) (va_cwS 3 (sw_ts X) (sw_goodS gw4_55 gw4_56 gw1_3 gw4_57) rfl rfl rfl (by decide +kernel) ⟨Nat.le_of_ble_eq_true rfl, Nat.le_of_ble_eq_true rfl⟩) dX6_addGate_8 rfl rfl (Nat.le_of_ble_eq_true rfl) ⟨Nat.le_of_ble_eq_true rfl, Nat.le_of_ble_eq_true rfl⟩ (fun z1 w9 hp2 => ?_)
  obtain ⟨rfl, hp2⟩ := hp2
  refine sw_istore_n (lv' := [(3, .int (J z1)), (0, .ref (ad 0)), (1, .int (J a)), (2, .int (J b))]) X dX6_addGate_11 rfl (by decide) rfl ?_
  refine sw_iload_n X dX6_addGate_12 rfl 3 rfl ?_
  refine sw_iconst X dX6_addGate_13 ?_
  refine sw_bipush X dX6_addGate_14 (by decide +kernel) ?_
  refine sw_callSI0 (As := [.int (J b), .int (J 0), .int (J 100)]) (rest := []) X (c_X6_in l D k (mW k ad st tl t x y h) b 0 100 (by omega)) (va_cwS 3 (sw_ts X) (sw_goodS gw4_55 gw4_56 gw1_3 gw4_57) rfl rfl rfl (by decide +kernel) ⟨Nat.le_of_ble_eq_true rfl, Nat.le_of_ble_eq_true rfl⟩) dX6_addGate_16 rfl rfl (Nat.le_of_ble_eq_true rfl) ⟨Nat.le_of_ble_eq_true rfl, Nat.le_of_ble_eq_true rfl⟩ (fun z3 w9 hp4 => ?_)
  obtain ⟨rfl, hp4⟩ := hp4
  have jn5 : ∀ (z9 : Int), ((z9 = 1 ∧ (0 ≤ b ∧ b ≤ 100) ∧ (st 5 0 = 0 ∨ st 6 (st 5 0 - 1) < a)) ∨ (z9 = 0 ∧ ¬ ((0 ≤ b ∧ b ≤ 100) ∧ (st 5 0 = 0 ∨ st 6 (st 5 0 - 1) < a)))) → SW pᵢ l eᵢ rm_X6_addGate sᵢ mᵢ argsᵢ belowᵢ methᵢ cᵢ 5 D Aᵢ 0 0 Qᵢ (mW k ad st tl t x y h) 49 [(0, .ref (ad 0)), (1, .int (J a)), (2, .int (J b)), (3, .int (J z1))] [.int (J z9)] := by
    intro z9 hz9
    refine sw_istore (lv' := [(4, .int (J z9)), (0, .ref (ad 0)), (1, .int (J a)), (2, .int (J b)), (3, .int (J z1))]) X dX6_addGate_49 (by decide) rfl ?_
    refine sw_aload_n X dX6_addGate_51 rfl 1 rfl ?_
    refine sw_iload_n X dX6_addGate_52 rfl 4 rfl ?_
    refine sw_if_ne (tgt := 60) X (by omega) dX6_addGate_53 (by decide) (fun h6 => ?_) (fun h6 => ?_)
    · refine sw_iload X dX6_addGate_60 0 rfl ?_
      refine sw_if_ne (tgt := 69) X (by omega) dX6_addGate_62 (by decide) (fun h7 => ?_) (fun h7 => ?_)
      · refine sw_aload_n X dX6_addGate_69 rfl 1 rfl ?_
        refine sw_get (q0 := 0) (v := .int (J (st 5 0))) X iw_X6 rfl rfl 5 (by decide) gw3_213 rfl rfl dX6_addGate_70 ?_
        refine sw_bipush X dX6_addGate_73 (by decide +kernel) ?_
        refine sw_icmp_ne (tgt := 82) X (by omega) (by omega) dX6_addGate_75 (by decide) (fun h8 => ?_) (fun h8 => ?_)
        · refine sw_iconst X dX6_addGate_82 ?_
          refine sw_callVI0 (C := RX6) (As := [.int (J 0)]) (rest := []) X (c_X6_goesWell l D k ad st tl t x y h 0 (by omega)) (cwV 1 (sw_ts X) (sw_goodV gw4_58 gw4_60 gws_17 gw1_3 gw4_61) rfl rfl rfl (by decide +kernel) ⟨Nat.le_of_ble_eq_true rfl, Nat.le_of_ble_eq_true rfl⟩) 0 (ci := 6) rfl rfl rfl dX6_addGate_83 rfl rfl (Nat.le_of_ble_eq_true rfl) ⟨Nat.le_of_ble_eq_true rfl, Nat.le_of_ble_eq_true rfl⟩ (fun z9 w9 hp10 => ?_)
          obtain ⟨rfl, hp10⟩ := hp10
          obtain rfl : z9 = 1 := by omega
          clear hp10
          refine sw_if_ne (tgt := 91) X (by omega) dX6_addGate_86 (by decide) (fun h11 => ?_) (fun h11 => ?_)
          · refine sw_aload_n X dX6_addGate_91 rfl 1 rfl ?_
            refine sw_get (q0 := 0) (v := .ref (ad 6)) X iw_X6 rfl rfl 6 (by decide) gw3_214 rfl rfl dX6_addGate_92 ?_
            refine sw_aload_n X dX6_addGate_95 rfl 1 rfl ?_
            refine sw_get (q0 := 0) (v := .int (J (st 5 0))) X iw_X6 rfl rfl 5 (by decide) gw3_213 rfl rfl dX6_addGate_96 ?_
            refine sw_iload_n X dX6_addGate_99 rfl 2 rfl ?_
            refine sw_iast (q0 := 3) (n := 10) X rfl (by omega) (by omega) (by decide) mW_a6 dX6_addGate_100 ?_
            refine sw_aload_n X dX6_addGate_101 rfl 1 rfl ?_
            refine sw_get (q0 := 0) (v := .ref (ad 7)) X iw_X6 rfl rfl 7 (by decide) gw3_215 rfl rfl dX6_addGate_102 ?_
            refine sw_aload_n X dX6_addGate_105 rfl 1 rfl ?_
            refine sw_get (q0 := 0) (v := .int (J (st 5 0))) X iw_X6 rfl rfl 5 (by decide) gw3_213 rfl rfl dX6_addGate_106 ?_
            refine sw_iload_n X dX6_addGate_109 rfl 3 rfl ?_
            refine sw_iast (q0 := 4) (n := 10) X rfl (by omega) (by omega) (by decide) mW_a7 dX6_addGate_110 ?_
            refine sw_aload_n X dX6_addGate_111 rfl 1 rfl ?_
            refine sw_dup X dX6_addGate_112 rfl ?_
            refine sw_get (q0 := 0) (v := .int (J (st 5 0))) X iw_X6 rfl rfl 5 (by decide) gw3_213 rfl rfl dX6_addGate_113 ?_
            refine sw_iconst X dX6_addGate_116 ?_
            refine sw_iadd X dX6_addGate_117 ?_
            refine sw_put (q0 := 0) X iw_X6 tyX6 tyX6_ok nmX6 rfl rfl 5 (by decide) gw3_213 rfl rfl (ty := .int) (by decide +kernel) rfl rfl (Nat.le_of_ble_eq_true rfl) mW_p5 dX6_addGate_118 ?_
            refine sw_aload_n X dX6_addGate_121 rfl 1 rfl ?_
            refine sw_get (q0 := 0) (v := .int (J ((st 5 0) + 1))) X iw_X6 rfl rfl 5 (by decide) gw3_213 rfl rfl dX6_addGate_122 ?_
            refine sw_iconst X dX6_addGate_125 ?_
            refine sw_isub X dX6_addGate_126 ?_
            exact RI _ _ _ _ _ _ dX6_addGate_127 (by decide) (by decide) rfl (Or.inr ⟨_, _, _, _, rfl, by unfold kAddGate; rw [if_neg (by omega), if_neg (by omega), if_neg (by omega)], by omega⟩)
          · exfalso; revert h11; decide
        · refine sw_iconst X dX6_addGate_78 ?_
          refine sw_goto (tgt := 83) X dX6_addGate_79 (by decide) ?_
          refine sw_callVI0 (C := RX6) (As := [.int (J 3)]) (rest := []) X (c_X6_goesWell l D k ad st tl t x y h 3 (by omega)) (cwV 1 (sw_ts X) (sw_goodV gw4_58 gw4_60 gws_17 gw1_3 gw4_61) rfl rfl rfl (by decide +kernel) ⟨Nat.le_of_ble_eq_true rfl, Nat.le_of_ble_eq_true rfl⟩) 0 (ci := 6) rfl rfl rfl dX6_addGate_83 rfl rfl (Nat.le_of_ble_eq_true rfl) ⟨Nat.le_of_ble_eq_true rfl, Nat.le_of_ble_eq_true rfl⟩ (fun z12 w9 hp13 => ?_)
          obtain ⟨rfl, hp13⟩ := hp13
          obtain rfl : z12 = 0 := by omega
          clear hp13
          refine sw_if_ne (tgt := 91) X (by omega) dX6_addGate_86 (by decide) (fun h14 => ?_) (fun h14 => ?_)
          · exfalso; revert h14; decide
          · refine sw_iconst X dX6_addGate_89 ?_
            exact RI _ _ _ _ _ _ dX6_addGate_90 (by decide) (by decide) rfl (Or.inl ⟨_, _, _, _, _, rfl, by decide, by unfold kAddGate; rw [if_neg (by omega), if_neg (by omega), if_pos (by omega)]⟩)
      · refine sw_iconst X dX6_addGate_65 ?_
        refine sw_goto (tgt := 83) X dX6_addGate_66 (by decide) ?_
        refine sw_callVI0 (C := RX6) (As := [.int (J 2)]) (rest := []) X (c_X6_goesWell l D k ad st tl t x y h 2 (by omega)) (cwV 1 (sw_ts X) (sw_goodV gw4_58 gw4_60 gws_17 gw1_3 gw4_61) rfl rfl rfl (by decide +kernel) ⟨Nat.le_of_ble_eq_true rfl, Nat.le_of_ble_eq_true rfl⟩) 0 (ci := 6) rfl rfl rfl dX6_addGate_83 rfl rfl (Nat.le_of_ble_eq_true rfl) ⟨Nat.le_of_ble_eq_true rfl, Nat.le_of_ble_eq_true rfl⟩ (fun z15 w9 hp16 => ?_)
        obtain ⟨rfl, hp16⟩ := hp16
        obtain rfl : z15 = 0 := by omega
        clear hp16
        refine sw_if_ne (tgt := 91) X (by omega) dX6_addGate_86 (by decide) (fun h17 => ?_) (fun h17 => ?_)
        · exfalso; revert h17; decide
        · refine sw_iconst X dX6_addGate_89 ?_
          exact RI _ _ _ _ _ _ dX6_addGate_90 (by decide) (by decide) rfl (Or.inl ⟨_, _, _, _, _, rfl, by decide, by unfold kAddGate; rw [if_neg (by omega), if_pos (by omega)]⟩)
    · refine sw_iconst X dX6_addGate_56 ?_
      refine sw_goto (tgt := 83) X dX6_addGate_57 (by decide) ?_
      refine sw_callVI0 (C := RX6) (As := [.int (J 1)]) (rest := []) X (c_X6_goesWell l D k ad st tl t x y h 1 (by omega)) (cwV 1 (sw_ts X) (sw_goodV gw4_58 gw4_60 gws_17 gw1_3 gw4_61) rfl rfl rfl (by decide +kernel) ⟨Nat.le_of_ble_eq_true rfl, Nat.le_of_ble_eq_true rfl⟩) 0 (ci := 6) rfl rfl rfl dX6_addGate_83 rfl rfl (Nat.le_of_ble_eq_true rfl) ⟨Nat.le_of_ble_eq_true rfl, Nat.le_of_ble_eq_true rfl⟩ (fun z18 w9 hp19 => ?_)
      obtain ⟨rfl, hp19⟩ := hp19
      obtain rfl : z18 = 0 := by omega
      clear hp19
      refine sw_if_ne (tgt := 91) X (by omega) dX6_addGate_86 (by decide) (fun h20 => ?_) (fun h20 => ?_)
      · exfalso; revert h20; decide
      · refine sw_iconst X dX6_addGate_89 ?_
        exact RI _ _ _ _ _ _ dX6_addGate_90 (by decide) (by decide) rfl (Or.inl ⟨_, _, _, _, _, rfl, by decide, by unfold kAddGate; rw [if_pos (by omega)]⟩)
  refine sw_if_eq (tgt := 48) X (by omega) dX6_addGate_19 (by decide) (fun h21 => ?_) (fun h21 => ?_)
  · refine sw_iconst X dX6_addGate_48 ?_
    refine sw_sub [1, 2, 3, 0] rfl ?_
    exact jn5 0 (by omega)
  · refine sw_aload_n X dX6_addGate_22 rfl 1 rfl ?_
    refine sw_get (q0 := 0) (v := .int (J (st 5 0))) X iw_X6 rfl rfl 5 (by decide) gw3_213 rfl rfl dX6_addGate_23 ?_
    refine sw_if_eq (tgt := 44) X (by omega) dX6_addGate_26 (by decide) (fun h22 => ?_) (fun h22 => ?_)
    · refine sw_iconst X dX6_addGate_44 ?_
      refine sw_goto (tgt := 49) X dX6_addGate_45 (by decide) ?_
      refine sw_sub [1, 2, 3, 0] rfl ?_
      exact jn5 1 (by omega)
    · have h6 := I_g hI (st 5 0 - 1) (by omega) (by omega)
      refine sw_iload_n X dX6_addGate_29 rfl 2 rfl ?_
      refine sw_aload_n X dX6_addGate_30 rfl 1 rfl ?_
      refine sw_get (q0 := 0) (v := .ref (ad 6)) X iw_X6 rfl rfl 6 (by decide) gw3_214 rfl rfl dX6_addGate_31 ?_
      refine sw_aload_n X dX6_addGate_34 rfl 1 rfl ?_
      refine sw_get (q0 := 0) (v := .int (J (st 5 0))) X iw_X6 rfl rfl 5 (by decide) gw3_213 rfl rfl dX6_addGate_35 ?_
      refine sw_iconst X dX6_addGate_38 ?_
      refine sw_isub X dX6_addGate_39 ?_
      refine sw_iald (q0 := 3) (n := 10) X rfl (by omega) (by omega) (by decide) dX6_addGate_40 ?_
      refine sw_icmp_le (tgt := 48) X (by omega) (by omega) dX6_addGate_41 (by decide) (fun h23 => ?_) (fun h23 => ?_)
      · refine sw_iconst X dX6_addGate_48 ?_
        refine sw_sub [1, 2, 3, 0] rfl ?_
        exact jn5 0 (by omega)
      · refine sw_iconst X dX6_addGate_44 ?_
        refine sw_goto (tgt := 49) X dX6_addGate_45 (by decide) ?_
        refine sw_sub [1, 2, 3, 0] rfl ?_
        exact jn5 1 (by omega)
abbrev rm_X6_drive : Room := { frames := 2, cells := 0, slots := 0, locals := 48 }
set_option maxHeartbeats 4000000 in
set_option maxRecDepth 100000 in
theorem c_X6_drive (l : Launch) (D : va_G) (k : Nat → ClassId) (N : Int) (ad : Nat → Nat) (st : Nat → Int → Int) (tl : Int → Int) (t x y h : Int) (c a b : Int) (hI : I6 N st) (h_c : (-2147483648 ≤ c ∧ c < 2147483648)) (h_a : (-2147483648 ≤ a ∧ a < 2147483648)) (h_b : (-2147483648 ≤ b ∧ b < 2147483648)) : CI l yX6_drive cX6_drive 7 (some .int) rm_X6_drive D k [.ref (ad 0), .int (J c), .int (J a), .int (J b)] (mW k ad st tl t x y h) (oP k ad st (aP st c a a b) (kDrive st c a b) (clk (aP st c a a b) c)) := by
  refine CI.of (by decide +kernel) (Nat.le_of_ble_eq_true rfl) (fun pᵢ eᵢ sᵢ mᵢ argsᵢ belowᵢ methᵢ cᵢ Aᵢ Qᵢ X RI => ?_)
  show SW pᵢ l eᵢ rm_X6_drive sᵢ mᵢ argsᵢ belowᵢ methᵢ cᵢ 7 D Aᵢ 0 0 Qᵢ (mW k ad st tl t x y h) 0 [(0, .ref (ad 0)), (1, .int (J c)), (2, .int (J a)), (3, .int (J b))] []
  have hS_ := I_st hI
  have hE_ := I_en hI
  have hG_ := I_ga hI
  have hU_ := I_cu hI
  have hC_ := I_ca hI
  have hP_ := I_pa hI
  refine sw_aload_n X dX6_drive_0 rfl 0 rfl ?_
  refine sw_iload_n X dX6_drive_1 rfl 1 rfl ?_
  refine sw_callVI0 (C := RX6) (As := [.int (J c)]) (rest := []) X (c_X6_isCar l D k ad st tl t x y h c (by omega) (by omega)) (cwV 1 (sw_ts X) (sw_goodV gw4_102 gw4_104 gws_23 gw1_3 gw4_105) rfl rfl rfl (by decide +kernel) ⟨Nat.le_of_ble_eq_true rfl, Nat.le_of_ble_eq_true rfl⟩) 0 (ci := 6) rfl rfl rfl dX6_drive_2 rfl rfl (Nat.le_of_ble_eq_true rfl) ⟨Nat.le_of_ble_eq_true rfl, Nat.le_of_ble_eq_true rfl⟩ (fun z1 w9 hp2 => ?_)
  obtain ⟨rfl, hp2⟩ := hp2
  refine sw_istore (lv' := [(4, .int (J z1)), (0, .ref (ad 0)), (1, .int (J c)), (2, .int (J a)), (3, .int (J b))]) X dX6_drive_5 (by decide) rfl ?_
  refine sw_iload_n X dX6_drive_7 rfl 3 rfl ?_
  refine sw_iconst X dX6_drive_8 ?_
  refine sw_bipush X dX6_drive_9 (by decide +kernel) ?_
  refine sw_callSI0 (As := [.int (J a), .int (J 0), .int (J 15)]) (rest := []) X (c_X6_in l D k (mW k ad st tl t x y h) a 0 15 (by omega)) (va_cwS 3 (sw_ts X) (sw_goodS gw4_55 gw4_56 gw1_3 gw4_57) rfl rfl rfl (by decide +kernel) ⟨Nat.le_of_ble_eq_true rfl, Nat.le_of_ble_eq_true rfl⟩) dX6_drive_11 rfl rfl (Nat.le_of_ble_eq_true rfl) ⟨Nat.le_of_ble_eq_true rfl, Nat.le_of_ble_eq_true rfl⟩ (fun z3 w9 hp4 => ?_)
  obtain ⟨rfl, hp4⟩ := hp4
  have jn5 : ∀ (z9 : Int), ((z9 = 1 ∧ (0 ≤ a ∧ a ≤ 15) ∧ 0 ≤ b ∧ b ≤ 3) ∨ (z9 = 0 ∧ ¬ ((0 ≤ a ∧ a ≤ 15) ∧ 0 ≤ b ∧ b ≤ 3))) → SW pᵢ l eᵢ rm_X6_drive sᵢ mᵢ argsᵢ belowᵢ methᵢ cᵢ 7 D Aᵢ 0 0 Qᵢ (mW k ad st tl t x y h) 31 [(0, .ref (ad 0)), (1, .int (J c)), (2, .int (J a)), (3, .int (J b)), (4, .int (J z1))] [.int (J z9)] := by
    intro z9 hz9
    refine sw_istore (lv' := [(5, .int (J z9)), (0, .ref (ad 0)), (1, .int (J c)), (2, .int (J a)), (3, .int (J b)), (4, .int (J z1))]) X dX6_drive_31 (by decide) rfl ?_
    refine sw_iload X dX6_drive_33 5 rfl ?_
    have jn6 : ∀ (y9 : Int), ((y9 = 1 ∧ (0 ≤ c ∧ c < st 9 0) ∧ ((0 ≤ a ∧ a ≤ 15) ∧ 0 ≤ b ∧ b ≤ 3) ∧ st 14 c = -1 ∧ st 10 c < 60) ∨ (y9 = 0 ∧ ¬ ((0 ≤ c ∧ c < st 9 0) ∧ ((0 ≤ a ∧ a ≤ 15) ∧ 0 ≤ b ∧ b ≤ 3) ∧ st 14 c = -1 ∧ st 10 c < 60))) → SW pᵢ l eᵢ rm_X6_drive sᵢ mᵢ argsᵢ belowᵢ methᵢ cᵢ 7 D Aᵢ 0 0 Qᵢ (mW k ad st tl t x y h) 69 [(0, .ref (ad 0)), (1, .int (J c)), (2, .int (J a)), (3, .int (J b)), (4, .int (J z1)), (5, .int (J z9))] [.int (J y9)] := by
      intro y9 hy9
      refine sw_istore (lv' := [(6, .int (J y9)), (0, .ref (ad 0)), (1, .int (J c)), (2, .int (J a)), (3, .int (J b)), (4, .int (J z1)), (5, .int (J z9))]) X dX6_drive_69 (by decide) rfl ?_
      refine sw_iload X dX6_drive_71 0 rfl ?_
      have jn7 : ∀ (x9 u9 v9 g9 : Int), ((x9 = 1 ∧ y9 = 1 ∧ onG st c a) ∨ (x9 = 0 ∧ ¬ (y9 = 1 ∧ onG st c a))) → SW pᵢ l eᵢ rm_X6_drive sᵢ mᵢ argsᵢ belowᵢ methᵢ cᵢ 7 D Aᵢ 0 0 Qᵢ (mW k ad st tl t u9 v9 g9) 97 [(0, .ref (ad 0)), (1, .int (J c)), (2, .int (J a)), (3, .int (J b)), (4, .int (J z1)), (5, .int (J z9)), (6, .int (J x9))] [] := by
        intro x9 u9 v9 g9 hx9
        unfold onG at hx9
        refine sw_aload_n X dX6_drive_97 rfl 0 rfl ?_
        refine sw_iload X dX6_drive_98 4 rfl ?_
        refine sw_if_ne (tgt := 107) X (by omega) dX6_drive_100 (by decide) (fun h8 => ?_) (fun h8 => ?_)
        · refine sw_iload X dX6_drive_107 5 rfl ?_
          refine sw_if_ne (tgt := 116) X (by omega) dX6_drive_109 (by decide) (fun h9 => ?_) (fun h9 => ?_)
          · refine sw_iload X dX6_drive_116 6 rfl ?_
            refine sw_if_eq (tgt := 125) X (by omega) dX6_drive_118 (by decide) (fun h10 => ?_) (fun h10 => ?_)
            · refine sw_iconst X dX6_drive_125 ?_
              refine sw_callVI0 (C := RX6) (As := [.int (J 3)]) (rest := []) X (c_X6_goesWell l D k ad st tl t u9 v9 g9 3 (by omega)) (cwV 1 (sw_ts X) (sw_goodV gw4_58 gw4_60 gws_17 gw1_3 gw4_61) rfl rfl rfl (by decide +kernel) ⟨Nat.le_of_ble_eq_true rfl, Nat.le_of_ble_eq_true rfl⟩) 0 (ci := 6) rfl rfl rfl dX6_drive_126 rfl rfl (Nat.le_of_ble_eq_true rfl) ⟨Nat.le_of_ble_eq_true rfl, Nat.le_of_ble_eq_true rfl⟩ (fun z11 w9 hp12 => ?_)
              obtain ⟨rfl, hp12⟩ := hp12
              obtain rfl : z11 = 0 := by omega
              clear hp12
              refine sw_if_eq (tgt := 143) X (by omega) dX6_drive_129 (by decide) (fun h13 => ?_) (fun h13 => ?_)
              · refine sw_iconst X dX6_drive_143 ?_
                exact RI _ _ _ _ _ _ dX6_drive_144 (by decide) (by decide) rfl (Or.inl ⟨_, _, _, _, _, rfl, by decide, by unfold kDrive; rw [if_neg (by omega), if_neg (by omega), if_pos (by omega)]⟩)
              · exfalso; revert h13; decide
            · refine sw_iconst X dX6_drive_121 ?_
              refine sw_goto (tgt := 126) X dX6_drive_122 (by decide) ?_
              refine sw_callVI0 (C := RX6) (As := [.int (J 0)]) (rest := []) X (c_X6_goesWell l D k ad st tl t u9 v9 g9 0 (by omega)) (cwV 1 (sw_ts X) (sw_goodV gw4_58 gw4_60 gws_17 gw1_3 gw4_61) rfl rfl rfl (by decide +kernel) ⟨Nat.le_of_ble_eq_true rfl, Nat.le_of_ble_eq_true rfl⟩) 0 (ci := 6) rfl rfl rfl dX6_drive_126 rfl rfl (Nat.le_of_ble_eq_true rfl) ⟨Nat.le_of_ble_eq_true rfl, Nat.le_of_ble_eq_true rfl⟩ (fun z14 w9 hp15 => ?_)
              obtain ⟨rfl, hp15⟩ := hp15
              obtain rfl : z14 = 1 := by omega
              clear hp15
              refine sw_if_eq (tgt := 143) X (by omega) dX6_drive_129 (by decide) (fun h16 => ?_) (fun h16 => ?_)
              · exfalso; revert h16; decide
              · have hI2 : I6 N (aP st c a a b) := I_piece hI (by omega) (by omega) (by omega) (by omega) (by rw [if_neg (by omega)]; omega) (by rw [if_neg (by omega)]; omega)
                have hcc := I_c hI c (by omega) (by omega)
                refine sw_aload_n X dX6_drive_132 rfl 0 rfl ?_
                refine sw_iload_n X dX6_drive_133 rfl 1 rfl ?_
                refine sw_iload_n X dX6_drive_134 rfl 2 rfl ?_
                refine sw_iload_n X dX6_drive_135 rfl 2 rfl ?_
                refine sw_iload_n X dX6_drive_136 rfl 3 rfl ?_
                refine sw_callVI0 (C := RX6) (As := [.int (J c), .int (J a), .int (J a), .int (J b)]) (rest := []) X (c_X6_addPiece l D k N ad st tl 0 u9 v9 g9 c a a b (by assumption) (by omega) (by first | omega | (show 0 ≤ st 10 c ∧ st 10 c < 60; omega))) (cwV 4 (sw_ts X) (sw_goodV gw4_114 gw4_116 gws_26 gw1_3 gw4_117) rfl rfl rfl (by decide +kernel) ⟨Nat.le_of_ble_eq_true rfl, Nat.le_of_ble_eq_true rfl⟩) 0 (ci := 6) rfl rfl rfl dX6_drive_137 rfl rfl (Nat.le_of_ble_eq_true rfl) ⟨Nat.le_of_ble_eq_true rfl, Nat.le_of_ble_eq_true rfl⟩ (fun z17 w9 hp18 => ?_)
                obtain ⟨rfl, rfl⟩ := hp18
                refine sw_goto (tgt := 144) X dX6_drive_140 (by decide) ?_
                exact RI _ _ _ _ _ _ dX6_drive_144 (by decide) (by decide) rfl (Or.inr ⟨_, _, _, _, rfl, by unfold kDrive; rw [if_neg (by omega), if_neg (by omega), if_neg (by omega)], rfl⟩)
          · refine sw_iconst X dX6_drive_112 ?_
            refine sw_goto (tgt := 126) X dX6_drive_113 (by decide) ?_
            refine sw_callVI0 (C := RX6) (As := [.int (J 2)]) (rest := []) X (c_X6_goesWell l D k ad st tl t u9 v9 g9 2 (by omega)) (cwV 1 (sw_ts X) (sw_goodV gw4_58 gw4_60 gws_17 gw1_3 gw4_61) rfl rfl rfl (by decide +kernel) ⟨Nat.le_of_ble_eq_true rfl, Nat.le_of_ble_eq_true rfl⟩) 0 (ci := 6) rfl rfl rfl dX6_drive_126 rfl rfl (Nat.le_of_ble_eq_true rfl) ⟨Nat.le_of_ble_eq_true rfl, Nat.le_of_ble_eq_true rfl⟩ (fun z19 w9 hp20 => ?_)
            obtain ⟨rfl, hp20⟩ := hp20
            obtain rfl : z19 = 0 := by omega
            clear hp20
            refine sw_if_eq (tgt := 143) X (by omega) dX6_drive_129 (by decide) (fun h21 => ?_) (fun h21 => ?_)
            · refine sw_iconst X dX6_drive_143 ?_
              exact RI _ _ _ _ _ _ dX6_drive_144 (by decide) (by decide) rfl (Or.inl ⟨_, _, _, _, _, rfl, by decide, by unfold kDrive; rw [if_neg (by omega), if_pos (by omega)]⟩)
            · exfalso; revert h21; decide
        · refine sw_iconst X dX6_drive_103 ?_
          refine sw_goto (tgt := 126) X dX6_drive_104 (by decide) ?_
          refine sw_callVI0 (C := RX6) (As := [.int (J 1)]) (rest := []) X (c_X6_goesWell l D k ad st tl t u9 v9 g9 1 (by omega)) (cwV 1 (sw_ts X) (sw_goodV gw4_58 gw4_60 gws_17 gw1_3 gw4_61) rfl rfl rfl (by decide +kernel) ⟨Nat.le_of_ble_eq_true rfl, Nat.le_of_ble_eq_true rfl⟩) 0 (ci := 6) rfl rfl rfl dX6_drive_126 rfl rfl (Nat.le_of_ble_eq_true rfl) ⟨Nat.le_of_ble_eq_true rfl, Nat.le_of_ble_eq_true rfl⟩ (fun z22 w9 hp23 => ?_)
          obtain ⟨rfl, hp23⟩ := hp23
          obtain rfl : z22 = 0 := by omega
          clear hp23
          refine sw_if_eq (tgt := 143) X (by omega) dX6_drive_129 (by decide) (fun h24 => ?_) (fun h24 => ?_)
          · refine sw_iconst X dX6_drive_143 ?_
            exact RI _ _ _ _ _ _ dX6_drive_144 (by decide) (by decide) rfl (Or.inl ⟨_, _, _, _, _, rfl, by decide, by unfold kDrive; rw [if_pos (by omega)]⟩)
          · exfalso; revert h24; decide
      refine sw_if_eq (tgt := 97) X (by omega) dX6_drive_73 (by decide) (fun h25 => ?_) (fun h25 => ?_)
      · refine sw_sub [1, 2, 3, 4, 5, 6, 0] rfl ?_
        exact jn7 y9 x y h (by unfold onG; omega)
      · have hcc := I_c hI c (by omega) (by omega)
        have hck := clk_b hI (c := c) (by omega) (by omega)
        have hpf := pA_full hI (c := c) (by omega) (by omega) (m := clk st c) (nP st c) (by rw [nP_e hI (by omega) (by omega)]; omega) (Int.le_refl _)
        have htp := I_t hI c (nP st c) (by omega) (by omega) (by rw [nP_e hI (by omega) (by omega)]; omega)
        have hth := tP_h st c (nP st c)
        refine sw_aload_n X dX6_drive_76 rfl 1 rfl ?_
        refine sw_iload_n X dX6_drive_77 rfl 2 rfl ?_
        refine sw_aload_n X dX6_drive_78 rfl 1 rfl ?_
        refine sw_iload_n X dX6_drive_79 rfl 2 rfl ?_
        refine sw_callVI0 (C := RX6) (As := [.int (J c)]) (rest := [.int (J c), .ref (ad 0)]) X (c_X6_clockOf l D k N ad st tl t x y h c hI (by omega)) (cwV 1 (sw_ts X) (sw_goodV gw4_106 gw4_108 gws_24 gw1_3 gw4_109) rfl rfl rfl (by decide +kernel) ⟨Nat.le_of_ble_eq_true rfl, Nat.le_of_ble_eq_true rfl⟩) 0 (ci := 6) rfl rfl rfl dX6_drive_80 rfl rfl (Nat.le_of_ble_eq_true rfl) ⟨Nat.le_of_ble_eq_true rfl, Nat.le_of_ble_eq_true rfl⟩ (fun z26 w9 hp27 => ?_)
        obtain ⟨rfl, rfl⟩ := hp27
        refine sw_callVV0 (C := RX6) (As := [.int (J c), .int (J (clk st c))]) (rest := []) X (c_X6_followTrack l D k N ad st tl t x y h c (clk st c) hI (by omega) (by omega)) (cwV 2 (sw_ts X) (sw_goodV gw4_110 gw4_112 gws_25 gw1_3 gw4_113) rfl rfl rfl (by decide +kernel) ⟨Nat.le_of_ble_eq_true rfl, Nat.le_of_ble_eq_true rfl⟩) 0 (ci := 6) rfl rfl rfl dX6_drive_83 rfl rfl (Nat.le_of_ble_eq_true rfl) ⟨Nat.le_of_ble_eq_true rfl, Nat.le_of_ble_eq_true rfl⟩ (fun w9 hp29 => ?_)
        obtain ⟨g30, rfl, eg30⟩ := hp29
        have hgg := eg30 rfl
        subst hgg
        have hd1 := dx_b (tP st c (nP st c)).2.2 a (by omega)
        have hd2 := dy_b (tP st c (nP st c)).2.2 a (by omega)
        have hp1 : (pA st c (clk st c) (nP st c)).1 = (tP st c (nP st c)).1 := by rw [hpf]
        have hp2 : (pA st c (clk st c) (nP st c)).2 = (tP st c (nP st c)).2.1 := by rw [hpf]
        refine sw_aload_n X dX6_drive_86 rfl 1 rfl ?_
        refine sw_iload_n X dX6_drive_87 rfl 3 rfl ?_
        refine sw_callVV0 (C := RX6) (As := [.int (J a)]) (rest := []) X (c_X6_goOn l D k ad st tl t ((pA st c (clk st c) (nP st c)).1) ((pA st c (clk st c) (nP st c)).2) ((tP st c (nP st c)).2.2) a (by omega)) (cwV 1 (sw_ts X) (sw_goodV gw4_74 gw4_76 gws_20 gw1_3 gw4_77) rfl rfl rfl (by decide +kernel) ⟨Nat.le_of_ble_eq_true rfl, Nat.le_of_ble_eq_true rfl⟩) 0 (ci := 6) rfl rfl rfl dX6_drive_88 rfl rfl (Nat.le_of_ble_eq_true rfl) ⟨Nat.le_of_ble_eq_true rfl, Nat.le_of_ble_eq_true rfl⟩ (fun w9 hp32 => ?_)
        subst hp32
        refine sw_aload_n X dX6_drive_91 rfl 1 rfl ?_
        refine sw_callVI0 (C := RX6) (As := []) (rest := []) X (c_X6_isOnGround l D k ad st tl t (((pA st c (clk st c) (nP st c)).1) + dx ((tP st c (nP st c)).2.2) a) (((pA st c (clk st c) (nP st c)).2) + dy ((tP st c (nP st c)).2.2) a) ((tP st c (nP st c)).2.2) (by omega)) (cwV 0 (sw_ts X) (sw_goodV gw4_78 gw4_80 gws_21 gw1_3 gw4_81) rfl rfl rfl (by decide +kernel) ⟨Nat.le_of_ble_eq_true rfl, Nat.le_of_ble_eq_true rfl⟩) 0 (ci := 6) rfl rfl rfl dX6_drive_92 rfl rfl (Nat.le_of_ble_eq_true rfl) ⟨Nat.le_of_ble_eq_true rfl, Nat.le_of_ble_eq_true rfl⟩ (fun z33 w9 hp34 => ?_)
        obtain ⟨rfl, hp34⟩ := hp34
        refine sw_istore (lv' := [(6, .int (J z33)), (0, .ref (ad 0)), (1, .int (J c)), (2, .int (J a)), (3, .int (J b)), (4, .int (J z1)), (5, .int (J z9))]) X dX6_drive_95 (by decide) rfl ?_
        refine sw_sub [1, 2, 3, 4, 5, 6, 0] rfl ?_
        exact jn7 z33 (((pA st c (clk st c) (nP st c)).1) + dx ((tP st c (nP st c)).2.2) a) (((pA st c (clk st c) (nP st c)).2) + dy ((tP st c (nP st c)).2.2) a) ((tP st c (nP st c)).2.2) (by unfold onG; omega)
    refine sw_if_eq (tgt := 68) X (by omega) dX6_drive_35 (by decide) (fun h35 => ?_) (fun h35 => ?_)
    · refine sw_iconst X dX6_drive_68 ?_
      refine sw_sub [1, 2, 3, 4, 5, 0] rfl ?_
      exact jn6 0 (by omega)
    · refine sw_iload X dX6_drive_38 0 rfl ?_
      refine sw_if_eq (tgt := 68) X (by omega) dX6_drive_40 (by decide) (fun h36 => ?_) (fun h36 => ?_)
      · refine sw_iconst X dX6_drive_68 ?_
        refine sw_sub [1, 2, 3, 4, 5, 0] rfl ?_
        exact jn6 0 (by omega)
      · have hcc := I_c hI c (by omega) (by omega)
        refine sw_aload_n X dX6_drive_43 rfl 1 rfl ?_
        refine sw_get (q0 := 0) (v := .ref (ad 14)) X iw_X6 rfl rfl 14 (by decide) gw3_222 rfl rfl dX6_drive_44 ?_
        refine sw_iload_n X dX6_drive_47 rfl 2 rfl ?_
        refine sw_iald (q0 := 9) (n := 8) X rfl (by omega) (by omega) (by decide) dX6_drive_48 ?_
        refine sw_iconst X dX6_drive_49 ?_
        refine sw_icmp_ne (tgt := 68) X (by omega) (by omega) dX6_drive_50 (by decide) (fun h37 => ?_) (fun h37 => ?_)
        · refine sw_iconst X dX6_drive_68 ?_
          refine sw_sub [1, 2, 3, 4, 5, 0] rfl ?_
          exact jn6 0 (by omega)
        · refine sw_aload_n X dX6_drive_53 rfl 1 rfl ?_
          refine sw_get (q0 := 0) (v := .ref (ad 10)) X iw_X6 rfl rfl 10 (by decide) gw3_218 rfl rfl dX6_drive_54 ?_
          refine sw_iload_n X dX6_drive_57 rfl 2 rfl ?_
          refine sw_iald (q0 := 5) (n := 8) X rfl (by omega) (by omega) (by decide) dX6_drive_58 ?_
          refine sw_bipush X dX6_drive_59 (by decide +kernel) ?_
          refine sw_icmp_ge (tgt := 68) X (by omega) (by omega) dX6_drive_61 (by decide) (fun h38 => ?_) (fun h38 => ?_)
          · refine sw_iconst X dX6_drive_68 ?_
            refine sw_sub [1, 2, 3, 4, 5, 0] rfl ?_
            exact jn6 0 (by omega)
          · refine sw_iconst X dX6_drive_64 ?_
            refine sw_goto (tgt := 69) X dX6_drive_65 (by decide) ?_
            refine sw_sub [1, 2, 3, 4, 5, 0] rfl ?_
            exact jn6 1 (by omega)
  refine sw_if_eq (tgt := 30) X (by omega) dX6_drive_14 (by decide) (fun h39 => ?_) (fun h39 => ?_)
  · refine sw_iconst X dX6_drive_30 ?_
    refine sw_sub [1, 2, 3, 4, 0] rfl ?_
    exact jn5 0 (by omega)
  · refine sw_iload_n X dX6_drive_17 rfl 4 rfl ?_
    refine sw_iconst X dX6_drive_18 ?_
    refine sw_iconst X dX6_drive_19 ?_
    refine sw_callSI0 (As := [.int (J b), .int (J 0), .int (J 3)]) (rest := []) X (c_X6_in l D k (mW k ad st tl t x y h) b 0 3 (by omega)) (va_cwS 3 (sw_ts X) (sw_goodS gw4_55 gw4_56 gw1_3 gw4_57) rfl rfl rfl (by decide +kernel) ⟨Nat.le_of_ble_eq_true rfl, Nat.le_of_ble_eq_true rfl⟩) dX6_drive_20 rfl rfl (Nat.le_of_ble_eq_true rfl) ⟨Nat.le_of_ble_eq_true rfl, Nat.le_of_ble_eq_true rfl⟩ (fun z40 w9 hp41 => ?_)
    obtain ⟨rfl, hp41⟩ := hp41
    refine sw_if_eq (tgt := 30) X (by omega) dX6_drive_23 (by decide) (fun h42 => ?_) (fun h42 => ?_)
    · refine sw_iconst X dX6_drive_30 ?_
      refine sw_sub [1, 2, 3, 4, 0] rfl ?_
      exact jn5 0 (by omega)
    · refine sw_iconst X dX6_drive_26 ?_
      refine sw_goto (tgt := 31) X dX6_drive_27 (by decide) ?_
      refine sw_sub [1, 2, 3, 4, 0] rfl ?_
      exact jn5 1 (by omega)
abbrev rm_X6_stand : Room := { frames := 2, cells := 0, slots := 0, locals := 48 }
set_option maxHeartbeats 4000000 in
set_option maxRecDepth 100000 in
theorem c_X6_stand (l : Launch) (D : va_G) (k : Nat → ClassId) (N : Int) (ad : Nat → Nat) (st : Nat → Int → Int) (tl : Int → Int) (t x y h : Int) (c a : Int) (hI : I6 N st) (h_c : (-2147483648 ≤ c ∧ c < 2147483648)) (h_a : (-2147483648 ≤ a ∧ a < 2147483648)) : CI l yX6_stand cX6_stand 5 (some .int) rm_X6_stand D k [.ref (ad 0), .int (J c), .int (J a)] (mW k ad st tl t x y h) (oP k ad st (aP st c (-1) a 0) (kStand st c a) (clk (aP st c (-1) a 0) c)) := by
  refine CI.of (by decide +kernel) (Nat.le_of_ble_eq_true rfl) (fun pᵢ eᵢ sᵢ mᵢ argsᵢ belowᵢ methᵢ cᵢ Aᵢ Qᵢ X RI => ?_)
  show SW pᵢ l eᵢ rm_X6_stand sᵢ mᵢ argsᵢ belowᵢ methᵢ cᵢ 5 D Aᵢ 0 0 Qᵢ (mW k ad st tl t x y h) 0 [(0, .ref (ad 0)), (1, .int (J c)), (2, .int (J a))] []
  have hS_ := I_st hI
  have hE_ := I_en hI
  have hG_ := I_ga hI
  have hU_ := I_cu hI
  have hC_ := I_ca hI
  have hP_ := I_pa hI
  refine sw_aload_n X dX6_stand_0 rfl 0 rfl ?_
  refine sw_iload_n X dX6_stand_1 rfl 1 rfl ?_
  refine sw_callVI0 (C := RX6) (As := [.int (J c)]) (rest := []) X (c_X6_isCar l D k ad st tl t x y h c (by omega) (by omega)) (cwV 1 (sw_ts X) (sw_goodV gw4_102 gw4_104 gws_23 gw1_3 gw4_105) rfl rfl rfl (by decide +kernel) ⟨Nat.le_of_ble_eq_true rfl, Nat.le_of_ble_eq_true rfl⟩) 0 (ci := 6) rfl rfl rfl dX6_stand_2 rfl rfl (Nat.le_of_ble_eq_true rfl) ⟨Nat.le_of_ble_eq_true rfl, Nat.le_of_ble_eq_true rfl⟩ (fun z1 w9 hp2 => ?_)
  obtain ⟨rfl, hp2⟩ := hp2
  refine sw_istore_n (lv' := [(3, .int (J z1)), (0, .ref (ad 0)), (1, .int (J c)), (2, .int (J a))]) X dX6_stand_5 rfl (by decide) rfl ?_
  refine sw_iload_n X dX6_stand_6 rfl 3 rfl ?_
  refine sw_iconst X dX6_stand_7 ?_
  refine sw_bipush X dX6_stand_8 (by decide +kernel) ?_
  refine sw_callSI0 (As := [.int (J a), .int (J 1), .int (J 100)]) (rest := []) X (c_X6_in l D k (mW k ad st tl t x y h) a 1 100 (by omega)) (va_cwS 3 (sw_ts X) (sw_goodS gw4_55 gw4_56 gw1_3 gw4_57) rfl rfl rfl (by decide +kernel) ⟨Nat.le_of_ble_eq_true rfl, Nat.le_of_ble_eq_true rfl⟩) dX6_stand_10 rfl rfl (Nat.le_of_ble_eq_true rfl) ⟨Nat.le_of_ble_eq_true rfl, Nat.le_of_ble_eq_true rfl⟩ (fun z3 w9 hp4 => ?_)
  obtain ⟨rfl, hp4⟩ := hp4
  refine sw_istore (lv' := [(4, .int (J z3)), (3, .int (J z1)), (0, .ref (ad 0)), (1, .int (J c)), (2, .int (J a))]) X dX6_stand_13 (by decide) rfl ?_
  refine sw_aload_n X dX6_stand_15 rfl 2 rfl ?_
  refine sw_iload_n X dX6_stand_16 rfl 1 rfl ?_
  refine sw_if_ne (tgt := 24) X (by omega) dX6_stand_17 (by decide) (fun h5 => ?_) (fun h5 => ?_)
  · refine sw_iload X dX6_stand_24 0 rfl ?_
    refine sw_if_ne (tgt := 33) X (by omega) dX6_stand_26 (by decide) (fun h6 => ?_) (fun h6 => ?_)
    · have hcc := I_c hI c (by omega) (by omega)
      refine sw_aload_n X dX6_stand_33 rfl 2 rfl ?_
      refine sw_get (q0 := 0) (v := .ref (ad 10)) X iw_X6 rfl rfl 10 (by decide) gw3_218 rfl rfl dX6_stand_34 ?_
      refine sw_iload_n X dX6_stand_37 rfl 3 rfl ?_
      refine sw_iald (q0 := 5) (n := 8) X rfl (by omega) (by omega) (by decide) dX6_stand_38 ?_
      refine sw_bipush X dX6_stand_39 (by decide +kernel) ?_
      refine sw_icmp_ne (tgt := 48) X (by omega) (by omega) dX6_stand_41 (by decide) (fun h7 => ?_) (fun h7 => ?_)
      · refine sw_iconst X dX6_stand_48 ?_
        refine sw_callVI0 (C := RX6) (As := [.int (J 0)]) (rest := []) X (c_X6_goesWell l D k ad st tl t x y h 0 (by omega)) (cwV 1 (sw_ts X) (sw_goodV gw4_58 gw4_60 gws_17 gw1_3 gw4_61) rfl rfl rfl (by decide +kernel) ⟨Nat.le_of_ble_eq_true rfl, Nat.le_of_ble_eq_true rfl⟩) 0 (ci := 6) rfl rfl rfl dX6_stand_49 rfl rfl (Nat.le_of_ble_eq_true rfl) ⟨Nat.le_of_ble_eq_true rfl, Nat.le_of_ble_eq_true rfl⟩ (fun z8 w9 hp9 => ?_)
        obtain ⟨rfl, hp9⟩ := hp9
        obtain rfl : z8 = 1 := by omega
        clear hp9
        refine sw_if_eq (tgt := 66) X (by omega) dX6_stand_52 (by decide) (fun h10 => ?_) (fun h10 => ?_)
        · exfalso; revert h10; decide
        · have hcc := I_c hI c (by omega) (by omega)
          have htp := I_t hI c (nP st c) (by omega) (by omega) (by rw [nP_e hI (by omega) (by omega)]; omega)
          have hI2 : I6 N (aP st c (-1) a 0) := I_piece hI (by omega) (by omega) (by omega) (by omega) (by rw [if_pos rfl, dx_0]; omega) (by rw [if_pos rfl, dy_0]; omega)
          refine sw_aload_n X dX6_stand_55 rfl 2 rfl ?_
          refine sw_iload_n X dX6_stand_56 rfl 3 rfl ?_
          refine sw_iconst X dX6_stand_57 ?_
          refine sw_iload_n X dX6_stand_58 rfl 4 rfl ?_
          refine sw_iconst X dX6_stand_59 ?_
          refine sw_callVI0 (C := RX6) (As := [.int (J c), .int (J (-1)), .int (J a), .int (J 0)]) (rest := []) X (c_X6_addPiece l D k N ad st tl 0 x y h c (-1) a 0 (by assumption) (by omega) (by first | omega | (show 0 ≤ st 10 c ∧ st 10 c < 60; omega))) (cwV 4 (sw_ts X) (sw_goodV gw4_114 gw4_116 gws_26 gw1_3 gw4_117) rfl rfl rfl (by decide +kernel) ⟨Nat.le_of_ble_eq_true rfl, Nat.le_of_ble_eq_true rfl⟩) 0 (ci := 6) rfl rfl rfl dX6_stand_60 rfl rfl (Nat.le_of_ble_eq_true rfl) ⟨Nat.le_of_ble_eq_true rfl, Nat.le_of_ble_eq_true rfl⟩ (fun z11 w9 hp12 => ?_)
          obtain ⟨rfl, rfl⟩ := hp12
          refine sw_goto (tgt := 67) X dX6_stand_63 (by decide) ?_
          exact RI _ _ _ _ _ _ dX6_stand_67 (by decide) (by decide) rfl (Or.inr ⟨_, _, _, _, rfl, by unfold kStand; rw [if_neg (by omega), if_neg (by omega), if_neg (by omega)], rfl⟩)
      · refine sw_iconst X dX6_stand_44 ?_
        refine sw_goto (tgt := 49) X dX6_stand_45 (by decide) ?_
        refine sw_callVI0 (C := RX6) (As := [.int (J 3)]) (rest := []) X (c_X6_goesWell l D k ad st tl t x y h 3 (by omega)) (cwV 1 (sw_ts X) (sw_goodV gw4_58 gw4_60 gws_17 gw1_3 gw4_61) rfl rfl rfl (by decide +kernel) ⟨Nat.le_of_ble_eq_true rfl, Nat.le_of_ble_eq_true rfl⟩) 0 (ci := 6) rfl rfl rfl dX6_stand_49 rfl rfl (Nat.le_of_ble_eq_true rfl) ⟨Nat.le_of_ble_eq_true rfl, Nat.le_of_ble_eq_true rfl⟩ (fun z13 w9 hp14 => ?_)
        obtain ⟨rfl, hp14⟩ := hp14
        obtain rfl : z13 = 0 := by omega
        clear hp14
        refine sw_if_eq (tgt := 66) X (by omega) dX6_stand_52 (by decide) (fun h15 => ?_) (fun h15 => ?_)
        · refine sw_iconst X dX6_stand_66 ?_
          exact RI _ _ _ _ _ _ dX6_stand_67 (by decide) (by decide) rfl (Or.inl ⟨_, _, _, _, _, rfl, by decide, by unfold kStand; rw [if_neg (by omega), if_neg (by omega), if_pos (by omega)]⟩)
        · exfalso; revert h15; decide
    · refine sw_iconst X dX6_stand_29 ?_
      refine sw_goto (tgt := 49) X dX6_stand_30 (by decide) ?_
      refine sw_callVI0 (C := RX6) (As := [.int (J 2)]) (rest := []) X (c_X6_goesWell l D k ad st tl t x y h 2 (by omega)) (cwV 1 (sw_ts X) (sw_goodV gw4_58 gw4_60 gws_17 gw1_3 gw4_61) rfl rfl rfl (by decide +kernel) ⟨Nat.le_of_ble_eq_true rfl, Nat.le_of_ble_eq_true rfl⟩) 0 (ci := 6) rfl rfl rfl dX6_stand_49 rfl rfl (Nat.le_of_ble_eq_true rfl) ⟨Nat.le_of_ble_eq_true rfl, Nat.le_of_ble_eq_true rfl⟩ (fun z16 w9 hp17 => ?_)
      obtain ⟨rfl, hp17⟩ := hp17
      obtain rfl : z16 = 0 := by omega
      clear hp17
      refine sw_if_eq (tgt := 66) X (by omega) dX6_stand_52 (by decide) (fun h18 => ?_) (fun h18 => ?_)
      · refine sw_iconst X dX6_stand_66 ?_
        exact RI _ _ _ _ _ _ dX6_stand_67 (by decide) (by decide) rfl (Or.inl ⟨_, _, _, _, _, rfl, by decide, by unfold kStand; rw [if_neg (by omega), if_pos (by omega)]⟩)
      · exfalso; revert h18; decide
  · refine sw_iconst X dX6_stand_20 ?_
    refine sw_goto (tgt := 49) X dX6_stand_21 (by decide) ?_
    refine sw_callVI0 (C := RX6) (As := [.int (J 1)]) (rest := []) X (c_X6_goesWell l D k ad st tl t x y h 1 (by omega)) (cwV 1 (sw_ts X) (sw_goodV gw4_58 gw4_60 gws_17 gw1_3 gw4_61) rfl rfl rfl (by decide +kernel) ⟨Nat.le_of_ble_eq_true rfl, Nat.le_of_ble_eq_true rfl⟩) 0 (ci := 6) rfl rfl rfl dX6_stand_49 rfl rfl (Nat.le_of_ble_eq_true rfl) ⟨Nat.le_of_ble_eq_true rfl, Nat.le_of_ble_eq_true rfl⟩ (fun z19 w9 hp20 => ?_)
    obtain ⟨rfl, hp20⟩ := hp20
    obtain rfl : z19 = 0 := by omega
    clear hp20
    refine sw_if_eq (tgt := 66) X (by omega) dX6_stand_52 (by decide) (fun h21 => ?_) (fun h21 => ?_)
    · refine sw_iconst X dX6_stand_66 ?_
      exact RI _ _ _ _ _ _ dX6_stand_67 (by decide) (by decide) rfl (Or.inl ⟨_, _, _, _, _, rfl, by decide, by unfold kStand; rw [if_pos (by omega)]⟩)
    · exfalso; revert h21; decide
abbrev rm_X6_breakDown : Room := { frames := 2, cells := 0, slots := 0, locals := 43 }
set_option maxHeartbeats 4000000 in
set_option maxRecDepth 100000 in
theorem c_X6_breakDown (l : Launch) (D : va_G) (k : Nat → ClassId) (N : Int) (ad : Nat → Nat) (st : Nat → Int → Int) (tl : Int → Int) (t x y h : Int) (c a : Int) (hI : I6 N st) (h_c : (-2147483648 ≤ c ∧ c < 2147483648)) (h_a : (-2147483648 ≤ a ∧ a < 2147483648)) : CV l yX6_breakDown cX6_breakDown 4 none rm_X6_breakDown D k [.ref (ad 0), .int (J c), .int (J a)] (mW k ad st tl t x y h) (oP k ad st (up2 st 14 c a) (kBreak st c a) 0 0) := by
  refine CV.of (by decide +kernel) (Nat.le_of_ble_eq_true rfl) (fun pᵢ eᵢ sᵢ mᵢ argsᵢ belowᵢ methᵢ cᵢ Aᵢ Qᵢ X hnm RV => ?_)
  show SW pᵢ l eᵢ rm_X6_breakDown sᵢ mᵢ argsᵢ belowᵢ methᵢ cᵢ 4 D Aᵢ 0 0 Qᵢ (mW k ad st tl t x y h) 0 [(0, .ref (ad 0)), (1, .int (J c)), (2, .int (J a))] []
  have hS_ := I_st hI
  have hE_ := I_en hI
  have hG_ := I_ga hI
  have hU_ := I_cu hI
  have hC_ := I_ca hI
  have hP_ := I_pa hI
  refine sw_aload_n X dX6_breakDown_0 rfl 0 rfl ?_
  refine sw_iload_n X dX6_breakDown_1 rfl 1 rfl ?_
  refine sw_callVI0 (C := RX6) (As := [.int (J c)]) (rest := []) X (c_X6_isCar l D k ad st tl t x y h c (by omega) (by omega)) (cwV 1 (sw_ts X) (sw_goodV gw4_102 gw4_104 gws_23 gw1_3 gw4_105) rfl rfl rfl (by decide +kernel) ⟨Nat.le_of_ble_eq_true rfl, Nat.le_of_ble_eq_true rfl⟩) 0 (ci := 6) rfl rfl rfl dX6_breakDown_2 rfl rfl (Nat.le_of_ble_eq_true rfl) ⟨Nat.le_of_ble_eq_true rfl, Nat.le_of_ble_eq_true rfl⟩ (fun z1 w9 hp2 => ?_)
  obtain ⟨rfl, hp2⟩ := hp2
  have jn3 : ∀ (z9 : Int), ((z9 = 1 ∧ (0 ≤ c ∧ c < st 9 0) ∧ 0 ≤ a ∧ a ≤ 3) ∨ (z9 = 0 ∧ ¬ ((0 ≤ c ∧ c < st 9 0) ∧ 0 ≤ a ∧ a ≤ 3))) → SW pᵢ l eᵢ rm_X6_breakDown sᵢ mᵢ argsᵢ belowᵢ methᵢ cᵢ 4 D Aᵢ 0 0 Qᵢ (mW k ad st tl t x y h) 22 [(0, .ref (ad 0)), (1, .int (J c)), (2, .int (J a))] [.int (J z9)] := by
    intro z9 hz9
    refine sw_istore_n (lv' := [(3, .int (J z9)), (0, .ref (ad 0)), (1, .int (J c)), (2, .int (J a))]) X dX6_breakDown_22 rfl (by decide) rfl ?_
    refine sw_aload_n X dX6_breakDown_23 rfl 1 rfl ?_
    refine sw_iload_n X dX6_breakDown_24 rfl 0 rfl ?_
    refine sw_if_ne (tgt := 32) X (by omega) dX6_breakDown_25 (by decide) (fun h4 => ?_) (fun h4 => ?_)
    · have hcc := I_c hI c (by omega) (by omega)
      refine sw_aload_n X dX6_breakDown_32 rfl 1 rfl ?_
      refine sw_get (q0 := 0) (v := .ref (ad 14)) X iw_X6 rfl rfl 14 (by decide) gw3_222 rfl rfl dX6_breakDown_33 ?_
      refine sw_iload_n X dX6_breakDown_36 rfl 2 rfl ?_
      refine sw_iald (q0 := 9) (n := 8) X rfl (by omega) (by omega) (by decide) dX6_breakDown_37 ?_
      refine sw_iconst X dX6_breakDown_38 ?_
      refine sw_icmp_ne (tgt := 46) X (by omega) (by omega) dX6_breakDown_39 (by decide) (fun h5 => ?_) (fun h5 => ?_)
      · refine sw_iconst X dX6_breakDown_46 ?_
        refine sw_callVI0 (C := RX6) (As := [.int (J 2)]) (rest := []) X (c_X6_goesWell l D k ad st tl t x y h 2 (by omega)) (cwV 1 (sw_ts X) (sw_goodV gw4_58 gw4_60 gws_17 gw1_3 gw4_61) rfl rfl rfl (by decide +kernel) ⟨Nat.le_of_ble_eq_true rfl, Nat.le_of_ble_eq_true rfl⟩) 0 (ci := 6) rfl rfl rfl dX6_breakDown_47 rfl rfl (Nat.le_of_ble_eq_true rfl) ⟨Nat.le_of_ble_eq_true rfl, Nat.le_of_ble_eq_true rfl⟩ (fun z6 w9 hp7 => ?_)
        obtain ⟨rfl, hp7⟩ := hp7
        obtain rfl : z6 = 0 := by omega
        clear hp7
        refine sw_if_eq (tgt := 60) X (by omega) dX6_breakDown_50 (by decide) (fun h8 => ?_) (fun h8 => ?_)
        · exact RV _ _ _ _ _ dX6_breakDown_60 (by decide) (by decide) (Or.inl ⟨_, _, _, _, _, rfl, by decide, by unfold kBreak; rw [if_neg (by omega), if_neg (by omega)]⟩)
        · exfalso; revert h8; decide
      · refine sw_iconst X dX6_breakDown_42 ?_
        refine sw_goto (tgt := 47) X dX6_breakDown_43 (by decide) ?_
        refine sw_callVI0 (C := RX6) (As := [.int (J 0)]) (rest := []) X (c_X6_goesWell l D k ad st tl t x y h 0 (by omega)) (cwV 1 (sw_ts X) (sw_goodV gw4_58 gw4_60 gws_17 gw1_3 gw4_61) rfl rfl rfl (by decide +kernel) ⟨Nat.le_of_ble_eq_true rfl, Nat.le_of_ble_eq_true rfl⟩) 0 (ci := 6) rfl rfl rfl dX6_breakDown_47 rfl rfl (Nat.le_of_ble_eq_true rfl) ⟨Nat.le_of_ble_eq_true rfl, Nat.le_of_ble_eq_true rfl⟩ (fun z9 w9 hp10 => ?_)
        obtain ⟨rfl, hp10⟩ := hp10
        obtain rfl : z9 = 1 := by omega
        clear hp10
        refine sw_if_eq (tgt := 60) X (by omega) dX6_breakDown_50 (by decide) (fun h11 => ?_) (fun h11 => ?_)
        · exfalso; revert h11; decide
        · refine sw_aload_n X dX6_breakDown_53 rfl 1 rfl ?_
          refine sw_get (q0 := 0) (v := .ref (ad 14)) X iw_X6 rfl rfl 14 (by decide) gw3_222 rfl rfl dX6_breakDown_54 ?_
          refine sw_iload_n X dX6_breakDown_57 rfl 2 rfl ?_
          refine sw_iload_n X dX6_breakDown_58 rfl 3 rfl ?_
          refine sw_iast (q0 := 9) (n := 8) X rfl (by omega) (by omega) (by decide) mW_a14 dX6_breakDown_59 ?_
          exact RV _ _ _ _ _ dX6_breakDown_60 (by decide) (by decide) (Or.inr ⟨_, _, _, _, rfl, by unfold kBreak; rw [if_neg (by omega), if_pos (by omega)], rfl⟩)
    · refine sw_iconst X dX6_breakDown_28 ?_
      refine sw_goto (tgt := 47) X dX6_breakDown_29 (by decide) ?_
      refine sw_callVI0 (C := RX6) (As := [.int (J 1)]) (rest := []) X (c_X6_goesWell l D k ad st tl t x y h 1 (by omega)) (cwV 1 (sw_ts X) (sw_goodV gw4_58 gw4_60 gws_17 gw1_3 gw4_61) rfl rfl rfl (by decide +kernel) ⟨Nat.le_of_ble_eq_true rfl, Nat.le_of_ble_eq_true rfl⟩) 0 (ci := 6) rfl rfl rfl dX6_breakDown_47 rfl rfl (Nat.le_of_ble_eq_true rfl) ⟨Nat.le_of_ble_eq_true rfl, Nat.le_of_ble_eq_true rfl⟩ (fun z12 w9 hp13 => ?_)
      obtain ⟨rfl, hp13⟩ := hp13
      obtain rfl : z12 = 0 := by omega
      clear hp13
      refine sw_if_eq (tgt := 60) X (by omega) dX6_breakDown_50 (by decide) (fun h14 => ?_) (fun h14 => ?_)
      · exact RV _ _ _ _ _ dX6_breakDown_60 (by decide) (by decide) (Or.inl ⟨_, _, _, _, _, rfl, by decide, by unfold kBreak; rw [if_pos (by omega)]⟩)
      · exfalso; revert h14; decide
  refine sw_if_eq (tgt := 21) X (by omega) dX6_breakDown_5 (by decide) (fun h15 => ?_) (fun h15 => ?_)
  · refine sw_iconst X dX6_breakDown_21 ?_
    exact jn3 0 (by omega)
  · refine sw_iload_n X dX6_breakDown_8 rfl 2 rfl ?_
    refine sw_iconst X dX6_breakDown_9 ?_
    refine sw_iconst X dX6_breakDown_10 ?_
    refine sw_callSI0 (As := [.int (J a), .int (J 0), .int (J 3)]) (rest := []) X (c_X6_in l D k (mW k ad st tl t x y h) a 0 3 (by omega)) (va_cwS 3 (sw_ts X) (sw_goodS gw4_55 gw4_56 gw1_3 gw4_57) rfl rfl rfl (by decide +kernel) ⟨Nat.le_of_ble_eq_true rfl, Nat.le_of_ble_eq_true rfl⟩) dX6_breakDown_11 rfl rfl (Nat.le_of_ble_eq_true rfl) ⟨Nat.le_of_ble_eq_true rfl, Nat.le_of_ble_eq_true rfl⟩ (fun z16 w9 hp17 => ?_)
    obtain ⟨rfl, hp17⟩ := hp17
    refine sw_if_eq (tgt := 21) X (by omega) dX6_breakDown_14 (by decide) (fun h18 => ?_) (fun h18 => ?_)
    · refine sw_iconst X dX6_breakDown_21 ?_
      exact jn3 0 (by omega)
    · refine sw_iconst X dX6_breakDown_17 ?_
      refine sw_goto (tgt := 22) X dX6_breakDown_18 (by decide) ?_
      exact jn3 1 (by omega)
abbrev rm_X6_bring : Room := { frames := 2, cells := 0, slots := 0, locals := 43 }
set_option maxHeartbeats 4000000 in
set_option maxRecDepth 100000 in
theorem c_X6_bring (l : Launch) (D : va_G) (k : Nat → ClassId) (N : Int) (ad : Nat → Nat) (st : Nat → Int → Int) (tl : Int → Int) (t x y h : Int) (a b : Int) (hI : I6 N st) (h_a : (-2147483648 ≤ a ∧ a < 2147483648)) (h_b : (-2147483648 ≤ b ∧ b < 2147483648)) : CI l yX6_bring cX6_bring 4 (some .int) rm_X6_bring D k [.ref (ad 0), .int (J a), .int (J b)] (mW k ad st tl t x y h) (oP k ad st (sBring st a b) (kBring st a b) (st 17 0)) := by
  refine CI.of (by decide +kernel) (Nat.le_of_ble_eq_true rfl) (fun pᵢ eᵢ sᵢ mᵢ argsᵢ belowᵢ methᵢ cᵢ Aᵢ Qᵢ X RI => ?_)
  show SW pᵢ l eᵢ rm_X6_bring sᵢ mᵢ argsᵢ belowᵢ methᵢ cᵢ 4 D Aᵢ 0 0 Qᵢ (mW k ad st tl t x y h) 0 [(0, .ref (ad 0)), (1, .int (J a)), (2, .int (J b))] []
  have hS_ := I_st hI
  have hE_ := I_en hI
  have hG_ := I_ga hI
  have hU_ := I_cu hI
  have hC_ := I_ca hI
  have hP_ := I_pa hI
  refine sw_iload_n X dX6_bring_0 rfl 1 rfl ?_
  refine sw_iconst X dX6_bring_1 ?_
  refine sw_iconst X dX6_bring_2 ?_
  refine sw_callSI0 (As := [.int (J a), .int (J 0), .int (J 3)]) (rest := []) X (c_X6_in l D k (mW k ad st tl t x y h) a 0 3 (by omega)) (va_cwS 3 (sw_ts X) (sw_goodS gw4_55 gw4_56 gw1_3 gw4_57) rfl rfl rfl (by decide +kernel) ⟨Nat.le_of_ble_eq_true rfl, Nat.le_of_ble_eq_true rfl⟩) dX6_bring_3 rfl rfl (Nat.le_of_ble_eq_true rfl) ⟨Nat.le_of_ble_eq_true rfl, Nat.le_of_ble_eq_true rfl⟩ (fun z1 w9 hp2 => ?_)
  obtain ⟨rfl, hp2⟩ := hp2
  have jn3 : ∀ (z9 : Int), ((z9 = 1 ∧ (0 ≤ a ∧ a ≤ 3) ∧ (b = -1 ∨ (0 ≤ b ∧ b < st 9 0))) ∨ (z9 = 0 ∧ ¬ ((0 ≤ a ∧ a ≤ 3) ∧ (b = -1 ∨ (0 ≤ b ∧ b < st 9 0))))) → SW pᵢ l eᵢ rm_X6_bring sᵢ mᵢ argsᵢ belowᵢ methᵢ cᵢ 4 D Aᵢ 0 0 Qᵢ (mW k ad st tl t x y h) 27 [(0, .ref (ad 0)), (1, .int (J a)), (2, .int (J b))] [.int (J z9)] := by
    intro z9 hz9
    refine sw_istore_n (lv' := [(3, .int (J z9)), (0, .ref (ad 0)), (1, .int (J a)), (2, .int (J b))]) X dX6_bring_27 rfl (by decide) rfl ?_
    refine sw_aload_n X dX6_bring_28 rfl 1 rfl ?_
    refine sw_iload_n X dX6_bring_29 rfl 0 rfl ?_
    refine sw_if_ne (tgt := 37) X (by omega) dX6_bring_30 (by decide) (fun h4 => ?_) (fun h4 => ?_)
    · refine sw_aload_n X dX6_bring_37 rfl 1 rfl ?_
      refine sw_get (q0 := 0) (v := .int (J (st 17 0))) X iw_X6 rfl rfl 17 (by decide) gw3_225 rfl rfl dX6_bring_38 ?_
      refine sw_bipush X dX6_bring_41 (by decide +kernel) ?_
      refine sw_icmp_ne (tgt := 50) X (by omega) (by omega) dX6_bring_43 (by decide) (fun h5 => ?_) (fun h5 => ?_)
      · refine sw_iconst X dX6_bring_50 ?_
        refine sw_callVI0 (C := RX6) (As := [.int (J 0)]) (rest := []) X (c_X6_goesWell l D k ad st tl t x y h 0 (by omega)) (cwV 1 (sw_ts X) (sw_goodV gw4_58 gw4_60 gws_17 gw1_3 gw4_61) rfl rfl rfl (by decide +kernel) ⟨Nat.le_of_ble_eq_true rfl, Nat.le_of_ble_eq_true rfl⟩) 0 (ci := 6) rfl rfl rfl dX6_bring_51 rfl rfl (Nat.le_of_ble_eq_true rfl) ⟨Nat.le_of_ble_eq_true rfl, Nat.le_of_ble_eq_true rfl⟩ (fun z6 w9 hp7 => ?_)
        obtain ⟨rfl, hp7⟩ := hp7
        obtain rfl : z6 = 1 := by omega
        clear hp7
        refine sw_if_ne (tgt := 59) X (by omega) dX6_bring_54 (by decide) (fun h8 => ?_) (fun h8 => ?_)
        · refine sw_aload_n X dX6_bring_59 rfl 1 rfl ?_
          refine sw_get (q0 := 0) (v := .ref (ad 18)) X iw_X6 rfl rfl 18 (by decide) gw3_226 rfl rfl dX6_bring_60 ?_
          refine sw_aload_n X dX6_bring_63 rfl 1 rfl ?_
          refine sw_get (q0 := 0) (v := .int (J (st 17 0))) X iw_X6 rfl rfl 17 (by decide) gw3_225 rfl rfl dX6_bring_64 ?_
          refine sw_iload_n X dX6_bring_67 rfl 2 rfl ?_
          refine sw_iast (q0 := 12) (n := 40) X rfl (by omega) (by omega) (by decide) mW_a18 dX6_bring_68 ?_
          refine sw_aload_n X dX6_bring_69 rfl 1 rfl ?_
          refine sw_get (q0 := 0) (v := .ref (ad 19)) X iw_X6 rfl rfl 19 (by decide) gw3_227 rfl rfl dX6_bring_70 ?_
          refine sw_aload_n X dX6_bring_73 rfl 1 rfl ?_
          refine sw_get (q0 := 0) (v := .int (J (st 17 0))) X iw_X6 rfl rfl 17 (by decide) gw3_225 rfl rfl dX6_bring_74 ?_
          refine sw_iload_n X dX6_bring_77 rfl 3 rfl ?_
          refine sw_iast (q0 := 13) (n := 40) X rfl (by omega) (by omega) (by decide) mW_a19 dX6_bring_78 ?_
          refine sw_aload_n X dX6_bring_79 rfl 1 rfl ?_
          refine sw_get (q0 := 0) (v := .ref (ad 20)) X iw_X6 rfl rfl 20 (by decide) gw3_228 rfl rfl dX6_bring_80 ?_
          refine sw_aload_n X dX6_bring_83 rfl 1 rfl ?_
          refine sw_get (q0 := 0) (v := .int (J (st 17 0))) X iw_X6 rfl rfl 17 (by decide) gw3_225 rfl rfl dX6_bring_84 ?_
          refine sw_iload_n X dX6_bring_87 rfl 3 rfl ?_
          refine sw_iast (q0 := 14) (n := 40) X rfl (by omega) (by omega) (by decide) mW_a20 dX6_bring_88 ?_
          refine sw_aload_n X dX6_bring_89 rfl 1 rfl ?_
          refine sw_dup X dX6_bring_90 rfl ?_
          refine sw_get (q0 := 0) (v := .int (J (st 17 0))) X iw_X6 rfl rfl 17 (by decide) gw3_225 rfl rfl dX6_bring_91 ?_
          refine sw_iconst X dX6_bring_94 ?_
          refine sw_iadd X dX6_bring_95 ?_
          refine sw_put (q0 := 0) X iw_X6 tyX6 tyX6_ok nmX6 rfl rfl 17 (by decide) gw3_225 rfl rfl (ty := .int) (by decide +kernel) rfl rfl (Nat.le_of_ble_eq_true rfl) mW_p17 dX6_bring_96 ?_
          refine sw_aload_n X dX6_bring_99 rfl 1 rfl ?_
          refine sw_get (q0 := 0) (v := .int (J ((st 17 0) + 1))) X iw_X6 rfl rfl 17 (by decide) gw3_225 rfl rfl dX6_bring_100 ?_
          refine sw_iconst X dX6_bring_103 ?_
          refine sw_isub X dX6_bring_104 ?_
          exact RI _ _ _ _ _ _ dX6_bring_105 (by decide) (by decide) rfl (Or.inr ⟨_, _, _, _, rfl, by unfold kBring; rw [if_neg (by omega), if_neg (by omega)], by omega⟩)
        · exfalso; revert h8; decide
      · refine sw_iconst X dX6_bring_46 ?_
        refine sw_goto (tgt := 51) X dX6_bring_47 (by decide) ?_
        refine sw_callVI0 (C := RX6) (As := [.int (J 2)]) (rest := []) X (c_X6_goesWell l D k ad st tl t x y h 2 (by omega)) (cwV 1 (sw_ts X) (sw_goodV gw4_58 gw4_60 gws_17 gw1_3 gw4_61) rfl rfl rfl (by decide +kernel) ⟨Nat.le_of_ble_eq_true rfl, Nat.le_of_ble_eq_true rfl⟩) 0 (ci := 6) rfl rfl rfl dX6_bring_51 rfl rfl (Nat.le_of_ble_eq_true rfl) ⟨Nat.le_of_ble_eq_true rfl, Nat.le_of_ble_eq_true rfl⟩ (fun z9 w9 hp10 => ?_)
        obtain ⟨rfl, hp10⟩ := hp10
        obtain rfl : z9 = 0 := by omega
        clear hp10
        refine sw_if_ne (tgt := 59) X (by omega) dX6_bring_54 (by decide) (fun h11 => ?_) (fun h11 => ?_)
        · exfalso; revert h11; decide
        · refine sw_iconst X dX6_bring_57 ?_
          exact RI _ _ _ _ _ _ dX6_bring_58 (by decide) (by decide) rfl (Or.inl ⟨_, _, _, _, _, rfl, by decide, by unfold kBring; rw [if_neg (by omega), if_pos (by omega)]⟩)
    · refine sw_iconst X dX6_bring_33 ?_
      refine sw_goto (tgt := 51) X dX6_bring_34 (by decide) ?_
      refine sw_callVI0 (C := RX6) (As := [.int (J 1)]) (rest := []) X (c_X6_goesWell l D k ad st tl t x y h 1 (by omega)) (cwV 1 (sw_ts X) (sw_goodV gw4_58 gw4_60 gws_17 gw1_3 gw4_61) rfl rfl rfl (by decide +kernel) ⟨Nat.le_of_ble_eq_true rfl, Nat.le_of_ble_eq_true rfl⟩) 0 (ci := 6) rfl rfl rfl dX6_bring_51 rfl rfl (Nat.le_of_ble_eq_true rfl) ⟨Nat.le_of_ble_eq_true rfl, Nat.le_of_ble_eq_true rfl⟩ (fun z12 w9 hp13 => ?_)
      obtain ⟨rfl, hp13⟩ := hp13
      obtain rfl : z12 = 0 := by omega
      clear hp13
      refine sw_if_ne (tgt := 59) X (by omega) dX6_bring_54 (by decide) (fun h14 => ?_) (fun h14 => ?_)
      · exfalso; revert h14; decide
      · refine sw_iconst X dX6_bring_57 ?_
        exact RI _ _ _ _ _ _ dX6_bring_58 (by decide) (by decide) rfl (Or.inl ⟨_, _, _, _, _, rfl, by decide, by unfold kBring; rw [if_pos (by omega)]⟩)
  refine sw_if_eq (tgt := 26) X (by omega) dX6_bring_6 (by decide) (fun h15 => ?_) (fun h15 => ?_)
  · refine sw_iconst X dX6_bring_26 ?_
    exact jn3 0 (by omega)
  · refine sw_iload_n X dX6_bring_9 rfl 2 rfl ?_
    refine sw_iconst X dX6_bring_10 ?_
    refine sw_icmp_eq (tgt := 22) X (by omega) (by omega) dX6_bring_11 (by decide) (fun h16 => ?_) (fun h16 => ?_)
    · refine sw_iconst X dX6_bring_22 ?_
      refine sw_goto (tgt := 27) X dX6_bring_23 (by decide) ?_
      exact jn3 1 (by omega)
    · refine sw_aload_n X dX6_bring_14 rfl 0 rfl ?_
      refine sw_iload_n X dX6_bring_15 rfl 2 rfl ?_
      refine sw_callVI0 (C := RX6) (As := [.int (J b)]) (rest := []) X (c_X6_isCar l D k ad st tl t x y h b (by omega) (by omega)) (cwV 1 (sw_ts X) (sw_goodV gw4_102 gw4_104 gws_23 gw1_3 gw4_105) rfl rfl rfl (by decide +kernel) ⟨Nat.le_of_ble_eq_true rfl, Nat.le_of_ble_eq_true rfl⟩) 0 (ci := 6) rfl rfl rfl dX6_bring_16 rfl rfl (Nat.le_of_ble_eq_true rfl) ⟨Nat.le_of_ble_eq_true rfl, Nat.le_of_ble_eq_true rfl⟩ (fun z17 w9 hp18 => ?_)
      obtain ⟨rfl, hp18⟩ := hp18
      refine sw_if_eq (tgt := 26) X (by omega) dX6_bring_19 (by decide) (fun h19 => ?_) (fun h19 => ?_)
      · refine sw_iconst X dX6_bring_26 ?_
        exact jn3 0 (by omega)
      · refine sw_iconst X dX6_bring_22 ?_
        refine sw_goto (tgt := 27) X dX6_bring_23 (by decide) ?_
        exact jn3 1 (by omega)
abbrev rm_X6_hand : Room := { frames := 4, cells := 0, slots := 0, locals := 88 }
set_option maxHeartbeats 4000000 in
set_option maxRecDepth 100000 in
theorem c_X6_hand (l : Launch) (D : va_G) (k : Nat → ClassId) (N : Int) (ad : Nat → Nat) (st : Nat → Int → Int) (tl : Int → Int) (t x y h : Int) (a b : Int) (hI : I6 N st) (h_a : (-2147483648 ≤ a ∧ a < 2147483648)) (h_b : (-2147483648 ≤ b ∧ b < 2147483648)) : CI l yX6_hand cX6_hand 6 (some .int) rm_X6_hand D k [.ref (ad 0), .int (J a), .int (J b)] (mW k ad st tl t x y h) (oP k ad st (up2 st 20 a b) (kHand st a b) (st 20 a)) := by
  refine CI.of (by decide +kernel) (Nat.le_of_ble_eq_true rfl) (fun pᵢ eᵢ sᵢ mᵢ argsᵢ belowᵢ methᵢ cᵢ Aᵢ Qᵢ X RI => ?_)
  show SW pᵢ l eᵢ rm_X6_hand sᵢ mᵢ argsᵢ belowᵢ methᵢ cᵢ 6 D Aᵢ 0 0 Qᵢ (mW k ad st tl t x y h) 0 [(0, .ref (ad 0)), (1, .int (J a)), (2, .int (J b))] []
  have hS_ := I_st hI
  have hE_ := I_en hI
  have hG_ := I_ga hI
  have hU_ := I_cu hI
  have hC_ := I_ca hI
  have hP_ := I_pa hI
  refine sw_iload_n X dX6_hand_0 rfl 1 rfl ?_
  refine sw_iconst X dX6_hand_1 ?_
  refine sw_aload_n X dX6_hand_2 rfl 0 rfl ?_
  refine sw_get (q0 := 0) (v := .int (J (st 17 0))) X iw_X6 rfl rfl 17 (by decide) gw3_225 rfl rfl dX6_hand_3 ?_
  refine sw_iconst X dX6_hand_6 ?_
  refine sw_isub X dX6_hand_7 ?_
  refine sw_callSI0 (As := [.int (J a), .int (J 0), .int (J ((st 17 0) - 1))]) (rest := []) X (c_X6_in l D k (mW k ad st tl t x y h) a 0 ((st 17 0) - 1) (by omega)) (va_cwS 3 (sw_ts X) (sw_goodS gw4_55 gw4_56 gw1_3 gw4_57) rfl rfl rfl (by decide +kernel) ⟨Nat.le_of_ble_eq_true rfl, Nat.le_of_ble_eq_true rfl⟩) dX6_hand_8 rfl rfl (Nat.le_of_ble_eq_true rfl) ⟨Nat.le_of_ble_eq_true rfl, Nat.le_of_ble_eq_true rfl⟩ (fun z1 w9 hp2 => ?_)
  obtain ⟨rfl, hp2⟩ := hp2
  have jn3 : ∀ (z9 : Int), ((z9 = 1 ∧ (0 ≤ a ∧ a < st 17 0) ∧ (b = -1 ∨ (0 ≤ b ∧ b < st 9 0))) ∨ (z9 = 0 ∧ ¬ ((0 ≤ a ∧ a < st 17 0) ∧ (b = -1 ∨ (0 ≤ b ∧ b < st 9 0))))) → SW pᵢ l eᵢ rm_X6_hand sᵢ mᵢ argsᵢ belowᵢ methᵢ cᵢ 6 D Aᵢ 0 0 Qᵢ (mW k ad st tl t x y h) 32 [(0, .ref (ad 0)), (1, .int (J a)), (2, .int (J b))] [.int (J z9)] := by
    intro z9 hz9
    refine sw_istore_n (lv' := [(3, .int (J z9)), (0, .ref (ad 0)), (1, .int (J a)), (2, .int (J b))]) X dX6_hand_32 rfl (by decide) rfl ?_
    refine sw_iload_n X dX6_hand_33 rfl 0 rfl ?_
    have jn4 : ∀ (y9 : Int), ((y9 = 1 ∧ z9 = 1 ∧ st 20 a ≠ -2 ∧ st 20 a ≠ b) ∨ (y9 = 0 ∧ ¬ (z9 = 1 ∧ st 20 a ≠ -2 ∧ st 20 a ≠ b))) → SW pᵢ l eᵢ rm_X6_hand sᵢ mᵢ argsᵢ belowᵢ methᵢ cᵢ 6 D Aᵢ 0 0 Qᵢ (mW k ad st tl t x y h) 63 [(0, .ref (ad 0)), (1, .int (J a)), (2, .int (J b)), (3, .int (J z9))] [.int (J y9)] := by
      intro y9 hy9
      refine sw_istore (lv' := [(4, .int (J y9)), (0, .ref (ad 0)), (1, .int (J a)), (2, .int (J b)), (3, .int (J z9))]) X dX6_hand_63 (by decide) rfl ?_
      refine sw_iload X dX6_hand_65 0 rfl ?_
      have jn5 : ∀ (x9 u9 v9 g9 : Int), ((x9 = 1 ∧ y9 = 1 ∧ cPl st (st 20 a) = cPl st b) ∨ (x9 = 0 ∧ ¬ (y9 = 1 ∧ cPl st (st 20 a) = cPl st b))) → SW pᵢ l eᵢ rm_X6_hand sᵢ mᵢ argsᵢ belowᵢ methᵢ cᵢ 6 D Aᵢ 0 0 Qᵢ (mW k ad st tl t u9 v9 g9) 99 [(0, .ref (ad 0)), (1, .int (J a)), (2, .int (J b)), (3, .int (J z9)), (4, .int (J x9))] [] := by
        intro x9 u9 v9 g9 hx9
        refine sw_aload_n X dX6_hand_99 rfl 0 rfl ?_
        refine sw_iload_n X dX6_hand_100 rfl 3 rfl ?_
        refine sw_if_ne (tgt := 108) X (by omega) dX6_hand_101 (by decide) (fun h6 => ?_) (fun h6 => ?_)
        · refine sw_iload X dX6_hand_108 4 rfl ?_
          refine sw_if_eq (tgt := 117) X (by omega) dX6_hand_110 (by decide) (fun h7 => ?_) (fun h7 => ?_)
          · refine sw_iconst X dX6_hand_117 ?_
            refine sw_callVI0 (C := RX6) (As := [.int (J 2)]) (rest := []) X (c_X6_goesWell l D k ad st tl t u9 v9 g9 2 (by omega)) (cwV 1 (sw_ts X) (sw_goodV gw4_58 gw4_60 gws_17 gw1_3 gw4_61) rfl rfl rfl (by decide +kernel) ⟨Nat.le_of_ble_eq_true rfl, Nat.le_of_ble_eq_true rfl⟩) 0 (ci := 6) rfl rfl rfl dX6_hand_118 rfl rfl (Nat.le_of_ble_eq_true rfl) ⟨Nat.le_of_ble_eq_true rfl, Nat.le_of_ble_eq_true rfl⟩ (fun z8 w9 hp9 => ?_)
            obtain ⟨rfl, hp9⟩ := hp9
            obtain rfl : z8 = 0 := by omega
            clear hp9
            refine sw_if_ne (tgt := 126) X (by omega) dX6_hand_121 (by decide) (fun h10 => ?_) (fun h10 => ?_)
            · exfalso; revert h10; decide
            · refine sw_iconst X dX6_hand_124 ?_
              exact RI _ _ _ _ _ _ dX6_hand_125 (by decide) (by decide) rfl (Or.inl ⟨_, _, _, _, _, rfl, by decide, by unfold kHand; rw [if_neg (by omega), if_pos (by omega)]⟩)
          · refine sw_iconst X dX6_hand_113 ?_
            refine sw_goto (tgt := 118) X dX6_hand_114 (by decide) ?_
            refine sw_callVI0 (C := RX6) (As := [.int (J 0)]) (rest := []) X (c_X6_goesWell l D k ad st tl t u9 v9 g9 0 (by omega)) (cwV 1 (sw_ts X) (sw_goodV gw4_58 gw4_60 gws_17 gw1_3 gw4_61) rfl rfl rfl (by decide +kernel) ⟨Nat.le_of_ble_eq_true rfl, Nat.le_of_ble_eq_true rfl⟩) 0 (ci := 6) rfl rfl rfl dX6_hand_118 rfl rfl (Nat.le_of_ble_eq_true rfl) ⟨Nat.le_of_ble_eq_true rfl, Nat.le_of_ble_eq_true rfl⟩ (fun z11 w9 hp12 => ?_)
            obtain ⟨rfl, hp12⟩ := hp12
            obtain rfl : z11 = 1 := by omega
            clear hp12
            refine sw_if_ne (tgt := 126) X (by omega) dX6_hand_121 (by decide) (fun h13 => ?_) (fun h13 => ?_)
            · refine sw_aload_n X dX6_hand_126 rfl 0 rfl ?_
              refine sw_get (q0 := 0) (v := .ref (ad 20)) X iw_X6 rfl rfl 20 (by decide) gw3_228 rfl rfl dX6_hand_127 ?_
              refine sw_iload_n X dX6_hand_130 rfl 1 rfl ?_
              refine sw_iald (q0 := 14) (n := 40) X rfl (by omega) (by omega) (by decide) dX6_hand_131 ?_
              refine sw_istore (lv' := [(5, .int (J (st 20 a))), (0, .ref (ad 0)), (1, .int (J a)), (2, .int (J b)), (3, .int (J z9)), (4, .int (J x9))]) X dX6_hand_132 (by decide) rfl ?_
              refine sw_aload_n X dX6_hand_134 rfl 1 rfl ?_
              refine sw_get (q0 := 0) (v := .ref (ad 20)) X iw_X6 rfl rfl 20 (by decide) gw3_228 rfl rfl dX6_hand_135 ?_
              refine sw_iload_n X dX6_hand_138 rfl 2 rfl ?_
              refine sw_iload_n X dX6_hand_139 rfl 3 rfl ?_
              refine sw_iast (q0 := 14) (n := 40) X rfl (by omega) (by omega) (by decide) mW_a20 dX6_hand_140 ?_
              refine sw_iload X dX6_hand_141 0 rfl ?_
              exact RI _ _ _ _ _ _ dX6_hand_143 (by decide) (by decide) rfl (Or.inr ⟨_, _, _, _, rfl, by unfold kHand; rw [if_neg (by omega), if_neg (by omega)], rfl⟩)
            · exfalso; revert h13; decide
        · refine sw_iconst X dX6_hand_104 ?_
          refine sw_goto (tgt := 118) X dX6_hand_105 (by decide) ?_
          refine sw_callVI0 (C := RX6) (As := [.int (J 1)]) (rest := []) X (c_X6_goesWell l D k ad st tl t u9 v9 g9 1 (by omega)) (cwV 1 (sw_ts X) (sw_goodV gw4_58 gw4_60 gws_17 gw1_3 gw4_61) rfl rfl rfl (by decide +kernel) ⟨Nat.le_of_ble_eq_true rfl, Nat.le_of_ble_eq_true rfl⟩) 0 (ci := 6) rfl rfl rfl dX6_hand_118 rfl rfl (Nat.le_of_ble_eq_true rfl) ⟨Nat.le_of_ble_eq_true rfl, Nat.le_of_ble_eq_true rfl⟩ (fun z14 w9 hp15 => ?_)
          obtain ⟨rfl, hp15⟩ := hp15
          obtain rfl : z14 = 0 := by omega
          clear hp15
          refine sw_if_ne (tgt := 126) X (by omega) dX6_hand_121 (by decide) (fun h16 => ?_) (fun h16 => ?_)
          · exfalso; revert h16; decide
          · refine sw_iconst X dX6_hand_124 ?_
            exact RI _ _ _ _ _ _ dX6_hand_125 (by decide) (by decide) rfl (Or.inl ⟨_, _, _, _, _, rfl, by decide, by unfold kHand; rw [if_pos (by omega)]⟩)
      refine sw_if_eq (tgt := 99) X (by omega) dX6_hand_67 (by decide) (fun h17 => ?_) (fun h17 => ?_)
      · refine sw_sub [1, 2, 3, 4, 0] rfl ?_
        exact jn5 y9 x y h (by omega)
      · have hjj := I_j hI a (by omega) (by omega)
        have hq1 := cPl_b hI (a := st 20 a) (by omega)
        have hq2 := cPl_b hI (a := b) (by omega)
        refine sw_aload_n X dX6_hand_70 rfl 1 rfl ?_
        refine sw_aload_n X dX6_hand_71 rfl 1 rfl ?_
        refine sw_get (q0 := 0) (v := .ref (ad 20)) X iw_X6 rfl rfl 20 (by decide) gw3_228 rfl rfl dX6_hand_72 ?_
        refine sw_iload_n X dX6_hand_75 rfl 2 rfl ?_
        refine sw_iald (q0 := 14) (n := 40) X rfl (by omega) (by omega) (by decide) dX6_hand_76 ?_
        refine sw_callVI0 (C := RX6) (As := [.int (J (st 20 a))]) (rest := []) X (c_X6_cellOfPlace l D k N ad st tl t x y h (st 20 a) hI (by omega)) (cwV 1 (sw_ts X) (sw_goodV gw4_138 gw4_140 gws_27 gw1_3 gw4_141) rfl rfl rfl (by decide +kernel) ⟨Nat.le_of_ble_eq_true rfl, Nat.le_of_ble_eq_true rfl⟩) 0 (ci := 6) rfl rfl rfl dX6_hand_77 rfl rfl (Nat.le_of_ble_eq_true rfl) ⟨Nat.le_of_ble_eq_true rfl, Nat.le_of_ble_eq_true rfl⟩ (fun z18 w9 hp19 => ?_)
        obtain ⟨u20, v21, g22, rfl, rfl⟩ := hp19
        refine sw_istore (lv' := [(5, .int (J (cPl st (st 20 a)))), (4, .int (J y9)), (0, .ref (ad 0)), (1, .int (J a)), (2, .int (J b)), (3, .int (J z9))]) X dX6_hand_80 (by decide) rfl ?_
        refine sw_iload X dX6_hand_82 0 rfl ?_
        refine sw_aload_n X dX6_hand_84 rfl 2 rfl ?_
        refine sw_iload_n X dX6_hand_85 rfl 4 rfl ?_
        refine sw_callVI0 (C := RX6) (As := [.int (J b)]) (rest := [.int (J (cPl st (st 20 a)))]) X (c_X6_cellOfPlace l D k N ad st tl t u20 v21 g22 b hI (by omega)) (cwV 1 (sw_ts X) (sw_goodV gw4_138 gw4_140 gws_27 gw1_3 gw4_141) rfl rfl rfl (by decide +kernel) ⟨Nat.le_of_ble_eq_true rfl, Nat.le_of_ble_eq_true rfl⟩) 0 (ci := 6) rfl rfl rfl dX6_hand_86 rfl rfl (Nat.le_of_ble_eq_true rfl) ⟨Nat.le_of_ble_eq_true rfl, Nat.le_of_ble_eq_true rfl⟩ (fun z23 w9 hp24 => ?_)
        obtain ⟨u25, v26, g27, rfl, rfl⟩ := hp24
        refine sw_icmp_ne (tgt := 96) X (by omega) (by omega) dX6_hand_89 (by decide) (fun h28 => ?_) (fun h28 => ?_)
        · refine sw_iconst X dX6_hand_96 ?_
          refine sw_istore (lv' := [(4, .int (J 0)), (5, .int (J (cPl st (st 20 a)))), (0, .ref (ad 0)), (1, .int (J a)), (2, .int (J b)), (3, .int (J z9))]) X dX6_hand_97 (by decide) rfl ?_
          refine sw_sub [2, 3, 4, 5, 0] rfl ?_
          exact jn5 0 u25 v26 g27 (by omega)
        · refine sw_iconst X dX6_hand_92 ?_
          refine sw_goto (tgt := 97) X dX6_hand_93 (by decide) ?_
          refine sw_istore (lv' := [(4, .int (J 1)), (5, .int (J (cPl st (st 20 a)))), (0, .ref (ad 0)), (1, .int (J a)), (2, .int (J b)), (3, .int (J z9))]) X dX6_hand_97 (by decide) rfl ?_
          refine sw_sub [2, 3, 4, 5, 0] rfl ?_
          exact jn5 1 u25 v26 g27 (by omega)
    refine sw_if_eq (tgt := 62) X (by omega) dX6_hand_34 (by decide) (fun h29 => ?_) (fun h29 => ?_)
    · refine sw_iconst X dX6_hand_62 ?_
      refine sw_sub [1, 2, 3, 0] rfl ?_
      exact jn4 0 (by omega)
    · have hjj := I_j hI a (by omega) (by omega)
      refine sw_aload_n X dX6_hand_37 rfl 1 rfl ?_
      refine sw_get (q0 := 0) (v := .ref (ad 20)) X iw_X6 rfl rfl 20 (by decide) gw3_228 rfl rfl dX6_hand_38 ?_
      refine sw_iload_n X dX6_hand_41 rfl 2 rfl ?_
      refine sw_iald (q0 := 14) (n := 40) X rfl (by omega) (by omega) (by decide) dX6_hand_42 ?_
      refine sw_bipush X dX6_hand_43 (by decide +kernel) ?_
      refine sw_icmp_eq (tgt := 62) X (by omega) (by omega) dX6_hand_45 (by decide) (fun h30 => ?_) (fun h30 => ?_)
      · refine sw_iconst X dX6_hand_62 ?_
        refine sw_sub [1, 2, 3, 0] rfl ?_
        exact jn4 0 (by omega)
      · refine sw_aload_n X dX6_hand_48 rfl 1 rfl ?_
        refine sw_get (q0 := 0) (v := .ref (ad 20)) X iw_X6 rfl rfl 20 (by decide) gw3_228 rfl rfl dX6_hand_49 ?_
        refine sw_iload_n X dX6_hand_52 rfl 2 rfl ?_
        refine sw_iald (q0 := 14) (n := 40) X rfl (by omega) (by omega) (by decide) dX6_hand_53 ?_
        refine sw_iload_n X dX6_hand_54 rfl 3 rfl ?_
        refine sw_icmp_eq (tgt := 62) X (by omega) (by omega) dX6_hand_55 (by decide) (fun h31 => ?_) (fun h31 => ?_)
        · refine sw_iconst X dX6_hand_62 ?_
          refine sw_sub [1, 2, 3, 0] rfl ?_
          exact jn4 0 (by omega)
        · refine sw_iconst X dX6_hand_58 ?_
          refine sw_goto (tgt := 63) X dX6_hand_59 (by decide) ?_
          refine sw_sub [1, 2, 3, 0] rfl ?_
          exact jn4 1 (by omega)
  refine sw_if_eq (tgt := 31) X (by omega) dX6_hand_11 (by decide) (fun h32 => ?_) (fun h32 => ?_)
  · refine sw_iconst X dX6_hand_31 ?_
    exact jn3 0 (by omega)
  · refine sw_iload_n X dX6_hand_14 rfl 2 rfl ?_
    refine sw_iconst X dX6_hand_15 ?_
    refine sw_icmp_eq (tgt := 27) X (by omega) (by omega) dX6_hand_16 (by decide) (fun h33 => ?_) (fun h33 => ?_)
    · refine sw_iconst X dX6_hand_27 ?_
      refine sw_goto (tgt := 32) X dX6_hand_28 (by decide) ?_
      exact jn3 1 (by omega)
    · refine sw_aload_n X dX6_hand_19 rfl 0 rfl ?_
      refine sw_iload_n X dX6_hand_20 rfl 2 rfl ?_
      refine sw_callVI0 (C := RX6) (As := [.int (J b)]) (rest := []) X (c_X6_isCar l D k ad st tl t x y h b (by omega) (by omega)) (cwV 1 (sw_ts X) (sw_goodV gw4_102 gw4_104 gws_23 gw1_3 gw4_105) rfl rfl rfl (by decide +kernel) ⟨Nat.le_of_ble_eq_true rfl, Nat.le_of_ble_eq_true rfl⟩) 0 (ci := 6) rfl rfl rfl dX6_hand_21 rfl rfl (Nat.le_of_ble_eq_true rfl) ⟨Nat.le_of_ble_eq_true rfl, Nat.le_of_ble_eq_true rfl⟩ (fun z34 w9 hp35 => ?_)
      obtain ⟨rfl, hp35⟩ := hp35
      refine sw_if_eq (tgt := 31) X (by omega) dX6_hand_24 (by decide) (fun h36 => ?_) (fun h36 => ?_)
      · refine sw_iconst X dX6_hand_31 ?_
        exact jn3 0 (by omega)
      · refine sw_iconst X dX6_hand_27 ?_
        refine sw_goto (tgt := 32) X dX6_hand_28 (by decide) ?_
        exact jn3 1 (by omega)
abbrev rm_X6_record : Room := { frames := 5, cells := 0, slots := 0, locals := 112 }
set_option maxHeartbeats 4000000 in
set_option maxRecDepth 100000 in
theorem c_X6_record (l : Launch) (D : va_G) (k : Nat → ClassId) (N : Int) (ad : Nat → Nat) (st : Nat → Int → Int) (tl : Int → Int) (t x y h : Int) (c b a : Int) (hI : I6 N st) (h_c : (-2147483648 ≤ c ∧ c < 2147483648)) (h_b : (-2147483648 ≤ b ∧ b < 2147483648)) (h_a : (-2147483648 ≤ a ∧ a < 2147483648)) : CI l yX6_record cX6_record 6 (some .int) rm_X6_record D k [.ref (ad 0), .int (J c), .int (J b), .int (J a)] (mW k ad st tl t x y h) (oP k ad st (up2 st 16 (10 * c + b) a) (kRecord st c b a) (tim st c b)) := by
  refine CI.of (by decide +kernel) (Nat.le_of_ble_eq_true rfl) (fun pᵢ eᵢ sᵢ mᵢ argsᵢ belowᵢ methᵢ cᵢ Aᵢ Qᵢ X RI => ?_)
  show SW pᵢ l eᵢ rm_X6_record sᵢ mᵢ argsᵢ belowᵢ methᵢ cᵢ 6 D Aᵢ 0 0 Qᵢ (mW k ad st tl t x y h) 0 [(0, .ref (ad 0)), (1, .int (J c)), (2, .int (J b)), (3, .int (J a))] []
  have hS_ := I_st hI
  have hE_ := I_en hI
  have hG_ := I_ga hI
  have hU_ := I_cu hI
  have hC_ := I_ca hI
  have hP_ := I_pa hI
  refine sw_aload_n X dX6_record_0 rfl 0 rfl ?_
  refine sw_iload_n X dX6_record_1 rfl 1 rfl ?_
  refine sw_callVI0 (C := RX6) (As := [.int (J c)]) (rest := []) X (c_X6_isCar l D k ad st tl t x y h c (by omega) (by omega)) (cwV 1 (sw_ts X) (sw_goodV gw4_102 gw4_104 gws_23 gw1_3 gw4_105) rfl rfl rfl (by decide +kernel) ⟨Nat.le_of_ble_eq_true rfl, Nat.le_of_ble_eq_true rfl⟩) 0 (ci := 6) rfl rfl rfl dX6_record_2 rfl rfl (Nat.le_of_ble_eq_true rfl) ⟨Nat.le_of_ble_eq_true rfl, Nat.le_of_ble_eq_true rfl⟩ (fun z1 w9 hp2 => ?_)
  obtain ⟨rfl, hp2⟩ := hp2
  have jn3 : ∀ (z9 : Int), ((z9 = 1 ∧ (0 ≤ c ∧ c < st 9 0) ∧ 0 ≤ b ∧ b < st 5 0) ∨ (z9 = 0 ∧ ¬ ((0 ≤ c ∧ c < st 9 0) ∧ 0 ≤ b ∧ b < st 5 0))) → SW pᵢ l eᵢ rm_X6_record sᵢ mᵢ argsᵢ belowᵢ methᵢ cᵢ 6 D Aᵢ 0 0 Qᵢ (mW k ad st tl t x y h) 21 [(0, .ref (ad 0)), (1, .int (J c)), (2, .int (J b)), (3, .int (J a))] [.int (J z9)] := by
    intro z9 hz9
    refine sw_istore (lv' := [(4, .int (J z9)), (0, .ref (ad 0)), (1, .int (J c)), (2, .int (J b)), (3, .int (J a))]) X dX6_record_21 (by decide) rfl ?_
    refine sw_aload_n X dX6_record_23 rfl 1 rfl ?_
    refine sw_iload X dX6_record_24 0 rfl ?_
    refine sw_if_ne (tgt := 33) X (by omega) dX6_record_26 (by decide) (fun h4 => ?_) (fun h4 => ?_)
    · refine sw_iload_n X dX6_record_33 rfl 4 rfl ?_
      refine sw_iconst X dX6_record_34 ?_
      refine sw_sipush X dX6_record_35 (by decide +kernel) ?_
      refine sw_callSI0 (As := [.int (J a), .int (J 0), .int (J 10000)]) (rest := [.ref (ad 0)]) X (c_X6_in l D k (mW k ad st tl t x y h) a 0 10000 (by omega)) (va_cwS 3 (sw_ts X) (sw_goodS gw4_55 gw4_56 gw1_3 gw4_57) rfl rfl rfl (by decide +kernel) ⟨Nat.le_of_ble_eq_true rfl, Nat.le_of_ble_eq_true rfl⟩) dX6_record_38 rfl rfl (Nat.le_of_ble_eq_true rfl) ⟨Nat.le_of_ble_eq_true rfl, Nat.le_of_ble_eq_true rfl⟩ (fun z5 w9 hp6 => ?_)
      obtain ⟨rfl, hp6⟩ := hp6
      refine sw_if_eq (tgt := 48) X (by omega) dX6_record_41 (by decide) (fun h7 => ?_) (fun h7 => ?_)
      · refine sw_iconst X dX6_record_48 ?_
        refine sw_callVI0 (C := RX6) (As := [.int (J 2)]) (rest := []) X (c_X6_goesWell l D k ad st tl t x y h 2 (by omega)) (cwV 1 (sw_ts X) (sw_goodV gw4_58 gw4_60 gws_17 gw1_3 gw4_61) rfl rfl rfl (by decide +kernel) ⟨Nat.le_of_ble_eq_true rfl, Nat.le_of_ble_eq_true rfl⟩) 0 (ci := 6) rfl rfl rfl dX6_record_49 rfl rfl (Nat.le_of_ble_eq_true rfl) ⟨Nat.le_of_ble_eq_true rfl, Nat.le_of_ble_eq_true rfl⟩ (fun z8 w9 hp9 => ?_)
        obtain ⟨rfl, hp9⟩ := hp9
        obtain rfl : z8 = 0 := by omega
        clear hp9
        refine sw_if_ne (tgt := 57) X (by omega) dX6_record_52 (by decide) (fun h10 => ?_) (fun h10 => ?_)
        · exfalso; revert h10; decide
        · refine sw_iconst X dX6_record_55 ?_
          exact RI _ _ _ _ _ _ dX6_record_56 (by decide) (by decide) rfl (Or.inl ⟨_, _, _, _, _, rfl, by decide, by unfold kRecord; rw [if_neg (by omega), if_neg (by omega)]⟩)
      · refine sw_iconst X dX6_record_44 ?_
        refine sw_goto (tgt := 49) X dX6_record_45 (by decide) ?_
        refine sw_callVI0 (C := RX6) (As := [.int (J 0)]) (rest := []) X (c_X6_goesWell l D k ad st tl t x y h 0 (by omega)) (cwV 1 (sw_ts X) (sw_goodV gw4_58 gw4_60 gws_17 gw1_3 gw4_61) rfl rfl rfl (by decide +kernel) ⟨Nat.le_of_ble_eq_true rfl, Nat.le_of_ble_eq_true rfl⟩) 0 (ci := 6) rfl rfl rfl dX6_record_49 rfl rfl (Nat.le_of_ble_eq_true rfl) ⟨Nat.le_of_ble_eq_true rfl, Nat.le_of_ble_eq_true rfl⟩ (fun z11 w9 hp12 => ?_)
        obtain ⟨rfl, hp12⟩ := hp12
        obtain rfl : z11 = 1 := by omega
        clear hp12
        refine sw_if_ne (tgt := 57) X (by omega) dX6_record_52 (by decide) (fun h13 => ?_) (fun h13 => ?_)
        · refine sw_aload_n X dX6_record_57 rfl 1 rfl ?_
          refine sw_iload_n X dX6_record_58 rfl 2 rfl ?_
          refine sw_iload_n X dX6_record_59 rfl 3 rfl ?_
          refine sw_callVI0 (C := RX6) (As := [.int (J c), .int (J b)]) (rest := []) X (c_X6_timeOf l D k N ad st tl 0 x y h c b hI (by omega) (by omega)) (cwV 2 (sw_ts X) (sw_goodV gw4_154 gw4_156 gws_30 gw1_3 gw4_157) rfl rfl rfl (by decide +kernel) ⟨Nat.le_of_ble_eq_true rfl, Nat.le_of_ble_eq_true rfl⟩) 0 (ci := 6) rfl rfl rfl dX6_record_60 rfl rfl (Nat.le_of_ble_eq_true rfl) ⟨Nat.le_of_ble_eq_true rfl, Nat.le_of_ble_eq_true rfl⟩ (fun z14 w9 hp15 => ?_)
          obtain ⟨u16, v17, g18, rfl, rfl⟩ := hp15
          refine sw_istore (lv' := [(5, .int (J (tim st c b))), (4, .int (J z9)), (0, .ref (ad 0)), (1, .int (J c)), (2, .int (J b)), (3, .int (J a))]) X dX6_record_63 (by decide) rfl ?_
          refine sw_aload_n X dX6_record_65 rfl 2 rfl ?_
          refine sw_get (q0 := 0) (v := .ref (ad 16)) X iw_X6 rfl rfl 16 (by decide) gw3_224 rfl rfl dX6_record_66 ?_
          refine sw_bipush X dX6_record_69 (by decide +kernel) ?_
          refine sw_iload_n X dX6_record_71 rfl 3 rfl ?_
          refine sw_imul X dX6_record_72 ?_
          refine sw_iload_n X dX6_record_73 rfl 4 rfl ?_
          refine sw_iadd X dX6_record_74 ?_
          refine sw_iload_n X dX6_record_75 rfl 5 rfl ?_
          refine sw_iast (q0 := 11) (n := 80) X rfl (by omega) (by omega) (by decide) mW_a16 dX6_record_76 ?_
          refine sw_iload X dX6_record_77 0 rfl ?_
          exact RI _ _ _ _ _ _ dX6_record_79 (by decide) (by decide) rfl (Or.inr ⟨_, _, _, _, rfl, by unfold kRecord; rw [if_neg (by omega), if_pos (by omega)], rfl⟩)
        · exfalso; revert h13; decide
    · refine sw_iconst X dX6_record_29 ?_
      refine sw_goto (tgt := 49) X dX6_record_30 (by decide) ?_
      refine sw_callVI0 (C := RX6) (As := [.int (J 1)]) (rest := []) X (c_X6_goesWell l D k ad st tl t x y h 1 (by omega)) (cwV 1 (sw_ts X) (sw_goodV gw4_58 gw4_60 gws_17 gw1_3 gw4_61) rfl rfl rfl (by decide +kernel) ⟨Nat.le_of_ble_eq_true rfl, Nat.le_of_ble_eq_true rfl⟩) 0 (ci := 6) rfl rfl rfl dX6_record_49 rfl rfl (Nat.le_of_ble_eq_true rfl) ⟨Nat.le_of_ble_eq_true rfl, Nat.le_of_ble_eq_true rfl⟩ (fun z19 w9 hp20 => ?_)
      obtain ⟨rfl, hp20⟩ := hp20
      obtain rfl : z19 = 0 := by omega
      clear hp20
      refine sw_if_ne (tgt := 57) X (by omega) dX6_record_52 (by decide) (fun h21 => ?_) (fun h21 => ?_)
      · exfalso; revert h21; decide
      · refine sw_iconst X dX6_record_55 ?_
        exact RI _ _ _ _ _ _ dX6_record_56 (by decide) (by decide) rfl (Or.inl ⟨_, _, _, _, _, rfl, by decide, by unfold kRecord; rw [if_pos (by omega)]⟩)
  refine sw_if_eq (tgt := 20) X (by omega) dX6_record_5 (by decide) (fun h22 => ?_) (fun h22 => ?_)
  · refine sw_iconst X dX6_record_20 ?_
    exact jn3 0 (by omega)
  · refine sw_aload_n X dX6_record_8 rfl 0 rfl ?_
    refine sw_iload_n X dX6_record_9 rfl 2 rfl ?_
    refine sw_callVI0 (C := RX6) (As := [.int (J b)]) (rest := []) X (c_X6_isGate l D k ad st tl t x y h b (by omega) (by omega)) (cwV 1 (sw_ts X) (sw_goodV gw4_150 gw4_152 gws_29 gw1_3 gw4_153) rfl rfl rfl (by decide +kernel) ⟨Nat.le_of_ble_eq_true rfl, Nat.le_of_ble_eq_true rfl⟩) 0 (ci := 6) rfl rfl rfl dX6_record_10 rfl rfl (Nat.le_of_ble_eq_true rfl) ⟨Nat.le_of_ble_eq_true rfl, Nat.le_of_ble_eq_true rfl⟩ (fun z23 w9 hp24 => ?_)
    obtain ⟨rfl, hp24⟩ := hp24
    refine sw_if_eq (tgt := 20) X (by omega) dX6_record_13 (by decide) (fun h25 => ?_) (fun h25 => ?_)
    · refine sw_iconst X dX6_record_20 ?_
      exact jn3 0 (by omega)
    · refine sw_iconst X dX6_record_16 ?_
      refine sw_goto (tgt := 21) X dX6_record_17 (by decide) ?_
      exact jn3 1 (by omega)
