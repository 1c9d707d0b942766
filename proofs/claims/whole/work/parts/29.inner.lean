/-! what the object works out -/
theorem cel_v {N : Int} {st : ST} (hI : I6 N st) {c : Int} (hc : 0 ≤ c ∧ c < 8) : clO (vP st c (vN st c).toNat) = aC st c (clk st c) := by
  have h1 := pA_full hI hc.1 hc.2 (m := clk st c) (nP st c) (by rw [nP_e hI hc.1 hc.2]; omega) (Int.le_refl _)
  rw [vN_n hc.1, vP_t hc.1]
  unfold aC
  rw [h1]
  rfl
theorem pa_nx {st : ST} {c i u : Int} {n : Nat} (hi : i = (n : Int)) (hl : u = (pasL st c n).1) (hu : 0 ≤ u) (hr : fF (aC st c) (clk st c) (gC st i) u = -1 ∨ u ≤ fF (aC st c) (clk st c) (gC st i) u) : (if u < fF (aC st c) (clk st c) (gC st i) u then fF (aC st c) (clk st c) (gC st i) u else u) = (pasL st c (n + 1)).1 :=
  pas_n hi hl (mx_p hu hr)
abbrev rm_X5_entryAt : Room := { frames := 6, cells := 1, slots := 6, locals := 82 }
set_option maxHeartbeats 4000000 in
set_option maxRecDepth 100000 in
theorem c_X5_entryAt (l : Launch) (hfl : l.stackTraces = false) (D : va_G) (k : Nat → ClassId) (N : Int) (st : ST) (q : Int → Nat) (L : List Nat) (M : MM) (i : Int) (hI : I6 N st) (hC : CW st q L M) (hi : (-2147483648 ≤ i ∧ i < 2147483648)) : XQ l yX5_entryAt cX5_entryAt 3 (some (.object "OriginRally$Piece")) rm_X5_entryAt D k [.ref (q 0), .int (J i)] (pW k L M) (fun r w' => w' = pW k L M ∧ (0 ≤ i ∧ i < st 2 0) ∧ r = some (q (160 + 60 * -1 + i))) (fun E w' => w' = pW k L M ∧ E = "java/lang/IndexOutOfBoundsException" ∧ ¬ (0 ≤ i ∧ i < st 2 0)) := by
  refine XQ.of hfl (by decide +kernel) rfl (Nat.le_of_ble_eq_true rfl) (fun pᵢ eᵢ sᵢ mᵢ argsᵢ belowᵢ methᵢ cᵢ Aᵢ Qᵢ X RI XO_ XT_ => ?_)
  show SW pᵢ l eᵢ rm_X5_entryAt sᵢ mᵢ argsᵢ belowᵢ methᵢ cᵢ 3 D Aᵢ 0 0 Qᵢ (pW k L M) 0 [(0, .ref (q 0)), (1, .int (J i))] []
  have hC2 := hC
  obtain ⟨⟨⟨o0, o1, o2, o3, o4⟩, ⟨n1, n2, n3, n4⟩, ⟨r51, r52, r55, r57, r59⟩, v50, v53, v54, v56, v58⟩, hBk, hCa, hGa, hPa⟩ := hC2
  have i1 := I_st hI
  have i2 := I_en hI
  have i5 := I_ga hI
  have i8 := I_cu hI
  have i9 := I_ca hI
  have i17 := I_pa hI
  obtain ⟨⟨⟨zL, zG, zK⟩, z40⟩, hBk2⟩ := hBk
  refine sw_aload_n X dX5_entryAt_0 rfl 0 rfl ?_
  refine px_get (v := .ref (q (10 + -1))) X iw_X5 o0.1 (by decide) o0.2.2 rfl 1 (by decide) gw1_58 rfl (congrArg some (rf_of r51)) dX5_entryAt_1 ?_
  refine sw_iload_n X dX5_entryAt_4 rfl 1 rfl ?_
  refine px_callVQ (C := RX4) (As := [.int (J i)]) (rest := []) X (c_X4_pieceAt l D k N st q L M (-1) i hI (Or.inl rfl) hC.2.1 (by omega)) (cwV 1 (sw_ts X) (sw_goodV gw2_43 gw2_44 gw2_45 gw1_2 gw2_46) rfl rfl rfl (by decide +kernel) ⟨Nat.le_of_ble_eq_true rfl, Nat.le_of_ble_eq_true rfl⟩) ⟨zL, zK⟩ (by decide) rfl rfl dX5_entryAt_5 rfl rfl (Nat.le_of_ble_eq_true rfl) ⟨Nat.le_of_ble_eq_true rfl, Nat.le_of_ble_eq_true rfl⟩ (fun z1 w9 hp2 => ?_)
  obtain ⟨rfl, hp2⟩ := hp2
  have e2 : vN st (-1) = st 2 0 := rfl
  rcases hp2 with ⟨g0, g1, rfl⟩ | ⟨g0, rfl⟩
  · refine sw_astore_n (lv' := [(2, .ref (q (160 + 60 * -1 + i))), (0, .ref (q 0)), (1, .int (J i))]) X dX5_entryAt_8 rfl (by decide) rfl ?_
    refine sw_aload_n X dX5_entryAt_9 rfl 0 rfl ?_
    refine sw_ifnonnull (tgt := 23) X dX5_entryAt_10 (by decide) ?_
    refine sw_aload_n X dX5_entryAt_23 rfl 0 rfl ?_
    exact RI _ _ _ (some (q (160 + 60 * -1 + i))) _ _ dX5_entryAt_24 (Nat.le_of_ble_eq_true rfl) (Nat.le_of_ble_eq_true rfl) ⟨rfl, by omega, rfl⟩
  · refine sw_astore_nN (lv' := [(2, .null), (0, .ref (q 0)), (1, .int (J i))]) X dX5_entryAt_8 rfl (by decide) rfl ?_
    refine sw_aload_nN X dX5_entryAt_9 rfl 0 rfl ?_
    refine sw_ifnonnullN X dX5_entryAt_10 ?_
    exact XT_ _ _ _ 218 236 222 _ _ _ _ _ (by decide +kernel) (List.mem_of_getElem? (i := 4) rfl) gw2_47 gw1_10 thA0 thB0 (List.mem_of_getElem? (i := 0) rfl) thC0 dX5_entryAt_13 dX5_entryAt_16 dX5_entryAt_17 dX5_entryAt_19 dX5_entryAt_22 (by decide) (Nat.le_of_ble_eq_true rfl) (Nat.le_of_ble_eq_true rfl) (Nat.le_of_ble_eq_true rfl) ⟨rfl, rfl, by omega⟩
abbrev rm_X5_lastGateEntry : Room := { frames := 2, cells := 0, slots := 0, locals := 44 }
set_option maxHeartbeats 4000000 in
set_option maxRecDepth 100000 in
theorem c_X5_lastGateEntry (l : Launch) (D : va_G) (k : Nat → ClassId) (N : Int) (st : ST) (q : Int → Nat) (L : List Nat) (M : MM)  (hI : I6 N st) (hC : CW st q L M) : CI l yX5_lastGateEntry cX5_lastGateEntry 1 (some .int) rm_X5_lastGateEntry D k [.ref (q 0)] (pW k L M) (fun z w' => w' = pW k L M ∧ z = if st 5 0 = 0 then -1 else st 6 (st 5 0 - 1)) := by
  refine CI.of (by decide +kernel) (Nat.le_of_ble_eq_true rfl) (fun pᵢ eᵢ sᵢ mᵢ argsᵢ belowᵢ methᵢ cᵢ Aᵢ Qᵢ X RI => ?_)
  show SW pᵢ l eᵢ rm_X5_lastGateEntry sᵢ mᵢ argsᵢ belowᵢ methᵢ cᵢ 1 D Aᵢ 0 0 Qᵢ (pW k L M) 0 [(0, .ref (q 0))] []
  have hC2 := hC
  obtain ⟨⟨⟨o0, o1, o2, o3, o4⟩, ⟨n1, n2, n3, n4⟩, ⟨r51, r52, r55, r57, r59⟩, v50, v53, v54, v56, v58⟩, hBk, hCa, hGa, hPa⟩ := hC2
  have i1 := I_st hI
  have i2 := I_en hI
  have i5 := I_ga hI
  have i8 := I_cu hI
  have i9 := I_ca hI
  have i17 := I_pa hI
  refine sw_aload_n X dX5_lastGateEntry_0 rfl 0 rfl ?_
  refine px_get (v := .int (J (st 5 0))) X iw_X5 o0.1 (by decide) o0.2.2 rfl 3 (by decide) gw1_60 rfl (congrArg (fun z => some (Value.int (J z))) v53) dX5_lastGateEntry_1 ?_
  refine sw_if_ne (tgt := 11) X (by omega) dX5_lastGateEntry_4 (by decide) (fun h1 => ?_) (fun h1 => ?_)
  · refine sw_aload_n X dX5_lastGateEntry_11 rfl 0 rfl ?_
    refine sw_aload_n X dX5_lastGateEntry_12 rfl 0 rfl ?_
    refine px_get (v := .int (J (st 5 0))) X iw_X5 o0.1 (by decide) o0.2.2 rfl 3 (by decide) gw1_60 rfl (congrArg (fun z => some (Value.int (J z))) v53) dX5_lastGateEntry_13 ?_
    refine sw_iconst X dX5_lastGateEntry_16 ?_
    refine sw_isub X dX5_lastGateEntry_17 ?_
    refine px_callVQ (C := RX5) (As := [.int (J ((st 5 0) - 1))]) (rest := []) X (c_X5_gateAt_n l D k N st q (L) (M) ((st 5 0) - 1) hI hC (by omega)) (cwV 1 (sw_ts X) (sw_goodV gw2_67 gw2_69 gws_4 gw1_1 gw2_70) rfl rfl rfl (by decide +kernel) ⟨Nat.le_of_ble_eq_true rfl, Nat.le_of_ble_eq_true rfl⟩) ⟨o0.1, o0.2.2⟩ (by decide) rfl rfl dX5_lastGateEntry_18 rfl rfl (Nat.le_of_ble_eq_true rfl) ⟨Nat.le_of_ble_eq_true rfl, Nat.le_of_ble_eq_true rfl⟩ (fun z2 w9 hp3 => ?_)
    obtain ⟨rfl, rfl⟩ := hp3
    obtain ⟨⟨gO, gR⟩, g10, g11, g12⟩ := hGa ((st 5 0) - 1) (by omega) (by omega)
    have gb1 := gC_b hI (g := (st 5 0) - 1) (by omega)
    have gb2 := gD_b hI (g := (st 5 0) - 1) (by omega)
    have gb3 := I_g hI ((st 5 0) - 1) (by omega) (by omega)
    refine px_getN (n := "") (d := "") (v := .int (J (st 6 ((st 5 0) - 1)))) X iw_X1 gO.1 (by decide) gO.2.2 rfl 0 (by decide) (List.mem_of_getElem? (i := 11) rfl) rfl (congrArg (fun z => some (Value.int (J z))) g10) dX5_lastGateEntry_21 ?_
    exact RI _ _ _ _ _ _ dX5_lastGateEntry_24 (Nat.le_of_ble_eq_true rfl) (Nat.le_of_ble_eq_true rfl) rfl ⟨rfl, by split <;> first | rfl | omega⟩
  · refine sw_iconst X dX5_lastGateEntry_7 ?_
    refine sw_goto (tgt := 24) X dX5_lastGateEntry_8 (by decide) ?_
    exact RI _ _ _ _ _ _ dX5_lastGateEntry_24 (Nat.le_of_ble_eq_true rfl) (Nat.le_of_ble_eq_true rfl) rfl ⟨rfl, by split <;> first | rfl | omega⟩
abbrev rm_X5_cellOfPlace : Room := { frames := 3, cells := 0, slots := 0, locals := 65 }
set_option maxHeartbeats 4000000 in
set_option maxRecDepth 100000 in
theorem c_X5_cellOfPlace (l : Launch) (D : va_G) (k : Nat → ClassId) (N : Int) (st : ST) (q : Int → Nat) (L : List Nat) (M : MM) (i : Int) (hI : I6 N st) (hC : CW st q L M) (hi : i = -1 ∨ (0 ≤ i ∧ i < st 9 0)) : CI l yX5_cellOfPlace cX5_cellOfPlace 2 (some .int) rm_X5_cellOfPlace D k [.ref (q 0), .int (J i)] (pW k L M) (fun z w' => w' = pW k L M ∧ z = cPl st i) := by
  refine CI.of (by decide +kernel) (Nat.le_of_ble_eq_true rfl) (fun pᵢ eᵢ sᵢ mᵢ argsᵢ belowᵢ methᵢ cᵢ Aᵢ Qᵢ X RI => ?_)
  show SW pᵢ l eᵢ rm_X5_cellOfPlace sᵢ mᵢ argsᵢ belowᵢ methᵢ cᵢ 2 D Aᵢ 0 0 Qᵢ (pW k L M) 0 [(0, .ref (q 0)), (1, .int (J i))] []
  have hC2 := hC
  obtain ⟨⟨⟨o0, o1, o2, o3, o4⟩, ⟨n1, n2, n3, n4⟩, ⟨r51, r52, r55, r57, r59⟩, v50, v53, v54, v56, v58⟩, hBk, hCa, hGa, hPa⟩ := hC2
  have i1 := I_st hI
  have i2 := I_en hI
  have i5 := I_ga hI
  have i8 := I_cu hI
  have i9 := I_ca hI
  have i17 := I_pa hI
  refine sw_iload_n X dX5_cellOfPlace_0 rfl 1 rfl ?_
  refine sw_iconst X dX5_cellOfPlace_1 ?_
  refine sw_icmp_ne (tgt := 12) X (by omega) (by omega) dX5_cellOfPlace_2 (by decide) (fun h1 => ?_) (fun h1 => ?_)
  · refine sw_aload_n X dX5_cellOfPlace_12 rfl 0 rfl ?_
    refine sw_iload_n X dX5_cellOfPlace_13 rfl 1 rfl ?_
    refine px_callVQ (C := RX5) (As := [.int (J i)]) (rest := []) X (c_X5_carAt_n l D k N st q (L) (M) i hI hC (by omega)) (cwV 1 (sw_ts X) (sw_goodV gw2_136 gw2_138 gws_5 gw1_1 gw2_139) rfl rfl rfl (by decide +kernel) ⟨Nat.le_of_ble_eq_true rfl, Nat.le_of_ble_eq_true rfl⟩) ⟨o0.1, o0.2.2⟩ (by decide) rfl rfl dX5_cellOfPlace_14 rfl rfl (Nat.le_of_ble_eq_true rfl) ⟨Nat.le_of_ble_eq_true rfl, Nat.le_of_ble_eq_true rfl⟩ (fun z2 w9 hp3 => ?_)
    obtain ⟨rfl, rfl⟩ := hp3
    obtain ⟨hWc, ⟨cO, cR⟩, c0, c1, c2, c3, ⟨dO, dN⟩, dV⟩ := hCa i (by omega) (by omega)
    have hWc2 := hWc
    obtain ⟨⟨⟨wL, wG, wK⟩, w40⟩, w41, w42, w43, w44, ⟨⟨aL, aG, aK⟩, aN⟩, hp⟩ := hWc2
    have k44 := w44.trans (clk_v (st := st) (c := i) (by omega))
    have k42 := w42.trans (cel_v hI (c := i) (by omega))
    have hk9 := clk_b hI (c := i) (by omega) (by omega)
    have hct := I_c hI i (by omega) (by omega)
    refine px_getN (n := "") (d := "") (v := .ref (q (10 + i))) X iw_X0 cO.1 (by decide) cO.2.2 rfl 0 (by decide) (List.mem_of_getElem? (i := 14) rfl) rfl (congrArg some (rf_of c0)) dX5_cellOfPlace_17 ?_
    refine px_getN (n := "") (d := "") (v := .int (J (aC st i (clk st i)))) X iw_X4 wL (by decide) wK rfl 2 (by decide) (List.mem_of_getElem? (i := 1) rfl) rfl (congrArg (fun z => some (Value.int (J z))) k42) dX5_cellOfPlace_20 ?_
    exact RI _ _ _ _ _ _ dX5_cellOfPlace_23 (Nat.le_of_ble_eq_true rfl) (Nat.le_of_ble_eq_true rfl) rfl ⟨rfl, by unfold cPl; rw [if_neg (by omega)]⟩
  · refine sw_aload_n X dX5_cellOfPlace_5 rfl 0 rfl ?_
    refine px_get (v := .int (J (st 1 0))) X iw_X5 o0.1 (by decide) o0.2.2 rfl 0 (by decide) gw1_57 rfl (congrArg (fun z => some (Value.int (J z))) v50) dX5_cellOfPlace_6 ?_
    refine sw_goto (tgt := 23) X dX5_cellOfPlace_9 (by decide) ?_
    exact RI _ _ _ _ _ _ dX5_cellOfPlace_23 (Nat.le_of_ble_eq_true rfl) (Nat.le_of_ble_eq_true rfl) rfl ⟨rfl, by unfold cPl; rw [if_pos (by omega)]⟩
abbrev rm_X5_firstPartIn : Room := { frames := 2, cells := 0, slots := 0, locals := 44 }
set_option maxHeartbeats 4000000 in
set_option maxRecDepth 100000 in
theorem c_X5_firstPartIn (l : Launch) (D : va_G) (k : Nat → ClassId) (N : Int) (st : ST) (q : Int → Nat) (L : List Nat) (M : MM) (c b : Int) (hI : I6 N st) (hC : CW st q L M) (hc : -10 ≤ c ∧ c ≤ 10) (hb : -10 ≤ b ∧ b ≤ 10) : CI l yX5_firstPartIn cX5_firstPartIn 5 (some .int) rm_X5_firstPartIn D k [.ref (q 0), .int (J c), .int (J b)] (pW k L M) (fun z w' => w' = pW k L M ∧ z = fPt st c b) := by
  refine CI.of (by decide +kernel) (Nat.le_of_ble_eq_true rfl) (fun pᵢ eᵢ sᵢ mᵢ argsᵢ belowᵢ methᵢ cᵢ Aᵢ Qᵢ X RI => ?_)
  show SW pᵢ l eᵢ rm_X5_firstPartIn sᵢ mᵢ argsᵢ belowᵢ methᵢ cᵢ 5 D Aᵢ 0 0 Qᵢ (pW k L M) 0 [(0, .ref (q 0)), (1, .int (J c)), (2, .int (J b))] []
  have hC2 := hC
  obtain ⟨⟨⟨o0, o1, o2, o3, o4⟩, ⟨n1, n2, n3, n4⟩, ⟨r51, r52, r55, r57, r59⟩, v50, v53, v54, v56, v58⟩, hBk, hCa, hGa, hPa⟩ := hC2
  have i1 := I_st hI
  have i2 := I_en hI
  have i5 := I_ga hI
  have i8 := I_cu hI
  have i9 := I_ca hI
  have i17 := I_pa hI
  refine sw_iconst X dX5_firstPartIn_0 ?_
  refine sw_istore_n (lv' := [(3, .int (J 0)), (0, .ref (q 0)), (1, .int (J c)), (2, .int (J b))]) X dX5_firstPartIn_1 rfl (by decide) rfl ?_
  have lp2 : ∀ (n3 : Nat) (i : Int), st 17 0 - i < (n3 : Nat) → (0 ≤ i ∧ i ≤ st 17 0) → (∀ m : Int, 0 ≤ m → m < i → ¬ (st 20 m = c ∧ st 18 m = b)) → SW pᵢ l eᵢ rm_X5_firstPartIn sᵢ mᵢ argsᵢ belowᵢ methᵢ cᵢ 5 D Aᵢ 0 0 Qᵢ (pW k L M) 2 [(0, .ref (q 0)), (1, .int (J c)), (2, .int (J b)), (3, .int (J i))] [] := by
    intro n3
    induction n3 with
    | zero => intro i hm4 hi hno; exact absurd hm4 (by omega)
    | succ n3 ih1 =>
      intro i hm4 hi hno
      refine sw_iload_n X dX5_firstPartIn_2 rfl 3 rfl ?_
      refine sw_aload_n X dX5_firstPartIn_3 rfl 0 rfl ?_
      refine px_get (v := .int (J (st 17 0))) X iw_X5 o0.1 (by decide) o0.2.2 rfl 8 (by decide) gw1_65 rfl (congrArg (fun z => some (Value.int (J z))) v58) dX5_firstPartIn_4 ?_
      refine sw_icmp_ge (tgt := 43) X (by omega) (by omega) dX5_firstPartIn_7 (by decide) (fun h5 => ?_) (fun h5 => ?_)
      · refine sw_iconst X dX5_firstPartIn_43 ?_
        exact RI _ _ _ _ _ _ dX5_firstPartIn_44 (Nat.le_of_ble_eq_true rfl) (Nat.le_of_ble_eq_true rfl) rfl ⟨rfl, fF_eq (Int.le_refl 0) (Or.inl ⟨rfl, fun m a0 a1 => by dsimp only; rw [if_neg (hno m a0 (by omega))]; decide⟩)⟩
      · refine sw_aload_n X dX5_firstPartIn_10 rfl 0 rfl ?_
        refine sw_iload_n X dX5_firstPartIn_11 rfl 3 rfl ?_
        refine px_callVQ (C := RX5) (As := [.int (J i)]) (rest := []) X (c_X5_partAt_n l D k N st q (L) (M) i hI hC (by omega)) (cwV 1 (sw_ts X) (sw_goodV gw2_183 gw2_185 gws_8 gw1_1 gw2_186) rfl rfl rfl (by decide +kernel) ⟨Nat.le_of_ble_eq_true rfl, Nat.le_of_ble_eq_true rfl⟩) ⟨o0.1, o0.2.2⟩ (by decide) rfl rfl dX5_firstPartIn_12 rfl rfl (Nat.le_of_ble_eq_true rfl) ⟨Nat.le_of_ble_eq_true rfl, Nat.le_of_ble_eq_true rfl⟩ (fun z6 w9 hp7 => ?_)
        obtain ⟨rfl, rfl⟩ := hp7
        obtain ⟨⟨pO, pR⟩, p20, p21, p22, p23, p24, p25⟩ := hPa i (by omega) (by omega)
        have pb1 := I_j hI i (by omega) (by omega)
        refine sw_astore (lv' := [(4, .ref (q (60 + i))), (0, .ref (q 0)), (1, .int (J c)), (2, .int (J b)), (3, .int (J i))]) X dX5_firstPartIn_15 (by decide) rfl ?_
        refine sw_aload X dX5_firstPartIn_17 0 rfl ?_
        refine px_getN (n := "") (d := "") (v := .int (J (st 20 i))) X iw_X2 pO.1 (by decide) pO.2.2 rfl 2 (by decide) (List.mem_of_getElem? (i := 18) rfl) rfl (congrArg (fun z => some (Value.int (J z))) p22) dX5_firstPartIn_19 ?_
        refine sw_iload_n X dX5_firstPartIn_22 rfl 2 rfl ?_
        refine sw_icmp_ne (tgt := 37) X (by omega) (by omega) dX5_firstPartIn_23 (by decide) (fun h8 => ?_) (fun h8 => ?_)
        · refine sw_iinc (lv' := [(3, .int (J (i + 1))), (4, .ref (q (60 + i))), (0, .ref (q 0)), (1, .int (J c)), (2, .int (J b))]) X dX5_firstPartIn_37 4 rfl (by decide) rfl ?_
          refine sw_goto (tgt := 2) X dX5_firstPartIn_40 (by decide) ?_
          refine sw_sub [2, 3, 4, 0] rfl ?_
          exact ih1 (i + 1) (by omega) (by omega) (fun m a0 a1 => by rcases Int.lt_or_le m i with h8 | h8; exact hno m a0 h8; rw [show m = i by omega]; omega)
        · refine sw_aload X dX5_firstPartIn_26 0 rfl ?_
          refine px_getN (n := "") (d := "") (v := .int (J (st 18 i))) X iw_X2 pO.1 (by decide) pO.2.2 rfl 0 (by decide) (List.mem_of_getElem? (i := 17) rfl) rfl (congrArg (fun z => some (Value.int (J z))) p20) dX5_firstPartIn_28 ?_
          refine sw_iload_n X dX5_firstPartIn_31 rfl 3 rfl ?_
          refine sw_icmp_ne (tgt := 37) X (by omega) (by omega) dX5_firstPartIn_32 (by decide) (fun h9 => ?_) (fun h9 => ?_)
          · refine sw_iinc (lv' := [(3, .int (J (i + 1))), (4, .ref (q (60 + i))), (0, .ref (q 0)), (1, .int (J c)), (2, .int (J b))]) X dX5_firstPartIn_37 4 rfl (by decide) rfl ?_
            refine sw_goto (tgt := 2) X dX5_firstPartIn_40 (by decide) ?_
            refine sw_sub [2, 3, 4, 0] rfl ?_
            exact ih1 (i + 1) (by omega) (by omega) (fun m a0 a1 => by rcases Int.lt_or_le m i with h8 | h8; exact hno m a0 h8; rw [show m = i by omega]; omega)
          · refine sw_iload_n X dX5_firstPartIn_35 rfl 4 rfl ?_
            exact RI _ _ _ _ _ _ dX5_firstPartIn_36 (Nat.le_of_ble_eq_true rfl) (Nat.le_of_ble_eq_true rfl) rfl ⟨rfl, fF_eq (Int.le_refl 0) (Or.inr ⟨by omega, by omega, if_pos (by omega), fun m a0 a1 => by dsimp only; rw [if_neg (hno m a0 (by omega))]; decide⟩)⟩
  refine sw_sub [1, 2, 3, 0] rfl ?_
  exact lp2 (st 17 0 - 0).toNat.succ 0 (by omega) (by omega) (fun m a0 a1 => absurd a1 (by omega))
abbrev rm_X5_passMinute : Room := { frames := 3, cells := 0, slots := 0, locals := 72 }
set_option maxHeartbeats 4000000 in
set_option maxRecDepth 100000 in
theorem c_X5_passMinute (l : Launch) (D : va_G) (k : Nat → ClassId) (N : Int) (st : ST) (q : Int → Nat) (L : List Nat) (M : MM) (c g : Int) (hI : I6 N st) (hC : CW st q L M) (hc : 0 ≤ c ∧ c < st 9 0) (hg : 0 ≤ g ∧ g < st 5 0) : CI l yX5_passMinute cX5_passMinute 6 (some .int) rm_X5_passMinute D k [.ref (q 0), .ref (q (30 + c)), .int (J g)] (pW k L M) (fun z w' => w' = pW k L M ∧ z = pas st c g) := by
  refine CI.of (by decide +kernel) (Nat.le_of_ble_eq_true rfl) (fun pᵢ eᵢ sᵢ mᵢ argsᵢ belowᵢ methᵢ cᵢ Aᵢ Qᵢ X RI => ?_)
  show SW pᵢ l eᵢ rm_X5_passMinute sᵢ mᵢ argsᵢ belowᵢ methᵢ cᵢ 6 D Aᵢ 0 0 Qᵢ (pW k L M) 0 [(0, .ref (q 0)), (1, .ref (q (30 + c))), (2, .int (J g))] []
  have hC2 := hC
  obtain ⟨⟨⟨o0, o1, o2, o3, o4⟩, ⟨n1, n2, n3, n4⟩, ⟨r51, r52, r55, r57, r59⟩, v50, v53, v54, v56, v58⟩, hBk, hCa, hGa, hPa⟩ := hC2
  have i1 := I_st hI
  have i2 := I_en hI
  have i5 := I_ga hI
  have i8 := I_cu hI
  have i9 := I_ca hI
  have i17 := I_pa hI
  obtain ⟨hWc, ⟨cO, cR⟩, c0, c1, c2, c3, ⟨dO, dN⟩, dV⟩ := hCa c (by omega) (by omega)
  have hWc2 := hWc
  obtain ⟨⟨⟨wL, wG, wK⟩, w40⟩, w41, w42, w43, w44, ⟨⟨aL, aG, aK⟩, aN⟩, hp⟩ := hWc2
  have k44 := w44.trans (clk_v (st := st) (c := c) (by omega))
  have k42 := w42.trans (cel_v hI (c := c) (by omega))
  have hk9 := clk_b hI (c := c) (by omega) (by omega)
  have hct := I_c hI c (by omega) (by omega)
  refine sw_iconst X dX5_passMinute_0 ?_
  refine sw_istore_n (lv' := [(3, .int (J 0)), (0, .ref (q 0)), (1, .ref (q (30 + c))), (2, .int (J g))]) X dX5_passMinute_1 rfl (by decide) rfl ?_
  refine sw_iconst X dX5_passMinute_2 ?_
  refine sw_istore (lv' := [(4, .int (J (-1))), (3, .int (J 0)), (0, .ref (q 0)), (1, .ref (q (30 + c))), (2, .int (J g))]) X dX5_passMinute_3 (by decide) rfl ?_
  refine sw_iconst X dX5_passMinute_5 ?_
  refine sw_istore (lv' := [(5, .int (J 0)), (4, .int (J (-1))), (3, .int (J 0)), (0, .ref (q 0)), (1, .ref (q (30 + c))), (2, .int (J g))]) X dX5_passMinute_6 (by decide) rfl ?_
  have lp2 : ∀ (n3 : Nat) (n : Nat) (u v i : Int), g + 1 - i < (n3 : Nat) → (i = (n : Int)) → ((n : Int) ≤ g + 1) → (0 ≤ u ∧ u ≤ clk st c) → (u = (pasL st c n).1) → (v = (pasL st c n).2) → SW pᵢ l eᵢ rm_X5_passMinute sᵢ mᵢ argsᵢ belowᵢ methᵢ cᵢ 6 D Aᵢ 0 0 Qᵢ (pW k L M) 8 [(0, .ref (q 0)), (1, .ref (q (30 + c))), (2, .int (J g)), (3, .int (J u)), (4, .int (J v)), (5, .int (J i))] [] := by
    intro n3
    induction n3 with
    | zero => intro n u v i hm4 hi hn hu hl hv; exact absurd hm4 (by omega)
    | succ n3 ih1 =>
      intro n u v i hm4 hi hn hu hl hv
      refine sw_iload X dX5_passMinute_8 5 rfl ?_
      refine sw_iload_n X dX5_passMinute_10 rfl 2 rfl ?_
      refine sw_icmp_gt (tgt := 46) X (by omega) (by omega) dX5_passMinute_11 (by decide) (fun h5 => ?_) (fun h5 => ?_)
      · refine sw_iload X dX5_passMinute_46 4 rfl ?_
        exact RI _ _ _ _ _ _ dX5_passMinute_48 (Nat.le_of_ble_eq_true rfl) (Nat.le_of_ble_eq_true rfl) rfl ⟨rfl, pas_l (by omega) hg.1 hv⟩
      · refine sw_aload_n X dX5_passMinute_14 rfl 1 rfl ?_
        refine px_getN (n := "") (d := "") (v := .ref (q (10 + c))) X iw_X0 cO.1 (by decide) cO.2.2 rfl 0 (by decide) (List.mem_of_getElem? (i := 14) rfl) rfl (congrArg some (rf_of c0)) dX5_passMinute_15 ?_
        refine sw_aload_n X dX5_passMinute_18 rfl 0 rfl ?_
        refine sw_iload X dX5_passMinute_19 5 rfl ?_
        refine px_callVQ (C := RX5) (As := [.int (J i)]) (rest := [.ref (q (10 + c))]) X (c_X5_gateAt_n l D k N st q (L) (M) i hI hC (by omega)) (cwV 1 (sw_ts X) (sw_goodV gw2_67 gw2_69 gws_4 gw1_1 gw2_70) rfl rfl rfl (by decide +kernel) ⟨Nat.le_of_ble_eq_true rfl, Nat.le_of_ble_eq_true rfl⟩) ⟨o0.1, o0.2.2⟩ (by decide) rfl rfl dX5_passMinute_21 rfl rfl (Nat.le_of_ble_eq_true rfl) ⟨Nat.le_of_ble_eq_true rfl, Nat.le_of_ble_eq_true rfl⟩ (fun z6 w9 hp7 => ?_)
        obtain ⟨rfl, rfl⟩ := hp7
        obtain ⟨⟨gO, gR⟩, g10, g11, g12⟩ := hGa i (by omega) (by omega)
        have gb1 := gC_b hI (g := i) (by omega)
        have gb2 := gD_b hI (g := i) (by omega)
        have gb3 := I_g hI i (by omega) (by omega)
        refine px_getN (n := "") (d := "") (v := .int (J (gC st i))) X iw_X1 gO.1 (by decide) gO.2.2 rfl 1 (by decide) (List.mem_of_getElem? (i := 12) rfl) rfl (congrArg (fun z => some (Value.int (J z))) g11) dX5_passMinute_24 ?_
        refine sw_iload_n X dX5_passMinute_27 rfl 3 rfl ?_
        refine px_callVI (C := RX4) (As := [.int (J (gC st i)), .int (J u)]) (rest := []) X (c_X4_firstMinuteIn l D k N st q L M c (gC st i) u hI (by omega) hWc (by omega) (by omega)) (cwV 2 (sw_ts X) (sw_goodV gw3_25 gw3_26 gw3_27 gw1_2 gw3_28) rfl rfl rfl (by decide +kernel) ⟨Nat.le_of_ble_eq_true rfl, Nat.le_of_ble_eq_true rfl⟩) ⟨wL, wK⟩ (by decide) rfl rfl dX5_passMinute_28 rfl rfl (Nat.le_of_ble_eq_true rfl) ⟨Nat.le_of_ble_eq_true rfl, Nat.le_of_ble_eq_true rfl⟩ (fun z8 w9 hp9 => ?_)
        obtain ⟨rfl, rfl⟩ := hp9
        have hr8 := isF_rng (fF_is (aC st c) (e := clk st c) (v := gC st i) (a := u))
        refine sw_istore (lv' := [(4, .int (J (fF (aC st c) (clk st c) (gC st i) u))), (0, .ref (q 0)), (1, .ref (q (30 + c))), (2, .int (J g)), (3, .int (J u)), (5, .int (J i))]) X dX5_passMinute_31 (by decide) rfl ?_
        refine sw_iload_n X dX5_passMinute_33 rfl 4 rfl ?_
        refine sw_iload X dX5_passMinute_34 0 rfl ?_
        refine sw_max X (by omega) (by omega) gw3_43 gw3_36 gw1_15 gw3_37 (Nat.le_of_ble_eq_true rfl) (Nat.le_of_ble_eq_true rfl) ⟨Nat.le_of_ble_eq_true rfl, Nat.le_of_ble_eq_true rfl⟩ dX5_passMinute_36 ?_
        refine sw_istore_n (lv' := [(3, .int (J (if u < fF (aC st c) (clk st c) (gC st i) u then fF (aC st c) (clk st c) (gC st i) u else u))), (4, .int (J (fF (aC st c) (clk st c) (gC st i) u))), (0, .ref (q 0)), (1, .ref (q (30 + c))), (2, .int (J g)), (5, .int (J i))]) X dX5_passMinute_39 rfl (by decide) rfl ?_
        refine sw_iinc (lv' := [(5, .int (J (i + 1))), (3, .int (J (if u < fF (aC st c) (clk st c) (gC st i) u then fF (aC st c) (clk st c) (gC st i) u else u))), (4, .int (J (fF (aC st c) (clk st c) (gC st i) u))), (0, .ref (q 0)), (1, .ref (q (30 + c))), (2, .int (J g))]) X dX5_passMinute_40 5 rfl (by decide) rfl ?_
        refine sw_goto (tgt := 8) X dX5_passMinute_43 (by decide) ?_
        refine sw_sub [3, 4, 5, 1, 2, 0] rfl ?_
        exact ih1 (n + 1) (if u < fF (aC st c) (clk st c) (gC st i) u then fF (aC st c) (clk st c) (gC st i) u else u) (fF (aC st c) (clk st c) (gC st i) u) (i + 1) (by omega) (by omega) (by omega) (by have := (pasL_b hI (c := c) (by omega) (n + 1)).1; rw [pa_nx hi hl hu.1 (by omega)]; exact this) (pa_nx hi hl hu.1 (by omega)) (pas_f hi hl)
  refine sw_sub [3, 4, 5, 2, 1, 0] rfl ?_
  exact lp2 (g + 1 - 0).toNat.succ 0 0 (-1) 0 (by omega) (by simp) (by omega) (by omega) (rfl) (rfl)
abbrev rm_X5_pointsOf : Room := { frames := 3, cells := 0, slots := 0, locals := 72 }
set_option maxHeartbeats 4000000 in
set_option maxRecDepth 100000 in
theorem c_X5_pointsOf (l : Launch) (D : va_G) (k : Nat → ClassId) (N : Int) (st : ST) (q : Int → Nat) (L : List Nat) (M : MM) (c : Int) (hI : I6 N st) (hC : CW st q L M) (hc : 0 ≤ c ∧ c < st 9 0) (hN : N ≤ 100000) : CI l yX5_pointsOf cX5_pointsOf 7 (some .int) rm_X5_pointsOf D k [.ref (q 0), .ref (q (30 + c))] (pW k L M) (fun z w' => w' = pW k L M ∧ z = pts st c) := by
  refine CI.of (by decide +kernel) (Nat.le_of_ble_eq_true rfl) (fun pᵢ eᵢ sᵢ mᵢ argsᵢ belowᵢ methᵢ cᵢ Aᵢ Qᵢ X RI => ?_)
  show SW pᵢ l eᵢ rm_X5_pointsOf sᵢ mᵢ argsᵢ belowᵢ methᵢ cᵢ 7 D Aᵢ 0 0 Qᵢ (pW k L M) 0 [(0, .ref (q 0)), (1, .ref (q (30 + c)))] []
  have hC2 := hC
  obtain ⟨⟨⟨o0, o1, o2, o3, o4⟩, ⟨n1, n2, n3, n4⟩, ⟨r51, r52, r55, r57, r59⟩, v50, v53, v54, v56, v58⟩, hBk, hCa, hGa, hPa⟩ := hC2
  have i1 := I_st hI
  have i2 := I_en hI
  have i5 := I_ga hI
  have i8 := I_cu hI
  have i9 := I_ca hI
  have i17 := I_pa hI
  obtain ⟨hWc, ⟨cO, cR⟩, c0, c1, c2, c3, ⟨dO, dN⟩, dV⟩ := hCa c (by omega) (by omega)
  have hWc2 := hWc
  obtain ⟨⟨⟨wL, wG, wK⟩, w40⟩, w41, w42, w43, w44, ⟨⟨aL, aG, aK⟩, aN⟩, hp⟩ := hWc2
  have k44 := w44.trans (clk_v (st := st) (c := c) (by omega))
  have k42 := w42.trans (cel_v hI (c := c) (by omega))
  have hk9 := clk_b hI (c := c) (by omega) (by omega)
  have hct := I_c hI c (by omega) (by omega)
  have hsb := fun (n : Nat) hn => pts_b hI (c := c) (by omega) n hn
  refine sw_bipush X dX5_pointsOf_0 (by decide +kernel) ?_
  refine sw_aload_n X dX5_pointsOf_2 rfl 1 rfl ?_
  refine px_getN (n := "") (d := "") (v := .int (J (st 15 c))) X iw_X0 cO.1 (by decide) cO.2.2 rfl 3 (by decide) (List.mem_of_getElem? (i := 16) rfl) rfl (congrArg (fun z => some (Value.int (J z))) c3) dX5_pointsOf_3 ?_
  refine sw_imul X dX5_pointsOf_6 ?_
  refine sw_istore_n (lv' := [(2, .int (J (10 * (st 15 c)))), (0, .ref (q 0)), (1, .ref (q (30 + c)))]) X dX5_pointsOf_7 rfl (by decide) rfl ?_
  refine sw_iconst X dX5_pointsOf_8 ?_
  refine sw_istore_n (lv' := [(3, .int (J 0)), (2, .int (J (10 * (st 15 c)))), (0, .ref (q 0)), (1, .ref (q (30 + c)))]) X dX5_pointsOf_9 rfl (by decide) rfl ?_
  refine sw_iconst X dX5_pointsOf_10 ?_
  refine sw_istore (lv' := [(4, .int (J 0)), (3, .int (J 0)), (2, .int (J (10 * (st 15 c)))), (0, .ref (q 0)), (1, .ref (q (30 + c)))]) X dX5_pointsOf_11 (by decide) rfl ?_
  have lp2 : ∀ (n3 : Nat) (n : Nat) (sm u i : Int), st 5 0 + 1 - i < (n3 : Nat) → (i = (n : Int)) → ((n : Int) ≤ st 5 0 ∧ (n : Int) ≤ st 8 0) → (0 ≤ u ∧ u ≤ clk st c) → (u = (pasL st c n).1) → (sm = 10 * st 15 c + sM (fun g => pG st c (g : Int)) n) → SW pᵢ l eᵢ rm_X5_pointsOf sᵢ mᵢ argsᵢ belowᵢ methᵢ cᵢ 7 D Aᵢ 0 0 Qᵢ (pW k L M) 13 [(0, .ref (q 0)), (1, .ref (q (30 + c))), (2, .int (J sm)), (3, .int (J u)), (4, .int (J i))] [] := by
    intro n3
    induction n3 with
    | zero => intro n sm u i hm4 hi hn hu hl hs; exact absurd hm4 (by omega)
    | succ n3 ih1 =>
      intro n sm u i hm4 hi hn hu hl hs
      have hsb2 := hsb n (by omega)
      refine sw_iload X dX5_pointsOf_13 4 rfl ?_
      refine sw_aload_n X dX5_pointsOf_15 rfl 0 rfl ?_
      refine px_get (v := .int (J (st 5 0))) X iw_X5 o0.1 (by decide) o0.2.2 rfl 3 (by decide) gw1_60 rfl (congrArg (fun z => some (Value.int (J z))) v53) dX5_pointsOf_16 ?_
      refine sw_icmp_ge (tgt := 83) X (by omega) (by omega) dX5_pointsOf_19 (by decide) (fun h5 => ?_) (fun h5 => ?_)
      · refine sw_iload_n X dX5_pointsOf_83 rfl 2 rfl ?_
        exact RI _ _ _ _ _ _ dX5_pointsOf_84 (Nat.le_of_ble_eq_true rfl) (Nat.le_of_ble_eq_true rfl) rfl ⟨rfl, by rw [hs, nG_e hn.1 hn.2 (by omega)]; rfl⟩
      · refine sw_iload X dX5_pointsOf_22 4 rfl ?_
        refine sw_aload_n X dX5_pointsOf_24 rfl 0 rfl ?_
        refine px_get (v := .int (J (st 8 0))) X iw_X5 o0.1 (by decide) o0.2.2 rfl 4 (by decide) gw1_61 rfl (congrArg (fun z => some (Value.int (J z))) v54) dX5_pointsOf_25 ?_
        refine sw_icmp_ge (tgt := 83) X (by omega) (by omega) dX5_pointsOf_28 (by decide) (fun h6 => ?_) (fun h6 => ?_)
        · refine sw_iload_n X dX5_pointsOf_83 rfl 2 rfl ?_
          exact RI _ _ _ _ _ _ dX5_pointsOf_84 (Nat.le_of_ble_eq_true rfl) (Nat.le_of_ble_eq_true rfl) rfl ⟨rfl, by rw [hs, nG_e hn.1 hn.2 (by omega)]; rfl⟩
        · refine sw_aload_n X dX5_pointsOf_31 rfl 0 rfl ?_
          refine sw_iload X dX5_pointsOf_32 4 rfl ?_
          refine px_callVQ (C := RX5) (As := [.int (J i)]) (rest := []) X (c_X5_gateAt_n l D k N st q (L) (M) i hI hC (by omega)) (cwV 1 (sw_ts X) (sw_goodV gw2_67 gw2_69 gws_4 gw1_1 gw2_70) rfl rfl rfl (by decide +kernel) ⟨Nat.le_of_ble_eq_true rfl, Nat.le_of_ble_eq_true rfl⟩) ⟨o0.1, o0.2.2⟩ (by decide) rfl rfl dX5_pointsOf_34 rfl rfl (Nat.le_of_ble_eq_true rfl) ⟨Nat.le_of_ble_eq_true rfl, Nat.le_of_ble_eq_true rfl⟩ (fun z7 w9 hp8 => ?_)
          obtain ⟨rfl, rfl⟩ := hp8
          obtain ⟨⟨gO, gR⟩, g10, g11, g12⟩ := hGa i (by omega) (by omega)
          have gb1 := gC_b hI (g := i) (by omega)
          have gb2 := gD_b hI (g := i) (by omega)
          have gb3 := I_g hI i (by omega) (by omega)
          refine sw_astore (lv' := [(5, .ref (q (50 + i))), (0, .ref (q 0)), (1, .ref (q (30 + c))), (2, .int (J sm)), (3, .int (J u)), (4, .int (J i))]) X dX5_pointsOf_37 (by decide) rfl ?_
          refine sw_aload_n X dX5_pointsOf_39 rfl 2 rfl ?_
          refine px_getN (n := "") (d := "") (v := .ref (q (10 + c))) X iw_X0 cO.1 (by decide) cO.2.2 rfl 0 (by decide) (List.mem_of_getElem? (i := 14) rfl) rfl (congrArg some (rf_of c0)) dX5_pointsOf_40 ?_
          refine sw_aload X dX5_pointsOf_43 0 rfl ?_
          refine px_getN (n := "") (d := "") (v := .int (J (gC st i))) X iw_X1 gO.1 (by decide) gO.2.2 rfl 1 (by decide) (List.mem_of_getElem? (i := 12) rfl) rfl (congrArg (fun z => some (Value.int (J z))) g11) dX5_pointsOf_45 ?_
          refine sw_iload_n X dX5_pointsOf_48 rfl 4 rfl ?_
          refine px_callVI (C := RX4) (As := [.int (J (gC st i)), .int (J u)]) (rest := []) X (c_X4_firstMinuteIn l D k N st q L M c (gC st i) u hI (by omega) hWc (by omega) (by omega)) (cwV 2 (sw_ts X) (sw_goodV gw3_25 gw3_26 gw3_27 gw1_2 gw3_28) rfl rfl rfl (by decide +kernel) ⟨Nat.le_of_ble_eq_true rfl, Nat.le_of_ble_eq_true rfl⟩) ⟨wL, wK⟩ (by decide) rfl rfl dX5_pointsOf_49 rfl rfl (Nat.le_of_ble_eq_true rfl) ⟨Nat.le_of_ble_eq_true rfl, Nat.le_of_ble_eq_true rfl⟩ (fun z9 w9 hp10 => ?_)
          obtain ⟨rfl, rfl⟩ := hp10
          have hr8 := isF_rng (fF_is (aC st c) (e := clk st c) (v := gC st i) (a := u))
          refine sw_istore (lv' := [(6, .int (J (fF (aC st c) (clk st c) (gC st i) u))), (5, .ref (q (50 + i))), (0, .ref (q 0)), (1, .ref (q (30 + c))), (2, .int (J sm)), (3, .int (J u)), (4, .int (J i))]) X dX5_pointsOf_52 (by decide) rfl ?_
          refine sw_iload_n X dX5_pointsOf_54 rfl 5 rfl ?_
          refine sw_iload X dX5_pointsOf_55 0 rfl ?_
          refine sw_max X (by omega) (by omega) gw3_43 gw3_36 gw1_15 gw3_37 (Nat.le_of_ble_eq_true rfl) (Nat.le_of_ble_eq_true rfl) ⟨Nat.le_of_ble_eq_true rfl, Nat.le_of_ble_eq_true rfl⟩ dX5_pointsOf_57 ?_
          refine sw_istore_n (lv' := [(3, .int (J (if u < fF (aC st c) (clk st c) (gC st i) u then fF (aC st c) (clk st c) (gC st i) u else u))), (6, .int (J (fF (aC st c) (clk st c) (gC st i) u))), (5, .ref (q (50 + i))), (0, .ref (q 0)), (1, .ref (q (30 + c))), (2, .int (J sm)), (4, .int (J i))]) X dX5_pointsOf_60 rfl (by decide) rfl ?_
          refine sw_iload_n X dX5_pointsOf_61 rfl 5 rfl ?_
          refine sw_aload X dX5_pointsOf_62 2 rfl ?_
          refine sw_aload_n X dX5_pointsOf_64 rfl 4 rfl ?_
          refine sw_iload X dX5_pointsOf_65 6 rfl ?_
          refine sw_iload X dX5_pointsOf_67 1 rfl ?_
          refine px_callVI (C := RX0) (As := [.int (J i), .int (J (fF (aC st c) (clk st c) (gC st i) u))]) (rest := [.ref (q (50 + i)), .int (J sm)]) X (c_X0_timeAt l D k L M (q (30 + c)) (q (40 + c)) i (fF (aC st c) (clk st c) (gC st i) u) ⟨cO.1, cO.2.2⟩ c1 ⟨dO.1, dO.2.2⟩ dN (by omega) (by rw [dV i (by omega) (by omega)]; exact I_r hI c i (by omega) (by omega) (by omega) (by omega))) (cwV 2 (sw_ts X) (sw_goodV gw3_44 gw3_45 gw3_46 gw1_12 gw3_47) rfl rfl rfl (by decide +kernel) ⟨Nat.le_of_ble_eq_true rfl, Nat.le_of_ble_eq_true rfl⟩) ⟨cO.1, cO.2.2⟩ (by decide) rfl rfl dX5_pointsOf_69 rfl rfl (Nat.le_of_ble_eq_true rfl) ⟨Nat.le_of_ble_eq_true rfl, Nat.le_of_ble_eq_true rfl⟩ (fun z11 w9 hp12 => ?_)
          obtain ⟨rfl, hp12⟩ := hp12
          rw [dV i (by omega) (by omega)] at hp12
          have ht8 := pt_tim hi hl hp12
          have hb8 := tim_b hI (c := c) (g := i) (by omega) (by omega)
          refine px_callVI (C := RX1) (As := [.int (J z11)]) (rest := [.int (J sm)]) X (c_X1_pointsFor l D k L M (q (50 + i)) z11 ⟨gO.1, gO.2.2⟩ (by omega) (by rw [g12]; omega)) (cwV 1 (sw_ts X) (sw_goodV gw3_159 gw3_160 gw3_161 gw1_11 gw3_162) rfl rfl rfl (by decide +kernel) ⟨Nat.le_of_ble_eq_true rfl, Nat.le_of_ble_eq_true rfl⟩) ⟨gO.1, gO.2.2⟩ (by decide) rfl rfl dX5_pointsOf_72 rfl rfl (Nat.le_of_ble_eq_true rfl) ⟨Nat.le_of_ble_eq_true rfl, Nat.le_of_ble_eq_true rfl⟩ (fun z13 w9 hp14 => ?_)
          obtain ⟨rfl, hp14⟩ := hp14
          rw [g12, gt_p ht8] at hp14
          have hb7 := pG_b hI (c := c) (g := i) (by omega) (by omega)
          subst hp14
          refine sw_iadd X dX5_pointsOf_75 ?_
          refine sw_istore_n (lv' := [(2, .int (J (sm + (pG st c i)))), (3, .int (J (if u < fF (aC st c) (clk st c) (gC st i) u then fF (aC st c) (clk st c) (gC st i) u else u))), (6, .int (J (fF (aC st c) (clk st c) (gC st i) u))), (5, .ref (q (50 + i))), (0, .ref (q 0)), (1, .ref (q (30 + c))), (4, .int (J i))]) X dX5_pointsOf_76 rfl (by decide) rfl ?_
          refine sw_iinc (lv' := [(4, .int (J (i + 1))), (2, .int (J (sm + (pG st c i)))), (3, .int (J (if u < fF (aC st c) (clk st c) (gC st i) u then fF (aC st c) (clk st c) (gC st i) u else u))), (6, .int (J (fF (aC st c) (clk st c) (gC st i) u))), (5, .ref (q (50 + i))), (0, .ref (q 0)), (1, .ref (q (30 + c)))]) X dX5_pointsOf_77 6 rfl (by decide) rfl ?_
          refine sw_goto (tgt := 13) X dX5_pointsOf_80 (by decide) ?_
          refine sw_sub [5, 6, 1, 2, 0] rfl ?_
          exact ih1 (n + 1) (sm + (pG st c i)) (if u < fF (aC st c) (clk st c) (gC st i) u then fF (aC st c) (clk st c) (gC st i) u else u) (i + 1) (by omega) (by omega) (by omega) (by have := (pasL_b hI (c := c) (by omega) (n + 1)).1; rw [pa_nx hi hl hu.1 (by omega)]; exact this) (pa_nx hi hl hu.1 (by omega)) (by rw [sM_s, hs, hi]; omega)
  refine sw_sub [3, 4, 2, 1, 0] rfl ?_
  exact lp2 (st 5 0 + 1 - 0).toNat.succ 0 (10 * (st 15 c)) 0 0 (by omega) (by simp) (by omega) (by omega) (rfl) (by simp [sM])
abbrev rm_X5_placeOf : Room := { frames := 0, cells := 0, slots := 0, locals := 0 }
set_option maxHeartbeats 4000000 in
set_option maxRecDepth 100000 in
theorem c_X5_placeOf (l : Launch) (D : va_G) (k : Nat → ClassId) (N : Int) (st : ST) (q : Int → Nat) (L : List Nat) (M : MM) (a : Int) (hI : I6 N st) (hC : CW st q L M) (ha : 0 ≤ a ∧ a < st 9 0) (hN : N ≤ 100000) (hT : ∀ i : Int, 0 ≤ i → i < st 9 0 → M 92 (q 4) i = pts st i) : CI l yX5_placeOf cX5_placeOf 4 (some .int) rm_X5_placeOf D k [.ref (q 0), .int (J a)] (pW k L M) (fun z w' => w' = pW k L M ∧ z = rk (pts st) a (st 9 0).toNat) := by
  refine CI.of (by decide +kernel) (Nat.le_of_ble_eq_true rfl) (fun pᵢ eᵢ sᵢ mᵢ argsᵢ belowᵢ methᵢ cᵢ Aᵢ Qᵢ X RI => ?_)
  show SW pᵢ l eᵢ rm_X5_placeOf sᵢ mᵢ argsᵢ belowᵢ methᵢ cᵢ 4 D Aᵢ 0 0 Qᵢ (pW k L M) 0 [(0, .ref (q 0)), (1, .int (J a))] []
  have hC2 := hC
  obtain ⟨⟨⟨o0, o1, o2, o3, o4⟩, ⟨n1, n2, n3, n4⟩, ⟨r51, r52, r55, r57, r59⟩, v50, v53, v54, v56, v58⟩, hBk, hCa, hGa, hPa⟩ := hC2
  have i1 := I_st hI
  have i2 := I_en hI
  have i5 := I_ga hI
  have i8 := I_cu hI
  have i9 := I_ca hI
  have i17 := I_pa hI
  have hpa := pts_bb hI (c := a) (by omega)
  refine sw_iconst X dX5_placeOf_0 ?_
  refine sw_istore_n (lv' := [(2, .int (J 0)), (0, .ref (q 0)), (1, .int (J a))]) X dX5_placeOf_1 rfl (by decide) rfl ?_
  refine sw_iconst X dX5_placeOf_2 ?_
  refine sw_istore_n (lv' := [(3, .int (J 0)), (2, .int (J 0)), (0, .ref (q 0)), (1, .int (J a))]) X dX5_placeOf_3 rfl (by decide) rfl ?_
  have lp2 : ∀ (n3 : Nat) (n : Nat) (u i : Int), st 9 0 - i < (n3 : Nat) → (i = (n : Int)) → ((n : Int) ≤ st 9 0) → (0 ≤ u ∧ u ≤ n) → (u = rk (pts st) a n) → SW pᵢ l eᵢ rm_X5_placeOf sᵢ mᵢ argsᵢ belowᵢ methᵢ cᵢ 4 D Aᵢ 0 0 Qᵢ (pW k L M) 4 [(0, .ref (q 0)), (1, .int (J a)), (2, .int (J u)), (3, .int (J i))] [] := by
    intro n3
    induction n3 with
    | zero => intro n u i hm4 hi hn hu hs; exact absurd hm4 (by omega)
    | succ n3 ih1 =>
      intro n u i hm4 hi hn hu hs
      refine sw_iload_n X dX5_placeOf_4 rfl 3 rfl ?_
      refine sw_aload_n X dX5_placeOf_5 rfl 0 rfl ?_
      refine px_get (v := .int (J (st 9 0))) X iw_X5 o0.1 (by decide) o0.2.2 rfl 6 (by decide) gw1_63 rfl (congrArg (fun z => some (Value.int (J z))) v56) dX5_placeOf_6 ?_
      refine sw_icmp_ge (tgt := 56) X (by omega) (by omega) dX5_placeOf_9 (by decide) (fun h5 => ?_) (fun h5 => ?_)
      · refine sw_iload_n X dX5_placeOf_56 rfl 2 rfl ?_
        exact RI _ _ _ _ _ _ dX5_placeOf_57 (Nat.le_of_ble_eq_true rfl) (Nat.le_of_ble_eq_true rfl) rfl ⟨rfl, by rw [hs, show n = (st 9 0).toNat by omega]⟩
      · have hpi := pts_bb hI (c := i) (by omega)
        refine sw_aload_n X dX5_placeOf_12 rfl 0 rfl ?_
        refine px_get (v := .ref (q 4)) X iw_X5 o0.1 (by decide) o0.2.2 rfl 9 (by decide) gw1_66 rfl (congrArg some (rf_of r59)) dX5_placeOf_13 ?_
        refine sw_iload_n X dX5_placeOf_16 rfl 3 rfl ?_
        refine px_iald X o4.1 o4.2.2 n4 (by omega) (by omega) (by omega) dX5_placeOf_17 ?_
        rw [show M 92 (q 4) i = pts st i from hT i (by omega) (by omega)]
        refine sw_aload_n X dX5_placeOf_18 rfl 0 rfl ?_
        refine px_get (v := .ref (q 4)) X iw_X5 o0.1 (by decide) o0.2.2 rfl 9 (by decide) gw1_66 rfl (congrArg some (rf_of r59)) dX5_placeOf_19 ?_
        refine sw_iload_n X dX5_placeOf_22 rfl 1 rfl ?_
        refine px_iald X o4.1 o4.2.2 n4 (by omega) (by omega) (by omega) dX5_placeOf_23 ?_
        rw [show M 92 (q 4) a = pts st a from hT a (by omega) (by omega)]
        refine sw_icmp_lt (tgt := 47) X (by omega) (by omega) dX5_placeOf_24 (by decide) (fun h6 => ?_) (fun h6 => ?_)
        · refine sw_iinc (lv' := [(2, .int (J (u + 1))), (0, .ref (q 0)), (1, .int (J a)), (3, .int (J i))]) X dX5_placeOf_47 2 rfl (by decide) rfl ?_
          refine sw_iinc (lv' := [(3, .int (J (i + 1))), (2, .int (J (u + 1))), (0, .ref (q 0)), (1, .int (J a))]) X dX5_placeOf_50 3 rfl (by decide) rfl ?_
          refine sw_goto (tgt := 4) X dX5_placeOf_53 (by decide) ?_
          refine sw_sub [2, 3, 1, 0] rfl ?_
          exact ih1 (n + 1) (u + 1) (i + 1) (by omega) (by omega) (by omega) (by omega) (by rw [rk_s, hs, ← hi]; unfold rk1; rw [if_pos (by omega)])
        · refine sw_aload_n X dX5_placeOf_27 rfl 0 rfl ?_
          refine px_get (v := .ref (q 4)) X iw_X5 o0.1 (by decide) o0.2.2 rfl 9 (by decide) gw1_66 rfl (congrArg some (rf_of r59)) dX5_placeOf_28 ?_
          refine sw_iload_n X dX5_placeOf_31 rfl 3 rfl ?_
          refine px_iald X o4.1 o4.2.2 n4 (by omega) (by omega) (by omega) dX5_placeOf_32 ?_
          rw [show M 92 (q 4) i = pts st i from hT i (by omega) (by omega)]
          refine sw_aload_n X dX5_placeOf_33 rfl 0 rfl ?_
          refine px_get (v := .ref (q 4)) X iw_X5 o0.1 (by decide) o0.2.2 rfl 9 (by decide) gw1_66 rfl (congrArg some (rf_of r59)) dX5_placeOf_34 ?_
          refine sw_iload_n X dX5_placeOf_37 rfl 1 rfl ?_
          refine px_iald X o4.1 o4.2.2 n4 (by omega) (by omega) (by omega) dX5_placeOf_38 ?_
          rw [show M 92 (q 4) a = pts st a from hT a (by omega) (by omega)]
          refine sw_icmp_ne (tgt := 50) X (by omega) (by omega) dX5_placeOf_39 (by decide) (fun h7 => ?_) (fun h7 => ?_)
          · refine sw_iinc (lv' := [(3, .int (J (i + 1))), (0, .ref (q 0)), (1, .int (J a)), (2, .int (J u))]) X dX5_placeOf_50 3 rfl (by decide) rfl ?_
            refine sw_goto (tgt := 4) X dX5_placeOf_53 (by decide) ?_
            refine sw_sub [1, 2, 3, 0] rfl ?_
            exact ih1 (n + 1) u (i + 1) (by omega) (by omega) (by omega) (by omega) (by rw [rk_s, hs, ← hi]; unfold rk1; rw [if_neg (by omega)]; omega)
          · refine sw_iload_n X dX5_placeOf_42 rfl 3 rfl ?_
            refine sw_iload_n X dX5_placeOf_43 rfl 1 rfl ?_
            refine sw_icmp_ge (tgt := 50) X (by omega) (by omega) dX5_placeOf_44 (by decide) (fun h8 => ?_) (fun h8 => ?_)
            · refine sw_iinc (lv' := [(3, .int (J (i + 1))), (0, .ref (q 0)), (1, .int (J a)), (2, .int (J u))]) X dX5_placeOf_50 3 rfl (by decide) rfl ?_
              refine sw_goto (tgt := 4) X dX5_placeOf_53 (by decide) ?_
              refine sw_sub [1, 2, 3, 0] rfl ?_
              exact ih1 (n + 1) u (i + 1) (by omega) (by omega) (by omega) (by omega) (by rw [rk_s, hs, ← hi]; unfold rk1; rw [if_neg (by omega)]; omega)
            · refine sw_iinc (lv' := [(2, .int (J (u + 1))), (0, .ref (q 0)), (1, .int (J a)), (3, .int (J i))]) X dX5_placeOf_47 2 rfl (by decide) rfl ?_
              refine sw_iinc (lv' := [(3, .int (J (i + 1))), (2, .int (J (u + 1))), (0, .ref (q 0)), (1, .int (J a))]) X dX5_placeOf_50 3 rfl (by decide) rfl ?_
              refine sw_goto (tgt := 4) X dX5_placeOf_53 (by decide) ?_
              refine sw_sub [2, 3, 1, 0] rfl ?_
              exact ih1 (n + 1) (u + 1) (i + 1) (by omega) (by omega) (by omega) (by omega) (by rw [rk_s, hs, ← hi]; unfold rk1; rw [if_pos (by omega)])
  refine sw_sub [2, 3, 1, 0] rfl ?_
  exact lp2 (st 9 0 - 0).toNat.succ 0 0 0 (by omega) (by simp) (by omega) (by omega) (rfl)
