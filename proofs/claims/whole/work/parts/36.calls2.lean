/-! the other calls that change the object -/
theorem lge {st : ST} {z : Int} (h : z = if st 5 0 = 0 then -1 else st 6 (st 5 0 - 1)) : (st 5 0 = 0 ∧ z = -1) ∨ (st 5 0 ≠ 0 ∧ z = st 6 (st 5 0 - 1)) := by
  rw [h]
  split <;> omega
theorem lgb {N : Int} {st : ST} (hI : I6 N st) : st 5 0 = 0 ∨ (0 ≤ st 6 (st 5 0 - 1) ∧ st 6 (st 5 0 - 1) ≤ 30) := by
  have h1 := I_ga hI
  have h2 := I_en hI
  rcases Int.lt_or_le 0 (st 5 0) with h | h
  · have := (I_g hI (st 5 0 - 1) (by omega) (by omega)).1
    omega
  · omega
theorem pcA_n {M : MM} {A p : Nat} {x y : Int} (h : A ≠ p) : pcA (alM M p x y) A (alM M p x y 31 A 0) = pcA M A (M 31 A 0) := by
  unfold pcA
  rw [alM_o _ _ _ _ _ h, alM_o _ _ _ _ _ h, alM_o _ _ _ _ _ h, alM_o _ _ _ _ _ h]
theorem ag_c {st : ST} {M : MM} {A : Nat} {a : Int} (ha : 0 ≤ a) (b31 : M 31 A 0 = vD st (-1) a.toNat) (b32 : M 32 A 0 = clO (vP st (-1) a.toNat)) (b33 : M 33 A 0 = (vP st (-1) a.toNat).2.2) (b35 : M 35 A 0 = vK st (-1) a.toNat) : pcA M A (M 31 A 0) = clO (bP st (a.toNat + 1)) := by
  have hh : 0 ≤ (vP st (-1) a.toNat).2.2 ∧ (vP st (-1) a.toNat).2.2 ≤ 3 := bP_h st a.toNat
  rw [pcA_v b31 b32 b33 b35 hh, if_neg (show ¬ vK st (-1) a.toNat = 0 by show ¬ (1 : Int) = 0; decide), bP_s]
  unfold clO
  show 16 * (bP st a.toNat).1 + (bP st a.toNat).2.1 + (16 * dx (bP st a.toNat).2.2 (st 3 (a.toNat : Int)) + dy (bP st a.toNat).2.2 (st 3 (a.toNat : Int))) = 16 * ((bP st a.toNat).1 + dx (bP st a.toNat).2.2 (st 3 (a.toNat : Int))) + ((bP st a.toNat).2.1 + dy (bP st a.toNat).2.2 (st 3 (a.toNat : Int)))
  omega
abbrev rm_X5_addGate : Room := { frames := 7, cells := 4, slots := 21, locals := 104 }
set_option maxHeartbeats 4000000 in
set_option maxRecDepth 100000 in
theorem c_X5_addGate (l : Launch) (hfl : l.stackTraces = false) (D : va_G) (k : Nat → ClassId) (N : Int) (st : ST) (q : Int → Nat) (L : List Nat) (M : MM) (a b : Int) (hI : I6 N st) (hC : CW st q L M) (h_a : (-2147483648 ≤ a ∧ a < 2147483648)) (h_b : (-2147483648 ≤ b ∧ b < 2147483648)) : XI l yX5_addGate cX5_addGate 5 (some .int) rm_X5_addGate D k [.ref (q 0), .int (J a), .int (J b)] (pW k L M) (xP k q (sAddGate st a b) (kAddGate st a b) (st 5 0)) (fun E w' => w' = pW k L M ∧ ((E = "java/lang/IndexOutOfBoundsException" ∧ kAddGate st a b = 1) ∨ (E = "java/lang/IllegalArgumentException" ∧ kAddGate st a b = 2) ∨ (E = "java/lang/IllegalStateException" ∧ kAddGate st a b = 3))) := by
  refine XI.of hfl (by decide +kernel) rfl (Nat.le_of_ble_eq_true rfl) (fun pᵢ eᵢ sᵢ mᵢ argsᵢ belowᵢ methᵢ cᵢ Aᵢ Qᵢ X RI XO_ XT_ => ?_)
  show SW pᵢ l eᵢ rm_X5_addGate sᵢ mᵢ argsᵢ belowᵢ methᵢ cᵢ 5 D Aᵢ 0 0 Qᵢ (pW k L M) 0 [(0, .ref (q 0)), (1, .int (J a)), (2, .int (J b))] []
  have hC2 := hC
  obtain ⟨⟨⟨o0, o1, o2, o3, o4⟩, ⟨n1, n2, n3, n4⟩, ⟨r51, r52, r55, r57, r59⟩, v50, v53, v54, v56, v58⟩, hBk, hCa, hGa, hPa⟩ := hC2
  have i1 := I_st hI
  have i2 := I_en hI
  have i5 := I_ga hI
  have i8 := I_cu hI
  have i9 := I_ca hI
  have i17 := I_pa hI
  obtain ⟨⟨⟨zL, zG, zK⟩, z40⟩, z41, z42, z43, z44, ⟨⟨yL, yG, yK⟩, yN⟩, hpB⟩ := hBk
  have z41 : M 41 (q (10 + -1)) 0 = st 2 0 := z41
  have bLB : vL (-1) = 30 := rfl
  have bNB : vN st (-1) = st 2 0 := rfl
  refine sw_aload_n X dX5_addGate_0 rfl 0 rfl ?_
  refine sw_iload_n X dX5_addGate_1 rfl 1 rfl ?_
  refine px_xVQ (C := RX5) (As := [.int (J a)]) (rest := []) X (c_X5_entryAt l hfl D k N st q (L) (M) a hI hC (by omega)) (cwV 1 (sw_ts X) (sw_goodV gw2_39 gw2_41 gws_2 gw1_1 gw2_42) rfl rfl rfl (by decide +kernel) ⟨Nat.le_of_ble_eq_true rfl, Nat.le_of_ble_eq_true rfl⟩) ⟨o0.1, o0.2.2⟩ (by decide) rfl rfl dX5_addGate_2 rfl rfl (Nat.le_of_ble_eq_true rfl) ⟨Nat.le_of_ble_eq_true rfl, Nat.le_of_ble_eq_true rfl⟩ (fun E9 w9 hx => XO_ _ _ _ _ _ _ _ (Nat.le_of_ble_eq_true rfl) (Nat.le_of_ble_eq_true rfl) (by obtain ⟨rfl, rfl, hx⟩ := hx; exact ⟨rfl, Or.inl ⟨rfl, by unfold kAddGate; split <;> (try split) <;> (try split) <;> omega⟩⟩)) (fun z1 w9 hp2 => ?_)
  obtain ⟨rfl, hrz1, rfl⟩ := hp2
  obtain ⟨⟨bL, bG, bK⟩, b30, b31, b32, b33, b34, b35⟩ := cPc_at hpB (i := a) (n := a.toNat) (by omega) (by omega)
  obtain ⟨hh8, hd8, hc8, hb8, ht8⟩ := pc_rng hI (Or.inl rfl) (n := a.toNat) (by omega) b30 b31 b32 b33 b34 b35
  refine sw_astore_n (lv' := [(3, .ref (q (160 + 60 * -1 + a))), (0, .ref (q 0)), (1, .int (J a)), (2, .int (J b))]) X dX5_addGate_5 rfl (by decide) rfl ?_
  refine sw_iload_n X dX5_addGate_6 rfl 3 rfl ?_
  refine sw_iconst X dX5_addGate_7 ?_
  refine sw_bipush X dX5_addGate_8 (by decide +kernel) ?_
  refine sw_callSI0 (As := [.int (J b), .int (J 0), .int (J 100)]) (rest := []) X (c_X5_isWithin l D k (pW k L M) b 0 100 (by omega)) (va_cwS 3 (sw_ts X) (sw_goodS gw1_102 gw1_103 gw1_1 gw1_104) rfl rfl rfl (by decide +kernel) ⟨Nat.le_of_ble_eq_true rfl, Nat.le_of_ble_eq_true rfl⟩) dX5_addGate_10 rfl rfl (Nat.le_of_ble_eq_true rfl) ⟨Nat.le_of_ble_eq_true rfl, Nat.le_of_ble_eq_true rfl⟩ (fun z3 w9 hp4 => ?_)
  obtain ⟨rfl, hp4⟩ := hp4
  refine sw_if_eq (tgt := 28) X (by omega) dX5_addGate_13 (by decide) (fun h5 => ?_) (fun h5 => ?_)
  · refine sw_iconst X dX5_addGate_28 ?_
    refine sw_xSV (As := [.int (J 0)]) (rest := []) X (c_X5_checkArgument l hfl D k (pW k L M) 0 (by omega)) (va_cwS 1 (sw_ts X) (sw_goodS gw1_105 gw1_106 gw1_1 gw1_107) rfl rfl rfl (by decide +kernel) ⟨Nat.le_of_ble_eq_true rfl, Nat.le_of_ble_eq_true rfl⟩) dX5_addGate_29 rfl rfl (Nat.le_of_ble_eq_true rfl) ⟨Nat.le_of_ble_eq_true rfl, Nat.le_of_ble_eq_true rfl⟩ (fun E9 w9 hx => XO_ _ _ _ _ _ _ _ (Nat.le_of_ble_eq_true rfl) (Nat.le_of_ble_eq_true rfl) (by obtain ⟨rfl, rfl, hx⟩ := hx; exact ⟨rfl, Or.inr (Or.inl ⟨rfl, by unfold kAddGate; split <;> (try split) <;> (try split) <;> omega⟩)⟩)) (fun w9 hp7 => ?_)
    obtain ⟨rfl, hp7⟩ := hp7
    exact absurd hp7 (by decide)
  · refine sw_iload_n X dX5_addGate_16 rfl 2 rfl ?_
    refine sw_aload_n X dX5_addGate_17 rfl 1 rfl ?_
    refine px_callVI (C := RX5) (As := []) (rest := [.int (J a)]) X (c_X5_lastGateEntry l D k N st q (L) (M) hI hC) (cwV 0 (sw_ts X) (sw_goodV gw2_63 gw2_65 gws_3 gw1_1 gw2_66) rfl rfl rfl (by decide +kernel) ⟨Nat.le_of_ble_eq_true rfl, Nat.le_of_ble_eq_true rfl⟩) ⟨o0.1, o0.2.2⟩ (by decide) rfl rfl dX5_addGate_18 rfl rfl (Nat.le_of_ble_eq_true rfl) ⟨Nat.le_of_ble_eq_true rfl, Nat.le_of_ble_eq_true rfl⟩ (fun z8 w9 hp9 => ?_)
    obtain ⟨rfl, hp9⟩ := hp9
    have hlg := lge hp9
    have hlb := lgb hI
    refine sw_icmp_le (tgt := 28) X (by omega) (by omega) dX5_addGate_21 (by decide) (fun h10 => ?_) (fun h10 => ?_)
    · refine sw_iconst X dX5_addGate_28 ?_
      refine sw_xSV (As := [.int (J 0)]) (rest := []) X (c_X5_checkArgument l hfl D k (pW k L M) 0 (by omega)) (va_cwS 1 (sw_ts X) (sw_goodS gw1_105 gw1_106 gw1_1 gw1_107) rfl rfl rfl (by decide +kernel) ⟨Nat.le_of_ble_eq_true rfl, Nat.le_of_ble_eq_true rfl⟩) dX5_addGate_29 rfl rfl (Nat.le_of_ble_eq_true rfl) ⟨Nat.le_of_ble_eq_true rfl, Nat.le_of_ble_eq_true rfl⟩ (fun E9 w9 hx => XO_ _ _ _ _ _ _ _ (Nat.le_of_ble_eq_true rfl) (Nat.le_of_ble_eq_true rfl) (by obtain ⟨rfl, rfl, hx⟩ := hx; exact ⟨rfl, Or.inr (Or.inl ⟨rfl, by unfold kAddGate; split <;> (try split) <;> (try split) <;> omega⟩)⟩)) (fun w9 hp12 => ?_)
      obtain ⟨rfl, hp12⟩ := hp12
      exact absurd hp12 (by decide)
    · refine sw_iconst X dX5_addGate_24 ?_
      refine sw_goto (tgt := 29) X dX5_addGate_25 (by decide) ?_
      refine sw_xSV (As := [.int (J 1)]) (rest := []) X (c_X5_checkArgument l hfl D k (pW k L M) 1 (by omega)) (va_cwS 1 (sw_ts X) (sw_goodS gw1_105 gw1_106 gw1_1 gw1_107) rfl rfl rfl (by decide +kernel) ⟨Nat.le_of_ble_eq_true rfl, Nat.le_of_ble_eq_true rfl⟩) dX5_addGate_29 rfl rfl (Nat.le_of_ble_eq_true rfl) ⟨Nat.le_of_ble_eq_true rfl, Nat.le_of_ble_eq_true rfl⟩ (fun E9 w9 hx => XO_ _ _ _ _ _ _ _ (Nat.le_of_ble_eq_true rfl) (Nat.le_of_ble_eq_true rfl) (by obtain ⟨rfl, rfl, hx⟩ := hx; exact ⟨rfl, Or.inr (Or.inl ⟨rfl, by unfold kAddGate; split <;> (try split) <;> (try split) <;> omega⟩)⟩)) (fun w9 hp14 => ?_)
      obtain ⟨rfl, hp14⟩ := hp14
      refine sw_aload_n X dX5_addGate_32 rfl 1 rfl ?_
      refine px_get (v := .int (J (st 5 0))) X iw_X5 o0.1 (by decide) o0.2.2 rfl 3 (by decide) gw1_60 rfl (congrArg (fun z => some (Value.int (J z))) v53) dX5_addGate_33 ?_
      refine sw_bipush X dX5_addGate_36 (by decide +kernel) ?_
      refine sw_icmp_ge (tgt := 45) X (by omega) (by omega) dX5_addGate_38 (by decide) (fun h15 => ?_) (fun h15 => ?_)
      · refine sw_iconst X dX5_addGate_45 ?_
        refine sw_xSV (As := [.int (J 0)]) (rest := []) X (c_X5_checkState l hfl D k (pW k L M) 0 (by omega)) (va_cwS 1 (sw_ts X) (sw_goodS gw1_177 gw1_178 gw1_1 gw1_179) rfl rfl rfl (by decide +kernel) ⟨Nat.le_of_ble_eq_true rfl, Nat.le_of_ble_eq_true rfl⟩) dX5_addGate_46 rfl rfl (Nat.le_of_ble_eq_true rfl) ⟨Nat.le_of_ble_eq_true rfl, Nat.le_of_ble_eq_true rfl⟩ (fun E9 w9 hx => XO_ _ _ _ _ _ _ _ (Nat.le_of_ble_eq_true rfl) (Nat.le_of_ble_eq_true rfl) (by obtain ⟨rfl, rfl, hx⟩ := hx; exact ⟨rfl, Or.inr (Or.inr (⟨rfl, by unfold kAddGate; split <;> (try split) <;> (try split) <;> omega⟩))⟩)) (fun w9 hp17 => ?_)
        obtain ⟨rfl, hp17⟩ := hp17
        exact absurd hp17 (by decide)
      · refine sw_iconst X dX5_addGate_41 ?_
        refine sw_goto (tgt := 46) X dX5_addGate_42 (by decide) ?_
        refine sw_xSV (As := [.int (J 1)]) (rest := []) X (c_X5_checkState l hfl D k (pW k L M) 1 (by omega)) (va_cwS 1 (sw_ts X) (sw_goodS gw1_177 gw1_178 gw1_1 gw1_179) rfl rfl rfl (by decide +kernel) ⟨Nat.le_of_ble_eq_true rfl, Nat.le_of_ble_eq_true rfl⟩) dX5_addGate_46 rfl rfl (Nat.le_of_ble_eq_true rfl) ⟨Nat.le_of_ble_eq_true rfl, Nat.le_of_ble_eq_true rfl⟩ (fun E9 w9 hx => XO_ _ _ _ _ _ _ _ (Nat.le_of_ble_eq_true rfl) (Nat.le_of_ble_eq_true rfl) (by obtain ⟨rfl, rfl, hx⟩ := hx; exact ⟨rfl, Or.inr (Or.inr (⟨rfl, by unfold kAddGate; split <;> (try split) <;> (try split) <;> omega⟩))⟩)) (fun w9 hp19 => ?_)
        obtain ⟨rfl, hp19⟩ := hp19
        refine sw_aload_n X dX5_addGate_49 rfl 1 rfl ?_
        refine px_get (v := .int (J (st 5 0))) X iw_X5 o0.1 (by decide) o0.2.2 rfl 3 (by decide) gw1_60 rfl (congrArg (fun z => some (Value.int (J z))) v53) dX5_addGate_50 ?_
        refine sw_istore (lv' := [(4, .int (J (st 5 0))), (3, .ref (q (160 + 60 * -1 + a))), (0, .ref (q 0)), (1, .int (J a)), (2, .int (J b))]) X dX5_addGate_53 (by decide) rfl ?_
        refine sw_aload_n X dX5_addGate_55 rfl 2 rfl ?_
        refine px_get (v := .ref (q 1)) X iw_X5 o0.1 (by decide) o0.2.2 rfl 2 (by decide) gw1_59 rfl (congrArg some (rf_of r52)) dX5_addGate_56 ?_
        refine sw_iload X dX5_addGate_59 0 rfl ?_
        refine px_new (ci := 1) (N := 3) (T := TX1) (C := RX1) X iw_X1 tyX1 tyX1_ok gw1_51 gw2_72 gw1_11 rfl (by decide) dv_X1 (al_X1 _) ⟨Nat.le_of_ble_eq_true rfl, Nat.le_of_ble_eq_true rfl⟩ dX5_addGate_61 (fun q20 hq20 => ?_)
        have nA : q (160 + 60 * -1 + a) ≠ q20 := sw_ne bL hq20
        have hh7 : 0 ≤ (alM M q20 1 0) 33 (q (160 + 60 * -1 + a)) 0 ∧ (alM M q20 1 0) 33 (q (160 + 60 * -1 + a)) 0 ≤ 3 := by rw [alM_o _ _ _ _ _ nA]; exact hh8
        have hd7 : (alM M q20 1 0) 35 (q (160 + 60 * -1 + a)) 0 = 0 ∨ (alM M q20 1 0) 35 (q (160 + 60 * -1 + a)) 0 = 1 := by rw [alM_o _ _ _ _ _ nA]; exact hd8
        refine sw_dup X dX5_addGate_64 rfl ?_
        refine sw_iload_n X dX5_addGate_65 rfl 3 rfl ?_
        refine sw_aload_n X dX5_addGate_66 rfl 1 rfl ?_
        refine px_callVI (M := alM M q20 1 0) (C := RX3) (As := []) (rest := [.int (J a), .ref q20, .ref q20, .int (J (st 5 0)), .ref (q 1)]) X (c_X3_lastCell l D k (L ++ [q20]) (alM M q20 1 0) (q (160 + 60 * -1 + a)) ⟨(List.mem_append_left _ bL), ((alM_o _ _ _ _ _ (sw_ne bL hq20)).trans bK)⟩ hh7 hd7) (cwV 0 (sw_ts X) (sw_goodV gw2_73 gw2_22 gw2_23 gw1_9 gw2_24) rfl rfl rfl (by decide +kernel) ⟨Nat.le_of_ble_eq_true rfl, Nat.le_of_ble_eq_true rfl⟩) ⟨(List.mem_append_left _ bL), ((alM_o _ _ _ _ _ (sw_ne bL hq20)).trans bK)⟩ (by decide) rfl rfl dX5_addGate_67 rfl rfl (Nat.le_of_ble_eq_true rfl) ⟨Nat.le_of_ble_eq_true rfl, Nat.le_of_ble_eq_true rfl⟩ (fun z21 w9 hp22 => ?_)
        have hzz21 : z21 = clO (bP st (a.toNat + 1)) := hp22.2.trans ((pcA_n nA).trans (ag_c (by omega) b31 b32 b33 b35))
        obtain ⟨rfl, -⟩ := hp22
        subst hzz21
        refine sw_aload_n X dX5_addGate_70 rfl 1 rfl ?_
        refine px_callVI (M := alM M q20 1 0) (C := RX3) (As := []) (rest := [.int (J (clO (bP st (a.toNat + 1)))), .int (J a), .ref q20, .ref q20, .int (J (st 5 0)), .ref (q 1)]) X (c_X3_end l D k (L ++ [q20]) (alM M q20 1 0) (q (160 + 60 * -1 + a)) ⟨(List.mem_append_left _ bL), ((alM_o _ _ _ _ _ (sw_ne bL hq20)).trans bK)⟩) (cwV 0 (sw_ts X) (sw_goodV gw2_74 gw2_18 gw2_19 gw1_9 gw2_20) rfl rfl rfl (by decide +kernel) ⟨Nat.le_of_ble_eq_true rfl, Nat.le_of_ble_eq_true rfl⟩) ⟨(List.mem_append_left _ bL), ((alM_o _ _ _ _ _ (sw_ne bL hq20)).trans bK)⟩ (by decide) rfl rfl dX5_addGate_71 rfl rfl (Nat.le_of_ble_eq_true rfl) ⟨Nat.le_of_ble_eq_true rfl, Nat.le_of_ble_eq_true rfl⟩ (fun z23 w9 hp24 => ?_)
        have hzz23 : z23 = sM (fun i => st 3 (i : Int)) (a.toNat + 1) := hp24.2.trans (by rw [alM_o _ _ _ _ _ nA, alM_o _ _ _ _ _ nA, b30, b31]; exact (vM_s st (-1) a.toNat).symm)
        obtain ⟨rfl, -⟩ := hp24
        subst hzz23
        refine sw_iload_n X dX5_addGate_74 rfl 4 rfl ?_
        refine sw_iadd X dX5_addGate_75 ?_
        refine sw_callIV0 (As := [.int (J a), .int (J (clO (bP st (a.toNat + 1)))), .int (J ((sM (fun i => st 3 (i : Int)) (a.toNat + 1)) + b))]) (rest := [.ref q20, .int (J (st 5 0)), .ref (q 1)]) X (c_X1_init l D k (L ++ [q20]) (alM M q20 1 0) q20 a (clO (bP st (a.toNat + 1))) ((sM (fun i => st 3 (i : Int)) (a.toNat + 1)) + b) ⟨(List.mem_append_right _ List.mem_cons_self), (alM_n _ _ _ _ _ _)⟩) ⟨callB_of 3 (sw_ts X) (sw_goodI gw2_77) rfl rfl rfl (sw_ts X _ gw1_11) (sw_ts X _ gw2_75) (by decide +kernel) ⟨Nat.le_of_ble_eq_true rfl, Nat.le_of_ble_eq_true rfl⟩, rfl, sw_ts X _ gw2_76⟩ dX5_addGate_76 rfl rfl (Nat.le_of_ble_eq_true rfl) ⟨Nat.le_of_ble_eq_true rfl, Nat.le_of_ble_eq_true rfl⟩ (fun w9 hp26 => ?_)
        obtain rfl := hp26
        refine px_aast (M := upM (upM (upM (alM M q20 1 0) 10 q20 0 a) 11 q20 0 (clO (bP st (a.toNat + 1)))) 12 q20 0 ((sM (fun i => st 3 (i : Int)) (a.toNat + 1)) + b)) X 3 1 (by decide) rfl rfl (List.mem_append_left _ o1.1) ((alM_o _ _ _ _ _ (sw_ne o1.1 hq20)).trans o1.2.2) ((alM_o _ _ _ _ _ (sw_ne o1.1 hq20)).trans n1) (List.mem_append_right _ List.mem_cons_self) (by decide) (alM_n _ _ _ _ _ _) (by omega) (by omega) (by omega) dX5_addGate_79 ?_
        refine sw_aload_n X dX5_addGate_80 rfl 2 rfl ?_
        refine sw_dup X dX5_addGate_81 rfl ?_
        refine px_get (M := upM (upM (upM (upM (alM M q20 1 0) 10 q20 0 a) 11 q20 0 (clO (bP st (a.toNat + 1)))) 12 q20 0 ((sM (fun i => st 3 (i : Int)) (a.toNat + 1)) + b)) 93 (q 1) (st 5 0) ((q20 : Int))) (v := .int (J (st 5 0))) X iw_X5 (List.mem_append_left _ o0.1) (by decide) ((alM_o _ _ _ _ _ (sw_ne o0.1 hq20)).trans o0.2.2) rfl 3 (by decide) gw1_60 rfl (congrArg (fun z => some (Value.int (J z))) ((alM_o _ _ _ _ _ (sw_ne o0.1 hq20)).trans v53)) dX5_addGate_82 ?_
        refine sw_iconst X dX5_addGate_85 ?_
        refine sw_iadd X dX5_addGate_86 ?_
        refine px_put (M := upM (upM (upM (upM (alM M q20 1 0) 10 q20 0 a) 11 q20 0 (clO (bP st (a.toNat + 1)))) 12 q20 0 ((sM (fun i => st 3 (i : Int)) (a.toNat + 1)) + b)) 93 (q 1) (st 5 0) ((q20 : Int))) (f := 53) (z := (st 5 0) + 1) X iw_X5 tyX5 tyX5_ok nmX5 (List.mem_append_left _ o0.1) (by decide) ((alM_o _ _ _ _ _ (sw_ne o0.1 hq20)).trans o0.2.2) rfl 3 (by decide) gw1_60 rfl rfl (ty := .int) (by decide +kernel) rfl rfl (Nat.le_of_ble_eq_true rfl) (by decide) (pS53 _ _ _) dX5_addGate_87 ?_
        refine sw_iload X dX5_addGate_90 0 rfl ?_
        exact RI _ _ _ _ _ _ dX5_addGate_92 (Nat.le_of_ble_eq_true rfl) (Nat.le_of_ble_eq_true rfl) rfl ⟨by unfold kAddGate; split <;> (try split) <;> (try split) <;> omega, rfl, _, _, _, pW_80 k _ _ q20 0 _, upq_n _ _ (by omega), CW_addGate hI hC (by omega) hq20 (by omega) rfl (Int.add_comm _ _)⟩
abbrev rm_X5_bring : Room := { frames := 7, cells := 3, slots := 16, locals := 102 }
set_option maxHeartbeats 4000000 in
set_option maxRecDepth 100000 in
theorem c_X5_bring (l : Launch) (hfl : l.stackTraces = false) (D : va_G) (k : Nat → ClassId) (N : Int) (st : ST) (q : Int → Nat) (L : List Nat) (M : MM) (a b : Int) (hI : I6 N st) (hC : CW st q L M) (h_a : (-2147483648 ≤ a ∧ a < 2147483648)) (h_b : (-2147483648 ≤ b ∧ b < 2147483648)) : XI l yX5_bring cX5_bring 4 (some .int) rm_X5_bring D k [.ref (q 0), .int (J a), .int (J b)] (pW k L M) (xP k q (sBring st a b) (kBring st a b) (st 17 0)) (fun E w' => w' = pW k L M ∧ ((E = "java/lang/IndexOutOfBoundsException" ∧ kBring st a b = 1) ∨ (E = "java/lang/IllegalStateException" ∧ kBring st a b = 2))) := by
  refine XI.of hfl (by decide +kernel) rfl (Nat.le_of_ble_eq_true rfl) (fun pᵢ eᵢ sᵢ mᵢ argsᵢ belowᵢ methᵢ cᵢ Aᵢ Qᵢ X RI XO_ XT_ => ?_)
  show SW pᵢ l eᵢ rm_X5_bring sᵢ mᵢ argsᵢ belowᵢ methᵢ cᵢ 4 D Aᵢ 0 0 Qᵢ (pW k L M) 0 [(0, .ref (q 0)), (1, .int (J a)), (2, .int (J b))] []
  have hC2 := hC
  obtain ⟨⟨⟨o0, o1, o2, o3, o4⟩, ⟨n1, n2, n3, n4⟩, ⟨r51, r52, r55, r57, r59⟩, v50, v53, v54, v56, v58⟩, hBk, hCa, hGa, hPa⟩ := hC2
  have i1 := I_st hI
  have i2 := I_en hI
  have i5 := I_ga hI
  have i8 := I_cu hI
  have i9 := I_ca hI
  have i17 := I_pa hI
  refine sw_iload_n X dX5_bring_0 rfl 1 rfl ?_
  refine sw_iconst X dX5_bring_1 ?_
  refine sw_iconst X dX5_bring_2 ?_
  refine sw_callSI0 (As := [.int (J a), .int (J 0), .int (J 3)]) (rest := []) X (c_X5_isWithin l D k (pW k L M) a 0 3 (by omega)) (va_cwS 3 (sw_ts X) (sw_goodS gw1_102 gw1_103 gw1_1 gw1_104) rfl rfl rfl (by decide +kernel) ⟨Nat.le_of_ble_eq_true rfl, Nat.le_of_ble_eq_true rfl⟩) dX5_bring_3 rfl rfl (Nat.le_of_ble_eq_true rfl) ⟨Nat.le_of_ble_eq_true rfl, Nat.le_of_ble_eq_true rfl⟩ (fun z1 w9 hp2 => ?_)
  obtain ⟨rfl, hp2⟩ := hp2
  refine sw_if_eq (tgt := 21) X (by omega) dX5_bring_6 (by decide) (fun h3 => ?_) (fun h3 => ?_)
  · refine sw_iconst X dX5_bring_21 ?_
    refine sw_xSV (As := [.int (J 0)]) (rest := []) X (c_X5_checkIndex l hfl D k (pW k L M) 0 (by omega)) (va_cwS 1 (sw_ts X) (sw_goodS gw2_167 gw2_168 gw1_1 gw2_169) rfl rfl rfl (by decide +kernel) ⟨Nat.le_of_ble_eq_true rfl, Nat.le_of_ble_eq_true rfl⟩) dX5_bring_22 rfl rfl (Nat.le_of_ble_eq_true rfl) ⟨Nat.le_of_ble_eq_true rfl, Nat.le_of_ble_eq_true rfl⟩ (fun E9 w9 hx => XO_ _ _ _ _ _ _ _ (Nat.le_of_ble_eq_true rfl) (Nat.le_of_ble_eq_true rfl) (by obtain ⟨rfl, rfl, hx⟩ := hx; exact ⟨rfl, Or.inl ⟨rfl, by unfold kBring; split <;> (try split) <;> (try split) <;> omega⟩⟩)) (fun w9 hp5 => ?_)
    obtain ⟨rfl, hp5⟩ := hp5
    exact absurd hp5 (by decide)
  · refine sw_aload_n X dX5_bring_9 rfl 0 rfl ?_
    refine sw_iload_n X dX5_bring_10 rfl 2 rfl ?_
    refine px_callVI (C := RX5) (As := [.int (J b)]) (rest := []) X (c_X5_isPlace l D k N st q (L) (M) b hI hC (by omega)) (cwV 1 (sw_ts X) (sw_goodV gw2_215 gw2_217 gws_9 gw1_1 gw2_218) rfl rfl rfl (by decide +kernel) ⟨Nat.le_of_ble_eq_true rfl, Nat.le_of_ble_eq_true rfl⟩) ⟨o0.1, o0.2.2⟩ (by decide) rfl rfl dX5_bring_11 rfl rfl (Nat.le_of_ble_eq_true rfl) ⟨Nat.le_of_ble_eq_true rfl, Nat.le_of_ble_eq_true rfl⟩ (fun z6 w9 hp7 => ?_)
    obtain ⟨rfl, hp7⟩ := hp7
    refine sw_if_eq (tgt := 21) X (by omega) dX5_bring_14 (by decide) (fun h8 => ?_) (fun h8 => ?_)
    · refine sw_iconst X dX5_bring_21 ?_
      refine sw_xSV (As := [.int (J 0)]) (rest := []) X (c_X5_checkIndex l hfl D k (pW k L M) 0 (by omega)) (va_cwS 1 (sw_ts X) (sw_goodS gw2_167 gw2_168 gw1_1 gw2_169) rfl rfl rfl (by decide +kernel) ⟨Nat.le_of_ble_eq_true rfl, Nat.le_of_ble_eq_true rfl⟩) dX5_bring_22 rfl rfl (Nat.le_of_ble_eq_true rfl) ⟨Nat.le_of_ble_eq_true rfl, Nat.le_of_ble_eq_true rfl⟩ (fun E9 w9 hx => XO_ _ _ _ _ _ _ _ (Nat.le_of_ble_eq_true rfl) (Nat.le_of_ble_eq_true rfl) (by obtain ⟨rfl, rfl, hx⟩ := hx; exact ⟨rfl, Or.inl ⟨rfl, by unfold kBring; split <;> (try split) <;> (try split) <;> omega⟩⟩)) (fun w9 hp10 => ?_)
      obtain ⟨rfl, hp10⟩ := hp10
      exact absurd hp10 (by decide)
    · refine sw_iconst X dX5_bring_17 ?_
      refine sw_goto (tgt := 22) X dX5_bring_18 (by decide) ?_
      refine sw_xSV (As := [.int (J 1)]) (rest := []) X (c_X5_checkIndex l hfl D k (pW k L M) 1 (by omega)) (va_cwS 1 (sw_ts X) (sw_goodS gw2_167 gw2_168 gw1_1 gw2_169) rfl rfl rfl (by decide +kernel) ⟨Nat.le_of_ble_eq_true rfl, Nat.le_of_ble_eq_true rfl⟩) dX5_bring_22 rfl rfl (Nat.le_of_ble_eq_true rfl) ⟨Nat.le_of_ble_eq_true rfl, Nat.le_of_ble_eq_true rfl⟩ (fun E9 w9 hx => XO_ _ _ _ _ _ _ _ (Nat.le_of_ble_eq_true rfl) (Nat.le_of_ble_eq_true rfl) (by obtain ⟨rfl, rfl, hx⟩ := hx; exact ⟨rfl, Or.inl ⟨rfl, by unfold kBring; split <;> (try split) <;> (try split) <;> omega⟩⟩)) (fun w9 hp12 => ?_)
      obtain ⟨rfl, hp12⟩ := hp12
      refine sw_aload_n X dX5_bring_25 rfl 0 rfl ?_
      refine px_get (v := .int (J (st 17 0))) X iw_X5 o0.1 (by decide) o0.2.2 rfl 8 (by decide) gw1_65 rfl (congrArg (fun z => some (Value.int (J z))) v58) dX5_bring_26 ?_
      refine sw_bipush X dX5_bring_29 (by decide +kernel) ?_
      refine sw_icmp_ge (tgt := 38) X (by omega) (by omega) dX5_bring_31 (by decide) (fun h13 => ?_) (fun h13 => ?_)
      · refine sw_iconst X dX5_bring_38 ?_
        refine sw_xSV (As := [.int (J 0)]) (rest := []) X (c_X5_checkState l hfl D k (pW k L M) 0 (by omega)) (va_cwS 1 (sw_ts X) (sw_goodS gw1_177 gw1_178 gw1_1 gw1_179) rfl rfl rfl (by decide +kernel) ⟨Nat.le_of_ble_eq_true rfl, Nat.le_of_ble_eq_true rfl⟩) dX5_bring_39 rfl rfl (Nat.le_of_ble_eq_true rfl) ⟨Nat.le_of_ble_eq_true rfl, Nat.le_of_ble_eq_true rfl⟩ (fun E9 w9 hx => XO_ _ _ _ _ _ _ _ (Nat.le_of_ble_eq_true rfl) (Nat.le_of_ble_eq_true rfl) (by obtain ⟨rfl, rfl, hx⟩ := hx; exact ⟨rfl, Or.inr (⟨rfl, by unfold kBring; split <;> (try split) <;> (try split) <;> omega⟩)⟩)) (fun w9 hp15 => ?_)
        obtain ⟨rfl, hp15⟩ := hp15
        exact absurd hp15 (by decide)
      · refine sw_iconst X dX5_bring_34 ?_
        refine sw_goto (tgt := 39) X dX5_bring_35 (by decide) ?_
        refine sw_xSV (As := [.int (J 1)]) (rest := []) X (c_X5_checkState l hfl D k (pW k L M) 1 (by omega)) (va_cwS 1 (sw_ts X) (sw_goodS gw1_177 gw1_178 gw1_1 gw1_179) rfl rfl rfl (by decide +kernel) ⟨Nat.le_of_ble_eq_true rfl, Nat.le_of_ble_eq_true rfl⟩) dX5_bring_39 rfl rfl (Nat.le_of_ble_eq_true rfl) ⟨Nat.le_of_ble_eq_true rfl, Nat.le_of_ble_eq_true rfl⟩ (fun E9 w9 hx => XO_ _ _ _ _ _ _ _ (Nat.le_of_ble_eq_true rfl) (Nat.le_of_ble_eq_true rfl) (by obtain ⟨rfl, rfl, hx⟩ := hx; exact ⟨rfl, Or.inr (⟨rfl, by unfold kBring; split <;> (try split) <;> (try split) <;> omega⟩)⟩)) (fun w9 hp17 => ?_)
        obtain ⟨rfl, hp17⟩ := hp17
        refine sw_aload_n X dX5_bring_42 rfl 0 rfl ?_
        refine px_get (v := .int (J (st 17 0))) X iw_X5 o0.1 (by decide) o0.2.2 rfl 8 (by decide) gw1_65 rfl (congrArg (fun z => some (Value.int (J z))) v58) dX5_bring_43 ?_
        refine sw_istore_n (lv' := [(3, .int (J (st 17 0))), (0, .ref (q 0)), (1, .int (J a)), (2, .int (J b))]) X dX5_bring_46 rfl (by decide) rfl ?_
        refine sw_aload_n X dX5_bring_47 rfl 1 rfl ?_
        refine px_get (v := .ref (q 3)) X iw_X5 o0.1 (by decide) o0.2.2 rfl 7 (by decide) gw1_64 rfl (congrArg some (rf_of r57)) dX5_bring_48 ?_
        refine sw_iload_n X dX5_bring_51 rfl 0 rfl ?_
        refine px_new (ci := 2) (N := 4) (T := TX2) (C := RX2) X iw_X2 tyX2 tyX2_ok gw1_55 gw2_219 gw1_14 rfl (by decide) dv_X2 (al_X2 _) ⟨Nat.le_of_ble_eq_true rfl, Nat.le_of_ble_eq_true rfl⟩ dX5_bring_52 (fun q18 hq18 => ?_)
        refine sw_dup X dX5_bring_55 rfl ?_
        refine sw_iload_n X dX5_bring_56 rfl 2 rfl ?_
        refine sw_iload_n X dX5_bring_57 rfl 3 rfl ?_
        refine sw_callIV0 (As := [.int (J a), .int (J b)]) (rest := [.ref q18, .int (J (st 17 0)), .ref (q 3)]) X (c_X2_init l D k (L ++ [q18]) (alM M q18 2 0) q18 a b ⟨(List.mem_append_right _ List.mem_cons_self), (alM_n _ _ _ _ _ _)⟩) ⟨callB_of 2 (sw_ts X) (sw_goodI gw2_222) rfl rfl rfl (sw_ts X _ gw1_14) (sw_ts X _ gw2_220) (by decide +kernel) ⟨Nat.le_of_ble_eq_true rfl, Nat.le_of_ble_eq_true rfl⟩, rfl, sw_ts X _ gw2_221⟩ dX5_bring_58 rfl rfl (Nat.le_of_ble_eq_true rfl) ⟨Nat.le_of_ble_eq_true rfl, Nat.le_of_ble_eq_true rfl⟩ (fun w9 hp20 => ?_)
        obtain rfl := hp20
        refine px_aast (M := upM (upM (upM (upM (alM M q18 2 0) 20 q18 0 a) 21 q18 0 b) 22 q18 0 b) 23 q18 0 ((-1))) X 4 2 (by decide) rfl rfl (List.mem_append_left _ o3.1) ((alM_o _ _ _ _ _ (sw_ne o3.1 hq18)).trans o3.2.2) ((alM_o _ _ _ _ _ (sw_ne o3.1 hq18)).trans n3) (List.mem_append_right _ List.mem_cons_self) (by decide) (alM_n _ _ _ _ _ _) (by omega) (by omega) (by omega) dX5_bring_61 ?_
        refine sw_aload_n X dX5_bring_62 rfl 1 rfl ?_
        refine sw_dup X dX5_bring_63 rfl ?_
        refine px_get (M := upM (upM (upM (upM (upM (alM M q18 2 0) 20 q18 0 a) 21 q18 0 b) 22 q18 0 b) 23 q18 0 ((-1))) 93 (q 3) (st 17 0) ((q18 : Int))) (v := .int (J (st 17 0))) X iw_X5 (List.mem_append_left _ o0.1) (by decide) ((alM_o _ _ _ _ _ (sw_ne o0.1 hq18)).trans o0.2.2) rfl 8 (by decide) gw1_65 rfl (congrArg (fun z => some (Value.int (J z))) ((alM_o _ _ _ _ _ (sw_ne o0.1 hq18)).trans v58)) dX5_bring_64 ?_
        refine sw_iconst X dX5_bring_67 ?_
        refine sw_iadd X dX5_bring_68 ?_
        refine px_put (M := upM (upM (upM (upM (upM (alM M q18 2 0) 20 q18 0 a) 21 q18 0 b) 22 q18 0 b) 23 q18 0 ((-1))) 93 (q 3) (st 17 0) ((q18 : Int))) (f := 58) (z := (st 17 0) + 1) X iw_X5 tyX5 tyX5_ok nmX5 (List.mem_append_left _ o0.1) (by decide) ((alM_o _ _ _ _ _ (sw_ne o0.1 hq18)).trans o0.2.2) rfl 8 (by decide) gw1_65 rfl rfl (ty := .int) (by decide +kernel) rfl rfl (Nat.le_of_ble_eq_true rfl) (by decide) (pS58 _ _ _) dX5_bring_69 ?_
        refine sw_iload_n X dX5_bring_72 rfl 0 rfl ?_
        exact RI _ _ _ _ _ _ dX5_bring_73 (Nat.le_of_ble_eq_true rfl) (Nat.le_of_ble_eq_true rfl) rfl ⟨by unfold kBring; split <;> (try split) <;> (try split) <;> omega, rfl, _, _, _, pW_80 k _ _ q18 0 _, upq_n _ _ (by omega), CW_bring hI hC (by omega) hq18 (by omega)⟩
abbrev rm_X5_enter : Room := { frames := 7, cells := 5, slots := 85, locals := 102 }
set_option maxHeartbeats 4000000 in
set_option maxRecDepth 100000 in
theorem c_X5_enter (l : Launch) (hfl : l.stackTraces = false) (D : va_G) (k : Nat → ClassId) (N : Int) (st : ST) (q : Int → Nat) (L : List Nat) (M : MM)  (hI : I6 N st) (hC : CW st q L M) : XI l yX5_enter cX5_enter 2 (some .int) rm_X5_enter D k [.ref (q 0)] (pW k L M) (xP k q (up2 st 9 0 (st 9 0 + 1)) (kEnter st) (st 9 0)) (fun E w' => w' = pW k L M ∧ ((E = "java/lang/IllegalStateException" ∧ kEnter st = 1))) := by
  refine XI.of hfl (by decide +kernel) rfl (Nat.le_of_ble_eq_true rfl) (fun pᵢ eᵢ sᵢ mᵢ argsᵢ belowᵢ methᵢ cᵢ Aᵢ Qᵢ X RI XO_ XT_ => ?_)
  show SW pᵢ l eᵢ rm_X5_enter sᵢ mᵢ argsᵢ belowᵢ methᵢ cᵢ 2 D Aᵢ 0 0 Qᵢ (pW k L M) 0 [(0, .ref (q 0))] []
  have hC2 := hC
  obtain ⟨⟨⟨o0, o1, o2, o3, o4⟩, ⟨n1, n2, n3, n4⟩, ⟨r51, r52, r55, r57, r59⟩, v50, v53, v54, v56, v58⟩, hBk, hCa, hGa, hPa⟩ := hC2
  have i1 := I_st hI
  have i2 := I_en hI
  have i5 := I_ga hI
  have i8 := I_cu hI
  have i9 := I_ca hI
  have i17 := I_pa hI
  refine sw_aload_n X dX5_enter_0 rfl 0 rfl ?_
  refine px_get (v := .int (J (st 9 0))) X iw_X5 o0.1 (by decide) o0.2.2 rfl 6 (by decide) gw1_63 rfl (congrArg (fun z => some (Value.int (J z))) v56) dX5_enter_1 ?_
  refine sw_bipush X dX5_enter_4 (by decide +kernel) ?_
  refine sw_icmp_ge (tgt := 13) X (by omega) (by omega) dX5_enter_6 (by decide) (fun h1 => ?_) (fun h1 => ?_)
  · refine sw_iconst X dX5_enter_13 ?_
    refine sw_xSV (As := [.int (J 0)]) (rest := []) X (c_X5_checkState l hfl D k (pW k L M) 0 (by omega)) (va_cwS 1 (sw_ts X) (sw_goodS gw1_177 gw1_178 gw1_1 gw1_179) rfl rfl rfl (by decide +kernel) ⟨Nat.le_of_ble_eq_true rfl, Nat.le_of_ble_eq_true rfl⟩) dX5_enter_14 rfl rfl (Nat.le_of_ble_eq_true rfl) ⟨Nat.le_of_ble_eq_true rfl, Nat.le_of_ble_eq_true rfl⟩ (fun E9 w9 hx => XO_ _ _ _ _ _ _ _ (Nat.le_of_ble_eq_true rfl) (Nat.le_of_ble_eq_true rfl) (by obtain ⟨rfl, rfl, hx⟩ := hx; exact ⟨rfl, ⟨rfl, by unfold kEnter; split <;> (try split) <;> (try split) <;> omega⟩⟩)) (fun w9 hp3 => ?_)
    obtain ⟨rfl, hp3⟩ := hp3
    exact absurd hp3 (by decide)
  · refine sw_iconst X dX5_enter_9 ?_
    refine sw_goto (tgt := 14) X dX5_enter_10 (by decide) ?_
    refine sw_xSV (As := [.int (J 1)]) (rest := []) X (c_X5_checkState l hfl D k (pW k L M) 1 (by omega)) (va_cwS 1 (sw_ts X) (sw_goodS gw1_177 gw1_178 gw1_1 gw1_179) rfl rfl rfl (by decide +kernel) ⟨Nat.le_of_ble_eq_true rfl, Nat.le_of_ble_eq_true rfl⟩) dX5_enter_14 rfl rfl (Nat.le_of_ble_eq_true rfl) ⟨Nat.le_of_ble_eq_true rfl, Nat.le_of_ble_eq_true rfl⟩ (fun E9 w9 hx => XO_ _ _ _ _ _ _ _ (Nat.le_of_ble_eq_true rfl) (Nat.le_of_ble_eq_true rfl) (by obtain ⟨rfl, rfl, hx⟩ := hx; exact ⟨rfl, ⟨rfl, by unfold kEnter; split <;> (try split) <;> (try split) <;> omega⟩⟩)) (fun w9 hp5 => ?_)
    obtain ⟨rfl, hp5⟩ := hp5
    refine sw_aload_n X dX5_enter_17 rfl 0 rfl ?_
    refine px_get (v := .int (J (st 9 0))) X iw_X5 o0.1 (by decide) o0.2.2 rfl 6 (by decide) gw1_63 rfl (congrArg (fun z => some (Value.int (J z))) v56) dX5_enter_18 ?_
    refine sw_istore_n (lv' := [(1, .int (J (st 9 0))), (0, .ref (q 0))]) X dX5_enter_21 rfl (by decide) rfl ?_
    refine sw_aload_n X dX5_enter_22 rfl 1 rfl ?_
    refine px_get (v := .ref (q 2)) X iw_X5 o0.1 (by decide) o0.2.2 rfl 5 (by decide) gw1_62 rfl (congrArg some (rf_of r55)) dX5_enter_23 ?_
    refine sw_iload_n X dX5_enter_26 rfl 0 rfl ?_
    refine px_new (ci := 0) (N := 4) (T := TX0) (C := RX0) X iw_X0 tyX0 tyX0_ok gw1_53 gw2_106 gw1_12 rfl (by decide) dv_X0 (al_X0 _) ⟨Nat.le_of_ble_eq_true rfl, Nat.le_of_ble_eq_true rfl⟩ dX5_enter_27 (fun q6 hq6 => ?_)
    refine sw_dup X dX5_enter_30 rfl ?_
    refine sw_aload_n X dX5_enter_31 rfl 1 rfl ?_
    refine px_get (M := alM M q6 0 0) (v := .int (J (st 1 0))) X iw_X5 (List.mem_append_left _ o0.1) (by decide) ((alM_o _ _ _ _ _ (sw_ne o0.1 hq6)).trans o0.2.2) rfl 0 (by decide) gw1_57 rfl (congrArg (fun z => some (Value.int (J z))) ((alM_o _ _ _ _ _ (sw_ne o0.1 hq6)).trans v50)) dX5_enter_32 ?_
    refine sw_callIV0 (As := [.int (J (st 1 0))]) (rest := [.ref q6, .int (J (st 9 0)), .ref (q 2)]) X (c_X0_init l D k (L ++ [q6]) (alM M q6 0 0) q6 (st 1 0) ⟨(List.mem_append_right _ List.mem_cons_self), (alM_n _ _ _ _ _ _)⟩) ⟨callB_of 1 (sw_ts X) (sw_goodI gw2_109) rfl rfl rfl (sw_ts X _ gw1_12) (sw_ts X _ gw2_107) (by decide +kernel) ⟨Nat.le_of_ble_eq_true rfl, Nat.le_of_ble_eq_true rfl⟩, rfl, sw_ts X _ gw2_108⟩ dX5_enter_35 rfl rfl (Nat.le_of_ble_eq_true rfl) ⟨Nat.le_of_ble_eq_true rfl, Nat.le_of_ble_eq_true rfl⟩ (fun w9 hp8 => ?_)
    obtain ⟨w1, b1, r1, M1, rfl, hx1, hM1, hc1, hw1, hb1, hr1⟩ := hp8
    have hm1 : ∀ f x i, x ∈ L → M1 f x i = M f x i := fun f x i h => (hM1 f x i (List.mem_append_left _ h) (sw_ne h hq6)).trans (alM_o _ _ _ _ _ (sw_ne h hq6))
    refine px_aast (M := M1) X 2 0 (by decide) rfl rfl (List.mem_append_left _ (List.mem_append_left _ (List.mem_append_left _ (List.mem_append_left _ o2.1)))) ((hm1 _ _ _ o2.1).trans o2.2.2) ((hm1 _ _ _ o2.1).trans n2) (List.mem_append_left _ (List.mem_append_left _ (List.mem_append_left _ (List.mem_append_right _ List.mem_cons_self)))) (by decide) hc1.1 (by omega) (by omega) (by omega) dX5_enter_38 ?_
    refine sw_aload_n X dX5_enter_39 rfl 1 rfl ?_
    refine sw_dup X dX5_enter_40 rfl ?_
    refine px_get (M := upM M1 93 (q 2) (st 9 0) ((q6 : Int))) (v := .int (J (st 9 0))) X iw_X5 (List.mem_append_left _ (List.mem_append_left _ (List.mem_append_left _ (List.mem_append_left _ o0.1)))) (by decide) ((hm1 _ _ _ o0.1).trans o0.2.2) rfl 6 (by decide) gw1_63 rfl (congrArg (fun z => some (Value.int (J z))) ((hm1 _ _ _ o0.1).trans v56)) dX5_enter_41 ?_
    refine sw_iconst X dX5_enter_44 ?_
    refine sw_iadd X dX5_enter_45 ?_
    refine px_put (M := upM M1 93 (q 2) (st 9 0) ((q6 : Int))) (f := 56) (z := (st 9 0) + 1) X iw_X5 tyX5 tyX5_ok nmX5 (List.mem_append_left _ (List.mem_append_left _ (List.mem_append_left _ (List.mem_append_left _ o0.1)))) (by decide) ((hm1 _ _ _ o0.1).trans o0.2.2) rfl 6 (by decide) gw1_63 rfl rfl (ty := .int) (by decide +kernel) rfl rfl (Nat.le_of_ble_eq_true rfl) (by decide) (pS56 _ _ _) dX5_enter_46 ?_
    refine sw_iload_n X dX5_enter_49 rfl 0 rfl ?_
    exact RI _ _ _ _ _ _ dX5_enter_50 (Nat.le_of_ble_eq_true rfl) (Nat.le_of_ble_eq_true rfl) rfl ⟨by unfold kEnter; split <;> (try split) <;> (try split) <;> omega, rfl, _, _, _, (pW_80 k _ _ q6 0 _).trans ((pW_80 k _ _ w1 0 _).trans ((pW_80 k _ _ b1 0 _).trans (pW_80 k _ _ r1 0 _))), (upq_n _ _ (by omega)).trans ((upq_n _ _ (by omega)).trans ((upq_n _ _ (by omega)).trans (upq_n _ _ (by omega)))), CW_enter hI hC (by omega) hq6 hx1 hM1 hc1 hw1 hb1 hr1⟩
abbrev rm_X5_breakDown : Room := { frames := 7, cells := 3, slots := 18, locals := 104 }
set_option maxHeartbeats 4000000 in
set_option maxRecDepth 100000 in
theorem c_X5_breakDown (l : Launch) (hfl : l.stackTraces = false) (D : va_G) (k : Nat → ClassId) (N : Int) (st : ST) (q : Int → Nat) (L : List Nat) (M : MM) (c a : Int) (hI : I6 N st) (hC : CW st q L M) (h_c : (-2147483648 ≤ c ∧ c < 2147483648)) (h_a : (-2147483648 ≤ a ∧ a < 2147483648)) : XV l yX5_breakDown cX5_breakDown 4 none rm_X5_breakDown D k [.ref (q 0), .int (J c), .int (J a)] (pW k L M) (xP k q (up2 st 14 c a) (kBreak st c a) 0 0) (fun E w' => w' = pW k L M ∧ ((E = "java/lang/IndexOutOfBoundsException" ∧ kBreak st c a = 1) ∨ (E = "java/lang/IllegalStateException" ∧ kBreak st c a = 2))) := by
  refine XV.of hfl (by decide +kernel) rfl (Nat.le_of_ble_eq_true rfl) (fun pᵢ eᵢ sᵢ mᵢ argsᵢ belowᵢ methᵢ cᵢ Aᵢ Qᵢ X RV XO_ XT_ => ?_)
  show SW pᵢ l eᵢ rm_X5_breakDown sᵢ mᵢ argsᵢ belowᵢ methᵢ cᵢ 4 D Aᵢ 0 0 Qᵢ (pW k L M) 0 [(0, .ref (q 0)), (1, .int (J c)), (2, .int (J a))] []
  have hC2 := hC
  obtain ⟨⟨⟨o0, o1, o2, o3, o4⟩, ⟨n1, n2, n3, n4⟩, ⟨r51, r52, r55, r57, r59⟩, v50, v53, v54, v56, v58⟩, hBk, hCa, hGa, hPa⟩ := hC2
  have i1 := I_st hI
  have i2 := I_en hI
  have i5 := I_ga hI
  have i8 := I_cu hI
  have i9 := I_ca hI
  have i17 := I_pa hI
  refine sw_aload_n X dX5_breakDown_0 rfl 0 rfl ?_
  refine sw_iload_n X dX5_breakDown_1 rfl 1 rfl ?_
  refine px_xVQ (C := RX5) (As := [.int (J c)]) (rest := []) X (c_X5_carAt l hfl D k N st q (L) (M) c hI hC (by omega)) (cwV 1 (sw_ts X) (sw_goodV gw2_136 gw2_138 gws_5 gw1_1 gw2_139) rfl rfl rfl (by decide +kernel) ⟨Nat.le_of_ble_eq_true rfl, Nat.le_of_ble_eq_true rfl⟩) ⟨o0.1, o0.2.2⟩ (by decide) rfl rfl dX5_breakDown_2 rfl rfl (Nat.le_of_ble_eq_true rfl) ⟨Nat.le_of_ble_eq_true rfl, Nat.le_of_ble_eq_true rfl⟩ (fun E9 w9 hx => XO_ _ _ _ _ _ _ _ (Nat.le_of_ble_eq_true rfl) (Nat.le_of_ble_eq_true rfl) (by obtain ⟨rfl, rfl, hx⟩ := hx; exact ⟨rfl, Or.inl ⟨rfl, by unfold kBreak; split <;> (try split) <;> (try split) <;> omega⟩⟩)) (fun z1 w9 hp2 => ?_)
  obtain ⟨rfl, hrz1, rfl⟩ := hp2
  obtain ⟨hWc, ⟨cO, cR⟩, c0, c1, c2, c3, ⟨dO, dN⟩, dV⟩ := hCa c (by omega) (by omega)
  have hWc2 := hWc
  obtain ⟨⟨⟨wL, wG, wK⟩, w40⟩, w41, w42, w43, w44, ⟨⟨aL, aG, aK⟩, aN⟩, hp⟩ := hWc2
  have k44 := w44.trans (clk_v (st := st) (c := c) (by omega))
  have k42 := w42.trans (cel_v hI (c := c) (by omega))
  have hk9 := clk_b hI (c := c) (by omega) (by omega)
  have hct := I_c hI c (by omega) (by omega)
  refine sw_astore_n (lv' := [(3, .ref (q (30 + c))), (0, .ref (q 0)), (1, .int (J c)), (2, .int (J a))]) X dX5_breakDown_5 rfl (by decide) rfl ?_
  refine sw_iload_n X dX5_breakDown_6 rfl 3 rfl ?_
  refine sw_iconst X dX5_breakDown_7 ?_
  refine sw_iconst X dX5_breakDown_8 ?_
  refine sw_callSI0 (As := [.int (J a), .int (J 0), .int (J 3)]) (rest := []) X (c_X5_isWithin l D k (pW k L M) a 0 3 (by omega)) (va_cwS 3 (sw_ts X) (sw_goodS gw1_102 gw1_103 gw1_1 gw1_104) rfl rfl rfl (by decide +kernel) ⟨Nat.le_of_ble_eq_true rfl, Nat.le_of_ble_eq_true rfl⟩) dX5_breakDown_9 rfl rfl (Nat.le_of_ble_eq_true rfl) ⟨Nat.le_of_ble_eq_true rfl, Nat.le_of_ble_eq_true rfl⟩ (fun z3 w9 hp4 => ?_)
  obtain ⟨rfl, hp4⟩ := hp4
  refine sw_xSV (As := [.int (J z3)]) (rest := []) X (c_X5_checkIndex l hfl D k (pW k L M) z3 (by omega)) (va_cwS 1 (sw_ts X) (sw_goodS gw2_167 gw2_168 gw1_1 gw2_169) rfl rfl rfl (by decide +kernel) ⟨Nat.le_of_ble_eq_true rfl, Nat.le_of_ble_eq_true rfl⟩) dX5_breakDown_12 rfl rfl (Nat.le_of_ble_eq_true rfl) ⟨Nat.le_of_ble_eq_true rfl, Nat.le_of_ble_eq_true rfl⟩ (fun E9 w9 hx => XO_ _ _ _ _ _ _ _ (Nat.le_of_ble_eq_true rfl) (Nat.le_of_ble_eq_true rfl) (by obtain ⟨rfl, rfl, hx⟩ := hx; exact ⟨rfl, Or.inl ⟨rfl, by unfold kBreak; split <;> (try split) <;> (try split) <;> omega⟩⟩)) (fun w9 hp6 => ?_)
  obtain ⟨rfl, hp6⟩ := hp6
  refine sw_aload_n X dX5_breakDown_15 rfl 0 rfl ?_
  refine px_callVI (C := RX0) (As := []) (rest := []) X (c_X0_isDown l D k (L) (M) (q (30 + c)) ⟨cO.1, cO.2.2⟩ (by rw [show (M) 2 (q (30 + c)) 0 = st 14 c from c2]; omega)) (cwV 0 (sw_ts X) (sw_goodV gw2_145 gw2_146 gw2_147 gw1_12 gw2_148) rfl rfl rfl (by decide +kernel) ⟨Nat.le_of_ble_eq_true rfl, Nat.le_of_ble_eq_true rfl⟩) ⟨cO.1, cO.2.2⟩ (by decide) rfl rfl dX5_breakDown_16 rfl rfl (Nat.le_of_ble_eq_true rfl) ⟨Nat.le_of_ble_eq_true rfl, Nat.le_of_ble_eq_true rfl⟩ (fun z7 w9 hp8 => ?_)
  obtain ⟨rfl, hp8⟩ := hp8
  rw [show (M) 2 (q (30 + c)) 0 = st 14 c from c2] at hp8
  refine sw_if_ne (tgt := 26) X (by omega) dX5_breakDown_19 (by decide) (fun h9 => ?_) (fun h9 => ?_)
  · refine sw_iconst X dX5_breakDown_26 ?_
    refine sw_xSV (As := [.int (J 0)]) (rest := []) X (c_X5_checkState l hfl D k (pW k L M) 0 (by omega)) (va_cwS 1 (sw_ts X) (sw_goodS gw1_177 gw1_178 gw1_1 gw1_179) rfl rfl rfl (by decide +kernel) ⟨Nat.le_of_ble_eq_true rfl, Nat.le_of_ble_eq_true rfl⟩) dX5_breakDown_27 rfl rfl (Nat.le_of_ble_eq_true rfl) ⟨Nat.le_of_ble_eq_true rfl, Nat.le_of_ble_eq_true rfl⟩ (fun E9 w9 hx => XO_ _ _ _ _ _ _ _ (Nat.le_of_ble_eq_true rfl) (Nat.le_of_ble_eq_true rfl) (by obtain ⟨rfl, rfl, hx⟩ := hx; exact ⟨rfl, Or.inr (⟨rfl, by unfold kBreak; split <;> (try split) <;> (try split) <;> omega⟩)⟩)) (fun w9 hp11 => ?_)
    obtain ⟨rfl, hp11⟩ := hp11
    exact absurd hp11 (by decide)
  · refine sw_iconst X dX5_breakDown_22 ?_
    refine sw_goto (tgt := 27) X dX5_breakDown_23 (by decide) ?_
    refine sw_xSV (As := [.int (J 1)]) (rest := []) X (c_X5_checkState l hfl D k (pW k L M) 1 (by omega)) (va_cwS 1 (sw_ts X) (sw_goodS gw1_177 gw1_178 gw1_1 gw1_179) rfl rfl rfl (by decide +kernel) ⟨Nat.le_of_ble_eq_true rfl, Nat.le_of_ble_eq_true rfl⟩) dX5_breakDown_27 rfl rfl (Nat.le_of_ble_eq_true rfl) ⟨Nat.le_of_ble_eq_true rfl, Nat.le_of_ble_eq_true rfl⟩ (fun E9 w9 hx => XO_ _ _ _ _ _ _ _ (Nat.le_of_ble_eq_true rfl) (Nat.le_of_ble_eq_true rfl) (by obtain ⟨rfl, rfl, hx⟩ := hx; exact ⟨rfl, Or.inr (⟨rfl, by unfold kBreak; split <;> (try split) <;> (try split) <;> omega⟩)⟩)) (fun w9 hp13 => ?_)
    obtain ⟨rfl, hp13⟩ := hp13
    refine sw_aload_n X dX5_breakDown_30 rfl 0 rfl ?_
    refine sw_iload_n X dX5_breakDown_31 rfl 3 rfl ?_
    refine px_putN (f := 2) (z := a) X iw_X0 tyX0 tyX0_ok nmX0 cO.1 (by decide) cO.2.2 rfl 2 (by decide) (List.mem_of_getElem? (i := 15) rfl) rfl rfl (ty := .int) (by decide +kernel) rfl rfl (Nat.le_of_ble_eq_true rfl) (by decide) (pS2 _ _ _) dX5_breakDown_32 ?_
    exact RV _ _ _ _ _ dX5_breakDown_35 (Nat.le_of_ble_eq_true rfl) (Nat.le_of_ble_eq_true rfl) ⟨by unfold kBreak; split <;> (try split) <;> (try split) <;> omega, rfl, q, L, _, rfl, rfl, CW_break hI hC (by omega) a⟩
abbrev rm_X5_hand : Room := { frames := 7, cells := 3, slots := 18, locals := 104 }
set_option maxHeartbeats 4000000 in
set_option maxRecDepth 100000 in
theorem c_X5_hand (l : Launch) (hfl : l.stackTraces = false) (D : va_G) (k : Nat → ClassId) (N : Int) (st : ST) (q : Int → Nat) (L : List Nat) (M : MM) (a b : Int) (hI : I6 N st) (hC : CW st q L M) (h_a : (-2147483648 ≤ a ∧ a < 2147483648)) (h_b : (-2147483648 ≤ b ∧ b < 2147483648)) : XI l yX5_hand cX5_hand 5 (some .int) rm_X5_hand D k [.ref (q 0), .int (J a), .int (J b)] (pW k L M) (xP k q (up2 st 20 a b) (kHand st a b) (st 20 a)) (fun E w' => w' = pW k L M ∧ ((E = "java/lang/IndexOutOfBoundsException" ∧ kHand st a b = 1) ∨ (E = "java/lang/IllegalStateException" ∧ kHand st a b = 2))) := by
  refine XI.of hfl (by decide +kernel) rfl (Nat.le_of_ble_eq_true rfl) (fun pᵢ eᵢ sᵢ mᵢ argsᵢ belowᵢ methᵢ cᵢ Aᵢ Qᵢ X RI XO_ XT_ => ?_)
  show SW pᵢ l eᵢ rm_X5_hand sᵢ mᵢ argsᵢ belowᵢ methᵢ cᵢ 5 D Aᵢ 0 0 Qᵢ (pW k L M) 0 [(0, .ref (q 0)), (1, .int (J a)), (2, .int (J b))] []
  have hC2 := hC
  obtain ⟨⟨⟨o0, o1, o2, o3, o4⟩, ⟨n1, n2, n3, n4⟩, ⟨r51, r52, r55, r57, r59⟩, v50, v53, v54, v56, v58⟩, hBk, hCa, hGa, hPa⟩ := hC2
  have i1 := I_st hI
  have i2 := I_en hI
  have i5 := I_ga hI
  have i8 := I_cu hI
  have i9 := I_ca hI
  have i17 := I_pa hI
  refine sw_aload_n X dX5_hand_0 rfl 0 rfl ?_
  refine sw_iload_n X dX5_hand_1 rfl 1 rfl ?_
  refine px_xVQ (C := RX5) (As := [.int (J a)]) (rest := []) X (c_X5_partAt l hfl D k N st q (L) (M) a hI hC (by omega)) (cwV 1 (sw_ts X) (sw_goodV gw2_183 gw2_185 gws_8 gw1_1 gw2_186) rfl rfl rfl (by decide +kernel) ⟨Nat.le_of_ble_eq_true rfl, Nat.le_of_ble_eq_true rfl⟩) ⟨o0.1, o0.2.2⟩ (by decide) rfl rfl dX5_hand_2 rfl rfl (Nat.le_of_ble_eq_true rfl) ⟨Nat.le_of_ble_eq_true rfl, Nat.le_of_ble_eq_true rfl⟩ (fun E9 w9 hx => XO_ _ _ _ _ _ _ _ (Nat.le_of_ble_eq_true rfl) (Nat.le_of_ble_eq_true rfl) (by obtain ⟨rfl, rfl, hx⟩ := hx; exact ⟨rfl, Or.inl ⟨rfl, by unfold kHand; split <;> (try split) <;> (try split) <;> omega⟩⟩)) (fun z1 w9 hp2 => ?_)
  obtain ⟨rfl, hrz1, rfl⟩ := hp2
  obtain ⟨⟨pO, pR⟩, p20, p21, p22, p23, p24, p25⟩ := hPa a (by omega) (by omega)
  have pb1 := I_j hI a (by omega) (by omega)
  refine sw_astore_n (lv' := [(3, .ref (q (60 + a))), (0, .ref (q 0)), (1, .int (J a)), (2, .int (J b))]) X dX5_hand_5 rfl (by decide) rfl ?_
  refine sw_aload_n X dX5_hand_6 rfl 1 rfl ?_
  refine sw_iload_n X dX5_hand_7 rfl 3 rfl ?_
  refine px_callVI (C := RX5) (As := [.int (J b)]) (rest := []) X (c_X5_isPlace l D k N st q (L) (M) b hI hC (by omega)) (cwV 1 (sw_ts X) (sw_goodV gw2_215 gw2_217 gws_9 gw1_1 gw2_218) rfl rfl rfl (by decide +kernel) ⟨Nat.le_of_ble_eq_true rfl, Nat.le_of_ble_eq_true rfl⟩) ⟨o0.1, o0.2.2⟩ (by decide) rfl rfl dX5_hand_8 rfl rfl (Nat.le_of_ble_eq_true rfl) ⟨Nat.le_of_ble_eq_true rfl, Nat.le_of_ble_eq_true rfl⟩ (fun z3 w9 hp4 => ?_)
  obtain ⟨rfl, hp4⟩ := hp4
  refine sw_xSV (As := [.int (J z3)]) (rest := []) X (c_X5_checkIndex l hfl D k (pW k L M) z3 (by omega)) (va_cwS 1 (sw_ts X) (sw_goodS gw2_167 gw2_168 gw1_1 gw2_169) rfl rfl rfl (by decide +kernel) ⟨Nat.le_of_ble_eq_true rfl, Nat.le_of_ble_eq_true rfl⟩) dX5_hand_11 rfl rfl (Nat.le_of_ble_eq_true rfl) ⟨Nat.le_of_ble_eq_true rfl, Nat.le_of_ble_eq_true rfl⟩ (fun E9 w9 hx => XO_ _ _ _ _ _ _ _ (Nat.le_of_ble_eq_true rfl) (Nat.le_of_ble_eq_true rfl) (by obtain ⟨rfl, rfl, hx⟩ := hx; exact ⟨rfl, Or.inl ⟨rfl, by unfold kHand; split <;> (try split) <;> (try split) <;> omega⟩⟩)) (fun w9 hp6 => ?_)
  obtain ⟨rfl, hp6⟩ := hp6
  refine sw_aload_n X dX5_hand_14 rfl 0 rfl ?_
  refine px_getN (n := "") (d := "") (v := .int (J (st 20 a))) X iw_X2 pO.1 (by decide) pO.2.2 rfl 2 (by decide) (List.mem_of_getElem? (i := 18) rfl) rfl (congrArg (fun z => some (Value.int (J z))) p22) dX5_hand_15 ?_
  refine sw_istore (lv' := [(4, .int (J (st 20 a))), (3, .ref (q (60 + a))), (0, .ref (q 0)), (1, .int (J a)), (2, .int (J b))]) X dX5_hand_18 (by decide) rfl ?_
  refine sw_iload X dX5_hand_20 0 rfl ?_
  refine sw_bipush X dX5_hand_22 (by decide +kernel) ?_
  refine sw_icmp_eq (tgt := 51) X (by omega) (by omega) dX5_hand_24 (by decide) (fun h7 => ?_) (fun h7 => ?_)
  · refine sw_iconst X dX5_hand_51 ?_
    refine sw_xSV (As := [.int (J 0)]) (rest := []) X (c_X5_checkState l hfl D k (pW k L M) 0 (by omega)) (va_cwS 1 (sw_ts X) (sw_goodS gw1_177 gw1_178 gw1_1 gw1_179) rfl rfl rfl (by decide +kernel) ⟨Nat.le_of_ble_eq_true rfl, Nat.le_of_ble_eq_true rfl⟩) dX5_hand_52 rfl rfl (Nat.le_of_ble_eq_true rfl) ⟨Nat.le_of_ble_eq_true rfl, Nat.le_of_ble_eq_true rfl⟩ (fun E9 w9 hx => XO_ _ _ _ _ _ _ _ (Nat.le_of_ble_eq_true rfl) (Nat.le_of_ble_eq_true rfl) (by obtain ⟨rfl, rfl, hx⟩ := hx; exact ⟨rfl, Or.inr (⟨rfl, by unfold kHand; split <;> (try split) <;> (try split) <;> omega⟩)⟩)) (fun w9 hp9 => ?_)
    obtain ⟨rfl, hp9⟩ := hp9
    exact absurd hp9 (by decide)
  · refine sw_iload X dX5_hand_27 0 rfl ?_
    refine sw_iload_n X dX5_hand_29 rfl 4 rfl ?_
    refine sw_icmp_eq (tgt := 51) X (by omega) (by omega) dX5_hand_30 (by decide) (fun h10 => ?_) (fun h10 => ?_)
    · refine sw_iconst X dX5_hand_51 ?_
      refine sw_xSV (As := [.int (J 0)]) (rest := []) X (c_X5_checkState l hfl D k (pW k L M) 0 (by omega)) (va_cwS 1 (sw_ts X) (sw_goodS gw1_177 gw1_178 gw1_1 gw1_179) rfl rfl rfl (by decide +kernel) ⟨Nat.le_of_ble_eq_true rfl, Nat.le_of_ble_eq_true rfl⟩) dX5_hand_52 rfl rfl (Nat.le_of_ble_eq_true rfl) ⟨Nat.le_of_ble_eq_true rfl, Nat.le_of_ble_eq_true rfl⟩ (fun E9 w9 hx => XO_ _ _ _ _ _ _ _ (Nat.le_of_ble_eq_true rfl) (Nat.le_of_ble_eq_true rfl) (by obtain ⟨rfl, rfl, hx⟩ := hx; exact ⟨rfl, Or.inr (⟨rfl, by unfold kHand; split <;> (try split) <;> (try split) <;> omega⟩)⟩)) (fun w9 hp12 => ?_)
      obtain ⟨rfl, hp12⟩ := hp12
      exact absurd hp12 (by decide)
    · refine sw_aload_n X dX5_hand_33 rfl 2 rfl ?_
      refine sw_iload X dX5_hand_34 0 rfl ?_
      refine px_callVI (C := RX5) (As := [.int (J (st 20 a))]) (rest := []) X (c_X5_cellOfPlace l D k N st q (L) (M) (st 20 a) hI hC (by omega)) (cwV 1 (sw_ts X) (sw_goodV gw3_6 gw3_8 gws_10 gw1_1 gw3_9) rfl rfl rfl (by decide +kernel) ⟨Nat.le_of_ble_eq_true rfl, Nat.le_of_ble_eq_true rfl⟩) ⟨o0.1, o0.2.2⟩ (by decide) rfl rfl dX5_hand_36 rfl rfl (Nat.le_of_ble_eq_true rfl) ⟨Nat.le_of_ble_eq_true rfl, Nat.le_of_ble_eq_true rfl⟩ (fun z13 w9 hp14 => ?_)
      obtain ⟨rfl, rfl⟩ := hp14
      have hcbz13 := cPl_b hI (a := st 20 a) (by omega)
      refine sw_aload_n X dX5_hand_39 rfl 2 rfl ?_
      refine sw_iload_n X dX5_hand_40 rfl 4 rfl ?_
      refine px_callVI (C := RX5) (As := [.int (J b)]) (rest := [.int (J (cPl st (st 20 a)))]) X (c_X5_cellOfPlace l D k N st q (L) (M) b hI hC (by omega)) (cwV 1 (sw_ts X) (sw_goodV gw3_6 gw3_8 gws_10 gw1_1 gw3_9) rfl rfl rfl (by decide +kernel) ⟨Nat.le_of_ble_eq_true rfl, Nat.le_of_ble_eq_true rfl⟩) ⟨o0.1, o0.2.2⟩ (by decide) rfl rfl dX5_hand_41 rfl rfl (Nat.le_of_ble_eq_true rfl) ⟨Nat.le_of_ble_eq_true rfl, Nat.le_of_ble_eq_true rfl⟩ (fun z15 w9 hp16 => ?_)
      obtain ⟨rfl, rfl⟩ := hp16
      have hcbz15 := cPl_b hI (a := b) (by omega)
      refine sw_icmp_ne (tgt := 51) X (by omega) (by omega) dX5_hand_44 (by decide) (fun h17 => ?_) (fun h17 => ?_)
      · refine sw_iconst X dX5_hand_51 ?_
        refine sw_xSV (As := [.int (J 0)]) (rest := []) X (c_X5_checkState l hfl D k (pW k L M) 0 (by omega)) (va_cwS 1 (sw_ts X) (sw_goodS gw1_177 gw1_178 gw1_1 gw1_179) rfl rfl rfl (by decide +kernel) ⟨Nat.le_of_ble_eq_true rfl, Nat.le_of_ble_eq_true rfl⟩) dX5_hand_52 rfl rfl (Nat.le_of_ble_eq_true rfl) ⟨Nat.le_of_ble_eq_true rfl, Nat.le_of_ble_eq_true rfl⟩ (fun E9 w9 hx => XO_ _ _ _ _ _ _ _ (Nat.le_of_ble_eq_true rfl) (Nat.le_of_ble_eq_true rfl) (by obtain ⟨rfl, rfl, hx⟩ := hx; exact ⟨rfl, Or.inr (⟨rfl, by unfold kHand; split <;> (try split) <;> (try split) <;> omega⟩)⟩)) (fun w9 hp19 => ?_)
        obtain ⟨rfl, hp19⟩ := hp19
        exact absurd hp19 (by decide)
      · refine sw_iconst X dX5_hand_47 ?_
        refine sw_goto (tgt := 52) X dX5_hand_48 (by decide) ?_
        refine sw_xSV (As := [.int (J 1)]) (rest := []) X (c_X5_checkState l hfl D k (pW k L M) 1 (by omega)) (va_cwS 1 (sw_ts X) (sw_goodS gw1_177 gw1_178 gw1_1 gw1_179) rfl rfl rfl (by decide +kernel) ⟨Nat.le_of_ble_eq_true rfl, Nat.le_of_ble_eq_true rfl⟩) dX5_hand_52 rfl rfl (Nat.le_of_ble_eq_true rfl) ⟨Nat.le_of_ble_eq_true rfl, Nat.le_of_ble_eq_true rfl⟩ (fun E9 w9 hx => XO_ _ _ _ _ _ _ _ (Nat.le_of_ble_eq_true rfl) (Nat.le_of_ble_eq_true rfl) (by obtain ⟨rfl, rfl, hx⟩ := hx; exact ⟨rfl, Or.inr (⟨rfl, by unfold kHand; split <;> (try split) <;> (try split) <;> omega⟩)⟩)) (fun w9 hp21 => ?_)
        obtain ⟨rfl, hp21⟩ := hp21
        refine sw_aload_n X dX5_hand_55 rfl 1 rfl ?_
        refine sw_iload_n X dX5_hand_56 rfl 4 rfl ?_
        refine px_putN (f := 22) (z := b) X iw_X2 tyX2 tyX2_ok nmX2 pO.1 (by decide) pO.2.2 rfl 2 (by decide) (List.mem_of_getElem? (i := 18) rfl) rfl rfl (ty := .int) (by decide +kernel) rfl rfl (Nat.le_of_ble_eq_true rfl) (by decide) (pS22 _ _ _) dX5_hand_57 ?_
        refine sw_iload X dX5_hand_60 0 rfl ?_
        exact RI _ _ _ _ _ _ dX5_hand_62 (Nat.le_of_ble_eq_true rfl) (Nat.le_of_ble_eq_true rfl) rfl ⟨by unfold kHand; split <;> (try split) <;> (try split) <;> omega, rfl, q, L, _, rfl, rfl, CW_where hI hC (by omega) (by omega)⟩
abbrev rm_X5_record : Room := { frames := 8, cells := 3, slots := 18, locals := 123 }
set_option maxHeartbeats 4000000 in
set_option maxRecDepth 100000 in
theorem c_X5_record (l : Launch) (hfl : l.stackTraces = false) (D : va_G) (k : Nat → ClassId) (N : Int) (st : ST) (q : Int → Nat) (L : List Nat) (M : MM) (c b a : Int) (hI : I6 N st) (hC : CW st q L M) (h_c : (-2147483648 ≤ c ∧ c < 2147483648)) (h_b : (-2147483648 ≤ b ∧ b < 2147483648)) (h_a : (-2147483648 ≤ a ∧ a < 2147483648)) : XI l yX5_record cX5_record 6 (some .int) rm_X5_record D k [.ref (q 0), .int (J c), .int (J b), .int (J a)] (pW k L M) (xP k q (up2 st 16 (10 * c + b) a) (kRecord st c b a) (tim st c b)) (fun E w' => w' = pW k L M ∧ ((E = "java/lang/IndexOutOfBoundsException" ∧ kRecord st c b a = 1) ∨ (E = "java/lang/IllegalArgumentException" ∧ kRecord st c b a = 2))) := by
  refine XI.of hfl (by decide +kernel) rfl (Nat.le_of_ble_eq_true rfl) (fun pᵢ eᵢ sᵢ mᵢ argsᵢ belowᵢ methᵢ cᵢ Aᵢ Qᵢ X RI XO_ XT_ => ?_)
  show SW pᵢ l eᵢ rm_X5_record sᵢ mᵢ argsᵢ belowᵢ methᵢ cᵢ 6 D Aᵢ 0 0 Qᵢ (pW k L M) 0 [(0, .ref (q 0)), (1, .int (J c)), (2, .int (J b)), (3, .int (J a))] []
  have hC2 := hC
  obtain ⟨⟨⟨o0, o1, o2, o3, o4⟩, ⟨n1, n2, n3, n4⟩, ⟨r51, r52, r55, r57, r59⟩, v50, v53, v54, v56, v58⟩, hBk, hCa, hGa, hPa⟩ := hC2
  have i1 := I_st hI
  have i2 := I_en hI
  have i5 := I_ga hI
  have i8 := I_cu hI
  have i9 := I_ca hI
  have i17 := I_pa hI
  refine sw_aload_n X dX5_record_0 rfl 0 rfl ?_
  refine sw_iload_n X dX5_record_1 rfl 1 rfl ?_
  refine px_xVQ (C := RX5) (As := [.int (J c)]) (rest := []) X (c_X5_carAt l hfl D k N st q (L) (M) c hI hC (by omega)) (cwV 1 (sw_ts X) (sw_goodV gw2_136 gw2_138 gws_5 gw1_1 gw2_139) rfl rfl rfl (by decide +kernel) ⟨Nat.le_of_ble_eq_true rfl, Nat.le_of_ble_eq_true rfl⟩) ⟨o0.1, o0.2.2⟩ (by decide) rfl rfl dX5_record_2 rfl rfl (Nat.le_of_ble_eq_true rfl) ⟨Nat.le_of_ble_eq_true rfl, Nat.le_of_ble_eq_true rfl⟩ (fun E9 w9 hx => XO_ _ _ _ _ _ _ _ (Nat.le_of_ble_eq_true rfl) (Nat.le_of_ble_eq_true rfl) (by obtain ⟨rfl, rfl, hx⟩ := hx; exact ⟨rfl, Or.inl ⟨rfl, by unfold kRecord; split <;> (try split) <;> (try split) <;> omega⟩⟩)) (fun z1 w9 hp2 => ?_)
  obtain ⟨rfl, hrz1, rfl⟩ := hp2
  obtain ⟨hWc, ⟨cO, cR⟩, c0, c1, c2, c3, ⟨dO, dN⟩, dV⟩ := hCa c (by omega) (by omega)
  have hWc2 := hWc
  obtain ⟨⟨⟨wL, wG, wK⟩, w40⟩, w41, w42, w43, w44, ⟨⟨aL, aG, aK⟩, aN⟩, hp⟩ := hWc2
  have k44 := w44.trans (clk_v (st := st) (c := c) (by omega))
  have k42 := w42.trans (cel_v hI (c := c) (by omega))
  have hk9 := clk_b hI (c := c) (by omega) (by omega)
  have hct := I_c hI c (by omega) (by omega)
  refine sw_astore (lv' := [(4, .ref (q (30 + c))), (0, .ref (q 0)), (1, .int (J c)), (2, .int (J b)), (3, .int (J a))]) X dX5_record_5 (by decide) rfl ?_
  refine sw_aload_n X dX5_record_7 rfl 1 rfl ?_
  refine sw_iload_n X dX5_record_8 rfl 3 rfl ?_
  refine px_xVV (C := RX5) (As := [.int (J b)]) (rest := []) X (c_X5_checkGate l hfl D k N st q (L) (M) b hI hC (by omega)) (cwV 1 (sw_ts X) (sw_goodV gw3_17 gw3_19 gws_11 gw1_1 gw3_20) rfl rfl rfl (by decide +kernel) ⟨Nat.le_of_ble_eq_true rfl, Nat.le_of_ble_eq_true rfl⟩) ⟨o0.1, o0.2.2⟩ (by decide) rfl rfl dX5_record_9 rfl rfl (Nat.le_of_ble_eq_true rfl) ⟨Nat.le_of_ble_eq_true rfl, Nat.le_of_ble_eq_true rfl⟩ (fun E9 w9 hx => XO_ _ _ _ _ _ _ _ (Nat.le_of_ble_eq_true rfl) (Nat.le_of_ble_eq_true rfl) (by obtain ⟨rfl, rfl, hx⟩ := hx; exact ⟨rfl, Or.inl ⟨rfl, by unfold kRecord; split <;> (try split) <;> (try split) <;> omega⟩⟩)) (fun w9 hp4 => ?_)
  obtain ⟨rfl, hrz3⟩ := hp4
  refine sw_iload_n X dX5_record_12 rfl 4 rfl ?_
  refine sw_iconst X dX5_record_13 ?_
  refine sw_sipush X dX5_record_14 (by decide +kernel) ?_
  refine sw_callSI0 (As := [.int (J a), .int (J 0), .int (J 10000)]) (rest := []) X (c_X5_isWithin l D k (pW k L M) a 0 10000 (by omega)) (va_cwS 3 (sw_ts X) (sw_goodS gw1_102 gw1_103 gw1_1 gw1_104) rfl rfl rfl (by decide +kernel) ⟨Nat.le_of_ble_eq_true rfl, Nat.le_of_ble_eq_true rfl⟩) dX5_record_17 rfl rfl (Nat.le_of_ble_eq_true rfl) ⟨Nat.le_of_ble_eq_true rfl, Nat.le_of_ble_eq_true rfl⟩ (fun z5 w9 hp6 => ?_)
  obtain ⟨rfl, hp6⟩ := hp6
  refine sw_xSV (As := [.int (J z5)]) (rest := []) X (c_X5_checkArgument l hfl D k (pW k L M) z5 (by omega)) (va_cwS 1 (sw_ts X) (sw_goodS gw1_105 gw1_106 gw1_1 gw1_107) rfl rfl rfl (by decide +kernel) ⟨Nat.le_of_ble_eq_true rfl, Nat.le_of_ble_eq_true rfl⟩) dX5_record_20 rfl rfl (Nat.le_of_ble_eq_true rfl) ⟨Nat.le_of_ble_eq_true rfl, Nat.le_of_ble_eq_true rfl⟩ (fun E9 w9 hx => XO_ _ _ _ _ _ _ _ (Nat.le_of_ble_eq_true rfl) (Nat.le_of_ble_eq_true rfl) (by obtain ⟨rfl, rfl, hx⟩ := hx; exact ⟨rfl, Or.inr (⟨rfl, by unfold kRecord; split <;> (try split) <;> (try split) <;> omega⟩)⟩)) (fun w9 hp8 => ?_)
  obtain ⟨rfl, hp8⟩ := hp8
  refine sw_aload X dX5_record_23 0 rfl ?_
  refine sw_iload_n X dX5_record_25 rfl 3 rfl ?_
  refine sw_aload_n X dX5_record_26 rfl 1 rfl ?_
  refine sw_aload X dX5_record_27 0 rfl ?_
  refine sw_iload_n X dX5_record_29 rfl 3 rfl ?_
  refine px_callVI (C := RX5) (As := [.ref (q (30 + c)), .int (J b)]) (rest := [.int (J b), .ref (q (30 + c))]) X (c_X5_passMinute l D k N st q (L) (M) c b hI hC (by omega) (by omega)) (cwV 2 (sw_ts X) (sw_goodV gw3_21 gw3_23 gws_12 gw1_1 gw3_24) rfl rfl rfl (by decide +kernel) ⟨Nat.le_of_ble_eq_true rfl, Nat.le_of_ble_eq_true rfl⟩) ⟨o0.1, o0.2.2⟩ (by decide) rfl rfl dX5_record_30 rfl rfl (Nat.le_of_ble_eq_true rfl) ⟨Nat.le_of_ble_eq_true rfl, Nat.le_of_ble_eq_true rfl⟩ (fun z9 w9 hp10 => ?_)
  obtain ⟨rfl, rfl⟩ := hp10
  have hpb := pas_b hI (c := c) (by omega) b
  refine px_callVI (C := RX0) (As := [.int (J b), .int (J (pas st c b))]) (rest := []) X (c_X0_timeAt l D k L M (q (30 + c)) (q (40 + c)) b (pas st c b) ⟨cO.1, cO.2.2⟩ c1 ⟨dO.1, dO.2.2⟩ dN (by omega) (by rw [dV b (by omega) (by omega)]; exact I_r hI c b (by omega) (by omega) (by omega) (by omega))) (cwV 2 (sw_ts X) (sw_goodV gw3_44 gw3_45 gw3_46 gw1_12 gw3_47) rfl rfl rfl (by decide +kernel) ⟨Nat.le_of_ble_eq_true rfl, Nat.le_of_ble_eq_true rfl⟩) ⟨cO.1, cO.2.2⟩ (by decide) rfl rfl dX5_record_33 rfl rfl (Nat.le_of_ble_eq_true rfl) ⟨Nat.le_of_ble_eq_true rfl, Nat.le_of_ble_eq_true rfl⟩ (fun z11 w9 hp12 => ?_)
  obtain ⟨rfl, hp12⟩ := hp12
  rw [dV b (by omega) (by omega)] at hp12
  have ht8 : z11 = tim st c b := hp12
  subst ht8
  have htb := tim_b hI (c := c) (g := b) (by omega) (by omega)
  refine sw_istore (lv' := [(5, .int (J (tim st c b))), (4, .ref (q (30 + c))), (0, .ref (q 0)), (1, .int (J c)), (2, .int (J b)), (3, .int (J a))]) X dX5_record_36 (by decide) rfl ?_
  refine sw_aload X dX5_record_38 1 rfl ?_
  refine sw_iload_n X dX5_record_40 rfl 4 rfl ?_
  refine sw_iload_n X dX5_record_41 rfl 5 rfl ?_
  refine px_callVV (C := RX0) (As := [.int (J b), .int (J a)]) (rest := []) X (c_X0_setRecord l D k L M (q (30 + c)) (q (40 + c)) b a ⟨cO.1, cO.2.2⟩ c1 ⟨dO.1, dO.2.2⟩ dN (by omega)) (cwV 2 (sw_ts X) (sw_goodV gw3_53 gw3_54 gw3_55 gw1_12 gw3_56) rfl rfl rfl (by decide +kernel) ⟨Nat.le_of_ble_eq_true rfl, Nat.le_of_ble_eq_true rfl⟩) ⟨cO.1, cO.2.2⟩ (by decide) rfl rfl dX5_record_42 rfl rfl (Nat.le_of_ble_eq_true rfl) ⟨Nat.le_of_ble_eq_true rfl, Nat.le_of_ble_eq_true rfl⟩ (fun w9 hp14 => ?_)
  obtain rfl := hp14
  refine sw_iload X dX5_record_45 0 rfl ?_
  exact RI _ _ _ _ _ _ dX5_record_47 (Nat.le_of_ble_eq_true rfl) (Nat.le_of_ble_eq_true rfl) rfl ⟨by unfold kRecord; split <;> (try split) <;> (try split) <;> omega, rfl, q, L, _, rfl, rfl, CW_rec hI hC (by omega) (by omega) a⟩
abbrev rm_X5_appeal : Room := { frames := 8, cells := 3, slots := 18, locals := 123 }
set_option maxHeartbeats 4000000 in
set_option maxRecDepth 100000 in
theorem c_X5_appeal (l : Launch) (hfl : l.stackTraces = false) (D : va_G) (k : Nat → ClassId) (N : Int) (st : ST) (q : Int → Nat) (L : List Nat) (M : MM) (c b : Int) (hI : I6 N st) (hC : CW st q L M) (h_c : (-2147483648 ≤ c ∧ c < 2147483648)) (h_b : (-2147483648 ≤ b ∧ b < 2147483648)) : XI l yX5_appeal cX5_appeal 5 (some .boolean) rm_X5_appeal D k [.ref (q 0), .int (J c), .int (J b)] (pW k L M) (xP k q (sAppeal st c b) (kAppeal st c b) (vAppeal st c b)) (fun E w' => w' = pW k L M ∧ ((E = "java/lang/IndexOutOfBoundsException" ∧ kAppeal st c b = 1) ∨ (E = "java/lang/IllegalStateException" ∧ kAppeal st c b = 2))) := by
  refine XI.of hfl (by decide +kernel) rfl (Nat.le_of_ble_eq_true rfl) (fun pᵢ eᵢ sᵢ mᵢ argsᵢ belowᵢ methᵢ cᵢ Aᵢ Qᵢ X RI XO_ XT_ => ?_)
  show SW pᵢ l eᵢ rm_X5_appeal sᵢ mᵢ argsᵢ belowᵢ methᵢ cᵢ 5 D Aᵢ 0 0 Qᵢ (pW k L M) 0 [(0, .ref (q 0)), (1, .int (J c)), (2, .int (J b))] []
  have hC2 := hC
  obtain ⟨⟨⟨o0, o1, o2, o3, o4⟩, ⟨n1, n2, n3, n4⟩, ⟨r51, r52, r55, r57, r59⟩, v50, v53, v54, v56, v58⟩, hBk, hCa, hGa, hPa⟩ := hC2
  have i1 := I_st hI
  have i2 := I_en hI
  have i5 := I_ga hI
  have i8 := I_cu hI
  have i9 := I_ca hI
  have i17 := I_pa hI
  refine sw_aload_n X dX5_appeal_0 rfl 0 rfl ?_
  refine sw_iload_n X dX5_appeal_1 rfl 1 rfl ?_
  refine px_xVQ (C := RX5) (As := [.int (J c)]) (rest := []) X (c_X5_carAt l hfl D k N st q (L) (M) c hI hC (by omega)) (cwV 1 (sw_ts X) (sw_goodV gw2_136 gw2_138 gws_5 gw1_1 gw2_139) rfl rfl rfl (by decide +kernel) ⟨Nat.le_of_ble_eq_true rfl, Nat.le_of_ble_eq_true rfl⟩) ⟨o0.1, o0.2.2⟩ (by decide) rfl rfl dX5_appeal_2 rfl rfl (Nat.le_of_ble_eq_true rfl) ⟨Nat.le_of_ble_eq_true rfl, Nat.le_of_ble_eq_true rfl⟩ (fun E9 w9 hx => XO_ _ _ _ _ _ _ _ (Nat.le_of_ble_eq_true rfl) (Nat.le_of_ble_eq_true rfl) (by obtain ⟨rfl, rfl, hx⟩ := hx; exact ⟨rfl, Or.inl ⟨rfl, by unfold kAppeal; split <;> (try split) <;> (try split) <;> omega⟩⟩)) (fun z1 w9 hp2 => ?_)
  obtain ⟨rfl, hrz1, rfl⟩ := hp2
  obtain ⟨hWc, ⟨cO, cR⟩, c0, c1, c2, c3, ⟨dO, dN⟩, dV⟩ := hCa c (by omega) (by omega)
  have hWc2 := hWc
  obtain ⟨⟨⟨wL, wG, wK⟩, w40⟩, w41, w42, w43, w44, ⟨⟨aL, aG, aK⟩, aN⟩, hp⟩ := hWc2
  have k44 := w44.trans (clk_v (st := st) (c := c) (by omega))
  have k42 := w42.trans (cel_v hI (c := c) (by omega))
  have hk9 := clk_b hI (c := c) (by omega) (by omega)
  have hct := I_c hI c (by omega) (by omega)
  refine sw_astore_n (lv' := [(3, .ref (q (30 + c))), (0, .ref (q 0)), (1, .int (J c)), (2, .int (J b))]) X dX5_appeal_5 rfl (by decide) rfl ?_
  refine sw_aload_n X dX5_appeal_6 rfl 1 rfl ?_
  refine sw_iload_n X dX5_appeal_7 rfl 3 rfl ?_
  refine px_xVV (C := RX5) (As := [.int (J b)]) (rest := []) X (c_X5_checkGate l hfl D k N st q (L) (M) b hI hC (by omega)) (cwV 1 (sw_ts X) (sw_goodV gw3_17 gw3_19 gws_11 gw1_1 gw3_20) rfl rfl rfl (by decide +kernel) ⟨Nat.le_of_ble_eq_true rfl, Nat.le_of_ble_eq_true rfl⟩) ⟨o0.1, o0.2.2⟩ (by decide) rfl rfl dX5_appeal_8 rfl rfl (Nat.le_of_ble_eq_true rfl) ⟨Nat.le_of_ble_eq_true rfl, Nat.le_of_ble_eq_true rfl⟩ (fun E9 w9 hx => XO_ _ _ _ _ _ _ _ (Nat.le_of_ble_eq_true rfl) (Nat.le_of_ble_eq_true rfl) (by obtain ⟨rfl, rfl, hx⟩ := hx; exact ⟨rfl, Or.inl ⟨rfl, by unfold kAppeal; split <;> (try split) <;> (try split) <;> omega⟩⟩)) (fun w9 hp4 => ?_)
  obtain ⟨rfl, hrz3⟩ := hp4
  refine sw_aload_n X dX5_appeal_11 rfl 0 rfl ?_
  refine sw_iload_n X dX5_appeal_12 rfl 3 rfl ?_
  refine px_callVI (C := RX0) (As := [.int (J b)]) (rest := []) X (c_X0_recordAt l D k L M (q (30 + c)) (q (40 + c)) b ⟨cO.1, cO.2.2⟩ c1 ⟨dO.1, dO.2.2⟩ dN (by omega)) (cwV 1 (sw_ts X) (sw_goodV gw3_64 gw3_49 gw3_50 gw1_12 gw3_51) rfl rfl rfl (by decide +kernel) ⟨Nat.le_of_ble_eq_true rfl, Nat.le_of_ble_eq_true rfl⟩) ⟨cO.1, cO.2.2⟩ (by decide) rfl rfl dX5_appeal_13 rfl rfl (Nat.le_of_ble_eq_true rfl) ⟨Nat.le_of_ble_eq_true rfl, Nat.le_of_ble_eq_true rfl⟩ (fun z5 w9 hp6 => ?_)
  obtain ⟨rfl, hp6⟩ := hp6
  rw [dV b (by omega) (by omega)] at hp6
  subst hp6
  have hrb := I_r hI c b (by omega) (by omega) (by omega) (by omega)
  refine sw_istore (lv' := [(4, .int (J (st 16 (10 * c + b)))), (3, .ref (q (30 + c))), (0, .ref (q 0)), (1, .int (J c)), (2, .int (J b))]) X dX5_appeal_16 (by decide) rfl ?_
  refine sw_iload X dX5_appeal_18 0 rfl ?_
  refine sw_iconst X dX5_appeal_20 ?_
  refine sw_icmp_eq (tgt := 28) X (by omega) (by omega) dX5_appeal_21 (by decide) (fun h7 => ?_) (fun h7 => ?_)
  · refine sw_iconst X dX5_appeal_28 ?_
    refine sw_xSV (As := [.int (J 0)]) (rest := []) X (c_X5_checkState l hfl D k (pW k L M) 0 (by omega)) (va_cwS 1 (sw_ts X) (sw_goodS gw1_177 gw1_178 gw1_1 gw1_179) rfl rfl rfl (by decide +kernel) ⟨Nat.le_of_ble_eq_true rfl, Nat.le_of_ble_eq_true rfl⟩) dX5_appeal_29 rfl rfl (Nat.le_of_ble_eq_true rfl) ⟨Nat.le_of_ble_eq_true rfl, Nat.le_of_ble_eq_true rfl⟩ (fun E9 w9 hx => XO_ _ _ _ _ _ _ _ (Nat.le_of_ble_eq_true rfl) (Nat.le_of_ble_eq_true rfl) (by obtain ⟨rfl, rfl, hx⟩ := hx; exact ⟨rfl, Or.inr (⟨rfl, by unfold kAppeal; split <;> (try split) <;> (try split) <;> omega⟩)⟩)) (fun w9 hp9 => ?_)
    obtain ⟨rfl, hp9⟩ := hp9
    exact absurd hp9 (by decide)
  · refine sw_iconst X dX5_appeal_24 ?_
    refine sw_goto (tgt := 29) X dX5_appeal_25 (by decide) ?_
    refine sw_xSV (As := [.int (J 1)]) (rest := []) X (c_X5_checkState l hfl D k (pW k L M) 1 (by omega)) (va_cwS 1 (sw_ts X) (sw_goodS gw1_177 gw1_178 gw1_1 gw1_179) rfl rfl rfl (by decide +kernel) ⟨Nat.le_of_ble_eq_true rfl, Nat.le_of_ble_eq_true rfl⟩) dX5_appeal_29 rfl rfl (Nat.le_of_ble_eq_true rfl) ⟨Nat.le_of_ble_eq_true rfl, Nat.le_of_ble_eq_true rfl⟩ (fun E9 w9 hx => XO_ _ _ _ _ _ _ _ (Nat.le_of_ble_eq_true rfl) (Nat.le_of_ble_eq_true rfl) (by obtain ⟨rfl, rfl, hx⟩ := hx; exact ⟨rfl, Or.inr (⟨rfl, by unfold kAppeal; split <;> (try split) <;> (try split) <;> omega⟩)⟩)) (fun w9 hp11 => ?_)
    obtain ⟨rfl, hp11⟩ := hp11
    refine sw_iload X dX5_appeal_32 0 rfl ?_
    refine sw_aload_n X dX5_appeal_34 rfl 2 rfl ?_
    refine sw_aload_n X dX5_appeal_35 rfl 1 rfl ?_
    refine sw_iload_n X dX5_appeal_36 rfl 4 rfl ?_
    refine px_callVI (C := RX5) (As := [.ref (q (30 + c)), .int (J b)]) (rest := [.int (J (st 16 (10 * c + b)))]) X (c_X5_passMinute l D k N st q (L) (M) c b hI hC (by omega) (by omega)) (cwV 2 (sw_ts X) (sw_goodV gw3_21 gw3_23 gws_12 gw1_1 gw3_24) rfl rfl rfl (by decide +kernel) ⟨Nat.le_of_ble_eq_true rfl, Nat.le_of_ble_eq_true rfl⟩) ⟨o0.1, o0.2.2⟩ (by decide) rfl rfl dX5_appeal_37 rfl rfl (Nat.le_of_ble_eq_true rfl) ⟨Nat.le_of_ble_eq_true rfl, Nat.le_of_ble_eq_true rfl⟩ (fun z12 w9 hp13 => ?_)
    obtain ⟨rfl, rfl⟩ := hp13
    have hpb := pas_b hI (c := c) (by omega) b
    refine sw_icmp_ne (tgt := 55) X (by omega) (by omega) dX5_appeal_40 (by decide) (fun h14 => ?_) (fun h14 => ?_)
    · refine sw_aload_n X dX5_appeal_55 rfl 1 rfl ?_
      refine sw_iload_n X dX5_appeal_56 rfl 4 rfl ?_
      refine sw_iconst X dX5_appeal_57 ?_
      refine px_callVV (C := RX0) (As := [.int (J b), .int (J (-1))]) (rest := []) X (c_X0_setRecord l D k L M (q (30 + c)) (q (40 + c)) b (-1) ⟨cO.1, cO.2.2⟩ c1 ⟨dO.1, dO.2.2⟩ dN (by omega)) (cwV 2 (sw_ts X) (sw_goodV gw3_53 gw3_54 gw3_55 gw1_12 gw3_56) rfl rfl rfl (by decide +kernel) ⟨Nat.le_of_ble_eq_true rfl, Nat.le_of_ble_eq_true rfl⟩) ⟨cO.1, cO.2.2⟩ (by decide) rfl rfl dX5_appeal_58 rfl rfl (Nat.le_of_ble_eq_true rfl) ⟨Nat.le_of_ble_eq_true rfl, Nat.le_of_ble_eq_true rfl⟩ (fun w9 hp16 => ?_)
      obtain rfl := hp16
      refine sw_iconst X dX5_appeal_61 ?_
      exact RI _ _ _ _ _ _ dX5_appeal_62 (Nat.le_of_ble_eq_true rfl) (Nat.le_of_ble_eq_true rfl) rfl ⟨by unfold kAppeal; split <;> (try split) <;> (try split) <;> omega, by unfold vAppeal; rw [if_neg (by omega)], q, L, _, rfl, rfl, by unfold sAppeal; rw [if_neg (by omega)]; exact CW_rec hI hC (by omega) (by omega) (-1)⟩
    · refine sw_aload_n X dX5_appeal_43 rfl 1 rfl ?_
      refine sw_dup X dX5_appeal_44 rfl ?_
      refine px_getN (n := "") (d := "") (v := .int (J (st 15 c))) X iw_X0 cO.1 (by decide) cO.2.2 rfl 3 (by decide) (List.mem_of_getElem? (i := 16) rfl) rfl (congrArg (fun z => some (Value.int (J z))) c3) dX5_appeal_45 ?_
      refine sw_iconst X dX5_appeal_48 ?_
      refine sw_iadd X dX5_appeal_49 ?_
      refine px_putN (f := 3) (z := (st 15 c) + 1) X iw_X0 tyX0 tyX0_ok nmX0 cO.1 (by decide) cO.2.2 rfl 3 (by decide) (List.mem_of_getElem? (i := 16) rfl) rfl rfl (ty := .int) (by decide +kernel) rfl rfl (Nat.le_of_ble_eq_true rfl) (by decide) (pS3 _ _ _) dX5_appeal_50 ?_
      refine sw_iconst X dX5_appeal_53 ?_
      exact RI _ _ _ _ _ _ dX5_appeal_54 (Nat.le_of_ble_eq_true rfl) (Nat.le_of_ble_eq_true rfl) rfl ⟨by unfold kAppeal; split <;> (try split) <;> (try split) <;> omega, by unfold vAppeal; rw [if_pos (by omega)], q, L, _, rfl, rfl, by unfold sAppeal; rw [if_pos (by omega)]; exact CW_lost hI hC (by omega) _⟩
theorem tb_end {N : Int} {st : ST} {a i : Int} (hI : I6 N st) (h : 0 ≤ a ∧ a < st 9 0) (hi : 0 ≤ i ∧ i ≤ st 9 0 - 1) (hno : ∀ m : Int, 0 ≤ m → m < i → rk (pts st) m (st 9 0).toNat ≠ a) (hx : i = st 9 0 - 1 ∨ rk (pts st) i (st 9 0).toNat = a) : i = tab st a := by
  obtain ⟨h1, h2, h3, h4⟩ := tab_is hI h
  rcases Int.lt_trichotomy (tab st a) i with y | y | y
  · exact absurd h3 (hno _ h1 y)
  · exact y.symm
  · rcases hx with x | x
    · omega
    · exact absurd x (h4 i hi.1 y)
abbrev rm_X5_table : Room := { frames := 7, cells := 1, slots := 6, locals := 102 }
set_option maxHeartbeats 4000000 in
set_option maxRecDepth 100000 in
theorem c_X5_table (l : Launch) (hfl : l.stackTraces = false) (D : va_G) (k : Nat → ClassId) (N : Int) (st : ST) (q : Int → Nat) (L : List Nat) (M : MM) (a : Int) (hI : I6 N st) (hC : CW st q L M) (h_a : (-2147483648 ≤ a ∧ a < 2147483648)) (hN : N ≤ 100000) : XI l yX5_table cX5_table 3 (some .int) rm_X5_table D k [.ref (q 0), .int (J a)] (pW k L M) (xP k q (st) (kTab st a) (tab st a)) (fun E w' => w' = pW k L M ∧ ((E = "java/lang/IndexOutOfBoundsException" ∧ kTab st a = 1))) := by
  refine XI.of hfl (by decide +kernel) rfl (Nat.le_of_ble_eq_true rfl) (fun pᵢ eᵢ sᵢ mᵢ argsᵢ belowᵢ methᵢ cᵢ Aᵢ Qᵢ X RI XO_ XT_ => ?_)
  show SW pᵢ l eᵢ rm_X5_table sᵢ mᵢ argsᵢ belowᵢ methᵢ cᵢ 3 D Aᵢ 0 0 Qᵢ (pW k L M) 0 [(0, .ref (q 0)), (1, .int (J a))] []
  have hC2 := hC
  obtain ⟨⟨⟨o0, o1, o2, o3, o4⟩, ⟨n1, n2, n3, n4⟩, ⟨r51, r52, r55, r57, r59⟩, v50, v53, v54, v56, v58⟩, hBk, hCa, hGa, hPa⟩ := hC2
  have i1 := I_st hI
  have i2 := I_en hI
  have i5 := I_ga hI
  have i8 := I_cu hI
  have i9 := I_ca hI
  have i17 := I_pa hI
  refine sw_iload_n X dX5_table_0 rfl 1 rfl ?_
  refine sw_iconst X dX5_table_1 ?_
  refine sw_aload_n X dX5_table_2 rfl 0 rfl ?_
  refine px_get (v := .int (J (st 9 0))) X iw_X5 o0.1 (by decide) o0.2.2 rfl 6 (by decide) gw1_63 rfl (congrArg (fun z => some (Value.int (J z))) v56) dX5_table_3 ?_
  refine sw_iconst X dX5_table_6 ?_
  refine sw_isub X dX5_table_7 ?_
  refine sw_callSI0 (As := [.int (J a), .int (J 0), .int (J ((st 9 0) - 1))]) (rest := []) X (c_X5_isWithin l D k (pW k L M) a 0 ((st 9 0) - 1) (by omega)) (va_cwS 3 (sw_ts X) (sw_goodS gw1_102 gw1_103 gw1_1 gw1_104) rfl rfl rfl (by decide +kernel) ⟨Nat.le_of_ble_eq_true rfl, Nat.le_of_ble_eq_true rfl⟩) dX5_table_8 rfl rfl (Nat.le_of_ble_eq_true rfl) ⟨Nat.le_of_ble_eq_true rfl, Nat.le_of_ble_eq_true rfl⟩ (fun z1 w9 hp2 => ?_)
  obtain ⟨rfl, hp2⟩ := hp2
  refine sw_xSV (As := [.int (J z1)]) (rest := []) X (c_X5_checkIndex l hfl D k (pW k L M) z1 (by omega)) (va_cwS 1 (sw_ts X) (sw_goodS gw2_167 gw2_168 gw1_1 gw2_169) rfl rfl rfl (by decide +kernel) ⟨Nat.le_of_ble_eq_true rfl, Nat.le_of_ble_eq_true rfl⟩) dX5_table_11 rfl rfl (Nat.le_of_ble_eq_true rfl) ⟨Nat.le_of_ble_eq_true rfl, Nat.le_of_ble_eq_true rfl⟩ (fun E9 w9 hx => XO_ _ _ _ _ _ _ _ (Nat.le_of_ble_eq_true rfl) (Nat.le_of_ble_eq_true rfl) (by obtain ⟨rfl, rfl, hx⟩ := hx; exact ⟨rfl, ⟨rfl, by unfold kTab; split <;> (try split) <;> (try split) <;> omega⟩⟩)) (fun w9 hp4 => ?_)
  obtain ⟨rfl, hp4⟩ := hp4
  refine sw_iconst X dX5_table_14 ?_
  refine sw_istore_n (lv' := [(2, .int (J 0)), (0, .ref (q 0)), (1, .int (J a))]) X dX5_table_15 rfl (by decide) rfl ?_
  have lp6 : ∀ (n7 : Nat) (M1 : MM) (i : Int), st 9 0 + 1 - i < (n7 : Nat) → (0 ≤ i ∧ i ≤ st 9 0) → (CW st q L M1) → (∀ j : Int, 0 ≤ j → j < i → M1 92 (q 4) j = pts st j) → SW pᵢ l eᵢ rm_X5_table sᵢ mᵢ argsᵢ belowᵢ methᵢ cᵢ 3 D Aᵢ 1 6 Qᵢ (pW k L M1) 16 [(0, .ref (q 0)), (1, .int (J a)), (2, .int (J i))] [] := by
    intro n7
    induction n7 with
    | zero => intro M1 i hm8 hi hC1 hT; exact absurd hm8 (by omega)
    | succ n7 ih5 =>
      intro M1 i hm8 hi hC1 hT
      have hC2 := hC1
      obtain ⟨⟨⟨o0, o1, o2, o3, o4⟩, ⟨n1, n2, n3, n4⟩, ⟨r51, r52, r55, r57, r59⟩, v50, v53, v54, v56, v58⟩, hBk, hCa, hGa, hPa⟩ := hC2
      refine sw_iload_n X dX5_table_16 rfl 2 rfl ?_
      refine sw_aload_n X dX5_table_17 rfl 0 rfl ?_
      refine px_get (M := M1) (v := .int (J (st 9 0))) X iw_X5 o0.1 (by decide) o0.2.2 rfl 6 (by decide) gw1_63 rfl (congrArg (fun z => some (Value.int (J z))) v56) dX5_table_18 ?_
      refine sw_icmp_ge (tgt := 45) X (by omega) (by omega) dX5_table_21 (by decide) (fun h9 => ?_) (fun h9 => ?_)
      · refine sw_iconst X dX5_table_45 ?_
        refine sw_istore_n (lv' := [(2, .int (J 0)), (0, .ref (q 0)), (1, .int (J a))]) X dX5_table_46 rfl (by decide) rfl ?_
        have lp11 : ∀ (n12 : Nat) (f : Int), st 9 0 + 1 - f < (n12 : Nat) → (0 ≤ f ∧ f ≤ st 9 0 - 1) → (∀ m : Int, 0 ≤ m → m < f → rk (pts st) m (st 9 0).toNat ≠ a) → SW pᵢ l eᵢ rm_X5_table sᵢ mᵢ argsᵢ belowᵢ methᵢ cᵢ 3 D Aᵢ 1 6 Qᵢ (pW k L M1) 47 [(0, .ref (q 0)), (1, .int (J a)), (2, .int (J f))] [] := by
          intro n12
          induction n12 with
          | zero => intro f hm13 hf hno; exact absurd hm13 (by omega)
          | succ n12 ih10 =>
            intro f hm13 hf hno
            refine sw_iload_n X dX5_table_47 rfl 2 rfl ?_
            refine sw_aload_n X dX5_table_48 rfl 0 rfl ?_
            refine px_get (M := M1) (v := .int (J (st 9 0))) X iw_X5 o0.1 (by decide) o0.2.2 rfl 6 (by decide) gw1_63 rfl (congrArg (fun z => some (Value.int (J z))) v56) dX5_table_49 ?_
            refine sw_iconst X dX5_table_52 ?_
            refine sw_isub X dX5_table_53 ?_
            refine sw_icmp_ge (tgt := 72) X (by omega) (by omega) dX5_table_54 (by decide) (fun h14 => ?_) (fun h14 => ?_)
            · refine sw_iload_n X dX5_table_72 rfl 2 rfl ?_
              exact RI _ _ _ _ _ _ dX5_table_73 (Nat.le_of_ble_eq_true rfl) (Nat.le_of_ble_eq_true rfl) rfl ⟨by unfold kTab; split <;> (try split) <;> (try split) <;> omega, tb_end hI (by omega) hf hno (by omega), q, L, M1, rfl, rfl, hC1⟩
            · refine sw_aload_n X dX5_table_57 rfl 0 rfl ?_
              refine sw_iload_n X dX5_table_58 rfl 2 rfl ?_
              refine px_callVI (M := M1) (C := RX5) (As := [.int (J f)]) (rest := []) X (c_X5_placeOf l D k N st q L M1 f hI hC1 (by omega) hN (fun j a0 a1 => hT j a0 (by omega))) (cwV 1 (sw_ts X) (sw_goodV gw3_173 gw3_175 gws_16 gw1_1 gw3_176) rfl rfl rfl (by decide +kernel) ⟨Nat.le_of_ble_eq_true rfl, Nat.le_of_ble_eq_true rfl⟩) ⟨o0.1, o0.2.2⟩ (by decide) rfl rfl dX5_table_59 rfl rfl (Nat.le_of_ble_eq_true rfl) ⟨Nat.le_of_ble_eq_true rfl, Nat.le_of_ble_eq_true rfl⟩ (fun z15 w9 hp16 => ?_)
              obtain ⟨rfl, rfl⟩ := hp16
              have hrk := rk_b (pts st) f (st 9 0).toNat
              refine sw_iload_n X dX5_table_62 rfl 1 rfl ?_
              refine sw_icmp_eq (tgt := 72) X (by omega) (by omega) dX5_table_63 (by decide) (fun h17 => ?_) (fun h17 => ?_)
              · refine sw_iload_n X dX5_table_72 rfl 2 rfl ?_
                exact RI _ _ _ _ _ _ dX5_table_73 (Nat.le_of_ble_eq_true rfl) (Nat.le_of_ble_eq_true rfl) rfl ⟨by unfold kTab; split <;> (try split) <;> (try split) <;> omega, tb_end hI (by omega) hf hno (by omega), q, L, M1, rfl, rfl, hC1⟩
              · refine sw_iinc (lv' := [(2, .int (J (f + 1))), (0, .ref (q 0)), (1, .int (J a))]) X dX5_table_66 2 rfl (by decide) rfl ?_
                refine sw_goto (tgt := 47) X dX5_table_69 (by decide) ?_
                refine sw_sub [1, 2, 0] rfl ?_
                exact ih10 (f + 1) (by omega) (by omega) (fun m a0 a1 => by rcases Int.lt_or_le m f with h8 | h8; exact hno m a0 h8; rw [show m = f by omega]; omega)
        refine sw_sub [1, 2, 0] rfl ?_
        exact lp11 (st 9 0 + 1 - 0).toNat.succ 0 (by omega) (by omega) (fun m a0 a1 => absurd a1 (by omega))
      · refine sw_aload_n X dX5_table_24 rfl 0 rfl ?_
        refine px_get (M := M1) (v := .ref (q 4)) X iw_X5 o0.1 (by decide) o0.2.2 rfl 9 (by decide) gw1_66 rfl (congrArg some (rf_of r59)) dX5_table_25 ?_
        refine sw_iload_n X dX5_table_28 rfl 2 rfl ?_
        refine sw_aload_n X dX5_table_29 rfl 0 rfl ?_
        refine sw_aload_n X dX5_table_30 rfl 0 rfl ?_
        refine sw_iload_n X dX5_table_31 rfl 2 rfl ?_
        refine px_callVQ (M := M1) (C := RX5) (As := [.int (J i)]) (rest := [.ref (q 0), .int (J i), .ref (q 4)]) X (c_X5_carAt_n l D k N st q (L) (M1) i hI hC1 (by omega)) (cwV 1 (sw_ts X) (sw_goodV gw2_136 gw2_138 gws_5 gw1_1 gw2_139) rfl rfl rfl (by decide +kernel) ⟨Nat.le_of_ble_eq_true rfl, Nat.le_of_ble_eq_true rfl⟩) ⟨o0.1, o0.2.2⟩ (by decide) rfl rfl dX5_table_32 rfl rfl (Nat.le_of_ble_eq_true rfl) ⟨Nat.le_of_ble_eq_true rfl, Nat.le_of_ble_eq_true rfl⟩ (fun z18 w9 hp19 => ?_)
        obtain ⟨rfl, rfl⟩ := hp19
        obtain ⟨hWc, ⟨cO, cR⟩, c0, c1, c2, c3, ⟨dO, dN⟩, dV⟩ := hCa i (by omega) (by omega)
        have hWc2 := hWc
        obtain ⟨⟨⟨wL, wG, wK⟩, w40⟩, w41, w42, w43, w44, ⟨⟨aL, aG, aK⟩, aN⟩, hp⟩ := hWc2
        have k44 := w44.trans (clk_v (st := st) (c := i) (by omega))
        have k42 := w42.trans (cel_v hI (c := i) (by omega))
        have hk9 := clk_b hI (c := i) (by omega) (by omega)
        have hct := I_c hI i (by omega) (by omega)
        refine px_callVI (M := M1) (C := RX5) (As := [.ref (q (30 + i))]) (rest := [.int (J i), .ref (q 4)]) X (c_X5_pointsOf l D k N st q (L) (M1) i hI hC1 (by omega) hN) (cwV 1 (sw_ts X) (sw_goodV gw3_155 gw3_157 gws_15 gw1_1 gw3_158) rfl rfl rfl (by decide +kernel) ⟨Nat.le_of_ble_eq_true rfl, Nat.le_of_ble_eq_true rfl⟩) ⟨o0.1, o0.2.2⟩ (by decide) rfl rfl dX5_table_35 rfl rfl (Nat.le_of_ble_eq_true rfl) ⟨Nat.le_of_ble_eq_true rfl, Nat.le_of_ble_eq_true rfl⟩ (fun z20 w9 hp21 => ?_)
        obtain ⟨rfl, rfl⟩ := hp21
        refine px_iast (M := M1) X o4.1 o4.2.2 n4 (by omega) (by omega) (by omega) dX5_table_38 ?_
        refine sw_iinc (lv' := [(2, .int (J (i + 1))), (0, .ref (q 0)), (1, .int (J a))]) X dX5_table_39 2 rfl (by decide) rfl ?_
        refine sw_goto (tgt := 16) X dX5_table_42 (by decide) ?_
        refine sw_sub [1, 2, 0] rfl ?_
        exact ih5 (upM M1 92 (q 4) i (pts st i)) (i + 1) (by omega) (by omega) (CW_tot hI hC1 _ _) (fun j a0 a1 => by rw [upM_x]; by_cases e : j = i; rw [if_pos ⟨rfl, rfl, e⟩, e]; rw [if_neg (fun z => e z.2.2)]; exact hT j a0 (by omega))
  refine sw_sub [1, 2, 0] rfl ?_
  exact lp6 (st 9 0 + 1 - 0).toNat.succ M 0 (by omega) (by omega) (hC) (fun j a0 a1 => absurd a1 (by omega))
