/-! the reference's table; byTrack -/
def kTab (st : ST) (a : Int) : Int := if 0 ≤ a ∧ a < st 9 0 then 0 else 1
abbrev rm_X6_byTrack : Room := { frames := 5, cells := 0, slots := 0, locals := 111 }
set_option maxHeartbeats 4000000 in
set_option maxRecDepth 100000 in
theorem c_X6_byTrack (l : Launch) (D : va_G) (k : Nat → ClassId) (N : Int) (ad : Nat → Nat) (st : Nat → Int → Int) (tl : Int → Int) (t x y h : Int) (c b : Int) (hI : I6 N st) (h_c : (-2147483648 ≤ c ∧ c < 2147483648)) (h_b : (-2147483648 ≤ b ∧ b < 2147483648)) : CI l yX6_byTrack cX6_byTrack 3 (some .int) rm_X6_byTrack D k [.ref (ad 0), .int (J c), .int (J b)] (mW k ad st tl t x y h) (oP k ad st (st) (kCG st c b) (pas st c b)) := by
  refine CI.of (by decide +kernel) (Nat.le_of_ble_eq_true rfl) (fun pᵢ eᵢ sᵢ mᵢ argsᵢ belowᵢ methᵢ cᵢ Aᵢ Qᵢ X RI => ?_)
  show SW pᵢ l eᵢ rm_X6_byTrack sᵢ mᵢ argsᵢ belowᵢ methᵢ cᵢ 3 D Aᵢ 0 0 Qᵢ (mW k ad st tl t x y h) 0 [(0, .ref (ad 0)), (1, .int (J c)), (2, .int (J b))] []
  refine sw_aload_n X dX6_byTrack_0 rfl 0 rfl ?_
  refine sw_iload_n X dX6_byTrack_1 rfl 1 rfl ?_
  refine sw_iload_n X dX6_byTrack_2 rfl 2 rfl ?_
  refine sw_callVI0 (C := RX6) (As := [.int (J c), .int (J b)]) (rest := []) X (c_X6_byMinutes l D k N ad st tl t x y h c b hI (by omega) (by omega)) (cwV 2 (sw_ts X) (sw_goodV gw4_206 gw4_207 gw4_208 gw1_3 gw4_209) rfl rfl rfl (by decide +kernel) ⟨Nat.le_of_ble_eq_true rfl, Nat.le_of_ble_eq_true rfl⟩) 0 (ci := 6) rfl rfl rfl dX6_byTrack_3 rfl rfl (Nat.le_of_ble_eq_true rfl) ⟨Nat.le_of_ble_eq_true rfl, Nat.le_of_ble_eq_true rfl⟩ (fun z1 w9 hp2 => ?_)
  exact RI _ _ _ _ _ _ dX6_byTrack_6 (by decide) (by decide) rfl hp2
abbrev rm_X6_table : Room := { frames := 4, cells := 0, slots := 0, locals := 93 }
set_option maxHeartbeats 4000000 in
set_option maxRecDepth 100000 in
theorem c_X6_table (l : Launch) (D : va_G) (k : Nat → ClassId) (N : Int) (ad : Nat → Nat) (st : Nat → Int → Int) (tl : Int → Int) (t x y h : Int) (a : Int) (hN : N ≤ 512) (hI : I6 N st) (h_a : (-2147483648 ≤ a ∧ a < 2147483648)) : CI l yX6_table cX6_table 6 (some .int) rm_X6_table D k [.ref (ad 0), .int (J a)] (mW k ad st tl t x y h) (oP k ad st (st) (kTab st a) (tab st a)) := by
  refine CI.of (by decide +kernel) (Nat.le_of_ble_eq_true rfl) (fun pᵢ eᵢ sᵢ mᵢ argsᵢ belowᵢ methᵢ cᵢ Aᵢ Qᵢ X RI => ?_)
  show SW pᵢ l eᵢ rm_X6_table sᵢ mᵢ argsᵢ belowᵢ methᵢ cᵢ 6 D Aᵢ 0 0 Qᵢ (mW k ad st tl t x y h) 0 [(0, .ref (ad 0)), (1, .int (J a))] []
  have hS_ := I_st hI
  have hE_ := I_en hI
  have hG_ := I_ga hI
  have hU_ := I_cu hI
  have hC_ := I_ca hI
  have hP_ := I_pa hI
  refine sw_aload_n X dX6_table_0 rfl 0 rfl ?_
  refine sw_iload_n X dX6_table_1 rfl 1 rfl ?_
  refine sw_iconst X dX6_table_2 ?_
  refine sw_aload_n X dX6_table_3 rfl 0 rfl ?_
  refine sw_get (q0 := 0) (v := .int (J (st 9 0))) X iw_X6 rfl rfl 9 (by decide) gw3_217 rfl rfl dX6_table_4 ?_
  refine sw_iconst X dX6_table_7 ?_
  refine sw_isub X dX6_table_8 ?_
  refine sw_callSI0 (As := [.int (J a), .int (J 0), .int (J ((st 9 0) - 1))]) (rest := [.ref (ad 0)]) X (c_X6_in l D k (mW k ad st tl t x y h) a 0 ((st 9 0) - 1) (by omega)) (va_cwS 3 (sw_ts X) (sw_goodS gw4_55 gw4_56 gw1_3 gw4_57) rfl rfl rfl (by decide +kernel) ⟨Nat.le_of_ble_eq_true rfl, Nat.le_of_ble_eq_true rfl⟩) dX6_table_9 rfl rfl (Nat.le_of_ble_eq_true rfl) ⟨Nat.le_of_ble_eq_true rfl, Nat.le_of_ble_eq_true rfl⟩ (fun z1 w9 hp2 => ?_)
  obtain ⟨rfl, hp2⟩ := hp2
  refine sw_if_eq (tgt := 19) X (by omega) dX6_table_12 (by decide) (fun h3 => ?_) (fun h3 => ?_)
  · refine sw_iconst X dX6_table_19 ?_
    refine sw_callVI0 (C := RX6) (As := [.int (J 1)]) (rest := []) X (c_X6_goesWell l D k ad st tl t x y h 1 (by omega)) (cwV 1 (sw_ts X) (sw_goodV gw4_58 gw4_60 gws_17 gw1_3 gw4_61) rfl rfl rfl (by decide +kernel) ⟨Nat.le_of_ble_eq_true rfl, Nat.le_of_ble_eq_true rfl⟩) 0 (ci := 6) rfl rfl rfl dX6_table_20 rfl rfl (Nat.le_of_ble_eq_true rfl) ⟨Nat.le_of_ble_eq_true rfl, Nat.le_of_ble_eq_true rfl⟩ (fun z4 w9 hp5 => ?_)
    obtain ⟨rfl, hp5⟩ := hp5
    obtain rfl : z4 = 0 := by omega
    clear hp5
    refine sw_if_ne (tgt := 28) X (by omega) dX6_table_23 (by decide) (fun h6 => ?_) (fun h6 => ?_)
    · exfalso; revert h6; decide
    · refine sw_iconst X dX6_table_26 ?_
      exact RI _ _ _ _ _ _ dX6_table_27 (by decide) (by decide) rfl (Or.inl ⟨_, _, _, _, _, rfl, by decide, by unfold kTab; rw [if_neg (by omega)]⟩)
  · refine sw_iconst X dX6_table_15 ?_
    refine sw_goto (tgt := 20) X dX6_table_16 (by decide) ?_
    refine sw_callVI0 (C := RX6) (As := [.int (J 0)]) (rest := []) X (c_X6_goesWell l D k ad st tl t x y h 0 (by omega)) (cwV 1 (sw_ts X) (sw_goodV gw4_58 gw4_60 gws_17 gw1_3 gw4_61) rfl rfl rfl (by decide +kernel) ⟨Nat.le_of_ble_eq_true rfl, Nat.le_of_ble_eq_true rfl⟩) 0 (ci := 6) rfl rfl rfl dX6_table_20 rfl rfl (Nat.le_of_ble_eq_true rfl) ⟨Nat.le_of_ble_eq_true rfl, Nat.le_of_ble_eq_true rfl⟩ (fun z7 w9 hp8 => ?_)
    obtain ⟨rfl, hp8⟩ := hp8
    obtain rfl : z7 = 1 := by omega
    clear hp8
    refine sw_if_ne (tgt := 28) X (by omega) dX6_table_23 (by decide) (fun h9 => ?_) (fun h9 => ?_)
    · refine sw_iconst X dX6_table_28 ?_
      refine sw_istore_n (lv' := [(2, .int (J 0)), (0, .ref (ad 0)), (1, .int (J a))]) X dX6_table_29 rfl (by decide) rfl ?_
      have lp11 : ∀ (n12 : Nat) (T : Int → Int) (i u v g : Int), st 9 0 - i < (n12 : Nat) → (0 ≤ i ∧ i ≤ st 9 0) → (∀ q, 0 ≤ q → q < i → T q = pts st q) → SW pᵢ l eᵢ rm_X6_table sᵢ mᵢ argsᵢ belowᵢ methᵢ cᵢ 6 D Aᵢ 0 0 Qᵢ (mW k ad st T 0 u v g) 30 [(0, .ref (ad 0)), (1, .int (J a)), (2, .int (J i))] [] := by
        intro n12
        induction n12 with
        | zero => intro T i u v g hm13 hi hT; exact absurd hm13 (by omega)
        | succ n12 ih10 =>
          intro T i u v g hm13 hi hT
          refine sw_iload_n X dX6_table_30 rfl 2 rfl ?_
          refine sw_aload_n X dX6_table_31 rfl 0 rfl ?_
          refine sw_get (q0 := 0) (v := .int (J (st 9 0))) X iw_X6 rfl rfl 9 (by decide) gw3_217 rfl rfl dX6_table_32 ?_
          refine sw_icmp_ge (tgt := 55) X (by omega) (by omega) dX6_table_35 (by decide) (fun h14 => ?_) (fun h14 => ?_)
          · refine sw_iconst X dX6_table_55 ?_
            refine sw_istore_n (lv' := [(2, .int (J 0)), (0, .ref (ad 0)), (1, .int (J a))]) X dX6_table_56 rfl (by decide) rfl ?_
            have lp16 : ∀ (n17 : Nat) (i2 : Int), st 9 0 - i2 < (n17 : Nat) → (0 ≤ i2 ∧ i2 ≤ st 9 0) → (∀ q, 0 ≤ q → q < i2 → rk (pts st) q (st 9 0).toNat ≠ a) → SW pᵢ l eᵢ rm_X6_table sᵢ mᵢ argsᵢ belowᵢ methᵢ cᵢ 6 D Aᵢ 0 0 Qᵢ (mW k ad st T 0 u v g) 57 [(0, .ref (ad 0)), (1, .int (J a)), (2, .int (J i2))] [] := by
              intro n17
              induction n17 with
              | zero => intro i2 hm18 hi2 hno; exact absurd hm18 (by omega)
              | succ n17 ih15 =>
                intro i2 hm18 hi2 hno
                refine sw_iload_n X dX6_table_57 rfl 2 rfl ?_
                refine sw_aload_n X dX6_table_58 rfl 0 rfl ?_
                refine sw_get (q0 := 0) (v := .int (J (st 9 0))) X iw_X6 rfl rfl 9 (by decide) gw3_217 rfl rfl dX6_table_59 ?_
                refine sw_icmp_ge (tgt := 138) X (by omega) (by omega) dX6_table_62 (by decide) (fun h19 => ?_) (fun h19 => ?_)
                · refine sw_iconst X dX6_table_138 ?_
                  exact RI _ _ _ _ _ _ dX6_table_139 (by decide) (by decide) rfl (by obtain ⟨q1, q2, q3, q4⟩ := tab_is hI (a := a) (by omega); exact absurd q3 (hno _ q1 (by omega)))
                · refine sw_iconst X dX6_table_65 ?_
                  refine sw_istore_n (lv' := [(3, .int (J 0)), (0, .ref (ad 0)), (1, .int (J a)), (2, .int (J i2))]) X dX6_table_66 rfl (by decide) rfl ?_
                  refine sw_iconst X dX6_table_67 ?_
                  refine sw_istore (lv' := [(4, .int (J 0)), (3, .int (J 0)), (0, .ref (ad 0)), (1, .int (J a)), (2, .int (J i2))]) X dX6_table_68 (by decide) rfl ?_
                  have lp21 : ∀ (n22 : Nat) (n : Nat) (sm o : Int), st 9 0 - (n : Int) < (n22 : Nat) → (o = (n : Int)) → ((n : Int) ≤ st 9 0) → (sm = rk (pts st) i2 n) → SW pᵢ l eᵢ rm_X6_table sᵢ mᵢ argsᵢ belowᵢ methᵢ cᵢ 6 D Aᵢ 0 0 Qᵢ (mW k ad st T 0 u v g) 70 [(0, .ref (ad 0)), (1, .int (J a)), (2, .int (J i2)), (3, .int (J sm)), (4, .int (J o))] [] := by
                    intro n22
                    induction n22 with
                    | zero => intro n sm o hm23 ho hn hs; exact absurd hm23 (by omega)
                    | succ n22 ih20 =>
                      intro n sm o hm23 ho hn hs
                      refine sw_iload X dX6_table_70 4 rfl ?_
                      refine sw_aload_n X dX6_table_72 rfl 0 rfl ?_
                      refine sw_get (q0 := 0) (v := .int (J (st 9 0))) X iw_X6 rfl rfl 9 (by decide) gw3_217 rfl rfl dX6_table_73 ?_
                      refine sw_icmp_ge (tgt := 125) X (by omega) (by omega) dX6_table_76 (by decide) (fun h24 => ?_) (fun h24 => ?_)
                      · have hsb := rk_b (pts st) i2 n
                        refine sw_iload_n X dX6_table_125 rfl 3 rfl ?_
                        refine sw_iload_n X dX6_table_126 rfl 1 rfl ?_
                        refine sw_icmp_ne (tgt := 132) X (by omega) (by omega) dX6_table_127 (by decide) (fun h25 => ?_) (fun h25 => ?_)
                        · refine sw_iinc (lv' := [(2, .int (J (i2 + 1))), (0, .ref (ad 0)), (1, .int (J a)), (3, .int (J sm)), (4, .int (J o))]) X dX6_table_132 2 rfl (by decide) rfl ?_
                          refine sw_goto (tgt := 57) X dX6_table_135 (by decide) ?_
                          refine sw_sub [1, 2, 0] rfl ?_
                          exact ih15 (i2 + 1) (by omega) (by omega) (fun q q1 q2 => by rcases Int.lt_or_le q i2 with q3 | q3; exact hno q q1 q3; rw [show q = i2 by omega, show (st 9 0).toNat = n by omega, ← hs]; omega)
                        · refine sw_iload_n X dX6_table_130 rfl 2 rfl ?_
                          exact RI _ _ _ _ _ _ dX6_table_131 (by decide) (by decide) rfl (Or.inr ⟨_, _, _, _, rfl, by unfold kTab; rw [if_pos (by omega)], fF_eq (Int.le_refl 0) (Or.inr ⟨hi2.1, by omega, by show rk (pts st) i2 (st 9 0).toNat = a; rw [show (st 9 0).toNat = n by omega, ← hs]; omega, hno⟩)⟩)
                      · have hT1 := hT o (by omega) (by omega)
                        have hT2 := hT i2 (by omega) (by omega)
                        have hb1 := pts_bb hI (c := o) (by omega)
                        have hb2 := pts_bb hI (c := i2) (by omega)
                        refine sw_aload_n X dX6_table_79 rfl 0 rfl ?_
                        refine sw_get (q0 := 0) (v := .ref (ad 22)) X iw_X6 rfl rfl 22 (by decide) gw3_230 rfl rfl dX6_table_80 ?_
                        refine sw_iload X dX6_table_83 4 rfl ?_
                        refine sw_iald (q0 := 16) (n := 8) X rfl (by omega) (by omega) (by decide) dX6_table_85 ?_
                        refine sw_aload_n X dX6_table_86 rfl 0 rfl ?_
                        refine sw_get (q0 := 0) (v := .ref (ad 22)) X iw_X6 rfl rfl 22 (by decide) gw3_230 rfl rfl dX6_table_87 ?_
                        refine sw_iload_n X dX6_table_90 rfl 2 rfl ?_
                        refine sw_iald (q0 := 16) (n := 8) X rfl (by omega) (by omega) (by decide) dX6_table_91 ?_
                        refine sw_isub X dX6_table_92 ?_
                        refine sw_istore (lv' := [(5, .int (J ((T o) - (T i2)))), (0, .ref (ad 0)), (1, .int (J a)), (2, .int (J i2)), (3, .int (J sm)), (4, .int (J o))]) X dX6_table_93 (by decide) rfl ?_
                        refine sw_iload_n X dX6_table_95 rfl 4 rfl ?_
                        refine sw_iload X dX6_table_96 0 rfl ?_
                        have jn26 : ∀ (x8 : Int), (x8 = rk1 (pts st) i2 o) → SW pᵢ l eᵢ rm_X6_table sᵢ mᵢ argsᵢ belowᵢ methᵢ cᵢ 6 D Aᵢ 0 0 Qᵢ (mW k ad st T 0 u v g) 117 [(0, .ref (ad 0)), (1, .int (J a)), (2, .int (J i2)), (3, .int (J sm)), (4, .int (J o)), (5, .int (J ((T o) - (T i2))))] [.int (J x8), .int (J sm)] := by
                          intro x8 hx8
                          refine sw_iadd X dX6_table_117 ?_
                          refine sw_istore_n (lv' := [(3, .int (J (sm + x8))), (0, .ref (ad 0)), (1, .int (J a)), (2, .int (J i2)), (4, .int (J o)), (5, .int (J ((T o) - (T i2))))]) X dX6_table_118 rfl (by decide) rfl ?_
                          refine sw_iinc (lv' := [(4, .int (J (o + 1))), (3, .int (J (sm + x8))), (0, .ref (ad 0)), (1, .int (J a)), (2, .int (J i2)), (5, .int (J ((T o) - (T i2))))]) X dX6_table_119 4 rfl (by decide) rfl ?_
                          refine sw_goto (tgt := 70) X dX6_table_122 (by decide) ?_
                          refine sw_sub [2, 3, 4, 1, 0] rfl ?_
                          exact ih20 (n + 1) (sm + x8) (o + 1) (by omega) (by omega) (by omega) (by rw [rk_s, hs, hx8, ho])
                        refine sw_if_lt (tgt := 112) X (by omega) dX6_table_98 (by decide) (fun h27 => ?_) (fun h27 => ?_)
                        · refine sw_iconst X dX6_table_112 ?_
                          refine sw_goto (tgt := 117) X dX6_table_113 (by decide) ?_
                          refine sw_sub [1, 2, 3, 4, 5, 0] rfl ?_
                          exact jn26 1 (by unfold rk1; split <;> omega)
                        · refine sw_iload X dX6_table_101 0 rfl ?_
                          refine sw_if_ne (tgt := 116) X (by omega) dX6_table_103 (by decide) (fun h28 => ?_) (fun h28 => ?_)
                          · refine sw_iconst X dX6_table_116 ?_
                            refine sw_sub [1, 2, 3, 4, 5, 0] rfl ?_
                            exact jn26 0 (by unfold rk1; split <;> omega)
                          · refine sw_iload X dX6_table_106 5 rfl ?_
                            refine sw_iload_n X dX6_table_108 rfl 3 rfl ?_
                            refine sw_icmp_ge (tgt := 116) X (by omega) (by omega) dX6_table_109 (by decide) (fun h29 => ?_) (fun h29 => ?_)
                            · refine sw_iconst X dX6_table_116 ?_
                              refine sw_sub [1, 2, 3, 4, 5, 0] rfl ?_
                              exact jn26 0 (by unfold rk1; split <;> omega)
                            · refine sw_iconst X dX6_table_112 ?_
                              refine sw_goto (tgt := 117) X dX6_table_113 (by decide) ?_
                              refine sw_sub [1, 2, 3, 4, 5, 0] rfl ?_
                              exact jn26 1 (by unfold rk1; split <;> omega)
                  refine sw_sub [2, 3, 4, 1, 0] rfl ?_
                  exact lp21 (st 9 0 - (0 : Int)).toNat.succ 0 0 0 (by omega) (rfl) (by omega) (rfl)
            refine sw_sub [1, 2, 0] rfl ?_
            exact lp16 (st 9 0 - 0).toNat.succ 0 (by omega) (by omega) (fun q q1 q2 => by omega)
          · refine sw_aload_n X dX6_table_38 rfl 0 rfl ?_
            refine sw_get (q0 := 0) (v := .ref (ad 22)) X iw_X6 rfl rfl 22 (by decide) gw3_230 rfl rfl dX6_table_39 ?_
            refine sw_iload_n X dX6_table_42 rfl 2 rfl ?_
            refine sw_aload_n X dX6_table_43 rfl 0 rfl ?_
            refine sw_iload_n X dX6_table_44 rfl 2 rfl ?_
            refine sw_callVI0 (C := RX6) (As := [.int (J i)]) (rest := [.int (J i), .ref (ad 22)]) X (c_X6_pointsOf l D k N ad st T 0 u v g i hI (by omega)) (cwV 1 (sw_ts X) (sw_goodV gw4_219 gw4_221 gws_35 gw1_3 gw4_222) rfl rfl rfl (by decide +kernel) ⟨Nat.le_of_ble_eq_true rfl, Nat.le_of_ble_eq_true rfl⟩) 0 (ci := 6) rfl rfl rfl dX6_table_45 rfl rfl (Nat.le_of_ble_eq_true rfl) ⟨Nat.le_of_ble_eq_true rfl, Nat.le_of_ble_eq_true rfl⟩ (fun z30 w9 hp31 => ?_)
            obtain ⟨u32, v33, g34, rfl, rfl⟩ := hp31
            refine sw_iast (q0 := 16) (n := 8) X rfl (by omega) (by omega) (by decide) mW_a22 dX6_table_48 ?_
            refine sw_iinc (lv' := [(2, .int (J (i + 1))), (0, .ref (ad 0)), (1, .int (J a))]) X dX6_table_49 2 rfl (by decide) rfl ?_
            refine sw_goto (tgt := 30) X dX6_table_52 (by decide) ?_
            refine sw_sub [1, 2, 0] rfl ?_
            exact ih10 (upI T i (pts st i)) (i + 1) u32 v33 g34 (by omega) (by omega) (fun q q1 q2 => by rw [upI_x]; split; (rename_i e; rw [e]); exact hT q q1 (by omega))
      refine sw_sub [1, 2, 0] rfl ?_
      exact lp11 (st 9 0 - 0).toNat.succ tl 0 x y h (by omega) (by omega) (fun q q1 q2 => by omega)
    · exfalso; revert h9; decide
