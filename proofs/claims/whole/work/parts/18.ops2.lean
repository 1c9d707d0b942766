/-! the rest of the reference's calls -/
theorem fol_skip {st : ST} {c : Int} {n : Nat} {i mn of : Int} (hi : i = 60 * c + (n : Int)) (hF : mn = (folS st c n).1 ∧ of = (folS st c n).2) (h : st 11 i = -1 ∨ ¬ of = 0) : mn = (folS st c (n + 1)).1 ∧ of = (folS st c (n + 1)).2 := by
  subst hi
  unfold folS
  rw [if_neg (by omega)]
  exact hF
theorem fol_take {st : ST} {c : Int} {n : Nat} {i mn of z mn2 : Int} (hi : i = 60 * c + (n : Int)) (hF : mn = (folS st c n).1 ∧ of = (folS st c n).2) (h : ¬ st 11 i = -1) (h0 : of = 0) (hz : (z = 1 ∧ (mn = st 2 0 ∨ st 11 i ≠ st 3 mn ∨ st 13 i ≠ st 4 mn)) ∨ (z = 0 ∧ ¬ (mn = st 2 0 ∨ st 11 i ≠ st 3 mn ∨ st 13 i ≠ st 4 mn))) (hm : (z = 1 ∧ mn2 = mn) ∨ (z = 0 ∧ mn2 = mn + 1)) : mn2 = (folS st c (n + 1)).1 ∧ z = (folS st c (n + 1)).2 := by
  subst hi
  obtain ⟨rfl, rfl⟩ := hF
  unfold folS
  rw [if_pos ⟨h, h0⟩]
  rcases hz with ⟨rfl, q⟩ | ⟨rfl, q⟩
  · rw [if_pos q]
    exact ⟨by dsimp only; omega, rfl⟩
  · rw [if_neg q]
    exact ⟨by dsimp only; omega, rfl⟩
abbrev rm_X6_appeal : Room := { frames := 4, cells := 0, slots := 0, locals := 89 }
set_option maxHeartbeats 4000000 in
set_option maxRecDepth 100000 in
theorem c_X6_appeal (l : Launch) (D : va_G) (k : Nat → ClassId) (N : Int) (ad : Nat → Nat) (st : Nat → Int → Int) (tl : Int → Int) (t x y h : Int) (c b : Int) (hI : I6 N st) (h_c : (-2147483648 ≤ c ∧ c < 2147483648)) (h_b : (-2147483648 ≤ b ∧ b < 2147483648)) : CI l yX6_appeal cX6_appeal 5 (some .boolean) rm_X6_appeal D k [.ref (ad 0), .int (J c), .int (J b)] (mW k ad st tl t x y h) (oP k ad st (sAppeal st c b) (kAppeal st c b) (vAppeal st c b)) := by
  refine CI.of (by decide +kernel) (Nat.le_of_ble_eq_true rfl) (fun pᵢ eᵢ sᵢ mᵢ argsᵢ belowᵢ methᵢ cᵢ Aᵢ Qᵢ X RI => ?_)
  show SW pᵢ l eᵢ rm_X6_appeal sᵢ mᵢ argsᵢ belowᵢ methᵢ cᵢ 5 D Aᵢ 0 0 Qᵢ (mW k ad st tl t x y h) 0 [(0, .ref (ad 0)), (1, .int (J c)), (2, .int (J b))] []
  have hS_ := I_st hI
  have hE_ := I_en hI
  have hG_ := I_ga hI
  have hU_ := I_cu hI
  have hC_ := I_ca hI
  have hP_ := I_pa hI
  refine sw_aload_n X dX6_appeal_0 rfl 0 rfl ?_
  refine sw_iload_n X dX6_appeal_1 rfl 1 rfl ?_
  refine sw_callVI0 (C := RX6) (As := [.int (J c)]) (rest := []) X (c_X6_isCar l D k ad st tl t x y h c (by omega) (by omega)) (cwV 1 (sw_ts X) (sw_goodV gw4_102 gw4_104 gws_23 gw1_3 gw4_105) rfl rfl rfl (by decide +kernel) ⟨Nat.le_of_ble_eq_true rfl, Nat.le_of_ble_eq_true rfl⟩) 0 (ci := 6) rfl rfl rfl dX6_appeal_2 rfl rfl (Nat.le_of_ble_eq_true rfl) ⟨Nat.le_of_ble_eq_true rfl, Nat.le_of_ble_eq_true rfl⟩ (fun z1 w9 hp2 => ?_)
  obtain ⟨rfl, hp2⟩ := hp2
  have jn3 : ∀ (z9 : Int), ((z9 = 1 ∧ (0 ≤ c ∧ c < st 9 0) ∧ 0 ≤ b ∧ b < st 5 0) ∨ (z9 = 0 ∧ ¬ ((0 ≤ c ∧ c < st 9 0) ∧ 0 ≤ b ∧ b < st 5 0))) → SW pᵢ l eᵢ rm_X6_appeal sᵢ mᵢ argsᵢ belowᵢ methᵢ cᵢ 5 D Aᵢ 0 0 Qᵢ (mW k ad st tl t x y h) 21 [(0, .ref (ad 0)), (1, .int (J c)), (2, .int (J b))] [.int (J z9)] := by
    intro z9 hz9
    refine sw_istore_n (lv' := [(3, .int (J z9)), (0, .ref (ad 0)), (1, .int (J c)), (2, .int (J b))]) X dX6_appeal_21 rfl (by decide) rfl ?_
    refine sw_aload_n X dX6_appeal_22 rfl 1 rfl ?_
    refine sw_iload_n X dX6_appeal_23 rfl 0 rfl ?_
    refine sw_if_ne (tgt := 31) X (by omega) dX6_appeal_24 (by decide) (fun h4 => ?_) (fun h4 => ?_)
    · have hrr := I_r hI c b (by omega) (by omega) (by omega) (by omega)
      refine sw_aload_n X dX6_appeal_31 rfl 1 rfl ?_
      refine sw_get (q0 := 0) (v := .ref (ad 16)) X iw_X6 rfl rfl 16 (by decide) gw3_224 rfl rfl dX6_appeal_32 ?_
      refine sw_bipush X dX6_appeal_35 (by decide +kernel) ?_
      refine sw_iload_n X dX6_appeal_37 rfl 2 rfl ?_
      refine sw_imul X dX6_appeal_38 ?_
      refine sw_iload_n X dX6_appeal_39 rfl 3 rfl ?_
      refine sw_iadd X dX6_appeal_40 ?_
      refine sw_iald (q0 := 11) (n := 80) X rfl (by omega) (by omega) (by decide) dX6_appeal_41 ?_
      refine sw_iconst X dX6_appeal_42 ?_
      refine sw_icmp_ne (tgt := 50) X (by omega) (by omega) dX6_appeal_43 (by decide) (fun h5 => ?_) (fun h5 => ?_)
      · refine sw_iconst X dX6_appeal_50 ?_
        refine sw_callVI0 (C := RX6) (As := [.int (J 0)]) (rest := []) X (c_X6_goesWell l D k ad st tl t x y h 0 (by omega)) (cwV 1 (sw_ts X) (sw_goodV gw4_58 gw4_60 gws_17 gw1_3 gw4_61) rfl rfl rfl (by decide +kernel) ⟨Nat.le_of_ble_eq_true rfl, Nat.le_of_ble_eq_true rfl⟩) 0 (ci := 6) rfl rfl rfl dX6_appeal_51 rfl rfl (Nat.le_of_ble_eq_true rfl) ⟨Nat.le_of_ble_eq_true rfl, Nat.le_of_ble_eq_true rfl⟩ (fun z6 w9 hp7 => ?_)
        obtain ⟨rfl, hp7⟩ := hp7
        obtain rfl : z6 = 1 := by omega
        clear hp7
        refine sw_if_ne (tgt := 59) X (by omega) dX6_appeal_54 (by decide) (fun h8 => ?_) (fun h8 => ?_)
        · refine sw_aload_n X dX6_appeal_59 rfl 1 rfl ?_
          refine sw_get (q0 := 0) (v := .ref (ad 16)) X iw_X6 rfl rfl 16 (by decide) gw3_224 rfl rfl dX6_appeal_60 ?_
          refine sw_bipush X dX6_appeal_63 (by decide +kernel) ?_
          refine sw_iload_n X dX6_appeal_65 rfl 2 rfl ?_
          refine sw_imul X dX6_appeal_66 ?_
          refine sw_iload_n X dX6_appeal_67 rfl 3 rfl ?_
          refine sw_iadd X dX6_appeal_68 ?_
          refine sw_iald (q0 := 11) (n := 80) X rfl (by omega) (by omega) (by decide) dX6_appeal_69 ?_
          have hpb := pas_b hI (c := c) (by omega) b
          refine sw_aload_n X dX6_appeal_70 rfl 1 rfl ?_
          refine sw_iload_n X dX6_appeal_71 rfl 2 rfl ?_
          refine sw_iload_n X dX6_appeal_72 rfl 3 rfl ?_
          refine sw_callVI0 (C := RX6) (As := [.int (J c), .int (J b)]) (rest := [.int (J (st 16 ((10 * c) + b)))]) X (c_X6_passedAt l D k N ad st tl 0 x y h c b hI (by omega) (by omega)) (cwV 2 (sw_ts X) (sw_goodV gw4_158 gw4_160 gws_31 gw1_3 gw4_161) rfl rfl rfl (by decide +kernel) ⟨Nat.le_of_ble_eq_true rfl, Nat.le_of_ble_eq_true rfl⟩) 0 (ci := 6) rfl rfl rfl dX6_appeal_73 rfl rfl (Nat.le_of_ble_eq_true rfl) ⟨Nat.le_of_ble_eq_true rfl, Nat.le_of_ble_eq_true rfl⟩ (fun z9 w9 hp10 => ?_)
          obtain ⟨u11, v12, g13, rfl, rfl⟩ := hp10
          have jn14 : ∀ (z8 : Int), ((z8 = 1 ∧ ¬ st 16 (10 * c + b) = pas st c b) ∨ (z8 = 0 ∧ st 16 (10 * c + b) = pas st c b)) → SW pᵢ l eᵢ rm_X6_appeal sᵢ mᵢ argsᵢ belowᵢ methᵢ cᵢ 5 D Aᵢ 0 0 Qᵢ (mW k ad st tl 0 u11 v12 g13) 84 [(0, .ref (ad 0)), (1, .int (J c)), (2, .int (J b)), (3, .int (J z9))] [.int (J z8)] := by
            intro z8 hz8
            refine sw_istore (lv' := [(4, .int (J z8)), (0, .ref (ad 0)), (1, .int (J c)), (2, .int (J b)), (3, .int (J z9))]) X dX6_appeal_84 (by decide) rfl ?_
            refine sw_aload_n X dX6_appeal_86 rfl 1 rfl ?_
            refine sw_get (q0 := 0) (v := .ref (ad 16)) X iw_X6 rfl rfl 16 (by decide) gw3_224 rfl rfl dX6_appeal_87 ?_
            refine sw_bipush X dX6_appeal_90 (by decide +kernel) ?_
            refine sw_iload_n X dX6_appeal_92 rfl 2 rfl ?_
            refine sw_imul X dX6_appeal_93 ?_
            refine sw_iload_n X dX6_appeal_94 rfl 3 rfl ?_
            refine sw_iadd X dX6_appeal_95 ?_
            refine sw_iload X dX6_appeal_96 0 rfl ?_
            have jn15 : ∀ (xv : Int), (xv = if z8 = 1 then -1 else st 16 (10 * c + b)) → SW pᵢ l eᵢ rm_X6_appeal sᵢ mᵢ argsᵢ belowᵢ methᵢ cᵢ 5 D Aᵢ 0 0 Qᵢ (mW k ad st tl 0 u11 v12 g13) 116 [(0, .ref (ad 0)), (1, .int (J c)), (2, .int (J b)), (3, .int (J z9)), (4, .int (J z8))] [.int (J xv), .int (J ((10 * c) + b)), .ref (ad 16)] := by
              intro xv hxv
              refine sw_iast (q0 := 11) (n := 80) X rfl (by omega) (by omega) (by decide) mW_a16 dX6_appeal_116 ?_
              refine sw_aload_n X dX6_appeal_117 rfl 0 rfl ?_
              refine sw_get (q0 := 0) (v := .ref (ad 15)) X iw_X6 rfl rfl 15 (by decide) gw3_223 rfl rfl dX6_appeal_118 ?_
              refine sw_iload_n X dX6_appeal_121 rfl 1 rfl ?_
              refine sw_dup2 X dX6_appeal_122 rfl rfl ?_
              refine sw_iald (q0 := 10) (n := 8) X rfl (by omega) (by omega) (by decide) dX6_appeal_123 ?_
              refine sw_iload X dX6_appeal_124 4 rfl ?_
              have jn16 : ∀ (yv : Int), (yv = if z8 = 1 then 0 else 1) → SW pᵢ l eᵢ rm_X6_appeal sᵢ mᵢ argsᵢ belowᵢ methᵢ cᵢ 5 D Aᵢ 0 0 Qᵢ (mW k ad (up2 st 16 ((10 * c) + b) xv) tl 0 u11 v12 g13) 134 [(0, .ref (ad 0)), (1, .int (J c)), (2, .int (J b)), (3, .int (J z9)), (4, .int (J z8))] [.int (J yv), .int (J (st 15 c)), .int (J c), .ref (ad 15)] := by
                intro yv hyv
                refine sw_iadd X dX6_appeal_134 ?_
                refine sw_iast (q0 := 10) (n := 8) X rfl (by omega) (by omega) (by decide) mW_a15 dX6_appeal_135 ?_
                refine sw_iload X dX6_appeal_136 4 rfl ?_
                exact RI _ _ _ _ _ _ dX6_appeal_138 (by decide) (by decide) (nar_b (by omega)) (by
        have e1 : up2 (up2 st 16 (10 * c + b) xv) 15 c (st 15 c + yv) = sAppeal st c b := by
          unfold sAppeal
          rcases hz8 with ⟨q, h⟩ | ⟨q, h⟩
          · rw [if_neg (by omega), hxv, if_pos q, hyv, if_pos q, Int.add_zero]
            exact up2_id (up2 st 16 (10 * c + b) (-1)) 15 c
          · rw [if_pos (by omega), hxv, if_neg (by omega), up2_id, hyv, if_neg (by omega)]
        exact Or.inr ⟨_, _, _, _, by rw [← e1], by unfold kAppeal; rw [if_neg (by omega), if_neg (by omega)], by unfold vAppeal; split <;> omega⟩)
              refine sw_if_eq (tgt := 133) X (by omega) dX6_appeal_126 (by decide) (fun h17 => ?_) (fun h17 => ?_)
              · refine sw_iconst X dX6_appeal_133 ?_
                exact jn16 1 (by split <;> omega)
              · refine sw_iconst X dX6_appeal_129 ?_
                refine sw_goto (tgt := 134) X dX6_appeal_130 (by decide) ?_
                exact jn16 0 (by split <;> omega)
            refine sw_if_eq (tgt := 105) X (by omega) dX6_appeal_98 (by decide) (fun h18 => ?_) (fun h18 => ?_)
            · refine sw_aload_n X dX6_appeal_105 rfl 1 rfl ?_
              refine sw_get (q0 := 0) (v := .ref (ad 16)) X iw_X6 rfl rfl 16 (by decide) gw3_224 rfl rfl dX6_appeal_106 ?_
              refine sw_bipush X dX6_appeal_109 (by decide +kernel) ?_
              refine sw_iload_n X dX6_appeal_111 rfl 2 rfl ?_
              refine sw_imul X dX6_appeal_112 ?_
              refine sw_iload_n X dX6_appeal_113 rfl 3 rfl ?_
              refine sw_iadd X dX6_appeal_114 ?_
              refine sw_iald (q0 := 11) (n := 80) X rfl (by omega) (by omega) (by decide) dX6_appeal_115 ?_
              refine sw_sub [1, 2, 3, 4, 0] rfl ?_
              exact jn15 (st 16 ((10 * c) + b)) (by split <;> omega)
            · refine sw_iconst X dX6_appeal_101 ?_
              refine sw_goto (tgt := 116) X dX6_appeal_102 (by decide) ?_
              refine sw_sub [1, 2, 3, 4, 0] rfl ?_
              exact jn15 (-1) (by split <;> omega)
          refine sw_icmp_eq (tgt := 83) X (by omega) (by omega) dX6_appeal_76 (by decide) (fun h19 => ?_) (fun h19 => ?_)
          · refine sw_iconst X dX6_appeal_83 ?_
            refine sw_sub [1, 2, 3, 0] rfl ?_
            exact jn14 0 (by omega)
          · refine sw_iconst X dX6_appeal_79 ?_
            refine sw_goto (tgt := 84) X dX6_appeal_80 (by decide) ?_
            refine sw_sub [1, 2, 3, 0] rfl ?_
            exact jn14 1 (by omega)
        · exfalso; revert h8; decide
      · refine sw_iconst X dX6_appeal_46 ?_
        refine sw_goto (tgt := 51) X dX6_appeal_47 (by decide) ?_
        refine sw_callVI0 (C := RX6) (As := [.int (J 2)]) (rest := []) X (c_X6_goesWell l D k ad st tl t x y h 2 (by omega)) (cwV 1 (sw_ts X) (sw_goodV gw4_58 gw4_60 gws_17 gw1_3 gw4_61) rfl rfl rfl (by decide +kernel) ⟨Nat.le_of_ble_eq_true rfl, Nat.le_of_ble_eq_true rfl⟩) 0 (ci := 6) rfl rfl rfl dX6_appeal_51 rfl rfl (Nat.le_of_ble_eq_true rfl) ⟨Nat.le_of_ble_eq_true rfl, Nat.le_of_ble_eq_true rfl⟩ (fun z20 w9 hp21 => ?_)
        obtain ⟨rfl, hp21⟩ := hp21
        obtain rfl : z20 = 0 := by omega
        clear hp21
        refine sw_if_ne (tgt := 59) X (by omega) dX6_appeal_54 (by decide) (fun h22 => ?_) (fun h22 => ?_)
        · exfalso; revert h22; decide
        · refine sw_iconst X dX6_appeal_57 ?_
          exact RI _ _ _ _ _ _ dX6_appeal_58 (by decide) (by decide) rfl (Or.inl ⟨_, _, _, _, _, rfl, by decide, by unfold kAppeal; rw [if_neg (by omega), if_pos (by omega)]⟩)
    · refine sw_iconst X dX6_appeal_27 ?_
      refine sw_goto (tgt := 51) X dX6_appeal_28 (by decide) ?_
      refine sw_callVI0 (C := RX6) (As := [.int (J 1)]) (rest := []) X (c_X6_goesWell l D k ad st tl t x y h 1 (by omega)) (cwV 1 (sw_ts X) (sw_goodV gw4_58 gw4_60 gws_17 gw1_3 gw4_61) rfl rfl rfl (by decide +kernel) ⟨Nat.le_of_ble_eq_true rfl, Nat.le_of_ble_eq_true rfl⟩) 0 (ci := 6) rfl rfl rfl dX6_appeal_51 rfl rfl (Nat.le_of_ble_eq_true rfl) ⟨Nat.le_of_ble_eq_true rfl, Nat.le_of_ble_eq_true rfl⟩ (fun z23 w9 hp24 => ?_)
      obtain ⟨rfl, hp24⟩ := hp24
      obtain rfl : z23 = 0 := by omega
      clear hp24
      refine sw_if_ne (tgt := 59) X (by omega) dX6_appeal_54 (by decide) (fun h25 => ?_) (fun h25 => ?_)
      · exfalso; revert h25; decide
      · refine sw_iconst X dX6_appeal_57 ?_
        exact RI _ _ _ _ _ _ dX6_appeal_58 (by decide) (by decide) rfl (Or.inl ⟨_, _, _, _, _, rfl, by decide, by unfold kAppeal; rw [if_pos (by omega)]⟩)
  refine sw_if_eq (tgt := 20) X (by omega) dX6_appeal_5 (by decide) (fun h26 => ?_) (fun h26 => ?_)
  · refine sw_iconst X dX6_appeal_20 ?_
    exact jn3 0 (by omega)
  · refine sw_aload_n X dX6_appeal_8 rfl 0 rfl ?_
    refine sw_iload_n X dX6_appeal_9 rfl 2 rfl ?_
    refine sw_callVI0 (C := RX6) (As := [.int (J b)]) (rest := []) X (c_X6_isGate l D k ad st tl t x y h b (by omega) (by omega)) (cwV 1 (sw_ts X) (sw_goodV gw4_150 gw4_152 gws_29 gw1_3 gw4_153) rfl rfl rfl (by decide +kernel) ⟨Nat.le_of_ble_eq_true rfl, Nat.le_of_ble_eq_true rfl⟩) 0 (ci := 6) rfl rfl rfl dX6_appeal_10 rfl rfl (Nat.le_of_ble_eq_true rfl) ⟨Nat.le_of_ble_eq_true rfl, Nat.le_of_ble_eq_true rfl⟩ (fun z27 w9 hp28 => ?_)
    obtain ⟨rfl, hp28⟩ := hp28
    refine sw_if_eq (tgt := 20) X (by omega) dX6_appeal_13 (by decide) (fun h29 => ?_) (fun h29 => ?_)
    · refine sw_iconst X dX6_appeal_20 ?_
      exact jn3 0 (by omega)
    · refine sw_iconst X dX6_appeal_16 ?_
      refine sw_goto (tgt := 21) X dX6_appeal_17 (by decide) ?_
      exact jn3 1 (by omega)
abbrev rm_X6_gates : Room := { frames := 0, cells := 0, slots := 0, locals := 0 }
set_option maxHeartbeats 4000000 in
set_option maxRecDepth 100000 in
theorem c_X6_gates (l : Launch) (D : va_G) (k : Nat → ClassId) (ad : Nat → Nat) (st : Nat → Int → Int) (tl : Int → Int) (t x y h : Int)  : CI l yX6_gates cX6_gates 1 (some .int) rm_X6_gates D k [.ref (ad 0)] (mW k ad st tl t x y h) (fun z w' => w' = mW k ad st tl 0 x y h ∧ z = st 5 0) := by
  refine CI.of (by decide +kernel) (Nat.le_of_ble_eq_true rfl) (fun pᵢ eᵢ sᵢ mᵢ argsᵢ belowᵢ methᵢ cᵢ Aᵢ Qᵢ X RI => ?_)
  show SW pᵢ l eᵢ rm_X6_gates sᵢ mᵢ argsᵢ belowᵢ methᵢ cᵢ 1 D Aᵢ 0 0 Qᵢ (mW k ad st tl t x y h) 0 [(0, .ref (ad 0))] []
  refine sw_aload_n X dX6_gates_0 rfl 0 rfl ?_
  refine sw_iconst X dX6_gates_1 ?_
  refine sw_put (q0 := 0) X iw_X6 tyX6 tyX6_ok nmX6 rfl rfl 0 (by decide) gw3_208 rfl rfl (ty := .int) (by decide +kernel) rfl rfl (Nat.le_of_ble_eq_true rfl) mW_p0 dX6_gates_2 ?_
  refine sw_aload_n X dX6_gates_5 rfl 0 rfl ?_
  refine sw_get (q0 := 0) (v := .int (J (st 5 0))) X iw_X6 rfl rfl 5 (by decide) gw3_213 rfl rfl dX6_gates_6 ?_
  exact RI _ _ _ _ _ _ dX6_gates_9 (by decide) (by decide) rfl ⟨rfl, rfl⟩
abbrev rm_X6_cellOf : Room := { frames := 3, cells := 0, slots := 0, locals := 64 }
set_option maxHeartbeats 4000000 in
set_option maxRecDepth 100000 in
theorem c_X6_cellOf (l : Launch) (D : va_G) (k : Nat → ClassId) (N : Int) (ad : Nat → Nat) (st : Nat → Int → Int) (tl : Int → Int) (t x y h : Int) (a : Int) (hI : I6 N st) (h_a : (-2147483648 ≤ a ∧ a < 2147483648)) : CI l yX6_cellOf cX6_cellOf 2 (some .int) rm_X6_cellOf D k [.ref (ad 0), .int (J a)] (mW k ad st tl t x y h) (oP k ad st (st) (kGate st a) (gC st a)) := by
  refine CI.of (by decide +kernel) (Nat.le_of_ble_eq_true rfl) (fun pᵢ eᵢ sᵢ mᵢ argsᵢ belowᵢ methᵢ cᵢ Aᵢ Qᵢ X RI => ?_)
  show SW pᵢ l eᵢ rm_X6_cellOf sᵢ mᵢ argsᵢ belowᵢ methᵢ cᵢ 2 D Aᵢ 0 0 Qᵢ (mW k ad st tl t x y h) 0 [(0, .ref (ad 0)), (1, .int (J a))] []
  have hS_ := I_st hI
  have hE_ := I_en hI
  have hG_ := I_ga hI
  have hU_ := I_cu hI
  have hC_ := I_ca hI
  have hP_ := I_pa hI
  refine sw_aload_n X dX6_cellOf_0 rfl 0 rfl ?_
  refine sw_aload_n X dX6_cellOf_1 rfl 0 rfl ?_
  refine sw_iload_n X dX6_cellOf_2 rfl 1 rfl ?_
  refine sw_callVI0 (C := RX6) (As := [.int (J a)]) (rest := [.ref (ad 0)]) X (c_X6_isGate l D k ad st tl t x y h a (by omega) (by omega)) (cwV 1 (sw_ts X) (sw_goodV gw4_150 gw4_152 gws_29 gw1_3 gw4_153) rfl rfl rfl (by decide +kernel) ⟨Nat.le_of_ble_eq_true rfl, Nat.le_of_ble_eq_true rfl⟩) 0 (ci := 6) rfl rfl rfl dX6_cellOf_3 rfl rfl (Nat.le_of_ble_eq_true rfl) ⟨Nat.le_of_ble_eq_true rfl, Nat.le_of_ble_eq_true rfl⟩ (fun z1 w9 hp2 => ?_)
  obtain ⟨rfl, hp2⟩ := hp2
  refine sw_if_eq (tgt := 13) X (by omega) dX6_cellOf_6 (by decide) (fun h3 => ?_) (fun h3 => ?_)
  · refine sw_iconst X dX6_cellOf_13 ?_
    refine sw_callVI0 (C := RX6) (As := [.int (J 1)]) (rest := []) X (c_X6_goesWell l D k ad st tl t x y h 1 (by omega)) (cwV 1 (sw_ts X) (sw_goodV gw4_58 gw4_60 gws_17 gw1_3 gw4_61) rfl rfl rfl (by decide +kernel) ⟨Nat.le_of_ble_eq_true rfl, Nat.le_of_ble_eq_true rfl⟩) 0 (ci := 6) rfl rfl rfl dX6_cellOf_14 rfl rfl (Nat.le_of_ble_eq_true rfl) ⟨Nat.le_of_ble_eq_true rfl, Nat.le_of_ble_eq_true rfl⟩ (fun z4 w9 hp5 => ?_)
    obtain ⟨rfl, hp5⟩ := hp5
    obtain rfl : z4 = 0 := by omega
    clear hp5
    refine sw_if_eq (tgt := 28) X (by omega) dX6_cellOf_17 (by decide) (fun h6 => ?_) (fun h6 => ?_)
    · refine sw_iconst X dX6_cellOf_28 ?_
      exact RI _ _ _ _ _ _ dX6_cellOf_29 (by decide) (by decide) rfl (Or.inl ⟨_, _, _, _, _, rfl, by decide, by unfold kGate; rw [if_neg (by omega)]⟩)
    · exfalso; revert h6; decide
  · refine sw_iconst X dX6_cellOf_9 ?_
    refine sw_goto (tgt := 14) X dX6_cellOf_10 (by decide) ?_
    refine sw_callVI0 (C := RX6) (As := [.int (J 0)]) (rest := []) X (c_X6_goesWell l D k ad st tl t x y h 0 (by omega)) (cwV 1 (sw_ts X) (sw_goodV gw4_58 gw4_60 gws_17 gw1_3 gw4_61) rfl rfl rfl (by decide +kernel) ⟨Nat.le_of_ble_eq_true rfl, Nat.le_of_ble_eq_true rfl⟩) 0 (ci := 6) rfl rfl rfl dX6_cellOf_14 rfl rfl (Nat.le_of_ble_eq_true rfl) ⟨Nat.le_of_ble_eq_true rfl, Nat.le_of_ble_eq_true rfl⟩ (fun z7 w9 hp8 => ?_)
    obtain ⟨rfl, hp8⟩ := hp8
    obtain rfl : z7 = 1 := by omega
    clear hp8
    refine sw_if_eq (tgt := 28) X (by omega) dX6_cellOf_17 (by decide) (fun h9 => ?_) (fun h9 => ?_)
    · exfalso; revert h9; decide
    · refine sw_aload_n X dX6_cellOf_20 rfl 0 rfl ?_
      refine sw_iload_n X dX6_cellOf_21 rfl 1 rfl ?_
      refine sw_callVI0 (C := RX6) (As := [.int (J a)]) (rest := []) X (c_X6_cellOfGate l D k N ad st tl 0 x y h a hI (by omega)) (cwV 1 (sw_ts X) (sw_goodV gw4_162 gw4_164 gws_32 gw1_3 gw4_165) rfl rfl rfl (by decide +kernel) ⟨Nat.le_of_ble_eq_true rfl, Nat.le_of_ble_eq_true rfl⟩) 0 (ci := 6) rfl rfl rfl dX6_cellOf_22 rfl rfl (Nat.le_of_ble_eq_true rfl) ⟨Nat.le_of_ble_eq_true rfl, Nat.le_of_ble_eq_true rfl⟩ (fun z10 w9 hp11 => ?_)
      obtain ⟨u12, v13, g14, rfl, rfl⟩ := hp11
      refine sw_goto (tgt := 29) X dX6_cellOf_25 (by decide) ?_
      exact RI _ _ _ _ _ _ dX6_cellOf_29 (by decide) (by decide) rfl (Or.inr ⟨_, _, _, _, rfl, by unfold kGate; rw [if_pos (by omega)], rfl⟩)
abbrev rm_X6_due : Room := { frames := 2, cells := 0, slots := 0, locals := 43 }
set_option maxHeartbeats 4000000 in
set_option maxRecDepth 100000 in
theorem c_X6_due (l : Launch) (D : va_G) (k : Nat → ClassId) (N : Int) (ad : Nat → Nat) (st : Nat → Int → Int) (tl : Int → Int) (t x y h : Int) (a : Int) (hI : I6 N st) (h_a : (-2147483648 ≤ a ∧ a < 2147483648)) : CI l yX6_due cX6_due 2 (some .int) rm_X6_due D k [.ref (ad 0), .int (J a)] (mW k ad st tl t x y h) (oP k ad st (st) (kGate st a) (gD st a)) := by
  refine CI.of (by decide +kernel) (Nat.le_of_ble_eq_true rfl) (fun pᵢ eᵢ sᵢ mᵢ argsᵢ belowᵢ methᵢ cᵢ Aᵢ Qᵢ X RI => ?_)
  show SW pᵢ l eᵢ rm_X6_due sᵢ mᵢ argsᵢ belowᵢ methᵢ cᵢ 2 D Aᵢ 0 0 Qᵢ (mW k ad st tl t x y h) 0 [(0, .ref (ad 0)), (1, .int (J a))] []
  have hS_ := I_st hI
  have hE_ := I_en hI
  have hG_ := I_ga hI
  have hU_ := I_cu hI
  have hC_ := I_ca hI
  have hP_ := I_pa hI
  refine sw_aload_n X dX6_due_0 rfl 0 rfl ?_
  refine sw_aload_n X dX6_due_1 rfl 0 rfl ?_
  refine sw_iload_n X dX6_due_2 rfl 1 rfl ?_
  refine sw_callVI0 (C := RX6) (As := [.int (J a)]) (rest := [.ref (ad 0)]) X (c_X6_isGate l D k ad st tl t x y h a (by omega) (by omega)) (cwV 1 (sw_ts X) (sw_goodV gw4_150 gw4_152 gws_29 gw1_3 gw4_153) rfl rfl rfl (by decide +kernel) ⟨Nat.le_of_ble_eq_true rfl, Nat.le_of_ble_eq_true rfl⟩) 0 (ci := 6) rfl rfl rfl dX6_due_3 rfl rfl (Nat.le_of_ble_eq_true rfl) ⟨Nat.le_of_ble_eq_true rfl, Nat.le_of_ble_eq_true rfl⟩ (fun z1 w9 hp2 => ?_)
  obtain ⟨rfl, hp2⟩ := hp2
  refine sw_if_eq (tgt := 13) X (by omega) dX6_due_6 (by decide) (fun h3 => ?_) (fun h3 => ?_)
  · refine sw_iconst X dX6_due_13 ?_
    refine sw_callVI0 (C := RX6) (As := [.int (J 1)]) (rest := []) X (c_X6_goesWell l D k ad st tl t x y h 1 (by omega)) (cwV 1 (sw_ts X) (sw_goodV gw4_58 gw4_60 gws_17 gw1_3 gw4_61) rfl rfl rfl (by decide +kernel) ⟨Nat.le_of_ble_eq_true rfl, Nat.le_of_ble_eq_true rfl⟩) 0 (ci := 6) rfl rfl rfl dX6_due_14 rfl rfl (Nat.le_of_ble_eq_true rfl) ⟨Nat.le_of_ble_eq_true rfl, Nat.le_of_ble_eq_true rfl⟩ (fun z4 w9 hp5 => ?_)
    obtain ⟨rfl, hp5⟩ := hp5
    obtain rfl : z4 = 0 := by omega
    clear hp5
    refine sw_if_eq (tgt := 28) X (by omega) dX6_due_17 (by decide) (fun h6 => ?_) (fun h6 => ?_)
    · refine sw_iconst X dX6_due_28 ?_
      exact RI _ _ _ _ _ _ dX6_due_29 (by decide) (by decide) rfl (Or.inl ⟨_, _, _, _, _, rfl, by decide, by unfold kGate; rw [if_neg (by omega)]⟩)
    · exfalso; revert h6; decide
  · refine sw_iconst X dX6_due_9 ?_
    refine sw_goto (tgt := 14) X dX6_due_10 (by decide) ?_
    refine sw_callVI0 (C := RX6) (As := [.int (J 0)]) (rest := []) X (c_X6_goesWell l D k ad st tl t x y h 0 (by omega)) (cwV 1 (sw_ts X) (sw_goodV gw4_58 gw4_60 gws_17 gw1_3 gw4_61) rfl rfl rfl (by decide +kernel) ⟨Nat.le_of_ble_eq_true rfl, Nat.le_of_ble_eq_true rfl⟩) 0 (ci := 6) rfl rfl rfl dX6_due_14 rfl rfl (Nat.le_of_ble_eq_true rfl) ⟨Nat.le_of_ble_eq_true rfl, Nat.le_of_ble_eq_true rfl⟩ (fun z7 w9 hp8 => ?_)
    obtain ⟨rfl, hp8⟩ := hp8
    obtain rfl : z7 = 1 := by omega
    clear hp8
    refine sw_if_eq (tgt := 28) X (by omega) dX6_due_17 (by decide) (fun h9 => ?_) (fun h9 => ?_)
    · exfalso; revert h9; decide
    · refine sw_aload_n X dX6_due_20 rfl 0 rfl ?_
      refine sw_iload_n X dX6_due_21 rfl 1 rfl ?_
      refine sw_callVI0 (C := RX6) (As := [.int (J a)]) (rest := []) X (c_X6_dueAt l D k N ad st tl 0 x y h a hI (by omega)) (cwV 1 (sw_ts X) (sw_goodV gw4_186 gw4_188 gws_34 gw1_3 gw4_189) rfl rfl rfl (by decide +kernel) ⟨Nat.le_of_ble_eq_true rfl, Nat.le_of_ble_eq_true rfl⟩) 0 (ci := 6) rfl rfl rfl dX6_due_22 rfl rfl (Nat.le_of_ble_eq_true rfl) ⟨Nat.le_of_ble_eq_true rfl, Nat.le_of_ble_eq_true rfl⟩ (fun z10 w9 hp11 => ?_)
      obtain ⟨rfl, rfl⟩ := hp11
      refine sw_goto (tgt := 29) X dX6_due_25 (by decide) ?_
      exact RI _ _ _ _ _ _ dX6_due_29 (by decide) (by decide) rfl (Or.inr ⟨_, _, _, _, rfl, by unfold kGate; rw [if_pos (by omega)], rfl⟩)
abbrev rm_X6_clock : Room := { frames := 2, cells := 0, slots := 0, locals := 43 }
set_option maxHeartbeats 4000000 in
set_option maxRecDepth 100000 in
theorem c_X6_clock (l : Launch) (D : va_G) (k : Nat → ClassId) (N : Int) (ad : Nat → Nat) (st : Nat → Int → Int) (tl : Int → Int) (t x y h : Int) (c : Int) (hI : I6 N st) (h_c : (-2147483648 ≤ c ∧ c < 2147483648)) : CI l yX6_clock cX6_clock 2 (some .int) rm_X6_clock D k [.ref (ad 0), .int (J c)] (mW k ad st tl t x y h) (oP k ad st (st) (kCar st c) (clk st c)) := by
  refine CI.of (by decide +kernel) (Nat.le_of_ble_eq_true rfl) (fun pᵢ eᵢ sᵢ mᵢ argsᵢ belowᵢ methᵢ cᵢ Aᵢ Qᵢ X RI => ?_)
  show SW pᵢ l eᵢ rm_X6_clock sᵢ mᵢ argsᵢ belowᵢ methᵢ cᵢ 2 D Aᵢ 0 0 Qᵢ (mW k ad st tl t x y h) 0 [(0, .ref (ad 0)), (1, .int (J c))] []
  have hS_ := I_st hI
  have hE_ := I_en hI
  have hG_ := I_ga hI
  have hU_ := I_cu hI
  have hC_ := I_ca hI
  have hP_ := I_pa hI
  refine sw_aload_n X dX6_clock_0 rfl 0 rfl ?_
  refine sw_aload_n X dX6_clock_1 rfl 0 rfl ?_
  refine sw_iload_n X dX6_clock_2 rfl 1 rfl ?_
  refine sw_callVI0 (C := RX6) (As := [.int (J c)]) (rest := [.ref (ad 0)]) X (c_X6_isCar l D k ad st tl t x y h c (by omega) (by omega)) (cwV 1 (sw_ts X) (sw_goodV gw4_102 gw4_104 gws_23 gw1_3 gw4_105) rfl rfl rfl (by decide +kernel) ⟨Nat.le_of_ble_eq_true rfl, Nat.le_of_ble_eq_true rfl⟩) 0 (ci := 6) rfl rfl rfl dX6_clock_3 rfl rfl (Nat.le_of_ble_eq_true rfl) ⟨Nat.le_of_ble_eq_true rfl, Nat.le_of_ble_eq_true rfl⟩ (fun z1 w9 hp2 => ?_)
  obtain ⟨rfl, hp2⟩ := hp2
  refine sw_if_eq (tgt := 13) X (by omega) dX6_clock_6 (by decide) (fun h3 => ?_) (fun h3 => ?_)
  · refine sw_iconst X dX6_clock_13 ?_
    refine sw_callVI0 (C := RX6) (As := [.int (J 1)]) (rest := []) X (c_X6_goesWell l D k ad st tl t x y h 1 (by omega)) (cwV 1 (sw_ts X) (sw_goodV gw4_58 gw4_60 gws_17 gw1_3 gw4_61) rfl rfl rfl (by decide +kernel) ⟨Nat.le_of_ble_eq_true rfl, Nat.le_of_ble_eq_true rfl⟩) 0 (ci := 6) rfl rfl rfl dX6_clock_14 rfl rfl (Nat.le_of_ble_eq_true rfl) ⟨Nat.le_of_ble_eq_true rfl, Nat.le_of_ble_eq_true rfl⟩ (fun z4 w9 hp5 => ?_)
    obtain ⟨rfl, hp5⟩ := hp5
    obtain rfl : z4 = 0 := by omega
    clear hp5
    refine sw_if_eq (tgt := 28) X (by omega) dX6_clock_17 (by decide) (fun h6 => ?_) (fun h6 => ?_)
    · refine sw_iconst X dX6_clock_28 ?_
      exact RI _ _ _ _ _ _ dX6_clock_29 (by decide) (by decide) rfl (Or.inl ⟨_, _, _, _, _, rfl, by decide, by unfold kCar; rw [if_neg (by omega)]⟩)
    · exfalso; revert h6; decide
  · refine sw_iconst X dX6_clock_9 ?_
    refine sw_goto (tgt := 14) X dX6_clock_10 (by decide) ?_
    refine sw_callVI0 (C := RX6) (As := [.int (J 0)]) (rest := []) X (c_X6_goesWell l D k ad st tl t x y h 0 (by omega)) (cwV 1 (sw_ts X) (sw_goodV gw4_58 gw4_60 gws_17 gw1_3 gw4_61) rfl rfl rfl (by decide +kernel) ⟨Nat.le_of_ble_eq_true rfl, Nat.le_of_ble_eq_true rfl⟩) 0 (ci := 6) rfl rfl rfl dX6_clock_14 rfl rfl (Nat.le_of_ble_eq_true rfl) ⟨Nat.le_of_ble_eq_true rfl, Nat.le_of_ble_eq_true rfl⟩ (fun z7 w9 hp8 => ?_)
    obtain ⟨rfl, hp8⟩ := hp8
    obtain rfl : z7 = 1 := by omega
    clear hp8
    refine sw_if_eq (tgt := 28) X (by omega) dX6_clock_17 (by decide) (fun h9 => ?_) (fun h9 => ?_)
    · exfalso; revert h9; decide
    · refine sw_aload_n X dX6_clock_20 rfl 0 rfl ?_
      refine sw_iload_n X dX6_clock_21 rfl 1 rfl ?_
      refine sw_callVI0 (C := RX6) (As := [.int (J c)]) (rest := []) X (c_X6_clockOf l D k N ad st tl 0 x y h c hI (by omega)) (cwV 1 (sw_ts X) (sw_goodV gw4_106 gw4_108 gws_24 gw1_3 gw4_109) rfl rfl rfl (by decide +kernel) ⟨Nat.le_of_ble_eq_true rfl, Nat.le_of_ble_eq_true rfl⟩) 0 (ci := 6) rfl rfl rfl dX6_clock_22 rfl rfl (Nat.le_of_ble_eq_true rfl) ⟨Nat.le_of_ble_eq_true rfl, Nat.le_of_ble_eq_true rfl⟩ (fun z10 w9 hp11 => ?_)
      obtain ⟨rfl, rfl⟩ := hp11
      refine sw_goto (tgt := 29) X dX6_clock_25 (by decide) ?_
      exact RI _ _ _ _ _ _ dX6_clock_29 (by decide) (by decide) rfl (Or.inr ⟨_, _, _, _, rfl, by unfold kCar; rw [if_pos (by omega)], rfl⟩)
abbrev rm_X6_where : Room := { frames := 2, cells := 0, slots := 0, locals := 43 }
set_option maxHeartbeats 4000000 in
set_option maxRecDepth 100000 in
theorem c_X6_where (l : Launch) (D : va_G) (k : Nat → ClassId) (N : Int) (ad : Nat → Nat) (st : Nat → Int → Int) (tl : Int → Int) (t x y h : Int) (a : Int) (hI : I6 N st) (h_a : (-2147483648 ≤ a ∧ a < 2147483648)) : CI l yX6_where cX6_where 2 (some .int) rm_X6_where D k [.ref (ad 0), .int (J a)] (mW k ad st tl t x y h) (oP k ad st (st) (kPart st a) (st 20 a)) := by
  refine CI.of (by decide +kernel) (Nat.le_of_ble_eq_true rfl) (fun pᵢ eᵢ sᵢ mᵢ argsᵢ belowᵢ methᵢ cᵢ Aᵢ Qᵢ X RI => ?_)
  show SW pᵢ l eᵢ rm_X6_where sᵢ mᵢ argsᵢ belowᵢ methᵢ cᵢ 2 D Aᵢ 0 0 Qᵢ (mW k ad st tl t x y h) 0 [(0, .ref (ad 0)), (1, .int (J a))] []
  have hS_ := I_st hI
  have hE_ := I_en hI
  have hG_ := I_ga hI
  have hU_ := I_cu hI
  have hC_ := I_ca hI
  have hP_ := I_pa hI
  refine sw_aload_n X dX6_where_0 rfl 0 rfl ?_
  refine sw_aload_n X dX6_where_1 rfl 0 rfl ?_
  refine sw_iload_n X dX6_where_2 rfl 1 rfl ?_
  refine sw_callVI0 (C := RX6) (As := [.int (J a)]) (rest := [.ref (ad 0)]) X (c_X6_isPart l D k ad st tl t x y h a (by omega) (by omega)) (cwV 1 (sw_ts X) (sw_goodV gw4_231 gw4_233 gws_36 gw1_3 gw4_234) rfl rfl rfl (by decide +kernel) ⟨Nat.le_of_ble_eq_true rfl, Nat.le_of_ble_eq_true rfl⟩) 0 (ci := 6) rfl rfl rfl dX6_where_3 rfl rfl (Nat.le_of_ble_eq_true rfl) ⟨Nat.le_of_ble_eq_true rfl, Nat.le_of_ble_eq_true rfl⟩ (fun z1 w9 hp2 => ?_)
  obtain ⟨rfl, hp2⟩ := hp2
  refine sw_if_eq (tgt := 13) X (by omega) dX6_where_6 (by decide) (fun h3 => ?_) (fun h3 => ?_)
  · refine sw_iconst X dX6_where_13 ?_
    refine sw_callVI0 (C := RX6) (As := [.int (J 1)]) (rest := []) X (c_X6_goesWell l D k ad st tl t x y h 1 (by omega)) (cwV 1 (sw_ts X) (sw_goodV gw4_58 gw4_60 gws_17 gw1_3 gw4_61) rfl rfl rfl (by decide +kernel) ⟨Nat.le_of_ble_eq_true rfl, Nat.le_of_ble_eq_true rfl⟩) 0 (ci := 6) rfl rfl rfl dX6_where_14 rfl rfl (Nat.le_of_ble_eq_true rfl) ⟨Nat.le_of_ble_eq_true rfl, Nat.le_of_ble_eq_true rfl⟩ (fun z4 w9 hp5 => ?_)
    obtain ⟨rfl, hp5⟩ := hp5
    obtain rfl : z4 = 0 := by omega
    clear hp5
    refine sw_if_eq (tgt := 29) X (by omega) dX6_where_17 (by decide) (fun h6 => ?_) (fun h6 => ?_)
    · refine sw_iconst X dX6_where_29 ?_
      exact RI _ _ _ _ _ _ dX6_where_30 (by decide) (by decide) rfl (Or.inl ⟨_, _, _, _, _, rfl, by decide, by unfold kPart; rw [if_neg (by omega)]⟩)
    · exfalso; revert h6; decide
  · refine sw_iconst X dX6_where_9 ?_
    refine sw_goto (tgt := 14) X dX6_where_10 (by decide) ?_
    refine sw_callVI0 (C := RX6) (As := [.int (J 0)]) (rest := []) X (c_X6_goesWell l D k ad st tl t x y h 0 (by omega)) (cwV 1 (sw_ts X) (sw_goodV gw4_58 gw4_60 gws_17 gw1_3 gw4_61) rfl rfl rfl (by decide +kernel) ⟨Nat.le_of_ble_eq_true rfl, Nat.le_of_ble_eq_true rfl⟩) 0 (ci := 6) rfl rfl rfl dX6_where_14 rfl rfl (Nat.le_of_ble_eq_true rfl) ⟨Nat.le_of_ble_eq_true rfl, Nat.le_of_ble_eq_true rfl⟩ (fun z7 w9 hp8 => ?_)
    obtain ⟨rfl, hp8⟩ := hp8
    obtain rfl : z7 = 1 := by omega
    clear hp8
    refine sw_if_eq (tgt := 29) X (by omega) dX6_where_17 (by decide) (fun h9 => ?_) (fun h9 => ?_)
    · exfalso; revert h9; decide
    · refine sw_aload_n X dX6_where_20 rfl 0 rfl ?_
      refine sw_get (q0 := 0) (v := .ref (ad 20)) X iw_X6 rfl rfl 20 (by decide) gw3_228 rfl rfl dX6_where_21 ?_
      refine sw_iload_n X dX6_where_24 rfl 1 rfl ?_
      refine sw_iald (q0 := 14) (n := 40) X rfl (by omega) (by omega) (by decide) dX6_where_25 ?_
      refine sw_goto (tgt := 30) X dX6_where_26 (by decide) ?_
      exact RI _ _ _ _ _ _ dX6_where_30 (by decide) (by decide) rfl (Or.inr ⟨_, _, _, _, rfl, by unfold kPart; rw [if_pos (by omega)], rfl⟩)
abbrev rm_X6_isBroken : Room := { frames := 2, cells := 0, slots := 0, locals := 43 }
set_option maxHeartbeats 4000000 in
set_option maxRecDepth 100000 in
theorem c_X6_isBroken (l : Launch) (D : va_G) (k : Nat → ClassId) (N : Int) (ad : Nat → Nat) (st : Nat → Int → Int) (tl : Int → Int) (t x y h : Int) (c : Int) (hI : I6 N st) (h_c : (-2147483648 ≤ c ∧ c < 2147483648)) : CI l yX6_isBroken cX6_isBroken 2 (some .boolean) rm_X6_isBroken D k [.ref (ad 0), .int (J c)] (mW k ad st tl t x y h) (oP k ad st (st) (kCar st c) (vBroken st c)) := by
  refine CI.of (by decide +kernel) (Nat.le_of_ble_eq_true rfl) (fun pᵢ eᵢ sᵢ mᵢ argsᵢ belowᵢ methᵢ cᵢ Aᵢ Qᵢ X RI => ?_)
  show SW pᵢ l eᵢ rm_X6_isBroken sᵢ mᵢ argsᵢ belowᵢ methᵢ cᵢ 2 D Aᵢ 0 0 Qᵢ (mW k ad st tl t x y h) 0 [(0, .ref (ad 0)), (1, .int (J c))] []
  have hS_ := I_st hI
  have hE_ := I_en hI
  have hG_ := I_ga hI
  have hU_ := I_cu hI
  have hC_ := I_ca hI
  have hP_ := I_pa hI
  refine sw_aload_n X dX6_isBroken_0 rfl 0 rfl ?_
  refine sw_aload_n X dX6_isBroken_1 rfl 0 rfl ?_
  refine sw_iload_n X dX6_isBroken_2 rfl 1 rfl ?_
  refine sw_callVI0 (C := RX6) (As := [.int (J c)]) (rest := [.ref (ad 0)]) X (c_X6_isCar l D k ad st tl t x y h c (by omega) (by omega)) (cwV 1 (sw_ts X) (sw_goodV gw4_102 gw4_104 gws_23 gw1_3 gw4_105) rfl rfl rfl (by decide +kernel) ⟨Nat.le_of_ble_eq_true rfl, Nat.le_of_ble_eq_true rfl⟩) 0 (ci := 6) rfl rfl rfl dX6_isBroken_3 rfl rfl (Nat.le_of_ble_eq_true rfl) ⟨Nat.le_of_ble_eq_true rfl, Nat.le_of_ble_eq_true rfl⟩ (fun z1 w9 hp2 => ?_)
  obtain ⟨rfl, hp2⟩ := hp2
  refine sw_if_eq (tgt := 13) X (by omega) dX6_isBroken_6 (by decide) (fun h3 => ?_) (fun h3 => ?_)
  · refine sw_iconst X dX6_isBroken_13 ?_
    refine sw_callVI0 (C := RX6) (As := [.int (J 1)]) (rest := []) X (c_X6_goesWell l D k ad st tl t x y h 1 (by omega)) (cwV 1 (sw_ts X) (sw_goodV gw4_58 gw4_60 gws_17 gw1_3 gw4_61) rfl rfl rfl (by decide +kernel) ⟨Nat.le_of_ble_eq_true rfl, Nat.le_of_ble_eq_true rfl⟩) 0 (ci := 6) rfl rfl rfl dX6_isBroken_14 rfl rfl (Nat.le_of_ble_eq_true rfl) ⟨Nat.le_of_ble_eq_true rfl, Nat.le_of_ble_eq_true rfl⟩ (fun z4 w9 hp5 => ?_)
    obtain ⟨rfl, hp5⟩ := hp5
    obtain rfl : z4 = 0 := by omega
    clear hp5
    refine sw_if_eq (tgt := 34) X (by omega) dX6_isBroken_17 (by decide) (fun h6 => ?_) (fun h6 => ?_)
    · refine sw_iconst X dX6_isBroken_34 ?_
      exact RI _ _ _ _ _ _ dX6_isBroken_35 (by decide) (by decide) rfl (Or.inl ⟨_, _, _, _, _, rfl, by decide, by unfold kCar; rw [if_neg (by omega)]⟩)
    · exfalso; revert h6; decide
  · refine sw_iconst X dX6_isBroken_9 ?_
    refine sw_goto (tgt := 14) X dX6_isBroken_10 (by decide) ?_
    refine sw_callVI0 (C := RX6) (As := [.int (J 0)]) (rest := []) X (c_X6_goesWell l D k ad st tl t x y h 0 (by omega)) (cwV 1 (sw_ts X) (sw_goodV gw4_58 gw4_60 gws_17 gw1_3 gw4_61) rfl rfl rfl (by decide +kernel) ⟨Nat.le_of_ble_eq_true rfl, Nat.le_of_ble_eq_true rfl⟩) 0 (ci := 6) rfl rfl rfl dX6_isBroken_14 rfl rfl (Nat.le_of_ble_eq_true rfl) ⟨Nat.le_of_ble_eq_true rfl, Nat.le_of_ble_eq_true rfl⟩ (fun z7 w9 hp8 => ?_)
    obtain ⟨rfl, hp8⟩ := hp8
    obtain rfl : z7 = 1 := by omega
    clear hp8
    refine sw_if_eq (tgt := 34) X (by omega) dX6_isBroken_17 (by decide) (fun h9 => ?_) (fun h9 => ?_)
    · exfalso; revert h9; decide
    · have hcc := I_c hI c (by omega) (by omega)
      refine sw_aload_n X dX6_isBroken_20 rfl 0 rfl ?_
      refine sw_get (q0 := 0) (v := .ref (ad 14)) X iw_X6 rfl rfl 14 (by decide) gw3_222 rfl rfl dX6_isBroken_21 ?_
      refine sw_iload_n X dX6_isBroken_24 rfl 1 rfl ?_
      refine sw_iald (q0 := 9) (n := 8) X rfl (by omega) (by omega) (by decide) dX6_isBroken_25 ?_
      refine sw_iconst X dX6_isBroken_26 ?_
      refine sw_icmp_eq (tgt := 34) X (by omega) (by omega) dX6_isBroken_27 (by decide) (fun h10 => ?_) (fun h10 => ?_)
      · refine sw_iconst X dX6_isBroken_34 ?_
        exact RI _ _ _ _ _ _ dX6_isBroken_35 (by decide) (by decide) rfl (Or.inr ⟨_, _, _, _, rfl, by unfold kCar; rw [if_pos (by omega)], by unfold vBroken; split <;> omega⟩)
      · refine sw_iconst X dX6_isBroken_30 ?_
        refine sw_goto (tgt := 35) X dX6_isBroken_31 (by decide) ?_
        exact RI _ _ _ _ _ _ dX6_isBroken_35 (by decide) (by decide) rfl (Or.inr ⟨_, _, _, _, rfl, by unfold kCar; rw [if_pos (by omega)], by unfold vBroken; split <;> omega⟩)
abbrev rm_X6_cellAt : Room := { frames := 2, cells := 0, slots := 0, locals := 46 }
set_option maxHeartbeats 4000000 in
set_option maxRecDepth 100000 in
theorem c_X6_cellAt (l : Launch) (D : va_G) (k : Nat → ClassId) (N : Int) (ad : Nat → Nat) (st : Nat → Int → Int) (tl : Int → Int) (t x y h : Int) (c a : Int) (hI : I6 N st) (h_c : (-2147483648 ≤ c ∧ c < 2147483648)) (h_a : (-2147483648 ≤ a ∧ a < 2147483648)) : CI l yX6_cellAt cX6_cellAt 4 (some .int) rm_X6_cellAt D k [.ref (ad 0), .int (J c), .int (J a)] (mW k ad st tl t x y h) (oP k ad st (st) (kCellAt st c a) (aC st c a)) := by
  refine CI.of (by decide +kernel) (Nat.le_of_ble_eq_true rfl) (fun pᵢ eᵢ sᵢ mᵢ argsᵢ belowᵢ methᵢ cᵢ Aᵢ Qᵢ X RI => ?_)
  show SW pᵢ l eᵢ rm_X6_cellAt sᵢ mᵢ argsᵢ belowᵢ methᵢ cᵢ 4 D Aᵢ 0 0 Qᵢ (mW k ad st tl t x y h) 0 [(0, .ref (ad 0)), (1, .int (J c)), (2, .int (J a))] []
  have hS_ := I_st hI
  have hE_ := I_en hI
  have hG_ := I_ga hI
  have hU_ := I_cu hI
  have hC_ := I_ca hI
  have hP_ := I_pa hI
  refine sw_aload_n X dX6_cellAt_0 rfl 0 rfl ?_
  refine sw_iload_n X dX6_cellAt_1 rfl 1 rfl ?_
  refine sw_callVI0 (C := RX6) (As := [.int (J c)]) (rest := []) X (c_X6_isCar l D k ad st tl t x y h c (by omega) (by omega)) (cwV 1 (sw_ts X) (sw_goodV gw4_102 gw4_104 gws_23 gw1_3 gw4_105) rfl rfl rfl (by decide +kernel) ⟨Nat.le_of_ble_eq_true rfl, Nat.le_of_ble_eq_true rfl⟩) 0 (ci := 6) rfl rfl rfl dX6_cellAt_2 rfl rfl (Nat.le_of_ble_eq_true rfl) ⟨Nat.le_of_ble_eq_true rfl, Nat.le_of_ble_eq_true rfl⟩ (fun z1 w9 hp2 => ?_)
  obtain ⟨rfl, hp2⟩ := hp2
  refine sw_istore_n (lv' := [(3, .int (J z1)), (0, .ref (ad 0)), (1, .int (J c)), (2, .int (J a))]) X dX6_cellAt_5 rfl (by decide) rfl ?_
  refine sw_aload_n X dX6_cellAt_6 rfl 1 rfl ?_
  refine sw_iload_n X dX6_cellAt_7 rfl 0 rfl ?_
  refine sw_if_ne (tgt := 15) X (by omega) dX6_cellAt_8 (by decide) (fun h3 => ?_) (fun h3 => ?_)
  · have hck := clk_b hI (c := c) (by omega) (by omega)
    refine sw_iload_n X dX6_cellAt_15 rfl 3 rfl ?_
    refine sw_iconst X dX6_cellAt_16 ?_
    refine sw_aload_n X dX6_cellAt_17 rfl 1 rfl ?_
    refine sw_iload_n X dX6_cellAt_18 rfl 2 rfl ?_
    refine sw_callVI0 (C := RX6) (As := [.int (J c)]) (rest := [.int (J 0), .int (J a), .ref (ad 0)]) X (c_X6_clockOf l D k N ad st tl t x y h c hI (by omega)) (cwV 1 (sw_ts X) (sw_goodV gw4_106 gw4_108 gws_24 gw1_3 gw4_109) rfl rfl rfl (by decide +kernel) ⟨Nat.le_of_ble_eq_true rfl, Nat.le_of_ble_eq_true rfl⟩) 0 (ci := 6) rfl rfl rfl dX6_cellAt_19 rfl rfl (Nat.le_of_ble_eq_true rfl) ⟨Nat.le_of_ble_eq_true rfl, Nat.le_of_ble_eq_true rfl⟩ (fun z4 w9 hp5 => ?_)
    obtain ⟨rfl, rfl⟩ := hp5
    refine sw_callSI0 (As := [.int (J a), .int (J 0), .int (J (clk st c))]) (rest := [.ref (ad 0)]) X (c_X6_in l D k (mW k ad st tl t x y h) a 0 (clk st c) (by omega)) (va_cwS 3 (sw_ts X) (sw_goodS gw4_55 gw4_56 gw1_3 gw4_57) rfl rfl rfl (by decide +kernel) ⟨Nat.le_of_ble_eq_true rfl, Nat.le_of_ble_eq_true rfl⟩) dX6_cellAt_22 rfl rfl (Nat.le_of_ble_eq_true rfl) ⟨Nat.le_of_ble_eq_true rfl, Nat.le_of_ble_eq_true rfl⟩ (fun z6 w9 hp7 => ?_)
    obtain ⟨rfl, hp7⟩ := hp7
    refine sw_if_eq (tgt := 32) X (by omega) dX6_cellAt_25 (by decide) (fun h8 => ?_) (fun h8 => ?_)
    · refine sw_iconst X dX6_cellAt_32 ?_
      refine sw_callVI0 (C := RX6) (As := [.int (J 2)]) (rest := []) X (c_X6_goesWell l D k ad st tl t x y h 2 (by omega)) (cwV 1 (sw_ts X) (sw_goodV gw4_58 gw4_60 gws_17 gw1_3 gw4_61) rfl rfl rfl (by decide +kernel) ⟨Nat.le_of_ble_eq_true rfl, Nat.le_of_ble_eq_true rfl⟩) 0 (ci := 6) rfl rfl rfl dX6_cellAt_33 rfl rfl (Nat.le_of_ble_eq_true rfl) ⟨Nat.le_of_ble_eq_true rfl, Nat.le_of_ble_eq_true rfl⟩ (fun z9 w9 hp10 => ?_)
      obtain ⟨rfl, hp10⟩ := hp10
      obtain rfl : z9 = 0 := by omega
      clear hp10
      refine sw_if_ne (tgt := 41) X (by omega) dX6_cellAt_36 (by decide) (fun h11 => ?_) (fun h11 => ?_)
      · exfalso; revert h11; decide
      · refine sw_iconst X dX6_cellAt_39 ?_
        exact RI _ _ _ _ _ _ dX6_cellAt_40 (by decide) (by decide) rfl (Or.inl ⟨_, _, _, _, _, rfl, by decide, by unfold kCellAt; rw [if_neg (by omega), if_neg (by omega)]⟩)
    · refine sw_iconst X dX6_cellAt_28 ?_
      refine sw_goto (tgt := 33) X dX6_cellAt_29 (by decide) ?_
      refine sw_callVI0 (C := RX6) (As := [.int (J 0)]) (rest := []) X (c_X6_goesWell l D k ad st tl t x y h 0 (by omega)) (cwV 1 (sw_ts X) (sw_goodV gw4_58 gw4_60 gws_17 gw1_3 gw4_61) rfl rfl rfl (by decide +kernel) ⟨Nat.le_of_ble_eq_true rfl, Nat.le_of_ble_eq_true rfl⟩) 0 (ci := 6) rfl rfl rfl dX6_cellAt_33 rfl rfl (Nat.le_of_ble_eq_true rfl) ⟨Nat.le_of_ble_eq_true rfl, Nat.le_of_ble_eq_true rfl⟩ (fun z12 w9 hp13 => ?_)
      obtain ⟨rfl, hp13⟩ := hp13
      obtain rfl : z12 = 1 := by omega
      clear hp13
      refine sw_if_ne (tgt := 41) X (by omega) dX6_cellAt_36 (by decide) (fun h14 => ?_) (fun h14 => ?_)
      · refine sw_aload_n X dX6_cellAt_41 rfl 1 rfl ?_
        refine sw_iload_n X dX6_cellAt_42 rfl 2 rfl ?_
        refine sw_iload_n X dX6_cellAt_43 rfl 3 rfl ?_
        refine sw_callVV0 (C := RX6) (As := [.int (J c), .int (J a)]) (rest := []) X (c_X6_followTrack l D k N ad st tl 0 x y h c a hI (by omega) (by omega)) (cwV 2 (sw_ts X) (sw_goodV gw4_110 gw4_112 gws_25 gw1_3 gw4_113) rfl rfl rfl (by decide +kernel) ⟨Nat.le_of_ble_eq_true rfl, Nat.le_of_ble_eq_true rfl⟩) 0 (ci := 6) rfl rfl rfl dX6_cellAt_44 rfl rfl (Nat.le_of_ble_eq_true rfl) ⟨Nat.le_of_ble_eq_true rfl, Nat.le_of_ble_eq_true rfl⟩ (fun w9 hp16 => ?_)
        obtain ⟨g17, rfl, eg17⟩ := hp16
        refine sw_aload_n X dX6_cellAt_47 rfl 1 rfl ?_
        refine sw_callVI0 (C := RX6) (As := []) (rest := []) X (c_X6_cell l D k ad st tl 0 ((pA st c a (nP st c)).1) ((pA st c a (nP st c)).2) g17) (cwV 0 (sw_ts X) (sw_goodV gw4_82 gw4_84 gws_22 gw1_3 gw4_85) rfl rfl rfl (by decide +kernel) ⟨Nat.le_of_ble_eq_true rfl, Nat.le_of_ble_eq_true rfl⟩) 0 (ci := 6) rfl rfl rfl dX6_cellAt_48 rfl rfl (Nat.le_of_ble_eq_true rfl) ⟨Nat.le_of_ble_eq_true rfl, Nat.le_of_ble_eq_true rfl⟩ (fun z18 w9 hp19 => ?_)
        obtain ⟨rfl, rfl⟩ := hp19
        exact RI _ _ _ _ _ _ dX6_cellAt_51 (by decide) (by decide) rfl (Or.inr ⟨_, _, _, _, rfl, by unfold kCellAt; rw [if_neg (by omega), if_pos (by omega)], rfl⟩)
      · exfalso; revert h14; decide
  · refine sw_iconst X dX6_cellAt_11 ?_
    refine sw_goto (tgt := 33) X dX6_cellAt_12 (by decide) ?_
    refine sw_callVI0 (C := RX6) (As := [.int (J 1)]) (rest := []) X (c_X6_goesWell l D k ad st tl t x y h 1 (by omega)) (cwV 1 (sw_ts X) (sw_goodV gw4_58 gw4_60 gws_17 gw1_3 gw4_61) rfl rfl rfl (by decide +kernel) ⟨Nat.le_of_ble_eq_true rfl, Nat.le_of_ble_eq_true rfl⟩) 0 (ci := 6) rfl rfl rfl dX6_cellAt_33 rfl rfl (Nat.le_of_ble_eq_true rfl) ⟨Nat.le_of_ble_eq_true rfl, Nat.le_of_ble_eq_true rfl⟩ (fun z20 w9 hp21 => ?_)
    obtain ⟨rfl, hp21⟩ := hp21
    obtain rfl : z20 = 0 := by omega
    clear hp21
    refine sw_if_ne (tgt := 41) X (by omega) dX6_cellAt_36 (by decide) (fun h22 => ?_) (fun h22 => ?_)
    · exfalso; revert h22; decide
    · refine sw_iconst X dX6_cellAt_39 ?_
      exact RI _ _ _ _ _ _ dX6_cellAt_40 (by decide) (by decide) rfl (Or.inl ⟨_, _, _, _, _, rfl, by decide, by unfold kCellAt; rw [if_pos (by omega)]⟩)
abbrev rm_X6_byMinutes : Room := { frames := 4, cells := 0, slots := 0, locals := 89 }
set_option maxHeartbeats 4000000 in
set_option maxRecDepth 100000 in
theorem c_X6_byMinutes (l : Launch) (D : va_G) (k : Nat → ClassId) (N : Int) (ad : Nat → Nat) (st : Nat → Int → Int) (tl : Int → Int) (t x y h : Int) (c b : Int) (hI : I6 N st) (h_c : (-2147483648 ≤ c ∧ c < 2147483648)) (h_b : (-2147483648 ≤ b ∧ b < 2147483648)) : CI l yX6_byMinutes cX6_byMinutes 3 (some .int) rm_X6_byMinutes D k [.ref (ad 0), .int (J c), .int (J b)] (mW k ad st tl t x y h) (oP k ad st (st) (kCG st c b) (pas st c b)) := by
  refine CI.of (by decide +kernel) (Nat.le_of_ble_eq_true rfl) (fun pᵢ eᵢ sᵢ mᵢ argsᵢ belowᵢ methᵢ cᵢ Aᵢ Qᵢ X RI => ?_)
  show SW pᵢ l eᵢ rm_X6_byMinutes sᵢ mᵢ argsᵢ belowᵢ methᵢ cᵢ 3 D Aᵢ 0 0 Qᵢ (mW k ad st tl t x y h) 0 [(0, .ref (ad 0)), (1, .int (J c)), (2, .int (J b))] []
  have hS_ := I_st hI
  have hE_ := I_en hI
  have hG_ := I_ga hI
  have hU_ := I_cu hI
  have hC_ := I_ca hI
  have hP_ := I_pa hI
  refine sw_aload_n X dX6_byMinutes_0 rfl 0 rfl ?_
  refine sw_aload_n X dX6_byMinutes_1 rfl 0 rfl ?_
  refine sw_iload_n X dX6_byMinutes_2 rfl 1 rfl ?_
  refine sw_callVI0 (C := RX6) (As := [.int (J c)]) (rest := [.ref (ad 0)]) X (c_X6_isCar l D k ad st tl t x y h c (by omega) (by omega)) (cwV 1 (sw_ts X) (sw_goodV gw4_102 gw4_104 gws_23 gw1_3 gw4_105) rfl rfl rfl (by decide +kernel) ⟨Nat.le_of_ble_eq_true rfl, Nat.le_of_ble_eq_true rfl⟩) 0 (ci := 6) rfl rfl rfl dX6_byMinutes_3 rfl rfl (Nat.le_of_ble_eq_true rfl) ⟨Nat.le_of_ble_eq_true rfl, Nat.le_of_ble_eq_true rfl⟩ (fun z1 w9 hp2 => ?_)
  obtain ⟨rfl, hp2⟩ := hp2
  refine sw_if_eq (tgt := 21) X (by omega) dX6_byMinutes_6 (by decide) (fun h3 => ?_) (fun h3 => ?_)
  · refine sw_iconst X dX6_byMinutes_21 ?_
    refine sw_callVI0 (C := RX6) (As := [.int (J 1)]) (rest := []) X (c_X6_goesWell l D k ad st tl t x y h 1 (by omega)) (cwV 1 (sw_ts X) (sw_goodV gw4_58 gw4_60 gws_17 gw1_3 gw4_61) rfl rfl rfl (by decide +kernel) ⟨Nat.le_of_ble_eq_true rfl, Nat.le_of_ble_eq_true rfl⟩) 0 (ci := 6) rfl rfl rfl dX6_byMinutes_22 rfl rfl (Nat.le_of_ble_eq_true rfl) ⟨Nat.le_of_ble_eq_true rfl, Nat.le_of_ble_eq_true rfl⟩ (fun z4 w9 hp5 => ?_)
    obtain ⟨rfl, hp5⟩ := hp5
    obtain rfl : z4 = 0 := by omega
    clear hp5
    refine sw_if_eq (tgt := 37) X (by omega) dX6_byMinutes_25 (by decide) (fun h6 => ?_) (fun h6 => ?_)
    · refine sw_iconst X dX6_byMinutes_37 ?_
      exact RI _ _ _ _ _ _ dX6_byMinutes_38 (by decide) (by decide) rfl (Or.inl ⟨_, _, _, _, _, rfl, by decide, by unfold kCG; rw [if_neg (by omega)]⟩)
    · exfalso; revert h6; decide
  · refine sw_aload_n X dX6_byMinutes_9 rfl 0 rfl ?_
    refine sw_iload_n X dX6_byMinutes_10 rfl 2 rfl ?_
    refine sw_callVI0 (C := RX6) (As := [.int (J b)]) (rest := [.ref (ad 0)]) X (c_X6_isGate l D k ad st tl t x y h b (by omega) (by omega)) (cwV 1 (sw_ts X) (sw_goodV gw4_150 gw4_152 gws_29 gw1_3 gw4_153) rfl rfl rfl (by decide +kernel) ⟨Nat.le_of_ble_eq_true rfl, Nat.le_of_ble_eq_true rfl⟩) 0 (ci := 6) rfl rfl rfl dX6_byMinutes_11 rfl rfl (Nat.le_of_ble_eq_true rfl) ⟨Nat.le_of_ble_eq_true rfl, Nat.le_of_ble_eq_true rfl⟩ (fun z7 w9 hp8 => ?_)
    obtain ⟨rfl, hp8⟩ := hp8
    refine sw_if_eq (tgt := 21) X (by omega) dX6_byMinutes_14 (by decide) (fun h9 => ?_) (fun h9 => ?_)
    · refine sw_iconst X dX6_byMinutes_21 ?_
      refine sw_callVI0 (C := RX6) (As := [.int (J 1)]) (rest := []) X (c_X6_goesWell l D k ad st tl t x y h 1 (by omega)) (cwV 1 (sw_ts X) (sw_goodV gw4_58 gw4_60 gws_17 gw1_3 gw4_61) rfl rfl rfl (by decide +kernel) ⟨Nat.le_of_ble_eq_true rfl, Nat.le_of_ble_eq_true rfl⟩) 0 (ci := 6) rfl rfl rfl dX6_byMinutes_22 rfl rfl (Nat.le_of_ble_eq_true rfl) ⟨Nat.le_of_ble_eq_true rfl, Nat.le_of_ble_eq_true rfl⟩ (fun z10 w9 hp11 => ?_)
      obtain ⟨rfl, hp11⟩ := hp11
      obtain rfl : z10 = 0 := by omega
      clear hp11
      refine sw_if_eq (tgt := 37) X (by omega) dX6_byMinutes_25 (by decide) (fun h12 => ?_) (fun h12 => ?_)
      · refine sw_iconst X dX6_byMinutes_37 ?_
        exact RI _ _ _ _ _ _ dX6_byMinutes_38 (by decide) (by decide) rfl (Or.inl ⟨_, _, _, _, _, rfl, by decide, by unfold kCG; rw [if_neg (by omega)]⟩)
      · exfalso; revert h12; decide
    · refine sw_iconst X dX6_byMinutes_17 ?_
      refine sw_goto (tgt := 22) X dX6_byMinutes_18 (by decide) ?_
      refine sw_callVI0 (C := RX6) (As := [.int (J 0)]) (rest := []) X (c_X6_goesWell l D k ad st tl t x y h 0 (by omega)) (cwV 1 (sw_ts X) (sw_goodV gw4_58 gw4_60 gws_17 gw1_3 gw4_61) rfl rfl rfl (by decide +kernel) ⟨Nat.le_of_ble_eq_true rfl, Nat.le_of_ble_eq_true rfl⟩) 0 (ci := 6) rfl rfl rfl dX6_byMinutes_22 rfl rfl (Nat.le_of_ble_eq_true rfl) ⟨Nat.le_of_ble_eq_true rfl, Nat.le_of_ble_eq_true rfl⟩ (fun z13 w9 hp14 => ?_)
      obtain ⟨rfl, hp14⟩ := hp14
      obtain rfl : z13 = 1 := by omega
      clear hp14
      refine sw_if_eq (tgt := 37) X (by omega) dX6_byMinutes_25 (by decide) (fun h15 => ?_) (fun h15 => ?_)
      · exfalso; revert h15; decide
      · refine sw_aload_n X dX6_byMinutes_28 rfl 0 rfl ?_
        refine sw_iload_n X dX6_byMinutes_29 rfl 1 rfl ?_
        refine sw_iload_n X dX6_byMinutes_30 rfl 2 rfl ?_
        refine sw_callVI0 (C := RX6) (As := [.int (J c), .int (J b)]) (rest := []) X (c_X6_passedAt l D k N ad st tl 0 x y h c b hI (by omega) (by omega)) (cwV 2 (sw_ts X) (sw_goodV gw4_158 gw4_160 gws_31 gw1_3 gw4_161) rfl rfl rfl (by decide +kernel) ⟨Nat.le_of_ble_eq_true rfl, Nat.le_of_ble_eq_true rfl⟩) 0 (ci := 6) rfl rfl rfl dX6_byMinutes_31 rfl rfl (Nat.le_of_ble_eq_true rfl) ⟨Nat.le_of_ble_eq_true rfl, Nat.le_of_ble_eq_true rfl⟩ (fun z16 w9 hp17 => ?_)
        obtain ⟨u18, v19, g20, rfl, rfl⟩ := hp17
        refine sw_goto (tgt := 38) X dX6_byMinutes_34 (by decide) ?_
        exact RI _ _ _ _ _ _ dX6_byMinutes_38 (by decide) (by decide) rfl (Or.inr ⟨_, _, _, _, rfl, by unfold kCG; rw [if_pos (by omega)], rfl⟩)
abbrev rm_X6_time : Room := { frames := 5, cells := 0, slots := 0, locals := 112 }
set_option maxHeartbeats 4000000 in
set_option maxRecDepth 100000 in
theorem c_X6_time (l : Launch) (D : va_G) (k : Nat → ClassId) (N : Int) (ad : Nat → Nat) (st : Nat → Int → Int) (tl : Int → Int) (t x y h : Int) (c b : Int) (hI : I6 N st) (h_c : (-2147483648 ≤ c ∧ c < 2147483648)) (h_b : (-2147483648 ≤ b ∧ b < 2147483648)) : CI l yX6_time cX6_time 3 (some .int) rm_X6_time D k [.ref (ad 0), .int (J c), .int (J b)] (mW k ad st tl t x y h) (oP k ad st (st) (kCG st c b) (tim st c b)) := by
  refine CI.of (by decide +kernel) (Nat.le_of_ble_eq_true rfl) (fun pᵢ eᵢ sᵢ mᵢ argsᵢ belowᵢ methᵢ cᵢ Aᵢ Qᵢ X RI => ?_)
  show SW pᵢ l eᵢ rm_X6_time sᵢ mᵢ argsᵢ belowᵢ methᵢ cᵢ 3 D Aᵢ 0 0 Qᵢ (mW k ad st tl t x y h) 0 [(0, .ref (ad 0)), (1, .int (J c)), (2, .int (J b))] []
  have hS_ := I_st hI
  have hE_ := I_en hI
  have hG_ := I_ga hI
  have hU_ := I_cu hI
  have hC_ := I_ca hI
  have hP_ := I_pa hI
  refine sw_aload_n X dX6_time_0 rfl 0 rfl ?_
  refine sw_aload_n X dX6_time_1 rfl 0 rfl ?_
  refine sw_iload_n X dX6_time_2 rfl 1 rfl ?_
  refine sw_callVI0 (C := RX6) (As := [.int (J c)]) (rest := [.ref (ad 0)]) X (c_X6_isCar l D k ad st tl t x y h c (by omega) (by omega)) (cwV 1 (sw_ts X) (sw_goodV gw4_102 gw4_104 gws_23 gw1_3 gw4_105) rfl rfl rfl (by decide +kernel) ⟨Nat.le_of_ble_eq_true rfl, Nat.le_of_ble_eq_true rfl⟩) 0 (ci := 6) rfl rfl rfl dX6_time_3 rfl rfl (Nat.le_of_ble_eq_true rfl) ⟨Nat.le_of_ble_eq_true rfl, Nat.le_of_ble_eq_true rfl⟩ (fun z1 w9 hp2 => ?_)
  obtain ⟨rfl, hp2⟩ := hp2
  refine sw_if_eq (tgt := 21) X (by omega) dX6_time_6 (by decide) (fun h3 => ?_) (fun h3 => ?_)
  · refine sw_iconst X dX6_time_21 ?_
    refine sw_callVI0 (C := RX6) (As := [.int (J 1)]) (rest := []) X (c_X6_goesWell l D k ad st tl t x y h 1 (by omega)) (cwV 1 (sw_ts X) (sw_goodV gw4_58 gw4_60 gws_17 gw1_3 gw4_61) rfl rfl rfl (by decide +kernel) ⟨Nat.le_of_ble_eq_true rfl, Nat.le_of_ble_eq_true rfl⟩) 0 (ci := 6) rfl rfl rfl dX6_time_22 rfl rfl (Nat.le_of_ble_eq_true rfl) ⟨Nat.le_of_ble_eq_true rfl, Nat.le_of_ble_eq_true rfl⟩ (fun z4 w9 hp5 => ?_)
    obtain ⟨rfl, hp5⟩ := hp5
    obtain rfl : z4 = 0 := by omega
    clear hp5
    refine sw_if_eq (tgt := 37) X (by omega) dX6_time_25 (by decide) (fun h6 => ?_) (fun h6 => ?_)
    · refine sw_iconst X dX6_time_37 ?_
      exact RI _ _ _ _ _ _ dX6_time_38 (by decide) (by decide) rfl (Or.inl ⟨_, _, _, _, _, rfl, by decide, by unfold kCG; rw [if_neg (by omega)]⟩)
    · exfalso; revert h6; decide
  · refine sw_aload_n X dX6_time_9 rfl 0 rfl ?_
    refine sw_iload_n X dX6_time_10 rfl 2 rfl ?_
    refine sw_callVI0 (C := RX6) (As := [.int (J b)]) (rest := [.ref (ad 0)]) X (c_X6_isGate l D k ad st tl t x y h b (by omega) (by omega)) (cwV 1 (sw_ts X) (sw_goodV gw4_150 gw4_152 gws_29 gw1_3 gw4_153) rfl rfl rfl (by decide +kernel) ⟨Nat.le_of_ble_eq_true rfl, Nat.le_of_ble_eq_true rfl⟩) 0 (ci := 6) rfl rfl rfl dX6_time_11 rfl rfl (Nat.le_of_ble_eq_true rfl) ⟨Nat.le_of_ble_eq_true rfl, Nat.le_of_ble_eq_true rfl⟩ (fun z7 w9 hp8 => ?_)
    obtain ⟨rfl, hp8⟩ := hp8
    refine sw_if_eq (tgt := 21) X (by omega) dX6_time_14 (by decide) (fun h9 => ?_) (fun h9 => ?_)
    · refine sw_iconst X dX6_time_21 ?_
      refine sw_callVI0 (C := RX6) (As := [.int (J 1)]) (rest := []) X (c_X6_goesWell l D k ad st tl t x y h 1 (by omega)) (cwV 1 (sw_ts X) (sw_goodV gw4_58 gw4_60 gws_17 gw1_3 gw4_61) rfl rfl rfl (by decide +kernel) ⟨Nat.le_of_ble_eq_true rfl, Nat.le_of_ble_eq_true rfl⟩) 0 (ci := 6) rfl rfl rfl dX6_time_22 rfl rfl (Nat.le_of_ble_eq_true rfl) ⟨Nat.le_of_ble_eq_true rfl, Nat.le_of_ble_eq_true rfl⟩ (fun z10 w9 hp11 => ?_)
      obtain ⟨rfl, hp11⟩ := hp11
      obtain rfl : z10 = 0 := by omega
      clear hp11
      refine sw_if_eq (tgt := 37) X (by omega) dX6_time_25 (by decide) (fun h12 => ?_) (fun h12 => ?_)
      · refine sw_iconst X dX6_time_37 ?_
        exact RI _ _ _ _ _ _ dX6_time_38 (by decide) (by decide) rfl (Or.inl ⟨_, _, _, _, _, rfl, by decide, by unfold kCG; rw [if_neg (by omega)]⟩)
      · exfalso; revert h12; decide
    · refine sw_iconst X dX6_time_17 ?_
      refine sw_goto (tgt := 22) X dX6_time_18 (by decide) ?_
      refine sw_callVI0 (C := RX6) (As := [.int (J 0)]) (rest := []) X (c_X6_goesWell l D k ad st tl t x y h 0 (by omega)) (cwV 1 (sw_ts X) (sw_goodV gw4_58 gw4_60 gws_17 gw1_3 gw4_61) rfl rfl rfl (by decide +kernel) ⟨Nat.le_of_ble_eq_true rfl, Nat.le_of_ble_eq_true rfl⟩) 0 (ci := 6) rfl rfl rfl dX6_time_22 rfl rfl (Nat.le_of_ble_eq_true rfl) ⟨Nat.le_of_ble_eq_true rfl, Nat.le_of_ble_eq_true rfl⟩ (fun z13 w9 hp14 => ?_)
      obtain ⟨rfl, hp14⟩ := hp14
      obtain rfl : z13 = 1 := by omega
      clear hp14
      refine sw_if_eq (tgt := 37) X (by omega) dX6_time_25 (by decide) (fun h15 => ?_) (fun h15 => ?_)
      · exfalso; revert h15; decide
      · refine sw_aload_n X dX6_time_28 rfl 0 rfl ?_
        refine sw_iload_n X dX6_time_29 rfl 1 rfl ?_
        refine sw_iload_n X dX6_time_30 rfl 2 rfl ?_
        refine sw_callVI0 (C := RX6) (As := [.int (J c), .int (J b)]) (rest := []) X (c_X6_timeOf l D k N ad st tl 0 x y h c b hI (by omega) (by omega)) (cwV 2 (sw_ts X) (sw_goodV gw4_154 gw4_156 gws_30 gw1_3 gw4_157) rfl rfl rfl (by decide +kernel) ⟨Nat.le_of_ble_eq_true rfl, Nat.le_of_ble_eq_true rfl⟩) 0 (ci := 6) rfl rfl rfl dX6_time_31 rfl rfl (Nat.le_of_ble_eq_true rfl) ⟨Nat.le_of_ble_eq_true rfl, Nat.le_of_ble_eq_true rfl⟩ (fun z16 w9 hp17 => ?_)
        obtain ⟨u18, v19, g20, rfl, rfl⟩ := hp17
        refine sw_goto (tgt := 38) X dX6_time_34 (by decide) ?_
        exact RI _ _ _ _ _ _ dX6_time_38 (by decide) (by decide) rfl (Or.inr ⟨_, _, _, _, rfl, by unfold kCG; rw [if_pos (by omega)], rfl⟩)
abbrev rm_X6_points : Room := { frames := 4, cells := 0, slots := 0, locals := 93 }
set_option maxHeartbeats 4000000 in
set_option maxRecDepth 100000 in
theorem c_X6_points (l : Launch) (D : va_G) (k : Nat → ClassId) (N : Int) (ad : Nat → Nat) (st : Nat → Int → Int) (tl : Int → Int) (t x y h : Int) (c : Int) (hI : I6 N st) (h_c : (-2147483648 ≤ c ∧ c < 2147483648)) : CI l yX6_points cX6_points 2 (some .int) rm_X6_points D k [.ref (ad 0), .int (J c)] (mW k ad st tl t x y h) (oP k ad st (st) (kCar st c) (pts st c)) := by
  refine CI.of (by decide +kernel) (Nat.le_of_ble_eq_true rfl) (fun pᵢ eᵢ sᵢ mᵢ argsᵢ belowᵢ methᵢ cᵢ Aᵢ Qᵢ X RI => ?_)
  show SW pᵢ l eᵢ rm_X6_points sᵢ mᵢ argsᵢ belowᵢ methᵢ cᵢ 2 D Aᵢ 0 0 Qᵢ (mW k ad st tl t x y h) 0 [(0, .ref (ad 0)), (1, .int (J c))] []
  have hS_ := I_st hI
  have hE_ := I_en hI
  have hG_ := I_ga hI
  have hU_ := I_cu hI
  have hC_ := I_ca hI
  have hP_ := I_pa hI
  refine sw_aload_n X dX6_points_0 rfl 0 rfl ?_
  refine sw_aload_n X dX6_points_1 rfl 0 rfl ?_
  refine sw_iload_n X dX6_points_2 rfl 1 rfl ?_
  refine sw_callVI0 (C := RX6) (As := [.int (J c)]) (rest := [.ref (ad 0)]) X (c_X6_isCar l D k ad st tl t x y h c (by omega) (by omega)) (cwV 1 (sw_ts X) (sw_goodV gw4_102 gw4_104 gws_23 gw1_3 gw4_105) rfl rfl rfl (by decide +kernel) ⟨Nat.le_of_ble_eq_true rfl, Nat.le_of_ble_eq_true rfl⟩) 0 (ci := 6) rfl rfl rfl dX6_points_3 rfl rfl (Nat.le_of_ble_eq_true rfl) ⟨Nat.le_of_ble_eq_true rfl, Nat.le_of_ble_eq_true rfl⟩ (fun z1 w9 hp2 => ?_)
  obtain ⟨rfl, hp2⟩ := hp2
  refine sw_if_eq (tgt := 13) X (by omega) dX6_points_6 (by decide) (fun h3 => ?_) (fun h3 => ?_)
  · refine sw_iconst X dX6_points_13 ?_
    refine sw_callVI0 (C := RX6) (As := [.int (J 1)]) (rest := []) X (c_X6_goesWell l D k ad st tl t x y h 1 (by omega)) (cwV 1 (sw_ts X) (sw_goodV gw4_58 gw4_60 gws_17 gw1_3 gw4_61) rfl rfl rfl (by decide +kernel) ⟨Nat.le_of_ble_eq_true rfl, Nat.le_of_ble_eq_true rfl⟩) 0 (ci := 6) rfl rfl rfl dX6_points_14 rfl rfl (Nat.le_of_ble_eq_true rfl) ⟨Nat.le_of_ble_eq_true rfl, Nat.le_of_ble_eq_true rfl⟩ (fun z4 w9 hp5 => ?_)
    obtain ⟨rfl, hp5⟩ := hp5
    obtain rfl : z4 = 0 := by omega
    clear hp5
    refine sw_if_eq (tgt := 28) X (by omega) dX6_points_17 (by decide) (fun h6 => ?_) (fun h6 => ?_)
    · refine sw_iconst X dX6_points_28 ?_
      exact RI _ _ _ _ _ _ dX6_points_29 (by decide) (by decide) rfl (Or.inl ⟨_, _, _, _, _, rfl, by decide, by unfold kCar; rw [if_neg (by omega)]⟩)
    · exfalso; revert h6; decide
  · refine sw_iconst X dX6_points_9 ?_
    refine sw_goto (tgt := 14) X dX6_points_10 (by decide) ?_
    refine sw_callVI0 (C := RX6) (As := [.int (J 0)]) (rest := []) X (c_X6_goesWell l D k ad st tl t x y h 0 (by omega)) (cwV 1 (sw_ts X) (sw_goodV gw4_58 gw4_60 gws_17 gw1_3 gw4_61) rfl rfl rfl (by decide +kernel) ⟨Nat.le_of_ble_eq_true rfl, Nat.le_of_ble_eq_true rfl⟩) 0 (ci := 6) rfl rfl rfl dX6_points_14 rfl rfl (Nat.le_of_ble_eq_true rfl) ⟨Nat.le_of_ble_eq_true rfl, Nat.le_of_ble_eq_true rfl⟩ (fun z7 w9 hp8 => ?_)
    obtain ⟨rfl, hp8⟩ := hp8
    obtain rfl : z7 = 1 := by omega
    clear hp8
    refine sw_if_eq (tgt := 28) X (by omega) dX6_points_17 (by decide) (fun h9 => ?_) (fun h9 => ?_)
    · exfalso; revert h9; decide
    · refine sw_aload_n X dX6_points_20 rfl 0 rfl ?_
      refine sw_iload_n X dX6_points_21 rfl 1 rfl ?_
      refine sw_callVI0 (C := RX6) (As := [.int (J c)]) (rest := []) X (c_X6_pointsOf l D k N ad st tl 0 x y h c hI (by omega)) (cwV 1 (sw_ts X) (sw_goodV gw4_219 gw4_221 gws_35 gw1_3 gw4_222) rfl rfl rfl (by decide +kernel) ⟨Nat.le_of_ble_eq_true rfl, Nat.le_of_ble_eq_true rfl⟩) 0 (ci := 6) rfl rfl rfl dX6_points_22 rfl rfl (Nat.le_of_ble_eq_true rfl) ⟨Nat.le_of_ble_eq_true rfl, Nat.le_of_ble_eq_true rfl⟩ (fun z10 w9 hp11 => ?_)
      obtain ⟨u12, v13, g14, rfl, rfl⟩ := hp11
      refine sw_goto (tgt := 29) X dX6_points_25 (by decide) ?_
      exact RI _ _ _ _ _ _ dX6_points_29 (by decide) (by decide) rfl (Or.inr ⟨_, _, _, _, rfl, by unfold kCar; rw [if_pos (by omega)], rfl⟩)
abbrev rm_X6_followed : Room := { frames := 2, cells := 0, slots := 0, locals := 43 }
set_option maxHeartbeats 4000000 in
set_option maxRecDepth 100000 in
theorem c_X6_followed (l : Launch) (D : va_G) (k : Nat → ClassId) (N : Int) (ad : Nat → Nat) (st : Nat → Int → Int) (tl : Int → Int) (t x y h : Int) (c : Int) (hI : I6 N st) (h_c : (-2147483648 ≤ c ∧ c < 2147483648)) : CI l yX6_followed cX6_followed 5 (some .int) rm_X6_followed D k [.ref (ad 0), .int (J c)] (mW k ad st tl t x y h) (oP k ad st (st) (kCar st c) ((folS st c (nP st c)).1)) := by
  refine CI.of (by decide +kernel) (Nat.le_of_ble_eq_true rfl) (fun pᵢ eᵢ sᵢ mᵢ argsᵢ belowᵢ methᵢ cᵢ Aᵢ Qᵢ X RI => ?_)
  show SW pᵢ l eᵢ rm_X6_followed sᵢ mᵢ argsᵢ belowᵢ methᵢ cᵢ 5 D Aᵢ 0 0 Qᵢ (mW k ad st tl t x y h) 0 [(0, .ref (ad 0)), (1, .int (J c))] []
  have hS_ := I_st hI
  have hE_ := I_en hI
  have hG_ := I_ga hI
  have hU_ := I_cu hI
  have hC_ := I_ca hI
  have hP_ := I_pa hI
  refine sw_aload_n X dX6_followed_0 rfl 0 rfl ?_
  refine sw_aload_n X dX6_followed_1 rfl 0 rfl ?_
  refine sw_iload_n X dX6_followed_2 rfl 1 rfl ?_
  refine sw_callVI0 (C := RX6) (As := [.int (J c)]) (rest := [.ref (ad 0)]) X (c_X6_isCar l D k ad st tl t x y h c (by omega) (by omega)) (cwV 1 (sw_ts X) (sw_goodV gw4_102 gw4_104 gws_23 gw1_3 gw4_105) rfl rfl rfl (by decide +kernel) ⟨Nat.le_of_ble_eq_true rfl, Nat.le_of_ble_eq_true rfl⟩) 0 (ci := 6) rfl rfl rfl dX6_followed_3 rfl rfl (Nat.le_of_ble_eq_true rfl) ⟨Nat.le_of_ble_eq_true rfl, Nat.le_of_ble_eq_true rfl⟩ (fun z1 w9 hp2 => ?_)
  obtain ⟨rfl, hp2⟩ := hp2
  refine sw_if_eq (tgt := 13) X (by omega) dX6_followed_6 (by decide) (fun h3 => ?_) (fun h3 => ?_)
  · refine sw_iconst X dX6_followed_13 ?_
    refine sw_callVI0 (C := RX6) (As := [.int (J 1)]) (rest := []) X (c_X6_goesWell l D k ad st tl t x y h 1 (by omega)) (cwV 1 (sw_ts X) (sw_goodV gw4_58 gw4_60 gws_17 gw1_3 gw4_61) rfl rfl rfl (by decide +kernel) ⟨Nat.le_of_ble_eq_true rfl, Nat.le_of_ble_eq_true rfl⟩) 0 (ci := 6) rfl rfl rfl dX6_followed_14 rfl rfl (Nat.le_of_ble_eq_true rfl) ⟨Nat.le_of_ble_eq_true rfl, Nat.le_of_ble_eq_true rfl⟩ (fun z4 w9 hp5 => ?_)
    obtain ⟨rfl, hp5⟩ := hp5
    obtain rfl : z4 = 0 := by omega
    clear hp5
    refine sw_if_ne (tgt := 22) X (by omega) dX6_followed_17 (by decide) (fun h6 => ?_) (fun h6 => ?_)
    · exfalso; revert h6; decide
    · refine sw_iconst X dX6_followed_20 ?_
      exact RI _ _ _ _ _ _ dX6_followed_21 (by decide) (by decide) rfl (Or.inl ⟨_, _, _, _, _, rfl, by decide, by unfold kCar; rw [if_neg (by omega)]⟩)
  · refine sw_iconst X dX6_followed_9 ?_
    refine sw_goto (tgt := 14) X dX6_followed_10 (by decide) ?_
    refine sw_callVI0 (C := RX6) (As := [.int (J 0)]) (rest := []) X (c_X6_goesWell l D k ad st tl t x y h 0 (by omega)) (cwV 1 (sw_ts X) (sw_goodV gw4_58 gw4_60 gws_17 gw1_3 gw4_61) rfl rfl rfl (by decide +kernel) ⟨Nat.le_of_ble_eq_true rfl, Nat.le_of_ble_eq_true rfl⟩) 0 (ci := 6) rfl rfl rfl dX6_followed_14 rfl rfl (Nat.le_of_ble_eq_true rfl) ⟨Nat.le_of_ble_eq_true rfl, Nat.le_of_ble_eq_true rfl⟩ (fun z7 w9 hp8 => ?_)
    obtain ⟨rfl, hp8⟩ := hp8
    obtain rfl : z7 = 1 := by omega
    clear hp8
    refine sw_if_ne (tgt := 22) X (by omega) dX6_followed_17 (by decide) (fun h9 => ?_) (fun h9 => ?_)
    · refine sw_iconst X dX6_followed_22 ?_
      refine sw_istore_n (lv' := [(2, .int (J 0)), (0, .ref (ad 0)), (1, .int (J c))]) X dX6_followed_23 rfl (by decide) rfl ?_
      refine sw_iconst X dX6_followed_24 ?_
      refine sw_istore_n (lv' := [(3, .int (J 0)), (2, .int (J 0)), (0, .ref (ad 0)), (1, .int (J c))]) X dX6_followed_25 rfl (by decide) rfl ?_
      have hcc := I_c hI c (by omega) (by omega)
      refine sw_bipush X dX6_followed_26 (by decide +kernel) ?_
      refine sw_iload_n X dX6_followed_28 rfl 3 rfl ?_
      refine sw_imul X dX6_followed_29 ?_
      refine sw_istore (lv' := [(4, .int (J (60 * c))), (3, .int (J 0)), (2, .int (J 0)), (0, .ref (ad 0)), (1, .int (J c))]) X dX6_followed_30 (by decide) rfl ?_
      have lp11 : ∀ (n12 : Nat) (n : Nat) (mn of i : Int), st 10 c - (n : Int) < (n12 : Nat) → (i = 60 * c + (n : Int)) → ((n : Int) ≤ st 10 c) → (mn = (folS st c n).1 ∧ of = (folS st c n).2) → SW pᵢ l eᵢ rm_X6_followed sᵢ mᵢ argsᵢ belowᵢ methᵢ cᵢ 5 D Aᵢ 0 0 Qᵢ (mW k ad st tl 0 x y h) 32 [(0, .ref (ad 0)), (1, .int (J c)), (2, .int (J mn)), (3, .int (J of)), (4, .int (J i))] [] := by
        intro n12
        induction n12 with
        | zero => intro n mn of i hm13 hi hn hF; exact absurd hm13 (by omega)
        | succ n12 ih10 =>
          intro n mn of i hm13 hi hn hF
          have hb9 := fol_b hI (c := c) n
          rw [← hF.1, ← hF.2] at hb9
          refine sw_iload X dX6_followed_32 4 rfl ?_
          refine sw_bipush X dX6_followed_34 (by decide +kernel) ?_
          refine sw_iload_n X dX6_followed_36 rfl 1 rfl ?_
          refine sw_imul X dX6_followed_37 ?_
          refine sw_aload_n X dX6_followed_38 rfl 0 rfl ?_
          refine sw_get (q0 := 0) (v := .ref (ad 10)) X iw_X6 rfl rfl 10 (by decide) gw3_218 rfl rfl dX6_followed_39 ?_
          refine sw_iload_n X dX6_followed_42 rfl 1 rfl ?_
          refine sw_iald (q0 := 5) (n := 8) X rfl (by omega) (by omega) (by decide) dX6_followed_43 ?_
          refine sw_iadd X dX6_followed_44 ?_
          refine sw_icmp_ge (tgt := 127) X (by omega) (by omega) dX6_followed_45 (by decide) (fun h14 => ?_) (fun h14 => ?_)
          · refine sw_iload_n X dX6_followed_127 rfl 2 rfl ?_
            exact RI _ _ _ _ _ _ dX6_followed_128 (by decide) (by decide) rfl (Or.inr ⟨_, _, _, _, rfl, by unfold kCar; rw [if_pos (by omega)], by rw [hF.1, show nP st c = n by unfold nP; omega]⟩)
          · have hp1 := I_p hI c n (by omega) (by omega) (by omega) (by omega)
            rw [← hi] at hp1
            refine sw_aload_n X dX6_followed_48 rfl 0 rfl ?_
            refine sw_get (q0 := 0) (v := .ref (ad 11)) X iw_X6 rfl rfl 11 (by decide) gw3_219 rfl rfl dX6_followed_49 ?_
            refine sw_iload X dX6_followed_52 4 rfl ?_
            refine sw_iald (q0 := 6) (n := 480) X rfl (by omega) (by omega) (by decide) dX6_followed_54 ?_
            refine sw_iconst X dX6_followed_55 ?_
            refine sw_icmp_eq (tgt := 121) X (by omega) (by omega) dX6_followed_56 (by decide) (fun h15 => ?_) (fun h15 => ?_)
            · refine sw_iinc (lv' := [(4, .int (J (i + 1))), (0, .ref (ad 0)), (1, .int (J c)), (2, .int (J mn)), (3, .int (J of))]) X dX6_followed_121 4 rfl (by decide) rfl ?_
              refine sw_goto (tgt := 32) X dX6_followed_124 (by decide) ?_
              refine sw_sub [1, 2, 3, 4, 0] rfl ?_
              exact ih10 (n + 1) mn of (i + 1) (by omega) (by omega) (by omega) (by first | exact fol_skip hi hF (by omega) | exact fol_take hi hF (by omega) (by omega) hz8 (by omega))
            · refine sw_iload_n X dX6_followed_59 rfl 3 rfl ?_
              refine sw_if_ne (tgt := 121) X (by omega) dX6_followed_60 (by decide) (fun h16 => ?_) (fun h16 => ?_)
              · refine sw_iinc (lv' := [(4, .int (J (i + 1))), (0, .ref (ad 0)), (1, .int (J c)), (2, .int (J mn)), (3, .int (J of))]) X dX6_followed_121 4 rfl (by decide) rfl ?_
                refine sw_goto (tgt := 32) X dX6_followed_124 (by decide) ?_
                refine sw_sub [1, 2, 3, 4, 0] rfl ?_
                exact ih10 (n + 1) mn of (i + 1) (by omega) (by omega) (by omega) (by first | exact fol_skip hi hF (by omega) | exact fol_take hi hF (by omega) (by omega) hz8 (by omega))
              · refine sw_iload_n X dX6_followed_63 rfl 2 rfl ?_
                refine sw_aload_n X dX6_followed_64 rfl 0 rfl ?_
                refine sw_get (q0 := 0) (v := .int (J (st 2 0))) X iw_X6 rfl rfl 2 (by decide) gw3_210 rfl rfl dX6_followed_65 ?_
                have jn17 : ∀ (z8 : Int), ((z8 = 1 ∧ (mn = st 2 0 ∨ st 11 i ≠ st 3 mn ∨ st 13 i ≠ st 4 mn)) ∨ (z8 = 0 ∧ ¬ (mn = st 2 0 ∨ st 11 i ≠ st 3 mn ∨ st 13 i ≠ st 4 mn))) → SW pᵢ l eᵢ rm_X6_followed sᵢ mᵢ argsᵢ belowᵢ methᵢ cᵢ 5 D Aᵢ 0 0 Qᵢ (mW k ad st tl 0 x y h) 108 [(0, .ref (ad 0)), (1, .int (J c)), (2, .int (J mn)), (3, .int (J of)), (4, .int (J i))] [.int (J z8)] := by
                  intro z8 hz8
                  refine sw_istore_n (lv' := [(3, .int (J z8)), (0, .ref (ad 0)), (1, .int (J c)), (2, .int (J mn)), (4, .int (J i))]) X dX6_followed_108 rfl (by decide) rfl ?_
                  refine sw_iload_n X dX6_followed_109 rfl 3 rfl ?_
                  refine sw_iload_n X dX6_followed_110 rfl 0 rfl ?_
                  refine sw_if_eq (tgt := 118) X (by omega) dX6_followed_111 (by decide) (fun h18 => ?_) (fun h18 => ?_)
                  · refine sw_iconst X dX6_followed_118 ?_
                    refine sw_iadd X dX6_followed_119 ?_
                    refine sw_istore_n (lv' := [(2, .int (J (mn + 1))), (3, .int (J z8)), (0, .ref (ad 0)), (1, .int (J c)), (4, .int (J i))]) X dX6_followed_120 rfl (by decide) rfl ?_
                    refine sw_iinc (lv' := [(4, .int (J (i + 1))), (2, .int (J (mn + 1))), (3, .int (J z8)), (0, .ref (ad 0)), (1, .int (J c))]) X dX6_followed_121 4 rfl (by decide) rfl ?_
                    refine sw_goto (tgt := 32) X dX6_followed_124 (by decide) ?_
                    refine sw_sub [3, 4, 1, 2, 0] rfl ?_
                    exact ih10 (n + 1) (mn + 1) z8 (i + 1) (by omega) (by omega) (by omega) (by first | exact fol_skip hi hF (by omega) | exact fol_take hi hF (by omega) (by omega) hz8 (by omega))
                  · refine sw_iconst X dX6_followed_114 ?_
                    refine sw_goto (tgt := 119) X dX6_followed_115 (by decide) ?_
                    refine sw_iadd X dX6_followed_119 ?_
                    refine sw_istore_n (lv' := [(2, .int (J (mn + 0))), (3, .int (J z8)), (0, .ref (ad 0)), (1, .int (J c)), (4, .int (J i))]) X dX6_followed_120 rfl (by decide) rfl ?_
                    refine sw_iinc (lv' := [(4, .int (J (i + 1))), (2, .int (J (mn + 0))), (3, .int (J z8)), (0, .ref (ad 0)), (1, .int (J c))]) X dX6_followed_121 4 rfl (by decide) rfl ?_
                    refine sw_goto (tgt := 32) X dX6_followed_124 (by decide) ?_
                    refine sw_sub [3, 4, 1, 2, 0] rfl ?_
                    exact ih10 (n + 1) (mn + 0) z8 (i + 1) (by omega) (by omega) (by omega) (by first | exact fol_skip hi hF (by omega) | exact fol_take hi hF (by omega) (by omega) hz8 (by omega))
                refine sw_icmp_eq (tgt := 103) X (by omega) (by omega) dX6_followed_68 (by decide) (fun h19 => ?_) (fun h19 => ?_)
                · refine sw_iconst X dX6_followed_103 ?_
                  refine sw_goto (tgt := 108) X dX6_followed_104 (by decide) ?_
                  exact jn17 1 (by omega)
                · have he := I_e hI mn (by omega) (by omega)
                  refine sw_aload_n X dX6_followed_71 rfl 0 rfl ?_
                  refine sw_get (q0 := 0) (v := .ref (ad 11)) X iw_X6 rfl rfl 11 (by decide) gw3_219 rfl rfl dX6_followed_72 ?_
                  refine sw_iload X dX6_followed_75 4 rfl ?_
                  refine sw_iald (q0 := 6) (n := 480) X rfl (by omega) (by omega) (by decide) dX6_followed_77 ?_
                  refine sw_aload_n X dX6_followed_78 rfl 0 rfl ?_
                  refine sw_get (q0 := 0) (v := .ref (ad 3)) X iw_X6 rfl rfl 3 (by decide) gw3_211 rfl rfl dX6_followed_79 ?_
                  refine sw_iload_n X dX6_followed_82 rfl 2 rfl ?_
                  refine sw_iald (q0 := 1) (n := 30) X rfl (by omega) (by omega) (by decide) dX6_followed_83 ?_
                  refine sw_icmp_ne (tgt := 103) X (by omega) (by omega) dX6_followed_84 (by decide) (fun h20 => ?_) (fun h20 => ?_)
                  · refine sw_iconst X dX6_followed_103 ?_
                    refine sw_goto (tgt := 108) X dX6_followed_104 (by decide) ?_
                    exact jn17 1 (by omega)
                  · refine sw_aload_n X dX6_followed_87 rfl 0 rfl ?_
                    refine sw_get (q0 := 0) (v := .ref (ad 13)) X iw_X6 rfl rfl 13 (by decide) gw3_221 rfl rfl dX6_followed_88 ?_
                    refine sw_iload X dX6_followed_91 4 rfl ?_
                    refine sw_iald (q0 := 8) (n := 480) X rfl (by omega) (by omega) (by decide) dX6_followed_93 ?_
                    refine sw_aload_n X dX6_followed_94 rfl 0 rfl ?_
                    refine sw_get (q0 := 0) (v := .ref (ad 4)) X iw_X6 rfl rfl 4 (by decide) gw3_212 rfl rfl dX6_followed_95 ?_
                    refine sw_iload_n X dX6_followed_98 rfl 2 rfl ?_
                    refine sw_iald (q0 := 2) (n := 30) X rfl (by omega) (by omega) (by decide) dX6_followed_99 ?_
                    refine sw_icmp_eq (tgt := 107) X (by omega) (by omega) dX6_followed_100 (by decide) (fun h21 => ?_) (fun h21 => ?_)
                    · refine sw_iconst X dX6_followed_107 ?_
                      exact jn17 0 (by omega)
                    · refine sw_iconst X dX6_followed_103 ?_
                      refine sw_goto (tgt := 108) X dX6_followed_104 (by decide) ?_
                      exact jn17 1 (by omega)
      refine sw_sub [3, 4, 2, 1, 0] rfl ?_
      exact lp11 (st 10 c - (0 : Int)).toNat.succ 0 0 0 (60 * c) (by omega) (by simp) (by omega) (⟨rfl, rfl⟩)
    · exfalso; revert h9; decide
abbrev rm_X6_lent : Room := { frames := 2, cells := 0, slots := 0, locals := 43 }
set_option maxHeartbeats 4000000 in
set_option maxRecDepth 100000 in
theorem c_X6_lent (l : Launch) (D : va_G) (k : Nat → ClassId) (N : Int) (ad : Nat → Nat) (st : Nat → Int → Int) (tl : Int → Int) (t x y h : Int) (c : Int) (hI : I6 N st) (h_c : (-2147483648 ≤ c ∧ c < 2147483648)) : CI l yX6_lent cX6_lent 5 (some .int) rm_X6_lent D k [.ref (ad 0), .int (J c)] (mW k ad st tl t x y h) (oP k ad st (st) (kCar st c) (len st c)) := by
  refine CI.of (by decide +kernel) (Nat.le_of_ble_eq_true rfl) (fun pᵢ eᵢ sᵢ mᵢ argsᵢ belowᵢ methᵢ cᵢ Aᵢ Qᵢ X RI => ?_)
  show SW pᵢ l eᵢ rm_X6_lent sᵢ mᵢ argsᵢ belowᵢ methᵢ cᵢ 5 D Aᵢ 0 0 Qᵢ (mW k ad st tl t x y h) 0 [(0, .ref (ad 0)), (1, .int (J c))] []
  have hS_ := I_st hI
  have hE_ := I_en hI
  have hG_ := I_ga hI
  have hU_ := I_cu hI
  have hC_ := I_ca hI
  have hP_ := I_pa hI
  refine sw_aload_n X dX6_lent_0 rfl 0 rfl ?_
  refine sw_aload_n X dX6_lent_1 rfl 0 rfl ?_
  refine sw_iload_n X dX6_lent_2 rfl 1 rfl ?_
  refine sw_callVI0 (C := RX6) (As := [.int (J c)]) (rest := [.ref (ad 0)]) X (c_X6_isCar l D k ad st tl t x y h c (by omega) (by omega)) (cwV 1 (sw_ts X) (sw_goodV gw4_102 gw4_104 gws_23 gw1_3 gw4_105) rfl rfl rfl (by decide +kernel) ⟨Nat.le_of_ble_eq_true rfl, Nat.le_of_ble_eq_true rfl⟩) 0 (ci := 6) rfl rfl rfl dX6_lent_3 rfl rfl (Nat.le_of_ble_eq_true rfl) ⟨Nat.le_of_ble_eq_true rfl, Nat.le_of_ble_eq_true rfl⟩ (fun z1 w9 hp2 => ?_)
  obtain ⟨rfl, hp2⟩ := hp2
  refine sw_if_eq (tgt := 13) X (by omega) dX6_lent_6 (by decide) (fun h3 => ?_) (fun h3 => ?_)
  · refine sw_iconst X dX6_lent_13 ?_
    refine sw_callVI0 (C := RX6) (As := [.int (J 1)]) (rest := []) X (c_X6_goesWell l D k ad st tl t x y h 1 (by omega)) (cwV 1 (sw_ts X) (sw_goodV gw4_58 gw4_60 gws_17 gw1_3 gw4_61) rfl rfl rfl (by decide +kernel) ⟨Nat.le_of_ble_eq_true rfl, Nat.le_of_ble_eq_true rfl⟩) 0 (ci := 6) rfl rfl rfl dX6_lent_14 rfl rfl (Nat.le_of_ble_eq_true rfl) ⟨Nat.le_of_ble_eq_true rfl, Nat.le_of_ble_eq_true rfl⟩ (fun z4 w9 hp5 => ?_)
    obtain ⟨rfl, hp5⟩ := hp5
    obtain rfl : z4 = 0 := by omega
    clear hp5
    refine sw_if_ne (tgt := 22) X (by omega) dX6_lent_17 (by decide) (fun h6 => ?_) (fun h6 => ?_)
    · exfalso; revert h6; decide
    · refine sw_iconst X dX6_lent_20 ?_
      exact RI _ _ _ _ _ _ dX6_lent_21 (by decide) (by decide) rfl (Or.inl ⟨_, _, _, _, _, rfl, by decide, by unfold kCar; rw [if_neg (by omega)]⟩)
  · refine sw_iconst X dX6_lent_9 ?_
    refine sw_goto (tgt := 14) X dX6_lent_10 (by decide) ?_
    refine sw_callVI0 (C := RX6) (As := [.int (J 0)]) (rest := []) X (c_X6_goesWell l D k ad st tl t x y h 0 (by omega)) (cwV 1 (sw_ts X) (sw_goodV gw4_58 gw4_60 gws_17 gw1_3 gw4_61) rfl rfl rfl (by decide +kernel) ⟨Nat.le_of_ble_eq_true rfl, Nat.le_of_ble_eq_true rfl⟩) 0 (ci := 6) rfl rfl rfl dX6_lent_14 rfl rfl (Nat.le_of_ble_eq_true rfl) ⟨Nat.le_of_ble_eq_true rfl, Nat.le_of_ble_eq_true rfl⟩ (fun z7 w9 hp8 => ?_)
    obtain ⟨rfl, hp8⟩ := hp8
    obtain rfl : z7 = 1 := by omega
    clear hp8
    refine sw_if_ne (tgt := 22) X (by omega) dX6_lent_17 (by decide) (fun h9 => ?_) (fun h9 => ?_)
    · refine sw_iconst X dX6_lent_22 ?_
      refine sw_istore_n (lv' := [(2, .int (J 0)), (0, .ref (ad 0)), (1, .int (J c))]) X dX6_lent_23 rfl (by decide) rfl ?_
      refine sw_iconst X dX6_lent_24 ?_
      refine sw_istore_n (lv' := [(3, .int (J 0)), (2, .int (J 0)), (0, .ref (ad 0)), (1, .int (J c))]) X dX6_lent_25 rfl (by decide) rfl ?_
      have lp11 : ∀ (n12 : Nat) (n : Nat) (sm i : Int), st 17 0 - (n : Int) < (n12 : Nat) → (i = (n : Int)) → ((n : Int) ≤ st 17 0) → (sm = sM (fun j => isL st c (j : Int)) n) → SW pᵢ l eᵢ rm_X6_lent sᵢ mᵢ argsᵢ belowᵢ methᵢ cᵢ 5 D Aᵢ 0 0 Qᵢ (mW k ad st tl 0 x y h) 26 [(0, .ref (ad 0)), (1, .int (J c)), (2, .int (J sm)), (3, .int (J i))] [] := by
        intro n12
        induction n12 with
        | zero => intro n sm i hm13 hi hn hs; exact absurd hm13 (by omega)
        | succ n12 ih10 =>
          intro n sm i hm13 hi hn hs
          refine sw_iload_n X dX6_lent_26 rfl 3 rfl ?_
          refine sw_aload_n X dX6_lent_27 rfl 0 rfl ?_
          refine sw_get (q0 := 0) (v := .int (J (st 17 0))) X iw_X6 rfl rfl 17 (by decide) gw3_225 rfl rfl dX6_lent_28 ?_
          refine sw_icmp_ge (tgt := 109) X (by omega) (by omega) dX6_lent_31 (by decide) (fun h14 => ?_) (fun h14 => ?_)
          · refine sw_iload_n X dX6_lent_109 rfl 2 rfl ?_
            exact RI _ _ _ _ _ _ dX6_lent_110 (by decide) (by decide) rfl (Or.inr ⟨_, _, _, _, rfl, by unfold kCar; rw [if_pos (by omega)], by rw [hs]; unfold len; rw [show (st 17 0).toNat = n by omega]⟩)
          · have hj1 := I_j hI i (by omega) (by omega)
            have hj2 := I_u hI i (by omega) (by omega)
            refine sw_aload_n X dX6_lent_34 rfl 0 rfl ?_
            refine sw_get (q0 := 0) (v := .ref (ad 20)) X iw_X6 rfl rfl 20 (by decide) gw3_228 rfl rfl dX6_lent_35 ?_
            refine sw_iload_n X dX6_lent_38 rfl 3 rfl ?_
            refine sw_iald (q0 := 14) (n := 40) X rfl (by omega) (by omega) (by decide) dX6_lent_39 ?_
            refine sw_bipush X dX6_lent_40 (by decide +kernel) ?_
            have jn15 : ∀ (z8 : Int), ((z8 = 1 ∧ ((st 20 i = -2 ∧ st 21 i ≠ c) ∨ (st 20 i ≠ -2 ∧ st 20 i ≠ c))) ∨ (z8 = 0 ∧ ¬ ((st 20 i = -2 ∧ st 21 i ≠ c) ∨ (st 20 i ≠ -2 ∧ st 20 i ≠ c)))) → SW pᵢ l eᵢ rm_X6_lent sᵢ mᵢ argsᵢ belowᵢ methᵢ cᵢ 5 D Aᵢ 0 0 Qᵢ (mW k ad st tl 0 x y h) 78 [(0, .ref (ad 0)), (1, .int (J c)), (2, .int (J sm)), (3, .int (J i))] [.int (J z8)] := by
              intro z8 hz8
              refine sw_istore (lv' := [(4, .int (J z8)), (0, .ref (ad 0)), (1, .int (J c)), (2, .int (J sm)), (3, .int (J i))]) X dX6_lent_78 (by decide) rfl ?_
              refine sw_iload_n X dX6_lent_80 rfl 3 rfl ?_
              refine sw_aload_n X dX6_lent_81 rfl 1 rfl ?_
              refine sw_get (q0 := 0) (v := .ref (ad 19)) X iw_X6 rfl rfl 19 (by decide) gw3_227 rfl rfl dX6_lent_82 ?_
              refine sw_iload_n X dX6_lent_85 rfl 4 rfl ?_
              refine sw_iald (q0 := 13) (n := 40) X rfl (by omega) (by omega) (by decide) dX6_lent_86 ?_
              refine sw_iload_n X dX6_lent_87 rfl 2 rfl ?_
              have jn16 : ∀ (x8 : Int), (x8 = isL st c i) → SW pᵢ l eᵢ rm_X6_lent sᵢ mᵢ argsᵢ belowᵢ methᵢ cᵢ 5 D Aᵢ 0 0 Qᵢ (mW k ad st tl 0 x y h) 101 [(0, .ref (ad 0)), (1, .int (J c)), (2, .int (J sm)), (3, .int (J i)), (4, .int (J z8))] [.int (J x8), .int (J sm)] := by
                intro x8 hx8
                refine sw_iadd X dX6_lent_101 ?_
                refine sw_istore_n (lv' := [(2, .int (J (sm + x8))), (0, .ref (ad 0)), (1, .int (J c)), (3, .int (J i)), (4, .int (J z8))]) X dX6_lent_102 rfl (by decide) rfl ?_
                refine sw_iinc (lv' := [(3, .int (J (i + 1))), (2, .int (J (sm + x8))), (0, .ref (ad 0)), (1, .int (J c)), (4, .int (J z8))]) X dX6_lent_103 3 rfl (by decide) rfl ?_
                refine sw_goto (tgt := 26) X dX6_lent_106 (by decide) ?_
                refine sw_sub [2, 3, 1, 0] rfl ?_
                exact ih10 (n + 1) (sm + x8) (i + 1) (by omega) (by omega) (by omega) (by rw [sM_s, hs, hx8, hi])
              refine sw_icmp_ne (tgt := 100) X (by omega) (by omega) dX6_lent_88 (by decide) (fun h17 => ?_) (fun h17 => ?_)
              · refine sw_iconst X dX6_lent_100 ?_
                refine sw_sub [1, 2, 3, 4, 0] rfl ?_
                exact jn16 0 (by unfold isL; split <;> omega)
              · refine sw_iload X dX6_lent_91 0 rfl ?_
                refine sw_if_eq (tgt := 100) X (by omega) dX6_lent_93 (by decide) (fun h18 => ?_) (fun h18 => ?_)
                · refine sw_iconst X dX6_lent_100 ?_
                  refine sw_sub [1, 2, 3, 4, 0] rfl ?_
                  exact jn16 0 (by unfold isL; split <;> omega)
                · refine sw_iconst X dX6_lent_96 ?_
                  refine sw_goto (tgt := 101) X dX6_lent_97 (by decide) ?_
                  refine sw_sub [1, 2, 3, 4, 0] rfl ?_
                  exact jn16 1 (by unfold isL; split <;> omega)
            refine sw_icmp_ne (tgt := 63) X (by omega) (by omega) dX6_lent_42 (by decide) (fun h19 => ?_) (fun h19 => ?_)
            · refine sw_aload_n X dX6_lent_63 rfl 0 rfl ?_
              refine sw_get (q0 := 0) (v := .ref (ad 20)) X iw_X6 rfl rfl 20 (by decide) gw3_228 rfl rfl dX6_lent_64 ?_
              refine sw_iload_n X dX6_lent_67 rfl 3 rfl ?_
              refine sw_iald (q0 := 14) (n := 40) X rfl (by omega) (by omega) (by decide) dX6_lent_68 ?_
              refine sw_iload_n X dX6_lent_69 rfl 1 rfl ?_
              refine sw_icmp_eq (tgt := 77) X (by omega) (by omega) dX6_lent_70 (by decide) (fun h20 => ?_) (fun h20 => ?_)
              · refine sw_iconst X dX6_lent_77 ?_
                exact jn15 0 (by omega)
              · refine sw_iconst X dX6_lent_73 ?_
                refine sw_goto (tgt := 78) X dX6_lent_74 (by decide) ?_
                exact jn15 1 (by omega)
            · refine sw_aload_n X dX6_lent_45 rfl 0 rfl ?_
              refine sw_get (q0 := 0) (v := .ref (ad 21)) X iw_X6 rfl rfl 21 (by decide) gw3_229 rfl rfl dX6_lent_46 ?_
              refine sw_iload_n X dX6_lent_49 rfl 3 rfl ?_
              refine sw_iald (q0 := 15) (n := 40) X rfl (by omega) (by omega) (by decide) dX6_lent_50 ?_
              refine sw_iload_n X dX6_lent_51 rfl 1 rfl ?_
              refine sw_icmp_eq (tgt := 59) X (by omega) (by omega) dX6_lent_52 (by decide) (fun h21 => ?_) (fun h21 => ?_)
              · refine sw_iconst X dX6_lent_59 ?_
                refine sw_goto (tgt := 78) X dX6_lent_60 (by decide) ?_
                exact jn15 0 (by omega)
              · refine sw_iconst X dX6_lent_55 ?_
                refine sw_goto (tgt := 78) X dX6_lent_56 (by decide) ?_
                exact jn15 1 (by omega)
      refine sw_sub [2, 3, 1, 0] rfl ?_
      exact lp11 (st 17 0 - (0 : Int)).toNat.succ 0 0 0 (by omega) (rfl) (by omega) (rfl)
    · exfalso; revert h9; decide
abbrev rm_X6_mend : Room := { frames := 2, cells := 0, slots := 0, locals := 48 }
set_option maxHeartbeats 4000000 in
set_option maxRecDepth 100000 in
theorem c_X6_mend (l : Launch) (D : va_G) (k : Nat → ClassId) (N : Int) (ad : Nat → Nat) (st : Nat → Int → Int) (tl : Int → Int) (t x y h : Int) (c : Int) (hI : I6 N st) (h_c : (-2147483648 ≤ c ∧ c < 2147483648)) : CI l yX6_mend cX6_mend 6 (some .int) rm_X6_mend D k [.ref (ad 0), .int (J c)] (mW k ad st tl t x y h) (oP k ad st (sMend st c) (kMend st c) (fPt st c (st 14 c))) := by
  refine CI.of (by decide +kernel) (Nat.le_of_ble_eq_true rfl) (fun pᵢ eᵢ sᵢ mᵢ argsᵢ belowᵢ methᵢ cᵢ Aᵢ Qᵢ X RI => ?_)
  show SW pᵢ l eᵢ rm_X6_mend sᵢ mᵢ argsᵢ belowᵢ methᵢ cᵢ 6 D Aᵢ 0 0 Qᵢ (mW k ad st tl t x y h) 0 [(0, .ref (ad 0)), (1, .int (J c))] []
  have hS_ := I_st hI
  have hE_ := I_en hI
  have hG_ := I_ga hI
  have hU_ := I_cu hI
  have hC_ := I_ca hI
  have hP_ := I_pa hI
  refine sw_aload_n X dX6_mend_0 rfl 0 rfl ?_
  refine sw_iload_n X dX6_mend_1 rfl 1 rfl ?_
  refine sw_callVI0 (C := RX6) (As := [.int (J c)]) (rest := []) X (c_X6_isCar l D k ad st tl t x y h c (by omega) (by omega)) (cwV 1 (sw_ts X) (sw_goodV gw4_102 gw4_104 gws_23 gw1_3 gw4_105) rfl rfl rfl (by decide +kernel) ⟨Nat.le_of_ble_eq_true rfl, Nat.le_of_ble_eq_true rfl⟩) 0 (ci := 6) rfl rfl rfl dX6_mend_2 rfl rfl (Nat.le_of_ble_eq_true rfl) ⟨Nat.le_of_ble_eq_true rfl, Nat.le_of_ble_eq_true rfl⟩ (fun z1 w9 hp2 => ?_)
  obtain ⟨rfl, hp2⟩ := hp2
  refine sw_istore_n (lv' := [(2, .int (J z1)), (0, .ref (ad 0)), (1, .int (J c))]) X dX6_mend_5 rfl (by decide) rfl ?_
  refine sw_iload_n X dX6_mend_6 rfl 0 rfl ?_
  have jn3 : ∀ (z9 : Int), ((z9 = 1 ∧ (0 ≤ c ∧ c < st 9 0) ∧ st 14 c ≠ -1 ∧ st 10 c < 60) ∨ (z9 = 0 ∧ ¬ ((0 ≤ c ∧ c < st 9 0) ∧ st 14 c ≠ -1 ∧ st 10 c < 60))) → SW pᵢ l eᵢ rm_X6_mend sᵢ mᵢ argsᵢ belowᵢ methᵢ cᵢ 6 D Aᵢ 0 0 Qᵢ (mW k ad st tl t x y h) 36 [(0, .ref (ad 0)), (1, .int (J c)), (2, .int (J z1))] [.int (J z9)] := by
    intro z9 hz9
    refine sw_istore_n (lv' := [(3, .int (J z9)), (0, .ref (ad 0)), (1, .int (J c)), (2, .int (J z1))]) X dX6_mend_36 rfl (by decide) rfl ?_
    refine sw_iconst X dX6_mend_37 ?_
    refine sw_istore (lv' := [(4, .int (J (-1))), (3, .int (J z9)), (0, .ref (ad 0)), (1, .int (J c)), (2, .int (J z1))]) X dX6_mend_38 (by decide) rfl ?_
    refine sw_aload_n X dX6_mend_40 rfl 2 rfl ?_
    refine sw_get (q0 := 0) (v := .int (J (st 17 0))) X iw_X6 rfl rfl 17 (by decide) gw3_225 rfl rfl dX6_mend_41 ?_
    refine sw_iconst X dX6_mend_44 ?_
    refine sw_isub X dX6_mend_45 ?_
    refine sw_istore (lv' := [(5, .int (J ((st 17 0) - 1))), (4, .int (J (-1))), (3, .int (J z9)), (0, .ref (ad 0)), (1, .int (J c)), (2, .int (J z1))]) X dX6_mend_46 (by decide) rfl ?_
    have lp5 : ∀ (n6 : Nat) (pt i : Int), i + 2 < (n6 : Nat) → (-1 ≤ i ∧ i < st 17 0) → (isF (fun j => if st 20 j = c ∧ st 18 j = st 14 c then 1 else 0) (st 17 0 - 1) 1 (i + 1) pt) → SW pᵢ l eᵢ rm_X6_mend sᵢ mᵢ argsᵢ belowᵢ methᵢ cᵢ 6 D Aᵢ 0 0 Qᵢ (mW k ad st tl t x y h) 48 [(0, .ref (ad 0)), (1, .int (J c)), (2, .int (J z1)), (3, .int (J z9)), (4, .int (J pt)), (5, .int (J i))] [] := by
      intro n6
      induction n6 with
      | zero => intro pt i hm7 hi hp; exact absurd hm7 (by omega)
      | succ n6 ih4 =>
        intro pt i hm7 hi hp
        refine sw_iload X dX6_mend_48 5 rfl ?_
        refine sw_if_lt (tgt := 99) X (by omega) dX6_mend_50 (by decide) (fun h8 => ?_) (fun h8 => ?_)
        · have hpr := isF_rng hp
          refine sw_aload_n X dX6_mend_99 rfl 0 rfl ?_
          refine sw_iload_n X dX6_mend_100 rfl 2 rfl ?_
          refine sw_if_ne (tgt := 108) X (by omega) dX6_mend_101 (by decide) (fun h9 => ?_) (fun h9 => ?_)
          · refine sw_iload_n X dX6_mend_108 rfl 3 rfl ?_
            refine sw_if_ne (tgt := 116) X (by omega) dX6_mend_109 (by decide) (fun h10 => ?_) (fun h10 => ?_)
            · have hpt : pt = fPt st c (st 14 c) := by rw [show i + 1 = 0 by omega] at hp; exact fF_eq (Int.le_refl 0) hp
              refine sw_iload X dX6_mend_116 4 rfl ?_
              refine sw_iconst X dX6_mend_118 ?_
              refine sw_icmp_ne (tgt := 126) X (by omega) (by omega) dX6_mend_119 (by decide) (fun h11 => ?_) (fun h11 => ?_)
              · refine sw_iconst X dX6_mend_126 ?_
                refine sw_callVI0 (C := RX6) (As := [.int (J 0)]) (rest := []) X (c_X6_goesWell l D k ad st tl t x y h 0 (by omega)) (cwV 1 (sw_ts X) (sw_goodV gw4_58 gw4_60 gws_17 gw1_3 gw4_61) rfl rfl rfl (by decide +kernel) ⟨Nat.le_of_ble_eq_true rfl, Nat.le_of_ble_eq_true rfl⟩) 0 (ci := 6) rfl rfl rfl dX6_mend_127 rfl rfl (Nat.le_of_ble_eq_true rfl) ⟨Nat.le_of_ble_eq_true rfl, Nat.le_of_ble_eq_true rfl⟩ (fun z12 w9 hp13 => ?_)
                obtain ⟨rfl, hp13⟩ := hp13
                obtain rfl : z12 = 1 := by omega
                clear hp13
                refine sw_if_ne (tgt := 135) X (by omega) dX6_mend_130 (by decide) (fun h14 => ?_) (fun h14 => ?_)
                · have hcc := I_c hI c (by omega) (by omega)
                  have hI2 : I6 N (aP (up2 (up2 st 20 pt (-2)) 21 pt c) c (-1) (3 * (st 14 c + 1)) 0) := I_mendP hI (by omega) (by omega) (by omega)
                  refine sw_aload_n X dX6_mend_135 rfl 0 rfl ?_
                  refine sw_get (q0 := 0) (v := .ref (ad 20)) X iw_X6 rfl rfl 20 (by decide) gw3_228 rfl rfl dX6_mend_136 ?_
                  refine sw_iload X dX6_mend_139 4 rfl ?_
                  refine sw_bipush X dX6_mend_141 (by decide +kernel) ?_
                  refine sw_iast (q0 := 14) (n := 40) X rfl (by omega) (by omega) (by decide) mW_a20 dX6_mend_143 ?_
                  refine sw_aload_n X dX6_mend_144 rfl 0 rfl ?_
                  refine sw_get (q0 := 0) (v := .ref (ad 21)) X iw_X6 rfl rfl 21 (by decide) gw3_229 rfl rfl dX6_mend_145 ?_
                  refine sw_iload X dX6_mend_148 4 rfl ?_
                  refine sw_iload_n X dX6_mend_150 rfl 1 rfl ?_
                  refine sw_iast (q0 := 15) (n := 40) X rfl (by omega) (by omega) (by decide) mW_a21 dX6_mend_151 ?_
                  refine sw_aload_n X dX6_mend_152 rfl 0 rfl ?_
                  refine sw_iload_n X dX6_mend_153 rfl 1 rfl ?_
                  refine sw_iconst X dX6_mend_154 ?_
                  refine sw_iconst X dX6_mend_155 ?_
                  refine sw_aload_n X dX6_mend_156 rfl 0 rfl ?_
                  refine sw_get (q0 := 0) (v := .ref (ad 14)) X iw_X6 rfl rfl 14 (by decide) gw3_222 rfl rfl dX6_mend_157 ?_
                  refine sw_iload_n X dX6_mend_160 rfl 1 rfl ?_
                  refine sw_iald (q0 := 9) (n := 8) X rfl (by omega) (by omega) (by decide) dX6_mend_161 ?_
                  refine sw_iconst X dX6_mend_162 ?_
                  refine sw_iadd X dX6_mend_163 ?_
                  refine sw_imul X dX6_mend_164 ?_
                  refine sw_iconst X dX6_mend_165 ?_
                  refine sw_callVI0 (C := RX6) (As := [.int (J c), .int (J (-1)), .int (J (3 * ((st 14 c) + 1))), .int (J 0)]) (rest := []) X (c_X6_addPiece l D k N ad (up2 (up2 st 20 pt (-2)) 21 pt c) tl 0 x y h c (-1) (3 * ((st 14 c) + 1)) 0 (by assumption) (by omega) (by first | omega | (show 0 ≤ st 10 c ∧ st 10 c < 60; omega))) (cwV 4 (sw_ts X) (sw_goodV gw4_114 gw4_116 gws_26 gw1_3 gw4_117) rfl rfl rfl (by decide +kernel) ⟨Nat.le_of_ble_eq_true rfl, Nat.le_of_ble_eq_true rfl⟩) 0 (ci := 6) rfl rfl rfl dX6_mend_166 rfl rfl (Nat.le_of_ble_eq_true rfl) ⟨Nat.le_of_ble_eq_true rfl, Nat.le_of_ble_eq_true rfl⟩ (fun z15 w9 hp16 => ?_)
                  obtain ⟨rfl, rfl⟩ := hp16
                  refine sw_istore (lv' := [(5, .int (J (clk (aP (up2 (up2 st 20 pt (-2)) 21 pt c) c (-1) (3 * ((st 14 c) + 1)) 0) c))), (0, .ref (ad 0)), (1, .int (J c)), (2, .int (J z1)), (3, .int (J z9)), (4, .int (J pt))]) X dX6_mend_169 (by decide) rfl ?_
                  refine sw_aload_n X dX6_mend_171 rfl 1 rfl ?_
                  refine sw_get (q0 := 0) (v := .ref (ad 14)) X iw_X6 rfl rfl 14 (by decide) gw3_222 rfl rfl dX6_mend_172 ?_
                  refine sw_iload_n X dX6_mend_175 rfl 2 rfl ?_
                  refine sw_iconst X dX6_mend_176 ?_
                  refine sw_iast (q0 := 9) (n := 8) X rfl (by omega) (by omega) (by decide) mW_a14 dX6_mend_177 ?_
                  refine sw_iload X dX6_mend_178 5 rfl ?_
                  exact RI _ _ _ _ _ _ dX6_mend_180 (by decide) (by decide) rfl (Or.inr ⟨_, _, _, _, by unfold sMend; rw [← hpt], by unfold kMend; rw [if_neg (by omega), if_neg (by omega), if_neg (by omega)], hpt⟩)
                · exfalso; revert h14; decide
              · refine sw_iconst X dX6_mend_122 ?_
                refine sw_goto (tgt := 127) X dX6_mend_123 (by decide) ?_
                refine sw_callVI0 (C := RX6) (As := [.int (J 3)]) (rest := []) X (c_X6_goesWell l D k ad st tl t x y h 3 (by omega)) (cwV 1 (sw_ts X) (sw_goodV gw4_58 gw4_60 gws_17 gw1_3 gw4_61) rfl rfl rfl (by decide +kernel) ⟨Nat.le_of_ble_eq_true rfl, Nat.le_of_ble_eq_true rfl⟩) 0 (ci := 6) rfl rfl rfl dX6_mend_127 rfl rfl (Nat.le_of_ble_eq_true rfl) ⟨Nat.le_of_ble_eq_true rfl, Nat.le_of_ble_eq_true rfl⟩ (fun z17 w9 hp18 => ?_)
                obtain ⟨rfl, hp18⟩ := hp18
                obtain rfl : z17 = 0 := by omega
                clear hp18
                refine sw_if_ne (tgt := 135) X (by omega) dX6_mend_130 (by decide) (fun h19 => ?_) (fun h19 => ?_)
                · exfalso; revert h19; decide
                · refine sw_iconst X dX6_mend_133 ?_
                  exact RI _ _ _ _ _ _ dX6_mend_134 (by decide) (by decide) rfl (Or.inl ⟨_, _, _, _, _, rfl, by decide, by have hpt2 := hpt; unfold kMend; rw [if_neg (by omega), if_neg (by omega), if_pos (by omega)]⟩)
            · refine sw_iconst X dX6_mend_112 ?_
              refine sw_goto (tgt := 127) X dX6_mend_113 (by decide) ?_
              refine sw_callVI0 (C := RX6) (As := [.int (J 2)]) (rest := []) X (c_X6_goesWell l D k ad st tl t x y h 2 (by omega)) (cwV 1 (sw_ts X) (sw_goodV gw4_58 gw4_60 gws_17 gw1_3 gw4_61) rfl rfl rfl (by decide +kernel) ⟨Nat.le_of_ble_eq_true rfl, Nat.le_of_ble_eq_true rfl⟩) 0 (ci := 6) rfl rfl rfl dX6_mend_127 rfl rfl (Nat.le_of_ble_eq_true rfl) ⟨Nat.le_of_ble_eq_true rfl, Nat.le_of_ble_eq_true rfl⟩ (fun z20 w9 hp21 => ?_)
              obtain ⟨rfl, hp21⟩ := hp21
              obtain rfl : z20 = 0 := by omega
              clear hp21
              refine sw_if_ne (tgt := 135) X (by omega) dX6_mend_130 (by decide) (fun h22 => ?_) (fun h22 => ?_)
              · exfalso; revert h22; decide
              · refine sw_iconst X dX6_mend_133 ?_
                exact RI _ _ _ _ _ _ dX6_mend_134 (by decide) (by decide) rfl (Or.inl ⟨_, _, _, _, _, rfl, by decide, by unfold kMend; rw [if_neg (by omega), if_pos (by omega)]⟩)
          · refine sw_iconst X dX6_mend_104 ?_
            refine sw_goto (tgt := 127) X dX6_mend_105 (by decide) ?_
            refine sw_callVI0 (C := RX6) (As := [.int (J 1)]) (rest := []) X (c_X6_goesWell l D k ad st tl t x y h 1 (by omega)) (cwV 1 (sw_ts X) (sw_goodV gw4_58 gw4_60 gws_17 gw1_3 gw4_61) rfl rfl rfl (by decide +kernel) ⟨Nat.le_of_ble_eq_true rfl, Nat.le_of_ble_eq_true rfl⟩) 0 (ci := 6) rfl rfl rfl dX6_mend_127 rfl rfl (Nat.le_of_ble_eq_true rfl) ⟨Nat.le_of_ble_eq_true rfl, Nat.le_of_ble_eq_true rfl⟩ (fun z23 w9 hp24 => ?_)
            obtain ⟨rfl, hp24⟩ := hp24
            obtain rfl : z23 = 0 := by omega
            clear hp24
            refine sw_if_ne (tgt := 135) X (by omega) dX6_mend_130 (by decide) (fun h25 => ?_) (fun h25 => ?_)
            · exfalso; revert h25; decide
            · refine sw_iconst X dX6_mend_133 ?_
              exact RI _ _ _ _ _ _ dX6_mend_134 (by decide) (by decide) rfl (Or.inl ⟨_, _, _, _, _, rfl, by decide, by unfold kMend; rw [if_pos (by omega)]⟩)
        · refine sw_iload_n X dX6_mend_53 rfl 3 rfl ?_
          refine sw_if_eq (tgt := 99) X (by omega) dX6_mend_54 (by decide) (fun h26 => ?_) (fun h26 => ?_)
          · have hpr := isF_rng hp
            refine sw_aload_n X dX6_mend_99 rfl 0 rfl ?_
            refine sw_iload_n X dX6_mend_100 rfl 2 rfl ?_
            refine sw_if_ne (tgt := 108) X (by omega) dX6_mend_101 (by decide) (fun h27 => ?_) (fun h27 => ?_)
            · refine sw_iload_n X dX6_mend_108 rfl 3 rfl ?_
              refine sw_if_ne (tgt := 116) X (by omega) dX6_mend_109 (by decide) (fun h28 => ?_) (fun h28 => ?_)
              · have hpt : pt = fPt st c (st 14 c) := by rw [show i + 1 = 0 by omega] at hp; exact fF_eq (Int.le_refl 0) hp
                refine sw_iload X dX6_mend_116 4 rfl ?_
                refine sw_iconst X dX6_mend_118 ?_
                refine sw_icmp_ne (tgt := 126) X (by omega) (by omega) dX6_mend_119 (by decide) (fun h29 => ?_) (fun h29 => ?_)
                · refine sw_iconst X dX6_mend_126 ?_
                  refine sw_callVI0 (C := RX6) (As := [.int (J 0)]) (rest := []) X (c_X6_goesWell l D k ad st tl t x y h 0 (by omega)) (cwV 1 (sw_ts X) (sw_goodV gw4_58 gw4_60 gws_17 gw1_3 gw4_61) rfl rfl rfl (by decide +kernel) ⟨Nat.le_of_ble_eq_true rfl, Nat.le_of_ble_eq_true rfl⟩) 0 (ci := 6) rfl rfl rfl dX6_mend_127 rfl rfl (Nat.le_of_ble_eq_true rfl) ⟨Nat.le_of_ble_eq_true rfl, Nat.le_of_ble_eq_true rfl⟩ (fun z30 w9 hp31 => ?_)
                  obtain ⟨rfl, hp31⟩ := hp31
                  obtain rfl : z30 = 1 := by omega
                  clear hp31
                  refine sw_if_ne (tgt := 135) X (by omega) dX6_mend_130 (by decide) (fun h32 => ?_) (fun h32 => ?_)
                  · have hcc := I_c hI c (by omega) (by omega)
                    have hI2 : I6 N (aP (up2 (up2 st 20 pt (-2)) 21 pt c) c (-1) (3 * (st 14 c + 1)) 0) := I_mendP hI (by omega) (by omega) (by omega)
                    refine sw_aload_n X dX6_mend_135 rfl 0 rfl ?_
                    refine sw_get (q0 := 0) (v := .ref (ad 20)) X iw_X6 rfl rfl 20 (by decide) gw3_228 rfl rfl dX6_mend_136 ?_
                    refine sw_iload X dX6_mend_139 4 rfl ?_
                    refine sw_bipush X dX6_mend_141 (by decide +kernel) ?_
                    refine sw_iast (q0 := 14) (n := 40) X rfl (by omega) (by omega) (by decide) mW_a20 dX6_mend_143 ?_
                    refine sw_aload_n X dX6_mend_144 rfl 0 rfl ?_
                    refine sw_get (q0 := 0) (v := .ref (ad 21)) X iw_X6 rfl rfl 21 (by decide) gw3_229 rfl rfl dX6_mend_145 ?_
                    refine sw_iload X dX6_mend_148 4 rfl ?_
                    refine sw_iload_n X dX6_mend_150 rfl 1 rfl ?_
                    refine sw_iast (q0 := 15) (n := 40) X rfl (by omega) (by omega) (by decide) mW_a21 dX6_mend_151 ?_
                    refine sw_aload_n X dX6_mend_152 rfl 0 rfl ?_
                    refine sw_iload_n X dX6_mend_153 rfl 1 rfl ?_
                    refine sw_iconst X dX6_mend_154 ?_
                    refine sw_iconst X dX6_mend_155 ?_
                    refine sw_aload_n X dX6_mend_156 rfl 0 rfl ?_
                    refine sw_get (q0 := 0) (v := .ref (ad 14)) X iw_X6 rfl rfl 14 (by decide) gw3_222 rfl rfl dX6_mend_157 ?_
                    refine sw_iload_n X dX6_mend_160 rfl 1 rfl ?_
                    refine sw_iald (q0 := 9) (n := 8) X rfl (by omega) (by omega) (by decide) dX6_mend_161 ?_
                    refine sw_iconst X dX6_mend_162 ?_
                    refine sw_iadd X dX6_mend_163 ?_
                    refine sw_imul X dX6_mend_164 ?_
                    refine sw_iconst X dX6_mend_165 ?_
                    refine sw_callVI0 (C := RX6) (As := [.int (J c), .int (J (-1)), .int (J (3 * ((st 14 c) + 1))), .int (J 0)]) (rest := []) X (c_X6_addPiece l D k N ad (up2 (up2 st 20 pt (-2)) 21 pt c) tl 0 x y h c (-1) (3 * ((st 14 c) + 1)) 0 (by assumption) (by omega) (by first | omega | (show 0 ≤ st 10 c ∧ st 10 c < 60; omega))) (cwV 4 (sw_ts X) (sw_goodV gw4_114 gw4_116 gws_26 gw1_3 gw4_117) rfl rfl rfl (by decide +kernel) ⟨Nat.le_of_ble_eq_true rfl, Nat.le_of_ble_eq_true rfl⟩) 0 (ci := 6) rfl rfl rfl dX6_mend_166 rfl rfl (Nat.le_of_ble_eq_true rfl) ⟨Nat.le_of_ble_eq_true rfl, Nat.le_of_ble_eq_true rfl⟩ (fun z33 w9 hp34 => ?_)
                    obtain ⟨rfl, rfl⟩ := hp34
                    refine sw_istore (lv' := [(5, .int (J (clk (aP (up2 (up2 st 20 pt (-2)) 21 pt c) c (-1) (3 * ((st 14 c) + 1)) 0) c))), (0, .ref (ad 0)), (1, .int (J c)), (2, .int (J z1)), (3, .int (J z9)), (4, .int (J pt))]) X dX6_mend_169 (by decide) rfl ?_
                    refine sw_aload_n X dX6_mend_171 rfl 1 rfl ?_
                    refine sw_get (q0 := 0) (v := .ref (ad 14)) X iw_X6 rfl rfl 14 (by decide) gw3_222 rfl rfl dX6_mend_172 ?_
                    refine sw_iload_n X dX6_mend_175 rfl 2 rfl ?_
                    refine sw_iconst X dX6_mend_176 ?_
                    refine sw_iast (q0 := 9) (n := 8) X rfl (by omega) (by omega) (by decide) mW_a14 dX6_mend_177 ?_
                    refine sw_iload X dX6_mend_178 5 rfl ?_
                    exact RI _ _ _ _ _ _ dX6_mend_180 (by decide) (by decide) rfl (Or.inr ⟨_, _, _, _, by unfold sMend; rw [← hpt], by unfold kMend; rw [if_neg (by omega), if_neg (by omega), if_neg (by omega)], hpt⟩)
                  · exfalso; revert h32; decide
                · refine sw_iconst X dX6_mend_122 ?_
                  refine sw_goto (tgt := 127) X dX6_mend_123 (by decide) ?_
                  refine sw_callVI0 (C := RX6) (As := [.int (J 3)]) (rest := []) X (c_X6_goesWell l D k ad st tl t x y h 3 (by omega)) (cwV 1 (sw_ts X) (sw_goodV gw4_58 gw4_60 gws_17 gw1_3 gw4_61) rfl rfl rfl (by decide +kernel) ⟨Nat.le_of_ble_eq_true rfl, Nat.le_of_ble_eq_true rfl⟩) 0 (ci := 6) rfl rfl rfl dX6_mend_127 rfl rfl (Nat.le_of_ble_eq_true rfl) ⟨Nat.le_of_ble_eq_true rfl, Nat.le_of_ble_eq_true rfl⟩ (fun z35 w9 hp36 => ?_)
                  obtain ⟨rfl, hp36⟩ := hp36
                  obtain rfl : z35 = 0 := by omega
                  clear hp36
                  refine sw_if_ne (tgt := 135) X (by omega) dX6_mend_130 (by decide) (fun h37 => ?_) (fun h37 => ?_)
                  · exfalso; revert h37; decide
                  · refine sw_iconst X dX6_mend_133 ?_
                    exact RI _ _ _ _ _ _ dX6_mend_134 (by decide) (by decide) rfl (Or.inl ⟨_, _, _, _, _, rfl, by decide, by have hpt2 := hpt; unfold kMend; rw [if_neg (by omega), if_neg (by omega), if_pos (by omega)]⟩)
              · refine sw_iconst X dX6_mend_112 ?_
                refine sw_goto (tgt := 127) X dX6_mend_113 (by decide) ?_
                refine sw_callVI0 (C := RX6) (As := [.int (J 2)]) (rest := []) X (c_X6_goesWell l D k ad st tl t x y h 2 (by omega)) (cwV 1 (sw_ts X) (sw_goodV gw4_58 gw4_60 gws_17 gw1_3 gw4_61) rfl rfl rfl (by decide +kernel) ⟨Nat.le_of_ble_eq_true rfl, Nat.le_of_ble_eq_true rfl⟩) 0 (ci := 6) rfl rfl rfl dX6_mend_127 rfl rfl (Nat.le_of_ble_eq_true rfl) ⟨Nat.le_of_ble_eq_true rfl, Nat.le_of_ble_eq_true rfl⟩ (fun z38 w9 hp39 => ?_)
                obtain ⟨rfl, hp39⟩ := hp39
                obtain rfl : z38 = 0 := by omega
                clear hp39
                refine sw_if_ne (tgt := 135) X (by omega) dX6_mend_130 (by decide) (fun h40 => ?_) (fun h40 => ?_)
                · exfalso; revert h40; decide
                · refine sw_iconst X dX6_mend_133 ?_
                  exact RI _ _ _ _ _ _ dX6_mend_134 (by decide) (by decide) rfl (Or.inl ⟨_, _, _, _, _, rfl, by decide, by unfold kMend; rw [if_neg (by omega), if_pos (by omega)]⟩)
            · refine sw_iconst X dX6_mend_104 ?_
              refine sw_goto (tgt := 127) X dX6_mend_105 (by decide) ?_
              refine sw_callVI0 (C := RX6) (As := [.int (J 1)]) (rest := []) X (c_X6_goesWell l D k ad st tl t x y h 1 (by omega)) (cwV 1 (sw_ts X) (sw_goodV gw4_58 gw4_60 gws_17 gw1_3 gw4_61) rfl rfl rfl (by decide +kernel) ⟨Nat.le_of_ble_eq_true rfl, Nat.le_of_ble_eq_true rfl⟩) 0 (ci := 6) rfl rfl rfl dX6_mend_127 rfl rfl (Nat.le_of_ble_eq_true rfl) ⟨Nat.le_of_ble_eq_true rfl, Nat.le_of_ble_eq_true rfl⟩ (fun z41 w9 hp42 => ?_)
              obtain ⟨rfl, hp42⟩ := hp42
              obtain rfl : z41 = 0 := by omega
              clear hp42
              refine sw_if_ne (tgt := 135) X (by omega) dX6_mend_130 (by decide) (fun h43 => ?_) (fun h43 => ?_)
              · exfalso; revert h43; decide
              · refine sw_iconst X dX6_mend_133 ?_
                exact RI _ _ _ _ _ _ dX6_mend_134 (by decide) (by decide) rfl (Or.inl ⟨_, _, _, _, _, rfl, by decide, by unfold kMend; rw [if_pos (by omega)]⟩)
          · have hj1 := I_j hI i (by omega) (by omega)
            have hcc := I_c hI c (by omega) (by omega)
            refine sw_aload_n X dX6_mend_57 rfl 0 rfl ?_
            refine sw_get (q0 := 0) (v := .ref (ad 20)) X iw_X6 rfl rfl 20 (by decide) gw3_228 rfl rfl dX6_mend_58 ?_
            refine sw_iload X dX6_mend_61 5 rfl ?_
            refine sw_iald (q0 := 14) (n := 40) X rfl (by omega) (by omega) (by decide) dX6_mend_63 ?_
            refine sw_iload_n X dX6_mend_64 rfl 1 rfl ?_
            have jn44 : ∀ (x8 : Int), ((st 20 i = c ∧ st 18 i = st 14 c ∧ x8 = i) ∨ (¬ (st 20 i = c ∧ st 18 i = st 14 c) ∧ x8 = pt)) → SW pᵢ l eᵢ rm_X6_mend sᵢ mᵢ argsᵢ belowᵢ methᵢ cᵢ 6 D Aᵢ 0 0 Qᵢ (mW k ad st tl t x y h) 91 [(0, .ref (ad 0)), (1, .int (J c)), (2, .int (J z1)), (3, .int (J z9)), (4, .int (J pt)), (5, .int (J i))] [.int (J x8)] := by
              intro x8 hx8
              refine sw_istore (lv' := [(4, .int (J x8)), (0, .ref (ad 0)), (1, .int (J c)), (2, .int (J z1)), (3, .int (J z9)), (5, .int (J i))]) X dX6_mend_91 (by decide) rfl ?_
              refine sw_iinc (lv' := [(5, .int (J (i + (-1)))), (4, .int (J x8)), (0, .ref (ad 0)), (1, .int (J c)), (2, .int (J z1)), (3, .int (J z9))]) X dX6_mend_93 5 rfl (by decide) rfl ?_
              refine sw_goto (tgt := 48) X dX6_mend_96 (by decide) ?_
              refine sw_sub [2, 3, 4, 5, 1, 0] rfl ?_
              exact ih4 x8 (i + (-1)) (by omega) (by omega) (by rw [show i + -1 + 1 = i by omega]; refine isF_dn hp (by omega) ?_; split <;> omega)
            refine sw_icmp_ne (tgt := 89) X (by omega) (by omega) dX6_mend_65 (by decide) (fun h45 => ?_) (fun h45 => ?_)
            · refine sw_iload X dX6_mend_89 4 rfl ?_
              exact jn44 pt (by omega)
            · refine sw_aload_n X dX6_mend_68 rfl 0 rfl ?_
              refine sw_get (q0 := 0) (v := .ref (ad 18)) X iw_X6 rfl rfl 18 (by decide) gw3_226 rfl rfl dX6_mend_69 ?_
              refine sw_iload X dX6_mend_72 5 rfl ?_
              refine sw_iald (q0 := 12) (n := 40) X rfl (by omega) (by omega) (by decide) dX6_mend_74 ?_
              refine sw_aload_n X dX6_mend_75 rfl 0 rfl ?_
              refine sw_get (q0 := 0) (v := .ref (ad 14)) X iw_X6 rfl rfl 14 (by decide) gw3_222 rfl rfl dX6_mend_76 ?_
              refine sw_iload_n X dX6_mend_79 rfl 1 rfl ?_
              refine sw_iald (q0 := 9) (n := 8) X rfl (by omega) (by omega) (by decide) dX6_mend_80 ?_
              refine sw_icmp_ne (tgt := 89) X (by omega) (by omega) dX6_mend_81 (by decide) (fun h46 => ?_) (fun h46 => ?_)
              · refine sw_iload X dX6_mend_89 4 rfl ?_
                exact jn44 pt (by omega)
              · refine sw_iload X dX6_mend_84 5 rfl ?_
                refine sw_goto (tgt := 91) X dX6_mend_86 (by decide) ?_
                exact jn44 i (by omega)
    refine sw_sub [3, 4, 5, 2, 1, 0] rfl ?_
    exact lp5 (((st 17 0) - 1) + 2).toNat.succ (-1) ((st 17 0) - 1) (by omega) (by omega) (Or.inl ⟨rfl, fun m q1 q2 => by omega⟩)
  refine sw_if_eq (tgt := 35) X (by omega) dX6_mend_7 (by decide) (fun h47 => ?_) (fun h47 => ?_)
  · refine sw_iconst X dX6_mend_35 ?_
    refine sw_sub [1, 2, 0] rfl ?_
    exact jn3 0 (by omega)
  · have hcc := I_c hI c (by omega) (by omega)
    refine sw_aload_n X dX6_mend_10 rfl 1 rfl ?_
    refine sw_get (q0 := 0) (v := .ref (ad 14)) X iw_X6 rfl rfl 14 (by decide) gw3_222 rfl rfl dX6_mend_11 ?_
    refine sw_iload_n X dX6_mend_14 rfl 2 rfl ?_
    refine sw_iald (q0 := 9) (n := 8) X rfl (by omega) (by omega) (by decide) dX6_mend_15 ?_
    refine sw_iconst X dX6_mend_16 ?_
    refine sw_icmp_eq (tgt := 35) X (by omega) (by omega) dX6_mend_17 (by decide) (fun h48 => ?_) (fun h48 => ?_)
    · refine sw_iconst X dX6_mend_35 ?_
      refine sw_sub [1, 2, 0] rfl ?_
      exact jn3 0 (by omega)
    · refine sw_aload_n X dX6_mend_20 rfl 1 rfl ?_
      refine sw_get (q0 := 0) (v := .ref (ad 10)) X iw_X6 rfl rfl 10 (by decide) gw3_218 rfl rfl dX6_mend_21 ?_
      refine sw_iload_n X dX6_mend_24 rfl 2 rfl ?_
      refine sw_iald (q0 := 5) (n := 8) X rfl (by omega) (by omega) (by decide) dX6_mend_25 ?_
      refine sw_bipush X dX6_mend_26 (by decide +kernel) ?_
      refine sw_icmp_ge (tgt := 35) X (by omega) (by omega) dX6_mend_28 (by decide) (fun h49 => ?_) (fun h49 => ?_)
      · refine sw_iconst X dX6_mend_35 ?_
        refine sw_sub [1, 2, 0] rfl ?_
        exact jn3 0 (by omega)
      · refine sw_iconst X dX6_mend_31 ?_
        refine sw_goto (tgt := 36) X dX6_mend_32 (by decide) ?_
        refine sw_sub [1, 2, 0] rfl ?_
        exact jn3 1 (by omega)
