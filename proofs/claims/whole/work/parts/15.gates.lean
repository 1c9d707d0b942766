/-! gates passed, due minutes, pieces added, places of parts, times, points -/
theorem pas_e {st : ST} {c i la : Int} {n : Nat} (hi : i = (n : Int)) (hl : la = (pasL st c n).1) : pas st c i = fF (aC st c) (clk st c) (gC st i) la := by
  subst hi
  unfold pas
  rw [Int.toNat_natCast, pasL_s, hl]
theorem pas_n {st : ST} {c i la la2 : Int} {n : Nat} (hi : i = (n : Int)) (hl : la = (pasL st c n).1) (h : la2 = if fF (aC st c) (clk st c) (gC st i) la = -1 then la else fF (aC st c) (clk st c) (gC st i) la) : la2 = (pasL st c (n + 1)).1 := by
  subst hi
  rw [pasL_s, h, hl]
theorem pas_f {st : ST} {c i la : Int} {n : Nat} (hi : i = (n : Int)) (hl : la = (pasL st c n).1) : fF (aC st c) (clk st c) (gC st i) la = (pasL st c (n + 1)).2 := by
  subst hi
  rw [pasL_s, hl]
theorem pt_tim {st : ST} {c i la tm : Int} {n : Nat} (hi : i = (n : Int)) (hl : la = (pasL st c n).1) (h : tm = if st 16 (10 * c + i) = -1 then fF (aC st c) (clk st c) (gC st i) la else st 16 (10 * c + i)) : tm = tim st c i := by
  rw [h, ← pas_e hi hl]
  rfl
theorem pt_x {st : ST} {c i tm ow x : Int} (h1 : tm = tim st c i) (h2 : ow = if tm = -1 then 60 else if tm - gD st i < 0 then -2 * (tm - gD st i) else tm - gD st i) (h3 : x = if ow > 60 then 60 else ow) : x = pG st c i := by
  unfold pG
  rw [h3, h2, h1]
theorem nG_e {st : ST} {n : Nat} (h1 : (n : Int) ≤ st 5 0) (h2 : (n : Int) ≤ st 8 0) (h : st 5 0 ≤ (n : Int) ∨ st 8 0 ≤ (n : Int)) : n = nG st := by
  unfold nG
  split <;> omega
/-- a piece is added to a track -/
def aP (st : ST) (c d m t : Int) : ST := up2 (up2 (up2 (up2 st 11 (60 * c + st 10 c) d) 12 (60 * c + st 10 c) m) 13 (60 * c + st 10 c) t) 10 c (st 10 c + 1)
def cPl (st : ST) (a : Int) : Int := if a = -1 then st 1 0 else aC st a (clk st a)
abbrev rm_X6_passedAt : Room := { frames := 3, cells := 0, slots := 0, locals := 64 }
set_option maxHeartbeats 4000000 in
set_option maxRecDepth 100000 in
theorem c_X6_passedAt (l : Launch) (D : va_G) (k : Nat → ClassId) (N : Int) (ad : Nat → Nat) (st : Nat → Int → Int) (tl : Int → Int) (t x y h : Int) (c a : Int) (hI : I6 N st) (hc : 0 ≤ c ∧ c < 8) (hg : 0 ≤ a ∧ a < st 5 0) : CI l yX6_passedAt cX6_passedAt 6 (some .int) rm_X6_passedAt D k [.ref (ad 0), .int (J c), .int (J a)] (mW k ad st tl t x y h) (fun z w' => ∃ x' y' h', w' = mW k ad st tl t x' y' h' ∧ z = pas st c a) := by
  refine CI.of (by decide +kernel) (Nat.le_of_ble_eq_true rfl) (fun pᵢ eᵢ sᵢ mᵢ argsᵢ belowᵢ methᵢ cᵢ Aᵢ Qᵢ X RI => ?_)
  show SW pᵢ l eᵢ rm_X6_passedAt sᵢ mᵢ argsᵢ belowᵢ methᵢ cᵢ 6 D Aᵢ 0 0 Qᵢ (mW k ad st tl t x y h) 0 [(0, .ref (ad 0)), (1, .int (J c)), (2, .int (J a))] []
  have hG := I_ga hI
  have hK := clk_b hI hc.1 hc.2
  refine sw_iconst X dX6_passedAt_0 ?_
  refine sw_istore_n (lv' := [(3, .int (J 0)), (0, .ref (ad 0)), (1, .int (J c)), (2, .int (J a))]) X dX6_passedAt_1 rfl (by decide) rfl ?_
  refine sw_iconst X dX6_passedAt_2 ?_
  refine sw_istore (lv' := [(4, .int (J (-1))), (3, .int (J 0)), (0, .ref (ad 0)), (1, .int (J c)), (2, .int (J a))]) X dX6_passedAt_3 (by decide) rfl ?_
  refine sw_iconst X dX6_passedAt_5 ?_
  refine sw_istore (lv' := [(5, .int (J 0)), (4, .int (J (-1))), (3, .int (J 0)), (0, .ref (ad 0)), (1, .int (J c)), (2, .int (J a))]) X dX6_passedAt_6 (by decide) rfl ?_
  have lp2 : ∀ (n3 : Nat) (n : Nat) (la fo i u v g : Int), a + 1 - (n : Int) < (n3 : Nat) → (i = (n : Int)) → ((n : Int) ≤ a + 1) → (la = (pasL st c n).1) → (fo = (pasL st c n).2) → SW pᵢ l eᵢ rm_X6_passedAt sᵢ mᵢ argsᵢ belowᵢ methᵢ cᵢ 6 D Aᵢ 0 0 Qᵢ (mW k ad st tl t u v g) 8 [(0, .ref (ad 0)), (1, .int (J c)), (2, .int (J a)), (3, .int (J la)), (4, .int (J fo)), (5, .int (J i))] [] := by
    intro n3
    induction n3 with
    | zero => intro n la fo i u v g hm4 hi hn hl hf; exact absurd hm4 (by omega)
    | succ n3 ih1 =>
      intro n la fo i u v g hm4 hi hn hl hf
      refine sw_iload X dX6_passedAt_8 5 rfl ?_
      refine sw_iload_n X dX6_passedAt_10 rfl 2 rfl ?_
      refine sw_icmp_gt (tgt := 47) X (by omega) (by omega) dX6_passedAt_11 (by decide) (fun h5 => ?_) (fun h5 => ?_)
      · refine sw_iload X dX6_passedAt_47 4 rfl ?_
        exact RI _ _ _ _ _ _ dX6_passedAt_49 (by decide) (by decide) rfl ⟨_, _, _, rfl, by rw [hf]; unfold pas; rw [show a.toNat + 1 = n by omega]⟩
      · have hb := pasL_b hI hc n
        rw [← hl] at hb
        have hgc := gC_b hI (g := i) (by omega)
        have hF := isF_rng (fF_is (aC st c) (e := clk st c) (v := gC st i) (a := la))
        refine sw_aload_n X dX6_passedAt_14 rfl 0 rfl ?_
        refine sw_iload_n X dX6_passedAt_15 rfl 1 rfl ?_
        refine sw_aload_n X dX6_passedAt_16 rfl 0 rfl ?_
        refine sw_iload X dX6_passedAt_17 5 rfl ?_
        refine sw_callVI0 (C := RX6) (As := [.int (J i)]) (rest := [.int (J c), .ref (ad 0)]) X (c_X6_cellOfGate l D k N ad st tl t u v g i hI (by omega)) (cwV 1 (sw_ts X) (sw_goodV gw4_162 gw4_164 gws_32 gw1_3 gw4_165) rfl rfl rfl (by decide +kernel) ⟨Nat.le_of_ble_eq_true rfl, Nat.le_of_ble_eq_true rfl⟩) 0 (ci := 6) rfl rfl rfl dX6_passedAt_19 rfl rfl (Nat.le_of_ble_eq_true rfl) ⟨Nat.le_of_ble_eq_true rfl, Nat.le_of_ble_eq_true rfl⟩ (fun z6 w9 hp7 => ?_)
        obtain ⟨u8, v9, g10, rfl, rfl⟩ := hp7
        refine sw_iload_n X dX6_passedAt_22 rfl 3 rfl ?_
        refine sw_callVI0 (C := RX6) (As := [.int (J c), .int (J (gC st i)), .int (J la)]) (rest := []) X (c_X6_firstIn l D k N ad st tl t u8 v9 g10 c (gC st i) la hI (by omega) (by omega) (by omega)) (cwV 3 (sw_ts X) (sw_goodV gw4_166 gw4_168 gws_33 gw1_3 gw4_169) rfl rfl rfl (by decide +kernel) ⟨Nat.le_of_ble_eq_true rfl, Nat.le_of_ble_eq_true rfl⟩) 0 (ci := 6) rfl rfl rfl dX6_passedAt_23 rfl rfl (Nat.le_of_ble_eq_true rfl) ⟨Nat.le_of_ble_eq_true rfl, Nat.le_of_ble_eq_true rfl⟩ (fun z11 w9 hp12 => ?_)
        obtain ⟨u13, v14, g15, rfl, rfl⟩ := hp12
        refine sw_istore (lv' := [(4, .int (J (fF (aC st c) (clk st c) (gC st i) la))), (0, .ref (ad 0)), (1, .int (J c)), (2, .int (J a)), (3, .int (J la)), (5, .int (J i))]) X dX6_passedAt_26 (by decide) rfl ?_
        refine sw_iload X dX6_passedAt_28 0 rfl ?_
        refine sw_iconst X dX6_passedAt_30 ?_
        refine sw_icmp_ne (tgt := 38) X (by omega) (by omega) dX6_passedAt_31 (by decide) (fun h16 => ?_) (fun h16 => ?_)
        · refine sw_iload X dX6_passedAt_38 0 rfl ?_
          refine sw_istore_n (lv' := [(3, .int (J (fF (aC st c) (clk st c) (gC st i) la))), (4, .int (J (fF (aC st c) (clk st c) (gC st i) la))), (0, .ref (ad 0)), (1, .int (J c)), (2, .int (J a)), (5, .int (J i))]) X dX6_passedAt_40 rfl (by decide) rfl ?_
          refine sw_iinc (lv' := [(5, .int (J (i + 1))), (3, .int (J (fF (aC st c) (clk st c) (gC st i) la))), (4, .int (J (fF (aC st c) (clk st c) (gC st i) la))), (0, .ref (ad 0)), (1, .int (J c)), (2, .int (J a))]) X dX6_passedAt_41 5 rfl (by decide) rfl ?_
          refine sw_goto (tgt := 8) X dX6_passedAt_44 (by decide) ?_
          refine sw_sub [3, 4, 5, 1, 2, 0] rfl ?_
          exact ih1 (n + 1) (fF (aC st c) (clk st c) (gC st i) la) (fF (aC st c) (clk st c) (gC st i) la) (i + 1) u13 v14 g15 (by omega) (by omega) (by omega) (by refine pas_n hi hl ?_; split <;> omega) (pas_f hi hl)
        · refine sw_iload_n X dX6_passedAt_34 rfl 4 rfl ?_
          refine sw_goto (tgt := 40) X dX6_passedAt_35 (by decide) ?_
          refine sw_istore_n (lv' := [(3, .int (J la)), (4, .int (J (fF (aC st c) (clk st c) (gC st i) la))), (0, .ref (ad 0)), (1, .int (J c)), (2, .int (J a)), (5, .int (J i))]) X dX6_passedAt_40 rfl (by decide) rfl ?_
          refine sw_iinc (lv' := [(5, .int (J (i + 1))), (3, .int (J la)), (4, .int (J (fF (aC st c) (clk st c) (gC st i) la))), (0, .ref (ad 0)), (1, .int (J c)), (2, .int (J a))]) X dX6_passedAt_41 5 rfl (by decide) rfl ?_
          refine sw_goto (tgt := 8) X dX6_passedAt_44 (by decide) ?_
          refine sw_sub [3, 4, 5, 1, 2, 0] rfl ?_
          exact ih1 (n + 1) la (fF (aC st c) (clk st c) (gC st i) la) (i + 1) u13 v14 g15 (by omega) (by omega) (by omega) (by refine pas_n hi hl ?_; split <;> omega) (pas_f hi hl)
  refine sw_sub [3, 4, 5, 2, 1, 0] rfl ?_
  exact lp2 (a + 1 - (0 : Int)).toNat.succ 0 0 (-1) 0 x y h (by omega) (rfl) (by omega) (rfl) (rfl)
abbrev rm_X6_dueAt : Room := { frames := 0, cells := 0, slots := 0, locals := 0 }
set_option maxHeartbeats 4000000 in
set_option maxRecDepth 100000 in
theorem c_X6_dueAt (l : Launch) (D : va_G) (k : Nat → ClassId) (N : Int) (ad : Nat → Nat) (st : Nat → Int → Int) (tl : Int → Int) (t x y h : Int) (a : Int) (hI : I6 N st) (hg : 0 ≤ a ∧ a < st 5 0) : CI l yX6_dueAt cX6_dueAt 4 (some .int) rm_X6_dueAt D k [.ref (ad 0), .int (J a)] (mW k ad st tl t x y h) (fun z w' => w' = mW k ad st tl t x y h ∧ z = gD st a) := by
  refine CI.of (by decide +kernel) (Nat.le_of_ble_eq_true rfl) (fun pᵢ eᵢ sᵢ mᵢ argsᵢ belowᵢ methᵢ cᵢ Aᵢ Qᵢ X RI => ?_)
  show SW pᵢ l eᵢ rm_X6_dueAt sᵢ mᵢ argsᵢ belowᵢ methᵢ cᵢ 4 D Aᵢ 0 0 Qᵢ (mW k ad st tl t x y h) 0 [(0, .ref (ad 0)), (1, .int (J a))] []
  have hG := I_ga hI
  have hE := I_en hI
  have h6 := I_g hI a hg.1 hg.2
  refine sw_aload_n X dX6_dueAt_0 rfl 0 rfl ?_
  refine sw_get (q0 := 0) (v := .ref (ad 7)) X iw_X6 rfl rfl 7 (by decide) gw3_215 rfl rfl dX6_dueAt_1 ?_
  refine sw_iload_n X dX6_dueAt_4 rfl 1 rfl ?_
  refine sw_iald (q0 := 4) (n := 10) X rfl (by omega) (by omega) (by decide) dX6_dueAt_5 ?_
  refine sw_istore_n (lv' := [(2, .int (J (st 7 a))), (0, .ref (ad 0)), (1, .int (J a))]) X dX6_dueAt_6 rfl (by decide) rfl ?_
  refine sw_iconst X dX6_dueAt_7 ?_
  refine sw_istore_n (lv' := [(3, .int (J 0)), (2, .int (J (st 7 a))), (0, .ref (ad 0)), (1, .int (J a))]) X dX6_dueAt_8 rfl (by decide) rfl ?_
  have lp2 : ∀ (n3 : Nat) (n : Nat) (sm i : Int), st 6 a + 1 - (n : Int) < (n3 : Nat) → (i = (n : Int)) → ((n : Int) ≤ st 6 a + 1) → (sm = st 7 a + sM (fun i => st 3 (i : Int)) n) → SW pᵢ l eᵢ rm_X6_dueAt sᵢ mᵢ argsᵢ belowᵢ methᵢ cᵢ 4 D Aᵢ 0 0 Qᵢ (mW k ad st tl t x y h) 9 [(0, .ref (ad 0)), (1, .int (J a)), (2, .int (J sm)), (3, .int (J i))] [] := by
    intro n3
    induction n3 with
    | zero => intro n sm i hm4 hi hn hs; exact absurd hm4 (by omega)
    | succ n3 ih1 =>
      intro n sm i hm4 hi hn hs
      refine sw_iload_n X dX6_dueAt_9 rfl 3 rfl ?_
      refine sw_aload_n X dX6_dueAt_10 rfl 0 rfl ?_
      refine sw_get (q0 := 0) (v := .ref (ad 6)) X iw_X6 rfl rfl 6 (by decide) gw3_214 rfl rfl dX6_dueAt_11 ?_
      refine sw_iload_n X dX6_dueAt_14 rfl 1 rfl ?_
      refine sw_iald (q0 := 3) (n := 10) X rfl (by omega) (by omega) (by decide) dX6_dueAt_15 ?_
      refine sw_icmp_gt (tgt := 34) X (by omega) (by omega) dX6_dueAt_16 (by decide) (fun h5 => ?_) (fun h5 => ?_)
      · refine sw_iload_n X dX6_dueAt_34 rfl 2 rfl ?_
        exact RI _ _ _ _ _ _ dX6_dueAt_35 (by decide) (by decide) rfl ⟨rfl, by rw [hs]; unfold gD; rw [show (st 6 a).toNat + 1 = n by omega]⟩
      · have hb := I_e hI i (by omega) (by omega)
        refine sw_iload_n X dX6_dueAt_19 rfl 2 rfl ?_
        refine sw_aload_n X dX6_dueAt_20 rfl 0 rfl ?_
        refine sw_get (q0 := 0) (v := .ref (ad 3)) X iw_X6 rfl rfl 3 (by decide) gw3_211 rfl rfl dX6_dueAt_21 ?_
        refine sw_iload_n X dX6_dueAt_24 rfl 3 rfl ?_
        refine sw_iald (q0 := 1) (n := 30) X rfl (by omega) (by omega) (by decide) dX6_dueAt_25 ?_
        refine sw_iadd X dX6_dueAt_26 ?_
        refine sw_istore_n (lv' := [(2, .int (J (sm + (st 3 i)))), (0, .ref (ad 0)), (1, .int (J a)), (3, .int (J i))]) X dX6_dueAt_27 rfl (by decide) rfl ?_
        refine sw_iinc (lv' := [(3, .int (J (i + 1))), (2, .int (J (sm + (st 3 i)))), (0, .ref (ad 0)), (1, .int (J a))]) X dX6_dueAt_28 3 rfl (by decide) rfl ?_
        refine sw_goto (tgt := 9) X dX6_dueAt_31 (by decide) ?_
        refine sw_sub [2, 3, 1, 0] rfl ?_
        exact ih1 (n + 1) (sm + (st 3 i)) (i + 1) (by omega) (by omega) (by omega) (by rw [sM_s, hs, hi]; omega)
  refine sw_sub [2, 3, 1, 0] rfl ?_
  exact lp2 (st 6 a + 1 - (0 : Int)).toNat.succ 0 (st 7 a) 0 (by omega) (rfl) (by omega) (by simp [sM])
abbrev rm_X6_addPiece : Room := { frames := 1, cells := 0, slots := 0, locals := 23 }
set_option maxHeartbeats 4000000 in
set_option maxRecDepth 100000 in
theorem c_X6_addPiece (l : Launch) (D : va_G) (k : Nat → ClassId) (N : Int) (ad : Nat → Nat) (st : Nat → Int → Int) (tl : Int → Int) (t x y h : Int) (c d q r : Int) (hI : I6 N (aP st c d q r)) (hc : 0 ≤ c ∧ c < 8) (hb : 0 ≤ st 10 c ∧ st 10 c < 60) : CI l yX6_addPiece cX6_addPiece 6 (some .int) rm_X6_addPiece D k [.ref (ad 0), .int (J c), .int (J d), .int (J q), .int (J r)] (mW k ad st tl t x y h) (fun z w' => w' = mW k ad (aP st c d q r) tl t x y h ∧ z = clk (aP st c d q r) c) := by
  refine CI.of (by decide +kernel) (Nat.le_of_ble_eq_true rfl) (fun pᵢ eᵢ sᵢ mᵢ argsᵢ belowᵢ methᵢ cᵢ Aᵢ Qᵢ X RI => ?_)
  show SW pᵢ l eᵢ rm_X6_addPiece sᵢ mᵢ argsᵢ belowᵢ methᵢ cᵢ 6 D Aᵢ 0 0 Qᵢ (mW k ad st tl t x y h) 0 [(0, .ref (ad 0)), (1, .int (J c)), (2, .int (J d)), (3, .int (J q)), (4, .int (J r))] []
  refine sw_bipush X dX6_addPiece_0 (by decide +kernel) ?_
  refine sw_iload_n X dX6_addPiece_2 rfl 1 rfl ?_
  refine sw_imul X dX6_addPiece_3 ?_
  refine sw_aload_n X dX6_addPiece_4 rfl 0 rfl ?_
  refine sw_get (q0 := 0) (v := .ref (ad 10)) X iw_X6 rfl rfl 10 (by decide) gw3_218 rfl rfl dX6_addPiece_5 ?_
  refine sw_iload_n X dX6_addPiece_8 rfl 1 rfl ?_
  refine sw_iald (q0 := 5) (n := 8) X rfl (by omega) (by omega) (by decide) dX6_addPiece_9 ?_
  refine sw_iadd X dX6_addPiece_10 ?_
  refine sw_istore (lv' := [(5, .int (J ((60 * c) + (st 10 c)))), (0, .ref (ad 0)), (1, .int (J c)), (2, .int (J d)), (3, .int (J q)), (4, .int (J r))]) X dX6_addPiece_11 (by decide) rfl ?_
  refine sw_aload_n X dX6_addPiece_13 rfl 1 rfl ?_
  refine sw_get (q0 := 0) (v := .ref (ad 11)) X iw_X6 rfl rfl 11 (by decide) gw3_219 rfl rfl dX6_addPiece_14 ?_
  refine sw_iload X dX6_addPiece_17 0 rfl ?_
  refine sw_iload_n X dX6_addPiece_19 rfl 3 rfl ?_
  refine sw_iast (q0 := 6) (n := 480) X rfl (by omega) (by omega) (by decide) mW_a11 dX6_addPiece_20 ?_
  refine sw_aload_n X dX6_addPiece_21 rfl 1 rfl ?_
  refine sw_get (q0 := 0) (v := .ref (ad 12)) X iw_X6 rfl rfl 12 (by decide) gw3_220 rfl rfl dX6_addPiece_22 ?_
  refine sw_iload X dX6_addPiece_25 0 rfl ?_
  refine sw_iload_n X dX6_addPiece_27 rfl 4 rfl ?_
  refine sw_iast (q0 := 7) (n := 480) X rfl (by omega) (by omega) (by decide) mW_a12 dX6_addPiece_28 ?_
  refine sw_aload_n X dX6_addPiece_29 rfl 1 rfl ?_
  refine sw_get (q0 := 0) (v := .ref (ad 13)) X iw_X6 rfl rfl 13 (by decide) gw3_221 rfl rfl dX6_addPiece_30 ?_
  refine sw_iload X dX6_addPiece_33 0 rfl ?_
  refine sw_iload X dX6_addPiece_35 5 rfl ?_
  refine sw_iast (q0 := 8) (n := 480) X rfl (by omega) (by omega) (by decide) mW_a13 dX6_addPiece_37 ?_
  refine sw_aload_n X dX6_addPiece_38 rfl 1 rfl ?_
  refine sw_get (q0 := 0) (v := .ref (ad 10)) X iw_X6 rfl rfl 10 (by decide) gw3_218 rfl rfl dX6_addPiece_39 ?_
  refine sw_iload_n X dX6_addPiece_42 rfl 2 rfl ?_
  refine sw_dup2 X dX6_addPiece_43 rfl rfl ?_
  refine sw_iald (q0 := 5) (n := 8) X rfl (by omega) (by omega) (by decide) dX6_addPiece_44 ?_
  refine sw_iconst X dX6_addPiece_45 ?_
  refine sw_iadd X dX6_addPiece_46 ?_
  refine sw_iast (q0 := 5) (n := 8) X rfl (by omega) (by omega) (by decide) mW_a10 dX6_addPiece_47 ?_
  refine sw_aload_n X dX6_addPiece_48 rfl 1 rfl ?_
  refine sw_iload_n X dX6_addPiece_49 rfl 2 rfl ?_
  refine sw_callVI0 (C := RX6) (As := [.int (J c)]) (rest := []) X (c_X6_clockOf l D k N ad (up2 (up2 (up2 (up2 st 11 ((60 * c) + (st 10 c)) d) 12 ((60 * c) + (st 10 c)) q) 13 ((60 * c) + (st 10 c)) r) 10 c ((st 10 c) + 1)) tl t x y h c hI (by omega)) (cwV 1 (sw_ts X) (sw_goodV gw4_106 gw4_108 gws_24 gw1_3 gw4_109) rfl rfl rfl (by decide +kernel) ⟨Nat.le_of_ble_eq_true rfl, Nat.le_of_ble_eq_true rfl⟩) 0 (ci := 6) rfl rfl rfl dX6_addPiece_50 rfl rfl (Nat.le_of_ble_eq_true rfl) ⟨Nat.le_of_ble_eq_true rfl, Nat.le_of_ble_eq_true rfl⟩ (fun z1 w9 hp2 => ?_)
  obtain ⟨rfl, rfl⟩ := hp2
  exact RI _ _ _ _ _ _ dX6_addPiece_53 (by decide) (by decide) rfl ⟨rfl, rfl⟩
abbrev rm_X6_cellOfPlace : Room := { frames := 3, cells := 0, slots := 0, locals := 67 }
set_option maxHeartbeats 4000000 in
set_option maxRecDepth 100000 in
theorem c_X6_cellOfPlace (l : Launch) (D : va_G) (k : Nat → ClassId) (N : Int) (ad : Nat → Nat) (st : Nat → Int → Int) (tl : Int → Int) (t x y h : Int) (a : Int) (hI : I6 N st) (ha : a = -1 ∨ (0 ≤ a ∧ a < 8)) : CI l yX6_cellOfPlace cX6_cellOfPlace 2 (some .int) rm_X6_cellOfPlace D k [.ref (ad 0), .int (J a)] (mW k ad st tl t x y h) (fun z w' => ∃ x' y' h', w' = mW k ad st tl t x' y' h' ∧ z = cPl st a) := by
  refine CI.of (by decide +kernel) (Nat.le_of_ble_eq_true rfl) (fun pᵢ eᵢ sᵢ mᵢ argsᵢ belowᵢ methᵢ cᵢ Aᵢ Qᵢ X RI => ?_)
  show SW pᵢ l eᵢ rm_X6_cellOfPlace sᵢ mᵢ argsᵢ belowᵢ methᵢ cᵢ 2 D Aᵢ 0 0 Qᵢ (mW k ad st tl t x y h) 0 [(0, .ref (ad 0)), (1, .int (J a))] []
  have hS := I_st hI
  refine sw_iload_n X dX6_cellOfPlace_0 rfl 1 rfl ?_
  refine sw_iconst X dX6_cellOfPlace_1 ?_
  refine sw_icmp_ne (tgt := 12) X (by omega) (by omega) dX6_cellOfPlace_2 (by decide) (fun h1 => ?_) (fun h1 => ?_)
  · refine sw_aload_n X dX6_cellOfPlace_12 rfl 0 rfl ?_
    refine sw_iload_n X dX6_cellOfPlace_13 rfl 1 rfl ?_
    refine sw_callVI0 (C := RX6) (As := [.int (J a)]) (rest := []) X (c_X6_cellNow l D k N ad st tl t x y h a hI (by omega)) (cwV 1 (sw_ts X) (sw_goodV gw4_142 gw4_144 gws_28 gw1_3 gw4_145) rfl rfl rfl (by decide +kernel) ⟨Nat.le_of_ble_eq_true rfl, Nat.le_of_ble_eq_true rfl⟩) 0 (ci := 6) rfl rfl rfl dX6_cellOfPlace_14 rfl rfl (Nat.le_of_ble_eq_true rfl) ⟨Nat.le_of_ble_eq_true rfl, Nat.le_of_ble_eq_true rfl⟩ (fun z2 w9 hp3 => ?_)
    obtain ⟨u4, v5, g6, rfl, rfl⟩ := hp3
    exact RI _ _ _ _ _ _ dX6_cellOfPlace_17 (by decide) (by decide) rfl ⟨_, _, _, rfl, by unfold cPl; split <;> omega⟩
  · refine sw_aload_n X dX6_cellOfPlace_5 rfl 0 rfl ?_
    refine sw_get (q0 := 0) (v := .int (J (st 1 0))) X iw_X6 rfl rfl 1 (by decide) gw3_209 rfl rfl dX6_cellOfPlace_6 ?_
    refine sw_goto (tgt := 17) X dX6_cellOfPlace_9 (by decide) ?_
    exact RI _ _ _ _ _ _ dX6_cellOfPlace_17 (by decide) (by decide) rfl ⟨_, _, _, rfl, by unfold cPl; split <;> omega⟩
abbrev rm_X6_timeOf : Room := { frames := 4, cells := 0, slots := 0, locals := 89 }
set_option maxHeartbeats 4000000 in
set_option maxRecDepth 100000 in
theorem c_X6_timeOf (l : Launch) (D : va_G) (k : Nat → ClassId) (N : Int) (ad : Nat → Nat) (st : Nat → Int → Int) (tl : Int → Int) (t x y h : Int) (c a : Int) (hI : I6 N st) (hc : 0 ≤ c ∧ c < 8) (hg : 0 ≤ a ∧ a < st 5 0) : CI l yX6_timeOf cX6_timeOf 4 (some .int) rm_X6_timeOf D k [.ref (ad 0), .int (J c), .int (J a)] (mW k ad st tl t x y h) (fun z w' => ∃ x' y' h', w' = mW k ad st tl t x' y' h' ∧ z = tim st c a) := by
  refine CI.of (by decide +kernel) (Nat.le_of_ble_eq_true rfl) (fun pᵢ eᵢ sᵢ mᵢ argsᵢ belowᵢ methᵢ cᵢ Aᵢ Qᵢ X RI => ?_)
  show SW pᵢ l eᵢ rm_X6_timeOf sᵢ mᵢ argsᵢ belowᵢ methᵢ cᵢ 4 D Aᵢ 0 0 Qᵢ (mW k ad st tl t x y h) 0 [(0, .ref (ad 0)), (1, .int (J c)), (2, .int (J a))] []
  have hG := I_ga hI
  have hR := I_r hI c a (by omega) (by omega) (by omega) (by omega)
  refine sw_aload_n X dX6_timeOf_0 rfl 0 rfl ?_
  refine sw_get (q0 := 0) (v := .ref (ad 16)) X iw_X6 rfl rfl 16 (by decide) gw3_224 rfl rfl dX6_timeOf_1 ?_
  refine sw_bipush X dX6_timeOf_4 (by decide +kernel) ?_
  refine sw_iload_n X dX6_timeOf_6 rfl 1 rfl ?_
  refine sw_imul X dX6_timeOf_7 ?_
  refine sw_iload_n X dX6_timeOf_8 rfl 2 rfl ?_
  refine sw_iadd X dX6_timeOf_9 ?_
  refine sw_iald (q0 := 11) (n := 80) X rfl (by omega) (by omega) (by decide) dX6_timeOf_10 ?_
  refine sw_istore_n (lv' := [(3, .int (J (st 16 ((10 * c) + a)))), (0, .ref (ad 0)), (1, .int (J c)), (2, .int (J a))]) X dX6_timeOf_11 rfl (by decide) rfl ?_
  refine sw_iload_n X dX6_timeOf_12 rfl 0 rfl ?_
  refine sw_iconst X dX6_timeOf_13 ?_
  refine sw_icmp_ne (tgt := 26) X (by omega) (by omega) dX6_timeOf_14 (by decide) (fun h1 => ?_) (fun h1 => ?_)
  · refine sw_iload_n X dX6_timeOf_26 rfl 0 rfl ?_
    exact RI _ _ _ _ _ _ dX6_timeOf_27 (by decide) (by decide) rfl ⟨_, _, _, rfl, by unfold tim; split <;> omega⟩
  · refine sw_aload_n X dX6_timeOf_17 rfl 1 rfl ?_
    refine sw_iload_n X dX6_timeOf_18 rfl 2 rfl ?_
    refine sw_iload_n X dX6_timeOf_19 rfl 3 rfl ?_
    refine sw_callVI0 (C := RX6) (As := [.int (J c), .int (J a)]) (rest := []) X (c_X6_passedAt l D k N ad st tl t x y h c a hI (by omega) (by omega)) (cwV 2 (sw_ts X) (sw_goodV gw4_158 gw4_160 gws_31 gw1_3 gw4_161) rfl rfl rfl (by decide +kernel) ⟨Nat.le_of_ble_eq_true rfl, Nat.le_of_ble_eq_true rfl⟩) 0 (ci := 6) rfl rfl rfl dX6_timeOf_20 rfl rfl (Nat.le_of_ble_eq_true rfl) ⟨Nat.le_of_ble_eq_true rfl, Nat.le_of_ble_eq_true rfl⟩ (fun z2 w9 hp3 => ?_)
    obtain ⟨u4, v5, g6, rfl, rfl⟩ := hp3
    refine sw_goto (tgt := 27) X dX6_timeOf_23 (by decide) ?_
    exact RI _ _ _ _ _ _ dX6_timeOf_27 (by decide) (by decide) rfl ⟨_, _, _, rfl, by unfold tim; split <;> omega⟩
abbrev rm_X6_pointsOf : Room := { frames := 3, cells := 0, slots := 0, locals := 64 }
set_option maxHeartbeats 4000000 in
set_option maxRecDepth 100000 in
theorem c_X6_pointsOf (l : Launch) (D : va_G) (k : Nat → ClassId) (N : Int) (ad : Nat → Nat) (st : Nat → Int → Int) (tl : Int → Int) (t x y h : Int) (c : Int) (hI : I6 N st) (hc : 0 ≤ c ∧ c < 8) : CI l yX6_pointsOf cX6_pointsOf 10 (some .int) rm_X6_pointsOf D k [.ref (ad 0), .int (J c)] (mW k ad st tl t x y h) (fun z w' => ∃ x' y' h', w' = mW k ad st tl t x' y' h' ∧ z = pts st c) := by
  refine CI.of (by decide +kernel) (Nat.le_of_ble_eq_true rfl) (fun pᵢ eᵢ sᵢ mᵢ argsᵢ belowᵢ methᵢ cᵢ Aᵢ Qᵢ X RI => ?_)
  show SW pᵢ l eᵢ rm_X6_pointsOf sᵢ mᵢ argsᵢ belowᵢ methᵢ cᵢ 10 D Aᵢ 0 0 Qᵢ (mW k ad st tl t x y h) 0 [(0, .ref (ad 0)), (1, .int (J c))] []
  have hG := I_ga hI
  have hU := I_cu hI
  have hK := clk_b hI hc.1 hc.2
  refine sw_bipush X dX6_pointsOf_0 (by decide +kernel) ?_
  refine sw_aload_n X dX6_pointsOf_2 rfl 0 rfl ?_
  refine sw_get (q0 := 0) (v := .ref (ad 15)) X iw_X6 rfl rfl 15 (by decide) gw3_223 rfl rfl dX6_pointsOf_3 ?_
  refine sw_iload_n X dX6_pointsOf_6 rfl 1 rfl ?_
  refine sw_iald (q0 := 10) (n := 8) X rfl (by omega) (by omega) (by decide) dX6_pointsOf_7 ?_
  refine sw_imul X dX6_pointsOf_8 ?_
  refine sw_istore_n (lv' := [(2, .int (J (10 * (st 15 c)))), (0, .ref (ad 0)), (1, .int (J c))]) X dX6_pointsOf_9 rfl (by decide) rfl ?_
  refine sw_iconst X dX6_pointsOf_10 ?_
  refine sw_istore_n (lv' := [(3, .int (J 0)), (2, .int (J (10 * (st 15 c)))), (0, .ref (ad 0)), (1, .int (J c))]) X dX6_pointsOf_11 rfl (by decide) rfl ?_
  refine sw_iconst X dX6_pointsOf_12 ?_
  refine sw_istore (lv' := [(4, .int (J 0)), (3, .int (J 0)), (2, .int (J (10 * (st 15 c)))), (0, .ref (ad 0)), (1, .int (J c))]) X dX6_pointsOf_13 (by decide) rfl ?_
  have lp2 : ∀ (n3 : Nat) (n : Nat) (sm la i u v g : Int), st 5 0 - (n : Int) < (n3 : Nat) → (i = (n : Int)) → ((n : Int) ≤ st 5 0 ∧ (n : Int) ≤ st 8 0) → (sm = 10 * st 15 c + sM (fun g => pG st c (g : Int)) n) → (la = (pasL st c n).1) → SW pᵢ l eᵢ rm_X6_pointsOf sᵢ mᵢ argsᵢ belowᵢ methᵢ cᵢ 10 D Aᵢ 0 0 Qᵢ (mW k ad st tl t u v g) 15 [(0, .ref (ad 0)), (1, .int (J c)), (2, .int (J sm)), (3, .int (J la)), (4, .int (J i))] [] := by
    intro n3
    induction n3 with
    | zero => intro n sm la i u v g hm4 hi hn hs hl; exact absurd hm4 (by omega)
    | succ n3 ih1 =>
      intro n sm la i u v g hm4 hi hn hs hl
      refine sw_iload X dX6_pointsOf_15 4 rfl ?_
      refine sw_aload_n X dX6_pointsOf_17 rfl 0 rfl ?_
      refine sw_get (q0 := 0) (v := .int (J (st 5 0))) X iw_X6 rfl rfl 5 (by decide) gw3_213 rfl rfl dX6_pointsOf_18 ?_
      refine sw_icmp_ge (tgt := 151) X (by omega) (by omega) dX6_pointsOf_21 (by decide) (fun h5 => ?_) (fun h5 => ?_)
      · refine sw_iload_n X dX6_pointsOf_151 rfl 2 rfl ?_
        exact RI _ _ _ _ _ _ dX6_pointsOf_152 (by decide) (by decide) rfl ⟨_, _, _, rfl, by rw [hs]; unfold pts; rw [nG_e hn.1 hn.2 (by omega)]⟩
      · refine sw_iload X dX6_pointsOf_24 4 rfl ?_
        refine sw_aload_n X dX6_pointsOf_26 rfl 0 rfl ?_
        refine sw_get (q0 := 0) (v := .int (J (st 8 0))) X iw_X6 rfl rfl 8 (by decide) gw3_216 rfl rfl dX6_pointsOf_27 ?_
        refine sw_icmp_ge (tgt := 151) X (by omega) (by omega) dX6_pointsOf_30 (by decide) (fun h6 => ?_) (fun h6 => ?_)
        · refine sw_iload_n X dX6_pointsOf_151 rfl 2 rfl ?_
          exact RI _ _ _ _ _ _ dX6_pointsOf_152 (by decide) (by decide) rfl ⟨_, _, _, rfl, by rw [hs]; unfold pts; rw [nG_e hn.1 hn.2 (by omega)]⟩
        · have hb := pasL_b hI hc n
          rw [← hl] at hb
          have hgc := gC_b hI (g := i) (by omega)
          have hF := isF_rng (fF_is (aC st c) (e := clk st c) (v := gC st i) (a := la))
          have hR := I_r hI c i (by omega) (by omega) (by omega) (by omega)
          refine sw_aload_n X dX6_pointsOf_33 rfl 0 rfl ?_
          refine sw_iload_n X dX6_pointsOf_34 rfl 1 rfl ?_
          refine sw_aload_n X dX6_pointsOf_35 rfl 0 rfl ?_
          refine sw_iload X dX6_pointsOf_36 4 rfl ?_
          refine sw_callVI0 (C := RX6) (As := [.int (J i)]) (rest := [.int (J c), .ref (ad 0)]) X (c_X6_cellOfGate l D k N ad st tl t u v g i hI (by omega)) (cwV 1 (sw_ts X) (sw_goodV gw4_162 gw4_164 gws_32 gw1_3 gw4_165) rfl rfl rfl (by decide +kernel) ⟨Nat.le_of_ble_eq_true rfl, Nat.le_of_ble_eq_true rfl⟩) 0 (ci := 6) rfl rfl rfl dX6_pointsOf_38 rfl rfl (Nat.le_of_ble_eq_true rfl) ⟨Nat.le_of_ble_eq_true rfl, Nat.le_of_ble_eq_true rfl⟩ (fun z7 w9 hp8 => ?_)
          obtain ⟨u9, v10, g11, rfl, rfl⟩ := hp8
          refine sw_iload_n X dX6_pointsOf_41 rfl 3 rfl ?_
          refine sw_callVI0 (C := RX6) (As := [.int (J c), .int (J (gC st i)), .int (J la)]) (rest := []) X (c_X6_firstIn l D k N ad st tl t u9 v10 g11 c (gC st i) la hI (by omega) (by omega) (by omega)) (cwV 3 (sw_ts X) (sw_goodV gw4_166 gw4_168 gws_33 gw1_3 gw4_169) rfl rfl rfl (by decide +kernel) ⟨Nat.le_of_ble_eq_true rfl, Nat.le_of_ble_eq_true rfl⟩) 0 (ci := 6) rfl rfl rfl dX6_pointsOf_42 rfl rfl (Nat.le_of_ble_eq_true rfl) ⟨Nat.le_of_ble_eq_true rfl, Nat.le_of_ble_eq_true rfl⟩ (fun z12 w9 hp13 => ?_)
          obtain ⟨u14, v15, g16, rfl, rfl⟩ := hp13
          refine sw_istore (lv' := [(5, .int (J (fF (aC st c) (clk st c) (gC st i) la))), (0, .ref (ad 0)), (1, .int (J c)), (2, .int (J sm)), (3, .int (J la)), (4, .int (J i))]) X dX6_pointsOf_45 (by decide) rfl ?_
          refine sw_iload X dX6_pointsOf_47 0 rfl ?_
          refine sw_iconst X dX6_pointsOf_49 ?_
          have jn17 : ∀ (la2 : Int), (la2 = if fF (aC st c) (clk st c) (gC st i) la = -1 then la else fF (aC st c) (clk st c) (gC st i) la) → SW pᵢ l eᵢ rm_X6_pointsOf sᵢ mᵢ argsᵢ belowᵢ methᵢ cᵢ 10 D Aᵢ 0 0 Qᵢ (mW k ad st tl t u14 v15 g16) 59 [(0, .ref (ad 0)), (1, .int (J c)), (2, .int (J sm)), (3, .int (J la)), (4, .int (J i)), (5, .int (J (fF (aC st c) (clk st c) (gC st i) la)))] [.int (J la2)] := by
            intro la2 hla2
            refine sw_istore_n (lv' := [(3, .int (J la2)), (0, .ref (ad 0)), (1, .int (J c)), (2, .int (J sm)), (4, .int (J i)), (5, .int (J (fF (aC st c) (clk st c) (gC st i) la)))]) X dX6_pointsOf_59 rfl (by decide) rfl ?_
            refine sw_aload_n X dX6_pointsOf_60 rfl 1 rfl ?_
            refine sw_get (q0 := 0) (v := .ref (ad 16)) X iw_X6 rfl rfl 16 (by decide) gw3_224 rfl rfl dX6_pointsOf_61 ?_
            refine sw_bipush X dX6_pointsOf_64 (by decide +kernel) ?_
            refine sw_iload_n X dX6_pointsOf_66 rfl 2 rfl ?_
            refine sw_imul X dX6_pointsOf_67 ?_
            refine sw_iload X dX6_pointsOf_68 4 rfl ?_
            refine sw_iadd X dX6_pointsOf_70 ?_
            refine sw_iald (q0 := 11) (n := 80) X rfl (by omega) (by omega) (by decide) dX6_pointsOf_71 ?_
            refine sw_istore (lv' := [(6, .int (J (st 16 ((10 * c) + i)))), (3, .int (J la2)), (0, .ref (ad 0)), (1, .int (J c)), (2, .int (J sm)), (4, .int (J i)), (5, .int (J (fF (aC st c) (clk st c) (gC st i) la)))]) X dX6_pointsOf_72 (by decide) rfl ?_
            refine sw_iload X dX6_pointsOf_74 0 rfl ?_
            refine sw_iconst X dX6_pointsOf_76 ?_
            have jn18 : ∀ (tm : Int), (tm = if st 16 (10 * c + i) = -1 then fF (aC st c) (clk st c) (gC st i) la else st 16 (10 * c + i)) → SW pᵢ l eᵢ rm_X6_pointsOf sᵢ mᵢ argsᵢ belowᵢ methᵢ cᵢ 10 D Aᵢ 0 0 Qᵢ (mW k ad st tl t u14 v15 g16) 87 [(0, .ref (ad 0)), (1, .int (J c)), (2, .int (J sm)), (3, .int (J la2)), (4, .int (J i)), (5, .int (J (fF (aC st c) (clk st c) (gC st i) la))), (6, .int (J (st 16 ((10 * c) + i))))] [.int (J tm)] := by
              intro tm ht2
              have htm := pt_tim hi hl ht2
              have htb := tim_b hI hc (g := i) (by omega)
              rw [← htm] at htb
              have hgd := gD_b hI (g := i) (by omega)
              refine sw_istore (lv' := [(7, .int (J tm)), (0, .ref (ad 0)), (1, .int (J c)), (2, .int (J sm)), (3, .int (J la2)), (4, .int (J i)), (5, .int (J (fF (aC st c) (clk st c) (gC st i) la))), (6, .int (J (st 16 ((10 * c) + i))))]) X dX6_pointsOf_87 (by decide) rfl ?_
              refine sw_iload X dX6_pointsOf_89 0 rfl ?_
              refine sw_aload_n X dX6_pointsOf_91 rfl 1 rfl ?_
              refine sw_iload X dX6_pointsOf_92 5 rfl ?_
              refine sw_callVI0 (C := RX6) (As := [.int (J i)]) (rest := [.int (J tm)]) X (c_X6_dueAt l D k N ad st tl t u14 v15 g16 i hI (by omega)) (cwV 1 (sw_ts X) (sw_goodV gw4_186 gw4_188 gws_34 gw1_3 gw4_189) rfl rfl rfl (by decide +kernel) ⟨Nat.le_of_ble_eq_true rfl, Nat.le_of_ble_eq_true rfl⟩) 0 (ci := 6) rfl rfl rfl dX6_pointsOf_94 rfl rfl (Nat.le_of_ble_eq_true rfl) ⟨Nat.le_of_ble_eq_true rfl, Nat.le_of_ble_eq_true rfl⟩ (fun z19 w9 hp20 => ?_)
              obtain ⟨rfl, rfl⟩ := hp20
              refine sw_isub X dX6_pointsOf_97 ?_
              refine sw_istore (lv' := [(8, .int (J (tm - (gD st i)))), (7, .int (J tm)), (0, .ref (ad 0)), (1, .int (J c)), (2, .int (J sm)), (3, .int (J la2)), (4, .int (J i)), (5, .int (J (fF (aC st c) (clk st c) (gC st i) la))), (6, .int (J (st 16 ((10 * c) + i))))]) X dX6_pointsOf_98 (by decide) rfl ?_
              refine sw_iload X dX6_pointsOf_100 1 rfl ?_
              refine sw_iconst X dX6_pointsOf_102 ?_
              have jn21 : ∀ (ow : Int), (ow = if tm = -1 then 60 else if tm - gD st i < 0 then -2 * (tm - gD st i) else tm - gD st i) → SW pᵢ l eᵢ rm_X6_pointsOf sᵢ mᵢ argsᵢ belowᵢ methᵢ cᵢ 10 D Aᵢ 0 0 Qᵢ (mW k ad st tl t u14 v15 g16) 126 [(0, .ref (ad 0)), (1, .int (J c)), (2, .int (J sm)), (3, .int (J la2)), (4, .int (J i)), (5, .int (J (fF (aC st c) (clk st c) (gC st i) la))), (6, .int (J (st 16 ((10 * c) + i)))), (7, .int (J tm)), (8, .int (J (tm - (gD st i))))] [.int (J ow)] := by
                intro ow how
                refine sw_istore (lv' := [(9, .int (J ow)), (0, .ref (ad 0)), (1, .int (J c)), (2, .int (J sm)), (3, .int (J la2)), (4, .int (J i)), (5, .int (J (fF (aC st c) (clk st c) (gC st i) la))), (6, .int (J (st 16 ((10 * c) + i)))), (7, .int (J tm)), (8, .int (J (tm - (gD st i))))]) X dX6_pointsOf_126 (by decide) rfl ?_
                refine sw_iload_n X dX6_pointsOf_128 rfl 3 rfl ?_
                refine sw_iload X dX6_pointsOf_129 0 rfl ?_
                refine sw_bipush X dX6_pointsOf_131 (by decide +kernel) ?_
                have jn22 : ∀ (xx : Int), (xx = if ow > 60 then 60 else ow) → SW pᵢ l eᵢ rm_X6_pointsOf sᵢ mᵢ argsᵢ belowᵢ methᵢ cᵢ 10 D Aᵢ 0 0 Qᵢ (mW k ad st tl t u14 v15 g16) 143 [(0, .ref (ad 0)), (1, .int (J c)), (2, .int (J sm)), (3, .int (J la2)), (4, .int (J i)), (5, .int (J (fF (aC st c) (clk st c) (gC st i) la))), (6, .int (J (st 16 ((10 * c) + i)))), (7, .int (J tm)), (8, .int (J (tm - (gD st i)))), (9, .int (J ow))] [.int (J xx), .int (J sm)] := by
                  intro xx hxx
                  refine sw_iadd X dX6_pointsOf_143 ?_
                  refine sw_istore_n (lv' := [(2, .int (J (sm + xx))), (0, .ref (ad 0)), (1, .int (J c)), (3, .int (J la2)), (4, .int (J i)), (5, .int (J (fF (aC st c) (clk st c) (gC st i) la))), (6, .int (J (st 16 ((10 * c) + i)))), (7, .int (J tm)), (8, .int (J (tm - (gD st i)))), (9, .int (J ow))]) X dX6_pointsOf_144 rfl (by decide) rfl ?_
                  refine sw_iinc (lv' := [(4, .int (J (i + 1))), (2, .int (J (sm + xx))), (0, .ref (ad 0)), (1, .int (J c)), (3, .int (J la2)), (5, .int (J (fF (aC st c) (clk st c) (gC st i) la))), (6, .int (J (st 16 ((10 * c) + i)))), (7, .int (J tm)), (8, .int (J (tm - (gD st i)))), (9, .int (J ow))]) X dX6_pointsOf_145 4 rfl (by decide) rfl ?_
                  refine sw_goto (tgt := 15) X dX6_pointsOf_148 (by decide) ?_
                  refine sw_sub [2, 3, 1, 4, 0] rfl ?_
                  exact ih1 (n + 1) (sm + xx) la2 (i + 1) u14 v15 g16 (by omega) (by omega) (by omega) (by have e := pt_x htm how hxx; rw [sM_s, hs, e, hi]; omega) (pas_n hi hl hla2)
                refine sw_icmp_le (tgt := 141) X (by omega) (by omega) dX6_pointsOf_133 (by decide) (fun h23 => ?_) (fun h23 => ?_)
                · refine sw_iload X dX6_pointsOf_141 0 rfl ?_
                  refine sw_sub [1, 2, 3, 4, 5, 6, 7, 8, 9, 0] rfl ?_
                  exact jn22 ow (by split <;> omega)
                · refine sw_bipush X dX6_pointsOf_136 (by decide +kernel) ?_
                  refine sw_goto (tgt := 143) X dX6_pointsOf_138 (by decide) ?_
                  refine sw_sub [1, 2, 3, 4, 5, 6, 7, 8, 9, 0] rfl ?_
                  exact jn22 60 (by split <;> omega)
              refine sw_icmp_ne (tgt := 111) X (by omega) (by omega) dX6_pointsOf_103 (by decide) (fun h24 => ?_) (fun h24 => ?_)
              · refine sw_iload X dX6_pointsOf_111 0 rfl ?_
                refine sw_if_ge (tgt := 124) X (by omega) dX6_pointsOf_113 (by decide) (fun h25 => ?_) (fun h25 => ?_)
                · refine sw_iload X dX6_pointsOf_124 0 rfl ?_
                  refine sw_sub [2, 3, 4, 5, 6, 7, 8, 1, 0] rfl ?_
                  exact jn21 (tm - (gD st i)) (by split <;> (try split) <;> omega)
                · refine sw_bipush X dX6_pointsOf_116 (by decide +kernel) ?_
                  refine sw_iload X dX6_pointsOf_118 0 rfl ?_
                  refine sw_imul X dX6_pointsOf_120 ?_
                  refine sw_goto (tgt := 126) X dX6_pointsOf_121 (by decide) ?_
                  refine sw_sub [2, 3, 4, 5, 6, 7, 8, 1, 0] rfl ?_
                  exact jn21 ((-2) * (tm - (gD st i))) (by split <;> (try split) <;> omega)
              · refine sw_bipush X dX6_pointsOf_106 (by decide +kernel) ?_
                refine sw_goto (tgt := 126) X dX6_pointsOf_108 (by decide) ?_
                refine sw_sub [2, 3, 4, 5, 6, 7, 8, 1, 0] rfl ?_
                exact jn21 60 (by split <;> (try split) <;> omega)
            refine sw_icmp_ne (tgt := 85) X (by omega) (by omega) dX6_pointsOf_77 (by decide) (fun h26 => ?_) (fun h26 => ?_)
            · refine sw_iload X dX6_pointsOf_85 0 rfl ?_
              refine sw_sub [2, 3, 4, 1, 5, 6, 0] rfl ?_
              exact jn18 (st 16 ((10 * c) + i)) (by split <;> omega)
            · refine sw_iload X dX6_pointsOf_80 6 rfl ?_
              refine sw_goto (tgt := 87) X dX6_pointsOf_82 (by decide) ?_
              refine sw_sub [2, 3, 4, 1, 5, 6, 0] rfl ?_
              exact jn18 (fF (aC st c) (clk st c) (gC st i) la) (by split <;> omega)
          refine sw_icmp_ne (tgt := 57) X (by omega) (by omega) dX6_pointsOf_50 (by decide) (fun h27 => ?_) (fun h27 => ?_)
          · refine sw_iload X dX6_pointsOf_57 0 rfl ?_
            refine sw_sub [1, 2, 3, 4, 5, 0] rfl ?_
            exact jn17 (fF (aC st c) (clk st c) (gC st i) la) (by split <;> omega)
          · refine sw_iload_n X dX6_pointsOf_53 rfl 4 rfl ?_
            refine sw_goto (tgt := 59) X dX6_pointsOf_54 (by decide) ?_
            refine sw_sub [1, 2, 3, 4, 5, 0] rfl ?_
            exact jn17 la (by split <;> omega)
  refine sw_sub [3, 4, 2, 1, 0] rfl ?_
  exact lp2 (st 5 0 - (0 : Int)).toNat.succ 0 (10 * (st 15 c)) 0 0 x y h (by omega) (rfl) (by omega) (by simp [sM]) (rfl)
