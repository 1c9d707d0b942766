/-! walking the book and the tracks: what the loops need -/
def ftR (st : ST) (c m : Int) (n : Nat) (lf u v g : Int) : Prop := (0 ≤ lf ∧ lf = m - tM st c n ∧ u = (tP st c n).1 ∧ v = (tP st c n).2.1 ∧ g = (tP st c n).2.2) ∨ (lf < 0 ∧ -100 ≤ lf ∧ u = (pA st c m (nP st c)).1 ∧ v = (pA st c m (nP st c)).2 ∧ (0 ≤ g ∧ g ≤ 3) ∧ m < clk st c)
section Ft
variable {N : Int} {st : ST} {c m : Int}
theorem ftR_l (hI : I6 N st) (hc : 0 ≤ c ∧ c < 8) (hm : 0 ≤ m ∧ m ≤ clk st c) {n : Nat} {lf u v g : Int} (hn : (n : Int) ≤ st 10 c) (h : ftR st c m n lf u v g) : (-100 ≤ lf ∧ lf ≤ 6000) ∧ 0 ≤ g ∧ g ≤ 3 := by
  have h1 := clk_b hI hc.1 hc.2
  have h2 := tM_b2 hI hc.1 hc.2 n hn
  have h3 := tP_h st c n
  rcases h with ⟨a1, a2, a3, a4, a5⟩ | ⟨a1, a2, a3, a4, a5⟩ <;> omega
theorem ft_step (hI : I6 N st) (hc : 0 ≤ c ∧ c < 8) (hm : 0 ≤ m ∧ m ≤ clk st c) {n : Nat} {i lf u v g o : Int} (hi : i = 60 * c + (n : Int)) (hn : (n : Int) < st 10 c) (h : ftR st c m n lf u v g) (h0 : 0 ≤ lf) (ho : o = if st 11 i = -1 then 0 else if lf < st 12 i then lf else st 12 i) : ftR st c m (n + 1) (lf - st 12 i) (u + dx g o) (v + dy g o) ((g + st 13 i) % 4) := by
  subst hi
  have h3 := tP_h st c n
  have h4 := I_p hI c n hc.1 hc.2 (by omega) hn
  have h5 := I_m hI hc.1 hc.2 n hn
  rcases h with ⟨-, a2, a3, a4, a5⟩ | ⟨a1, -⟩
  · by_cases hq : lf < st 12 (60 * c + (n : Int))
    · right
      have hA := pA_in hI hc.1 hc.2 (j := lf) n hn h0 (by omega)
      rw [show tM st c n + lf = m by omega] at hA
      rw [hA]
      refine ⟨by omega, by omega, ?_, ?_, by omega, ?_⟩
      · show _ = _
        rw [a3, a5, ho, if_pos hq]
      · show _ = _
        rw [a4, a5, ho, if_pos hq]
      · have h6 := tM_le hI hc.1 hc.2 (n := n + 1) (m := nP st c) (by have := nP_e hI hc.1 hc.2; omega) (by rw [nP_e hI hc.1 hc.2]; omega)
        rw [tM_s] at h6
        unfold clk
        omega
    · left
      refine ⟨by omega, by rw [tM_s]; omega, ?_⟩
      rw [tP_s]
      have hD : o = tD st c n := by
        rw [ho, if_neg hq]; rfl
      exact ⟨by rw [a3, a5, hD], by rw [a4, a5, hD], by rw [a5]⟩
  · omega
theorem ft_end (hI : I6 N st) (hc : 0 ≤ c ∧ c < 8) (hm : 0 ≤ m ∧ m ≤ clk st c) {n : Nat} {lf u v g : Int} (h : ftR st c m n lf u v g) (hq : (n : Int) = st 10 c ∨ lf < 0) : (u = (pA st c m (nP st c)).1 ∧ v = (pA st c m (nP st c)).2) ∧ (m = clk st c → g = (tP st c (nP st c)).2.2) := by
  rcases h with ⟨a1, a2, a3, a4, a5⟩ | ⟨a1, a2, a3, a4, a5, a6⟩
  · have hn : n = nP st c := by
      unfold nP
      omega
    have h2 := pA_full hI hc.1 hc.2 (m := m) n (by omega) (by omega)
    rw [← hn, h2]
    exact ⟨⟨a3, a4⟩, fun _ => a5⟩
  · exact ⟨⟨a3, a4⟩, fun z => by omega⟩
end Ft
theorem dx_1 (h j : Int) : dx h (j - 1) + dx h 1 = dx h j := by unfold dx; split <;> (try split) <;> omega
theorem dy_1 (h j : Int) : dy h (j - 1) + dy h 1 = dy h j := by unfold dy; split <;> (try split) <;> omega
theorem pasL_s (st : ST) (c : Int) (n : Nat) : pasL st c (n + 1) = (if fF (aC st c) (clk st c) (gC st (n : Int)) (pasL st c n).1 = -1 then (pasL st c n).1 else fF (aC st c) (clk st c) (gC st (n : Int)) (pasL st c n).1, fF (aC st c) (clk st c) (gC st (n : Int)) (pasL st c n).1) := rfl
theorem gC_b {N : Int} {st : ST} {g : Int} (hI : I6 N st) (hg : 0 ≤ g ∧ g < st 5 0) : 0 ≤ gC st g ∧ gC st g ≤ 255 := by
  have h1 := I_g hI g hg.1 hg.2
  have h2 := I_b hI ((st 6 g).toNat + 1) (by omega)
  unfold gC clO
  omega
theorem aC_0 {N : Int} {st : ST} {c : Int} (hI : I6 N st) (hc : 0 ≤ c ∧ c < 8) : aC st c 0 = 16 * (st 1 0 / 16) + st 1 0 % 16 := by
  have h1 := pA_stop hI hc.1 hc.2 (m := 0) 0 (Int.le_refl 0) (nP st c) (by rw [Nat.zero_add, nP_e hI hc.1 hc.2]; omega)
  rw [Nat.zero_add] at h1
  unfold aC
  rw [h1]
  rfl
theorem gD_b {N : Int} {st : ST} {g : Int} (hI : I6 N st) (hg : 0 ≤ g ∧ g < st 5 0) : 0 ≤ gD st g ∧ gD st g ≤ 550 := by
  have h1 := I_g hI g hg.1 hg.2
  have h2 := I_en hI
  have h3 := sM_b (f := fun i => st 3 (i : Int)) (a := 15) (n := (st 6 g).toNat + 1) (fun i hi => by have := I_e hI i (by omega) (by omega); omega)
  unfold gD
  omega
theorem pasL_b {N : Int} {st : ST} {c : Int} (hI : I6 N st) (hc : 0 ≤ c ∧ c < 8) : ∀ n : Nat, (0 ≤ (pasL st c n).1 ∧ (pasL st c n).1 ≤ clk st c) ∧ ((pasL st c n).2 = -1 ∨ (0 ≤ (pasL st c n).2 ∧ (pasL st c n).2 ≤ clk st c))
  | 0 => by
    have := clk_b hI hc.1 hc.2
    exact ⟨⟨Int.le_refl 0, this.1⟩, Or.inl rfl⟩
  | n + 1 => by
    have h1 := pasL_b hI hc n
    have h2 := isF_rng (fF_is (aC st c) (e := clk st c) (v := gC st (n : Int)) (a := (pasL st c n).1))
    rw [pasL_s]
    dsimp only
    constructor
    · split <;> omega
    · omega
theorem pas_b {N : Int} {st : ST} {c : Int} (hI : I6 N st) (hc : 0 ≤ c ∧ c < 8) (g : Int) : pas st c g = -1 ∨ (0 ≤ pas st c g ∧ pas st c g ≤ 6000) := by
  have h1 := (pasL_b hI hc (g.toNat + 1)).2
  have h2 := clk_b hI hc.1 hc.2
  unfold pas
  omega
theorem tim_b {N : Int} {st : ST} {c g : Int} (hI : I6 N st) (hc : 0 ≤ c ∧ c < 8) (hg : 0 ≤ g ∧ g < 10) : -1 ≤ tim st c g ∧ tim st c g ≤ 10000 := by
  have h1 := pas_b hI hc g
  have h2 := I_r hI c g hc.1 hc.2 hg.1 hg.2
  unfold tim
  split <;> omega
abbrev rm_X6_followBook : Room := { frames := 1, cells := 0, slots := 0, locals := 21 }
set_option maxHeartbeats 4000000 in
set_option maxRecDepth 100000 in
theorem c_X6_followBook (l : Launch) (D : va_G) (k : Nat → ClassId) (N : Int) (ad : Nat → Nat) (st : Nat → Int → Int) (tl : Int → Int) (t x y h : Int) (b : Int) (hI : I6 N st) (hm : 0 ≤ b ∧ b ≤ st 2 0) : CV l yX6_followBook cX6_followBook 3 none rm_X6_followBook D k [.ref (ad 0), .int (J b)] (mW k ad st tl t x y h) (fun w' => w' = mW k ad st tl t (bP st b.toNat).1 (bP st b.toNat).2.1 (bP st b.toNat).2.2) := by
  refine CV.of (by decide +kernel) (Nat.le_of_ble_eq_true rfl) (fun pᵢ eᵢ sᵢ mᵢ argsᵢ belowᵢ methᵢ cᵢ Aᵢ Qᵢ X hnm RV => ?_)
  show SW pᵢ l eᵢ rm_X6_followBook sᵢ mᵢ argsᵢ belowᵢ methᵢ cᵢ 3 D Aᵢ 0 0 Qᵢ (mW k ad st tl t x y h) 0 [(0, .ref (ad 0)), (1, .int (J b))] []
  have hS := I_st hI
  have hE := I_en hI
  refine sw_aload_n X dX6_followBook_0 rfl 0 rfl ?_
  refine sw_callVV0 (C := RX6) (As := []) (rest := []) X (c_X6_begin l D k ad st tl t x y h (by omega)) (cwV 0 (sw_ts X) (sw_goodV gw4_70 gw4_72 gws_19 gw1_3 gw4_73) rfl rfl rfl (by decide +kernel) ⟨Nat.le_of_ble_eq_true rfl, Nat.le_of_ble_eq_true rfl⟩) 0 (ci := 6) rfl rfl rfl dX6_followBook_1 rfl rfl (Nat.le_of_ble_eq_true rfl) ⟨Nat.le_of_ble_eq_true rfl, Nat.le_of_ble_eq_true rfl⟩ (fun w9 hp2 => ?_)
  subst hp2
  refine sw_iconst X dX6_followBook_4 ?_
  refine sw_istore_n (lv' := [(2, .int (J 0)), (0, .ref (ad 0)), (1, .int (J b))]) X dX6_followBook_5 rfl (by decide) rfl ?_
  have lp4 : ∀ (n5 : Nat) (n : Nat) (i u v g : Int), b - (n : Int) < (n5 : Nat) → (i = (n : Int)) → ((n : Int) ≤ b) → (u = (bP st n).1 ∧ v = (bP st n).2.1 ∧ g = (bP st n).2.2) → SW pᵢ l eᵢ rm_X6_followBook sᵢ mᵢ argsᵢ belowᵢ methᵢ cᵢ 3 D Aᵢ 0 0 Qᵢ (mW k ad st tl t u v g) 6 [(0, .ref (ad 0)), (1, .int (J b)), (2, .int (J i))] [] := by
    intro n5
    induction n5 with
    | zero => intro n i u v g hm6 hi hn hp; exact absurd hm6 (by omega)
    | succ n5 ih3 =>
      intro n i u v g hm6 hi hn hp
      refine sw_iload_n X dX6_followBook_6 rfl 2 rfl ?_
      refine sw_iload_n X dX6_followBook_7 rfl 1 rfl ?_
      refine sw_icmp_ge (tgt := 44) X (by omega) (by omega) dX6_followBook_8 (by decide) (fun h7 => ?_) (fun h7 => ?_)
      · exact RV _ _ _ _ _ dX6_followBook_44 (by decide) (by decide) (by obtain ⟨rfl, rfl, rfl⟩ := hp; rw [show b.toNat = n by omega])
      · have hb := I_e hI i (by omega) (by omega)
        have hg := bP_h st n
        refine sw_aload_n X dX6_followBook_11 rfl 0 rfl ?_
        refine sw_aload_n X dX6_followBook_12 rfl 0 rfl ?_
        refine sw_get (q0 := 0) (v := .ref (ad 3)) X iw_X6 rfl rfl 3 (by decide) gw3_211 rfl rfl dX6_followBook_13 ?_
        refine sw_iload_n X dX6_followBook_16 rfl 2 rfl ?_
        refine sw_iald (q0 := 1) (n := 30) X rfl (by omega) (by omega) (by decide) dX6_followBook_17 ?_
        refine sw_callVV0 (C := RX6) (As := [.int (J (st 3 i))]) (rest := []) X (c_X6_goOn l D k ad st tl t u v g (st 3 i) (by omega)) (cwV 1 (sw_ts X) (sw_goodV gw4_74 gw4_76 gws_20 gw1_3 gw4_77) rfl rfl rfl (by decide +kernel) ⟨Nat.le_of_ble_eq_true rfl, Nat.le_of_ble_eq_true rfl⟩) 0 (ci := 6) rfl rfl rfl dX6_followBook_18 rfl rfl (Nat.le_of_ble_eq_true rfl) ⟨Nat.le_of_ble_eq_true rfl, Nat.le_of_ble_eq_true rfl⟩ (fun w9 hp9 => ?_)
        subst hp9
        refine sw_aload_n X dX6_followBook_21 rfl 0 rfl ?_
        refine sw_aload_n X dX6_followBook_22 rfl 0 rfl ?_
        refine sw_get (q0 := 0) (v := .int (J g)) X iw_X6 rfl rfl 25 (by decide) gw3_233 rfl rfl dX6_followBook_23 ?_
        refine sw_aload_n X dX6_followBook_26 rfl 0 rfl ?_
        refine sw_get (q0 := 0) (v := .ref (ad 4)) X iw_X6 rfl rfl 4 (by decide) gw3_212 rfl rfl dX6_followBook_27 ?_
        refine sw_iload_n X dX6_followBook_30 rfl 2 rfl ?_
        refine sw_iald (q0 := 2) (n := 30) X rfl (by omega) (by omega) (by decide) dX6_followBook_31 ?_
        refine sw_iadd X dX6_followBook_32 ?_
        refine sw_iconst X dX6_followBook_33 ?_
        refine sw_irem X (by omega) (by omega) (by omega) dX6_followBook_34 ?_
        refine sw_put (q0 := 0) X iw_X6 tyX6 tyX6_ok nmX6 rfl rfl 25 (by decide) gw3_233 rfl rfl (ty := .int) (by decide +kernel) rfl rfl (Nat.le_of_ble_eq_true rfl) mW_p25 dX6_followBook_35 ?_
        refine sw_iinc (lv' := [(2, .int (J (i + 1))), (0, .ref (ad 0)), (1, .int (J b))]) X dX6_followBook_38 2 rfl (by decide) rfl ?_
        refine sw_goto (tgt := 6) X dX6_followBook_41 (by decide) ?_
        refine sw_sub [1, 2, 0] rfl ?_
        exact ih3 (n + 1) (i + 1) (u + dx g (st 3 i)) (v + dy g (st 3 i)) ((g + (st 4 i)) % 4) (by omega) (by omega) (by omega) (by obtain ⟨rfl, rfl, rfl⟩ := hp; subst hi; exact ⟨rfl, rfl, rfl⟩)
  refine sw_sub [1, 2, 0] rfl ?_
  exact lp4 (b - (0 : Int)).toNat.succ 0 0 (st 1 0 / 16) (st 1 0 % 16) 0 (by omega) (rfl) (by omega) (⟨rfl, rfl, rfl⟩)
abbrev rm_X6_followTrack : Room := { frames := 1, cells := 0, slots := 0, locals := 21 }
set_option maxHeartbeats 4000000 in
set_option maxRecDepth 100000 in
theorem c_X6_followTrack (l : Launch) (D : va_G) (k : Nat → ClassId) (N : Int) (ad : Nat → Nat) (st : Nat → Int → Int) (tl : Int → Int) (t x y h : Int) (c m : Int) (hI : I6 N st) (hc : 0 ≤ c ∧ c < 8) (hm : 0 ≤ m ∧ m ≤ clk st c) : CV l yX6_followTrack cX6_followTrack 6 none rm_X6_followTrack D k [.ref (ad 0), .int (J c), .int (J m)] (mW k ad st tl t x y h) (fun w' => ∃ g, w' = mW k ad st tl t (pA st c m (nP st c)).1 (pA st c m (nP st c)).2 g ∧ (m = clk st c → g = (tP st c (nP st c)).2.2)) := by
  refine CV.of (by decide +kernel) (Nat.le_of_ble_eq_true rfl) (fun pᵢ eᵢ sᵢ mᵢ argsᵢ belowᵢ methᵢ cᵢ Aᵢ Qᵢ X hnm RV => ?_)
  show SW pᵢ l eᵢ rm_X6_followTrack sᵢ mᵢ argsᵢ belowᵢ methᵢ cᵢ 6 D Aᵢ 0 0 Qᵢ (mW k ad st tl t x y h) 0 [(0, .ref (ad 0)), (1, .int (J c)), (2, .int (J m))] []
  have hS := I_st hI
  have hN := (I_c hI c (by omega) (by omega)).1
  have hK := clk_b hI hc.1 hc.2
  refine sw_aload_n X dX6_followTrack_0 rfl 0 rfl ?_
  refine sw_callVV0 (C := RX6) (As := []) (rest := []) X (c_X6_begin l D k ad st tl t x y h (by omega)) (cwV 0 (sw_ts X) (sw_goodV gw4_70 gw4_72 gws_19 gw1_3 gw4_73) rfl rfl rfl (by decide +kernel) ⟨Nat.le_of_ble_eq_true rfl, Nat.le_of_ble_eq_true rfl⟩) 0 (ci := 6) rfl rfl rfl dX6_followTrack_1 rfl rfl (Nat.le_of_ble_eq_true rfl) ⟨Nat.le_of_ble_eq_true rfl, Nat.le_of_ble_eq_true rfl⟩ (fun w9 hp2 => ?_)
  subst hp2
  refine sw_iload_n X dX6_followTrack_4 rfl 2 rfl ?_
  refine sw_istore_n (lv' := [(3, .int (J m)), (0, .ref (ad 0)), (1, .int (J c)), (2, .int (J m))]) X dX6_followTrack_5 rfl (by decide) rfl ?_
  refine sw_bipush X dX6_followTrack_6 (by decide +kernel) ?_
  refine sw_iload_n X dX6_followTrack_8 rfl 2 rfl ?_
  refine sw_imul X dX6_followTrack_9 ?_
  refine sw_istore (lv' := [(4, .int (J (60 * c))), (3, .int (J m)), (0, .ref (ad 0)), (1, .int (J c)), (2, .int (J m))]) X dX6_followTrack_10 (by decide) rfl ?_
  have lp4 : ∀ (n5 : Nat) (n : Nat) (lf i u v g : Int), st 10 c - (n : Int) < (n5 : Nat) → (i = 60 * c + (n : Int)) → ((n : Int) ≤ st 10 c) → (ftR st c m n lf u v g) → SW pᵢ l eᵢ rm_X6_followTrack sᵢ mᵢ argsᵢ belowᵢ methᵢ cᵢ 6 D Aᵢ 0 0 Qᵢ (mW k ad st tl t u v g) 12 [(0, .ref (ad 0)), (1, .int (J c)), (3, .int (J lf)), (4, .int (J i))] [] := by
    intro n5
    induction n5 with
    | zero => intro n lf i u v g hm6 hi hn hp; exact absurd hm6 (by omega)
    | succ n5 ih3 =>
      intro n lf i u v g hm6 hi hn hp
      have hL := ftR_l hI hc hm hn hp
      refine sw_iload X dX6_followTrack_12 3 rfl ?_
      refine sw_bipush X dX6_followTrack_14 (by decide +kernel) ?_
      refine sw_iload_n X dX6_followTrack_16 rfl 1 rfl ?_
      refine sw_imul X dX6_followTrack_17 ?_
      refine sw_aload_n X dX6_followTrack_18 rfl 0 rfl ?_
      refine sw_get (q0 := 0) (v := .ref (ad 10)) X iw_X6 rfl rfl 10 (by decide) gw3_218 rfl rfl dX6_followTrack_19 ?_
      refine sw_iload_n X dX6_followTrack_22 rfl 1 rfl ?_
      refine sw_iald (q0 := 5) (n := 8) X rfl (by omega) (by omega) (by decide) dX6_followTrack_23 ?_
      refine sw_iadd X dX6_followTrack_24 ?_
      refine sw_icmp_ge (tgt := 111) X (by omega) (by omega) dX6_followTrack_25 (by decide) (fun h7 => ?_) (fun h7 => ?_)
      · exact RV _ _ _ _ _ dX6_followTrack_111 (by decide) (by decide) (by obtain ⟨⟨e1, e2⟩, e3⟩ := ft_end hI hc hm hp (by omega); exact ⟨g, by rw [← e1, ← e2], e3⟩)
      · refine sw_iload_n X dX6_followTrack_28 rfl 2 rfl ?_
        refine sw_if_lt (tgt := 111) X (by omega) dX6_followTrack_29 (by decide) (fun h8 => ?_) (fun h8 => ?_)
        · exact RV _ _ _ _ _ dX6_followTrack_111 (by decide) (by decide) (by obtain ⟨⟨e1, e2⟩, e3⟩ := ft_end hI hc hm hp (by omega); exact ⟨g, by rw [← e1, ← e2], e3⟩)
        · have hp1 := I_p hI c n (by omega) (by omega) (by omega) (by omega)
          rw [← hi] at hp1
          refine sw_iload_n X dX6_followTrack_32 rfl 2 rfl ?_
          refine sw_aload_n X dX6_followTrack_33 rfl 0 rfl ?_
          refine sw_get (q0 := 0) (v := .ref (ad 12)) X iw_X6 rfl rfl 12 (by decide) gw3_220 rfl rfl dX6_followTrack_34 ?_
          refine sw_iload X dX6_followTrack_37 3 rfl ?_
          refine sw_iald (q0 := 7) (n := 480) X rfl (by omega) (by omega) (by decide) dX6_followTrack_39 ?_
          refine sw_icmp_ge (tgt := 47) X (by omega) (by omega) dX6_followTrack_40 (by decide) (fun h9 => ?_) (fun h9 => ?_)
          · refine sw_aload_n X dX6_followTrack_47 rfl 0 rfl ?_
            refine sw_get (q0 := 0) (v := .ref (ad 12)) X iw_X6 rfl rfl 12 (by decide) gw3_220 rfl rfl dX6_followTrack_48 ?_
            refine sw_iload X dX6_followTrack_51 3 rfl ?_
            refine sw_iald (q0 := 7) (n := 480) X rfl (by omega) (by omega) (by decide) dX6_followTrack_53 ?_
            refine sw_istore (lv' := [(5, .int (J (st 12 i))), (0, .ref (ad 0)), (1, .int (J c)), (3, .int (J lf)), (4, .int (J i))]) X dX6_followTrack_54 (by decide) rfl ?_
            refine sw_aload_n X dX6_followTrack_56 rfl 1 rfl ?_
            refine sw_aload_n X dX6_followTrack_57 rfl 1 rfl ?_
            refine sw_get (q0 := 0) (v := .ref (ad 11)) X iw_X6 rfl rfl 11 (by decide) gw3_219 rfl rfl dX6_followTrack_58 ?_
            refine sw_iload X dX6_followTrack_61 4 rfl ?_
            refine sw_iald (q0 := 6) (n := 480) X rfl (by omega) (by omega) (by decide) dX6_followTrack_63 ?_
            refine sw_iconst X dX6_followTrack_64 ?_
            refine sw_icmp_ne (tgt := 72) X (by omega) (by omega) dX6_followTrack_65 (by decide) (fun h10 => ?_) (fun h10 => ?_)
            · refine sw_iload X dX6_followTrack_72 0 rfl ?_
              refine sw_callVV0 (C := RX6) (As := [.int (J (st 12 i))]) (rest := []) X (c_X6_goOn l D k ad st tl t u v g (st 12 i) (by omega)) (cwV 1 (sw_ts X) (sw_goodV gw4_74 gw4_76 gws_20 gw1_3 gw4_77) rfl rfl rfl (by decide +kernel) ⟨Nat.le_of_ble_eq_true rfl, Nat.le_of_ble_eq_true rfl⟩) 0 (ci := 6) rfl rfl rfl dX6_followTrack_74 rfl rfl (Nat.le_of_ble_eq_true rfl) ⟨Nat.le_of_ble_eq_true rfl, Nat.le_of_ble_eq_true rfl⟩ (fun w9 hp12 => ?_)
              subst hp12
              refine sw_aload_n X dX6_followTrack_77 rfl 1 rfl ?_
              refine sw_aload_n X dX6_followTrack_78 rfl 1 rfl ?_
              refine sw_get (q0 := 0) (v := .int (J g)) X iw_X6 rfl rfl 25 (by decide) gw3_233 rfl rfl dX6_followTrack_79 ?_
              refine sw_aload_n X dX6_followTrack_82 rfl 1 rfl ?_
              refine sw_get (q0 := 0) (v := .ref (ad 13)) X iw_X6 rfl rfl 13 (by decide) gw3_221 rfl rfl dX6_followTrack_83 ?_
              refine sw_iload X dX6_followTrack_86 4 rfl ?_
              refine sw_iald (q0 := 8) (n := 480) X rfl (by omega) (by omega) (by decide) dX6_followTrack_88 ?_
              refine sw_iadd X dX6_followTrack_89 ?_
              refine sw_iconst X dX6_followTrack_90 ?_
              refine sw_irem X (by omega) (by omega) (by omega) dX6_followTrack_91 ?_
              refine sw_put (q0 := 0) X iw_X6 tyX6 tyX6_ok nmX6 rfl rfl 25 (by decide) gw3_233 rfl rfl (ty := .int) (by decide +kernel) rfl rfl (Nat.le_of_ble_eq_true rfl) mW_p25 dX6_followTrack_92 ?_
              refine sw_iload_n X dX6_followTrack_95 rfl 3 rfl ?_
              refine sw_aload_n X dX6_followTrack_96 rfl 1 rfl ?_
              refine sw_get (q0 := 0) (v := .ref (ad 12)) X iw_X6 rfl rfl 12 (by decide) gw3_220 rfl rfl dX6_followTrack_97 ?_
              refine sw_iload X dX6_followTrack_100 4 rfl ?_
              refine sw_iald (q0 := 7) (n := 480) X rfl (by omega) (by omega) (by decide) dX6_followTrack_102 ?_
              refine sw_isub X dX6_followTrack_103 ?_
              refine sw_istore_n (lv' := [(3, .int (J (lf - (st 12 i)))), (5, .int (J (st 12 i))), (0, .ref (ad 0)), (1, .int (J c)), (4, .int (J i))]) X dX6_followTrack_104 rfl (by decide) rfl ?_
              refine sw_iinc (lv' := [(4, .int (J (i + 1))), (3, .int (J (lf - (st 12 i)))), (5, .int (J (st 12 i))), (0, .ref (ad 0)), (1, .int (J c))]) X dX6_followTrack_105 4 rfl (by decide) rfl ?_
              refine sw_goto (tgt := 12) X dX6_followTrack_108 (by decide) ?_
              refine sw_sub [3, 4, 1, 0] rfl ?_
              exact ih3 (n + 1) (lf - (st 12 i)) (i + 1) (u + dx g (st 12 i)) (v + dy g (st 12 i)) ((g + (st 13 i)) % 4) (by omega) (by omega) (by omega) (ft_step hI hc hm hi (by omega) hp (by omega) (by first | (split <;> (try split) <;> omega) | (split <;> omega)))
            · refine sw_iconst X dX6_followTrack_68 ?_
              refine sw_goto (tgt := 74) X dX6_followTrack_69 (by decide) ?_
              refine sw_callVV0 (C := RX6) (As := [.int (J 0)]) (rest := []) X (c_X6_goOn l D k ad st tl t u v g 0 (by omega)) (cwV 1 (sw_ts X) (sw_goodV gw4_74 gw4_76 gws_20 gw1_3 gw4_77) rfl rfl rfl (by decide +kernel) ⟨Nat.le_of_ble_eq_true rfl, Nat.le_of_ble_eq_true rfl⟩) 0 (ci := 6) rfl rfl rfl dX6_followTrack_74 rfl rfl (Nat.le_of_ble_eq_true rfl) ⟨Nat.le_of_ble_eq_true rfl, Nat.le_of_ble_eq_true rfl⟩ (fun w9 hp14 => ?_)
              subst hp14
              refine sw_aload_n X dX6_followTrack_77 rfl 1 rfl ?_
              refine sw_aload_n X dX6_followTrack_78 rfl 1 rfl ?_
              refine sw_get (q0 := 0) (v := .int (J g)) X iw_X6 rfl rfl 25 (by decide) gw3_233 rfl rfl dX6_followTrack_79 ?_
              refine sw_aload_n X dX6_followTrack_82 rfl 1 rfl ?_
              refine sw_get (q0 := 0) (v := .ref (ad 13)) X iw_X6 rfl rfl 13 (by decide) gw3_221 rfl rfl dX6_followTrack_83 ?_
              refine sw_iload X dX6_followTrack_86 4 rfl ?_
              refine sw_iald (q0 := 8) (n := 480) X rfl (by omega) (by omega) (by decide) dX6_followTrack_88 ?_
              refine sw_iadd X dX6_followTrack_89 ?_
              refine sw_iconst X dX6_followTrack_90 ?_
              refine sw_irem X (by omega) (by omega) (by omega) dX6_followTrack_91 ?_
              refine sw_put (q0 := 0) X iw_X6 tyX6 tyX6_ok nmX6 rfl rfl 25 (by decide) gw3_233 rfl rfl (ty := .int) (by decide +kernel) rfl rfl (Nat.le_of_ble_eq_true rfl) mW_p25 dX6_followTrack_92 ?_
              refine sw_iload_n X dX6_followTrack_95 rfl 3 rfl ?_
              refine sw_aload_n X dX6_followTrack_96 rfl 1 rfl ?_
              refine sw_get (q0 := 0) (v := .ref (ad 12)) X iw_X6 rfl rfl 12 (by decide) gw3_220 rfl rfl dX6_followTrack_97 ?_
              refine sw_iload X dX6_followTrack_100 4 rfl ?_
              refine sw_iald (q0 := 7) (n := 480) X rfl (by omega) (by omega) (by decide) dX6_followTrack_102 ?_
              refine sw_isub X dX6_followTrack_103 ?_
              refine sw_istore_n (lv' := [(3, .int (J (lf - (st 12 i)))), (5, .int (J (st 12 i))), (0, .ref (ad 0)), (1, .int (J c)), (4, .int (J i))]) X dX6_followTrack_104 rfl (by decide) rfl ?_
              refine sw_iinc (lv' := [(4, .int (J (i + 1))), (3, .int (J (lf - (st 12 i)))), (5, .int (J (st 12 i))), (0, .ref (ad 0)), (1, .int (J c))]) X dX6_followTrack_105 4 rfl (by decide) rfl ?_
              refine sw_goto (tgt := 12) X dX6_followTrack_108 (by decide) ?_
              refine sw_sub [3, 4, 1, 0] rfl ?_
              exact ih3 (n + 1) (lf - (st 12 i)) (i + 1) (u + dx g 0) (v + dy g 0) ((g + (st 13 i)) % 4) (by omega) (by omega) (by omega) (ft_step hI hc hm hi (by omega) hp (by omega) (by first | (split <;> (try split) <;> omega) | (split <;> omega)))
          · refine sw_iload_n X dX6_followTrack_43 rfl 2 rfl ?_
            refine sw_goto (tgt := 54) X dX6_followTrack_44 (by decide) ?_
            refine sw_istore (lv' := [(5, .int (J lf)), (0, .ref (ad 0)), (1, .int (J c)), (3, .int (J lf)), (4, .int (J i))]) X dX6_followTrack_54 (by decide) rfl ?_
            refine sw_aload_n X dX6_followTrack_56 rfl 1 rfl ?_
            refine sw_aload_n X dX6_followTrack_57 rfl 1 rfl ?_
            refine sw_get (q0 := 0) (v := .ref (ad 11)) X iw_X6 rfl rfl 11 (by decide) gw3_219 rfl rfl dX6_followTrack_58 ?_
            refine sw_iload X dX6_followTrack_61 4 rfl ?_
            refine sw_iald (q0 := 6) (n := 480) X rfl (by omega) (by omega) (by decide) dX6_followTrack_63 ?_
            refine sw_iconst X dX6_followTrack_64 ?_
            refine sw_icmp_ne (tgt := 72) X (by omega) (by omega) dX6_followTrack_65 (by decide) (fun h15 => ?_) (fun h15 => ?_)
            · refine sw_iload X dX6_followTrack_72 0 rfl ?_
              refine sw_callVV0 (C := RX6) (As := [.int (J lf)]) (rest := []) X (c_X6_goOn l D k ad st tl t u v g lf (by omega)) (cwV 1 (sw_ts X) (sw_goodV gw4_74 gw4_76 gws_20 gw1_3 gw4_77) rfl rfl rfl (by decide +kernel) ⟨Nat.le_of_ble_eq_true rfl, Nat.le_of_ble_eq_true rfl⟩) 0 (ci := 6) rfl rfl rfl dX6_followTrack_74 rfl rfl (Nat.le_of_ble_eq_true rfl) ⟨Nat.le_of_ble_eq_true rfl, Nat.le_of_ble_eq_true rfl⟩ (fun w9 hp17 => ?_)
              subst hp17
              refine sw_aload_n X dX6_followTrack_77 rfl 1 rfl ?_
              refine sw_aload_n X dX6_followTrack_78 rfl 1 rfl ?_
              refine sw_get (q0 := 0) (v := .int (J g)) X iw_X6 rfl rfl 25 (by decide) gw3_233 rfl rfl dX6_followTrack_79 ?_
              refine sw_aload_n X dX6_followTrack_82 rfl 1 rfl ?_
              refine sw_get (q0 := 0) (v := .ref (ad 13)) X iw_X6 rfl rfl 13 (by decide) gw3_221 rfl rfl dX6_followTrack_83 ?_
              refine sw_iload X dX6_followTrack_86 4 rfl ?_
              refine sw_iald (q0 := 8) (n := 480) X rfl (by omega) (by omega) (by decide) dX6_followTrack_88 ?_
              refine sw_iadd X dX6_followTrack_89 ?_
              refine sw_iconst X dX6_followTrack_90 ?_
              refine sw_irem X (by omega) (by omega) (by omega) dX6_followTrack_91 ?_
              refine sw_put (q0 := 0) X iw_X6 tyX6 tyX6_ok nmX6 rfl rfl 25 (by decide) gw3_233 rfl rfl (ty := .int) (by decide +kernel) rfl rfl (Nat.le_of_ble_eq_true rfl) mW_p25 dX6_followTrack_92 ?_
              refine sw_iload_n X dX6_followTrack_95 rfl 3 rfl ?_
              refine sw_aload_n X dX6_followTrack_96 rfl 1 rfl ?_
              refine sw_get (q0 := 0) (v := .ref (ad 12)) X iw_X6 rfl rfl 12 (by decide) gw3_220 rfl rfl dX6_followTrack_97 ?_
              refine sw_iload X dX6_followTrack_100 4 rfl ?_
              refine sw_iald (q0 := 7) (n := 480) X rfl (by omega) (by omega) (by decide) dX6_followTrack_102 ?_
              refine sw_isub X dX6_followTrack_103 ?_
              refine sw_istore_n (lv' := [(3, .int (J (lf - (st 12 i)))), (5, .int (J lf)), (0, .ref (ad 0)), (1, .int (J c)), (4, .int (J i))]) X dX6_followTrack_104 rfl (by decide) rfl ?_
              refine sw_iinc (lv' := [(4, .int (J (i + 1))), (3, .int (J (lf - (st 12 i)))), (5, .int (J lf)), (0, .ref (ad 0)), (1, .int (J c))]) X dX6_followTrack_105 4 rfl (by decide) rfl ?_
              refine sw_goto (tgt := 12) X dX6_followTrack_108 (by decide) ?_
              refine sw_sub [3, 4, 1, 0] rfl ?_
              exact ih3 (n + 1) (lf - (st 12 i)) (i + 1) (u + dx g lf) (v + dy g lf) ((g + (st 13 i)) % 4) (by omega) (by omega) (by omega) (ft_step hI hc hm hi (by omega) hp (by omega) (by first | (split <;> (try split) <;> omega) | (split <;> omega)))
            · refine sw_iconst X dX6_followTrack_68 ?_
              refine sw_goto (tgt := 74) X dX6_followTrack_69 (by decide) ?_
              refine sw_callVV0 (C := RX6) (As := [.int (J 0)]) (rest := []) X (c_X6_goOn l D k ad st tl t u v g 0 (by omega)) (cwV 1 (sw_ts X) (sw_goodV gw4_74 gw4_76 gws_20 gw1_3 gw4_77) rfl rfl rfl (by decide +kernel) ⟨Nat.le_of_ble_eq_true rfl, Nat.le_of_ble_eq_true rfl⟩) 0 (ci := 6) rfl rfl rfl dX6_followTrack_74 rfl rfl (Nat.le_of_ble_eq_true rfl) ⟨Nat.le_of_ble_eq_true rfl, Nat.le_of_ble_eq_true rfl⟩ (fun w9 hp19 => ?_)
              subst hp19
              refine sw_aload_n X dX6_followTrack_77 rfl 1 rfl ?_
              refine sw_aload_n X dX6_followTrack_78 rfl 1 rfl ?_
              refine sw_get (q0 := 0) (v := .int (J g)) X iw_X6 rfl rfl 25 (by decide) gw3_233 rfl rfl dX6_followTrack_79 ?_
              refine sw_aload_n X dX6_followTrack_82 rfl 1 rfl ?_
              refine sw_get (q0 := 0) (v := .ref (ad 13)) X iw_X6 rfl rfl 13 (by decide) gw3_221 rfl rfl dX6_followTrack_83 ?_
              refine sw_iload X dX6_followTrack_86 4 rfl ?_
              refine sw_iald (q0 := 8) (n := 480) X rfl (by omega) (by omega) (by decide) dX6_followTrack_88 ?_
              refine sw_iadd X dX6_followTrack_89 ?_
              refine sw_iconst X dX6_followTrack_90 ?_
              refine sw_irem X (by omega) (by omega) (by omega) dX6_followTrack_91 ?_
              refine sw_put (q0 := 0) X iw_X6 tyX6 tyX6_ok nmX6 rfl rfl 25 (by decide) gw3_233 rfl rfl (ty := .int) (by decide +kernel) rfl rfl (Nat.le_of_ble_eq_true rfl) mW_p25 dX6_followTrack_92 ?_
              refine sw_iload_n X dX6_followTrack_95 rfl 3 rfl ?_
              refine sw_aload_n X dX6_followTrack_96 rfl 1 rfl ?_
              refine sw_get (q0 := 0) (v := .ref (ad 12)) X iw_X6 rfl rfl 12 (by decide) gw3_220 rfl rfl dX6_followTrack_97 ?_
              refine sw_iload X dX6_followTrack_100 4 rfl ?_
              refine sw_iald (q0 := 7) (n := 480) X rfl (by omega) (by omega) (by decide) dX6_followTrack_102 ?_
              refine sw_isub X dX6_followTrack_103 ?_
              refine sw_istore_n (lv' := [(3, .int (J (lf - (st 12 i)))), (5, .int (J lf)), (0, .ref (ad 0)), (1, .int (J c)), (4, .int (J i))]) X dX6_followTrack_104 rfl (by decide) rfl ?_
              refine sw_iinc (lv' := [(4, .int (J (i + 1))), (3, .int (J (lf - (st 12 i)))), (5, .int (J lf)), (0, .ref (ad 0)), (1, .int (J c))]) X dX6_followTrack_105 4 rfl (by decide) rfl ?_
              refine sw_goto (tgt := 12) X dX6_followTrack_108 (by decide) ?_
              refine sw_sub [3, 4, 1, 0] rfl ?_
              exact ih3 (n + 1) (lf - (st 12 i)) (i + 1) (u + dx g 0) (v + dy g 0) ((g + (st 13 i)) % 4) (by omega) (by omega) (by omega) (ft_step hI hc hm hi (by omega) hp (by omega) (by first | (split <;> (try split) <;> omega) | (split <;> omega)))
  refine sw_sub [2, 3, 1, 0] rfl ?_
  exact lp4 (st 10 c - (0 : Int)).toNat.succ 0 m (60 * c) (st 1 0 / 16) (st 1 0 % 16) 0 (by omega) (by simp) (by omega) (Or.inl ⟨by omega, by show m = m - 0; omega, rfl, rfl, rfl⟩)
abbrev rm_X6_clockOf : Room := { frames := 0, cells := 0, slots := 0, locals := 0 }
set_option maxHeartbeats 4000000 in
set_option maxRecDepth 100000 in
theorem c_X6_clockOf (l : Launch) (D : va_G) (k : Nat → ClassId) (N : Int) (ad : Nat → Nat) (st : Nat → Int → Int) (tl : Int → Int) (t x y h : Int) (c : Int) (hI : I6 N st) (hc : 0 ≤ c ∧ c < 8) : CI l yX6_clockOf cX6_clockOf 4 (some .int) rm_X6_clockOf D k [.ref (ad 0), .int (J c)] (mW k ad st tl t x y h) (fun z w' => w' = mW k ad st tl t x y h ∧ z = clk st c) := by
  refine CI.of (by decide +kernel) (Nat.le_of_ble_eq_true rfl) (fun pᵢ eᵢ sᵢ mᵢ argsᵢ belowᵢ methᵢ cᵢ Aᵢ Qᵢ X RI => ?_)
  show SW pᵢ l eᵢ rm_X6_clockOf sᵢ mᵢ argsᵢ belowᵢ methᵢ cᵢ 4 D Aᵢ 0 0 Qᵢ (mW k ad st tl t x y h) 0 [(0, .ref (ad 0)), (1, .int (J c))] []
  have hN := (I_c hI c (by omega) (by omega)).1
  refine sw_iconst X dX6_clockOf_0 ?_
  refine sw_istore_n (lv' := [(2, .int (J 0)), (0, .ref (ad 0)), (1, .int (J c))]) X dX6_clockOf_1 rfl (by decide) rfl ?_
  refine sw_bipush X dX6_clockOf_2 (by decide +kernel) ?_
  refine sw_iload_n X dX6_clockOf_4 rfl 2 rfl ?_
  refine sw_imul X dX6_clockOf_5 ?_
  refine sw_istore_n (lv' := [(3, .int (J (60 * c))), (2, .int (J 0)), (0, .ref (ad 0)), (1, .int (J c))]) X dX6_clockOf_6 rfl (by decide) rfl ?_
  have lp2 : ∀ (n3 : Nat) (n : Nat) (sm i : Int), st 10 c - (n : Int) < (n3 : Nat) → (i = 60 * c + (n : Int)) → ((n : Int) ≤ st 10 c) → (sm = tM st c n) → SW pᵢ l eᵢ rm_X6_clockOf sᵢ mᵢ argsᵢ belowᵢ methᵢ cᵢ 4 D Aᵢ 0 0 Qᵢ (mW k ad st tl t x y h) 7 [(0, .ref (ad 0)), (1, .int (J c)), (2, .int (J sm)), (3, .int (J i))] [] := by
    intro n3
    induction n3 with
    | zero => intro n sm i hm4 hi hn hs; exact absurd hm4 (by omega)
    | succ n3 ih1 =>
      intro n sm i hm4 hi hn hs
      refine sw_iload_n X dX6_clockOf_7 rfl 3 rfl ?_
      refine sw_bipush X dX6_clockOf_8 (by decide +kernel) ?_
      refine sw_iload_n X dX6_clockOf_10 rfl 1 rfl ?_
      refine sw_imul X dX6_clockOf_11 ?_
      refine sw_aload_n X dX6_clockOf_12 rfl 0 rfl ?_
      refine sw_get (q0 := 0) (v := .ref (ad 10)) X iw_X6 rfl rfl 10 (by decide) gw3_218 rfl rfl dX6_clockOf_13 ?_
      refine sw_iload_n X dX6_clockOf_16 rfl 1 rfl ?_
      refine sw_iald (q0 := 5) (n := 8) X rfl (by omega) (by omega) (by decide) dX6_clockOf_17 ?_
      refine sw_iadd X dX6_clockOf_18 ?_
      refine sw_icmp_ge (tgt := 37) X (by omega) (by omega) dX6_clockOf_19 (by decide) (fun h5 => ?_) (fun h5 => ?_)
      · refine sw_iload_n X dX6_clockOf_37 rfl 2 rfl ?_
        exact RI _ _ _ _ _ _ dX6_clockOf_38 (by decide) (by decide) rfl ⟨rfl, by rw [hs]; unfold clk; rw [show nP st c = n by unfold nP; omega]⟩
      · refine sw_iload_n X dX6_clockOf_22 rfl 2 rfl ?_
        refine sw_aload_n X dX6_clockOf_23 rfl 0 rfl ?_
        refine sw_get (q0 := 0) (v := .ref (ad 12)) X iw_X6 rfl rfl 12 (by decide) gw3_220 rfl rfl dX6_clockOf_24 ?_
        refine sw_iload_n X dX6_clockOf_27 rfl 3 rfl ?_
        refine sw_iald (q0 := 7) (n := 480) X rfl (by omega) (by omega) (by decide) dX6_clockOf_28 ?_
        refine sw_iadd X dX6_clockOf_29 ?_
        refine sw_istore_n (lv' := [(2, .int (J (sm + (st 12 i)))), (0, .ref (ad 0)), (1, .int (J c)), (3, .int (J i))]) X dX6_clockOf_30 rfl (by decide) rfl ?_
        refine sw_iinc (lv' := [(3, .int (J (i + 1))), (2, .int (J (sm + (st 12 i)))), (0, .ref (ad 0)), (1, .int (J c))]) X dX6_clockOf_31 3 rfl (by decide) rfl ?_
        refine sw_goto (tgt := 7) X dX6_clockOf_34 (by decide) ?_
        refine sw_sub [2, 3, 1, 0] rfl ?_
        exact ih1 (n + 1) (sm + (st 12 i)) (i + 1) (by omega) (by omega) (by omega) (by rw [tM_s, hs, hi])
  refine sw_sub [2, 3, 1, 0] rfl ?_
  exact lp2 (st 10 c - (0 : Int)).toNat.succ 0 0 (60 * c) (by omega) (by simp) (by omega) (rfl)
abbrev rm_X6_cellNow : Room := { frames := 2, cells := 0, slots := 0, locals := 46 }
set_option maxHeartbeats 4000000 in
set_option maxRecDepth 100000 in
theorem c_X6_cellNow (l : Launch) (D : va_G) (k : Nat → ClassId) (N : Int) (ad : Nat → Nat) (st : Nat → Int → Int) (tl : Int → Int) (t x y h : Int) (c : Int) (hI : I6 N st) (hc : 0 ≤ c ∧ c < 8) : CI l yX6_cellNow cX6_cellNow 2 (some .int) rm_X6_cellNow D k [.ref (ad 0), .int (J c)] (mW k ad st tl t x y h) (fun z w' => ∃ x' y' h', w' = mW k ad st tl t x' y' h' ∧ z = aC st c (clk st c)) := by
  refine CI.of (by decide +kernel) (Nat.le_of_ble_eq_true rfl) (fun pᵢ eᵢ sᵢ mᵢ argsᵢ belowᵢ methᵢ cᵢ Aᵢ Qᵢ X RI => ?_)
  show SW pᵢ l eᵢ rm_X6_cellNow sᵢ mᵢ argsᵢ belowᵢ methᵢ cᵢ 2 D Aᵢ 0 0 Qᵢ (mW k ad st tl t x y h) 0 [(0, .ref (ad 0)), (1, .int (J c))] []
  have hK := clk_b hI hc.1 hc.2
  refine sw_aload_n X dX6_cellNow_0 rfl 0 rfl ?_
  refine sw_iload_n X dX6_cellNow_1 rfl 1 rfl ?_
  refine sw_aload_n X dX6_cellNow_2 rfl 0 rfl ?_
  refine sw_iload_n X dX6_cellNow_3 rfl 1 rfl ?_
  refine sw_callVI0 (C := RX6) (As := [.int (J c)]) (rest := [.int (J c), .ref (ad 0)]) X (c_X6_clockOf l D k N ad st tl t x y h c hI (by omega)) (cwV 1 (sw_ts X) (sw_goodV gw4_106 gw4_108 gws_24 gw1_3 gw4_109) rfl rfl rfl (by decide +kernel) ⟨Nat.le_of_ble_eq_true rfl, Nat.le_of_ble_eq_true rfl⟩) 0 (ci := 6) rfl rfl rfl dX6_cellNow_4 rfl rfl (Nat.le_of_ble_eq_true rfl) ⟨Nat.le_of_ble_eq_true rfl, Nat.le_of_ble_eq_true rfl⟩ (fun z1 w9 hp2 => ?_)
  obtain ⟨rfl, rfl⟩ := hp2
  refine sw_callVV0 (C := RX6) (As := [.int (J c), .int (J (clk st c))]) (rest := []) X (c_X6_followTrack l D k N ad st tl t x y h c (clk st c) hI (by omega) (by omega)) (cwV 2 (sw_ts X) (sw_goodV gw4_110 gw4_112 gws_25 gw1_3 gw4_113) rfl rfl rfl (by decide +kernel) ⟨Nat.le_of_ble_eq_true rfl, Nat.le_of_ble_eq_true rfl⟩) 0 (ci := 6) rfl rfl rfl dX6_cellNow_7 rfl rfl (Nat.le_of_ble_eq_true rfl) ⟨Nat.le_of_ble_eq_true rfl, Nat.le_of_ble_eq_true rfl⟩ (fun w9 hp4 => ?_)
  obtain ⟨g5, rfl, eg5⟩ := hp4
  refine sw_aload_n X dX6_cellNow_10 rfl 0 rfl ?_
  refine sw_callVI0 (C := RX6) (As := []) (rest := []) X (c_X6_cell l D k ad st tl t ((pA st c (clk st c) (nP st c)).1) ((pA st c (clk st c) (nP st c)).2) g5) (cwV 0 (sw_ts X) (sw_goodV gw4_82 gw4_84 gws_22 gw1_3 gw4_85) rfl rfl rfl (by decide +kernel) ⟨Nat.le_of_ble_eq_true rfl, Nat.le_of_ble_eq_true rfl⟩) 0 (ci := 6) rfl rfl rfl dX6_cellNow_11 rfl rfl (Nat.le_of_ble_eq_true rfl) ⟨Nat.le_of_ble_eq_true rfl, Nat.le_of_ble_eq_true rfl⟩ (fun z6 w9 hp7 => ?_)
  obtain ⟨rfl, rfl⟩ := hp7
  exact RI _ _ _ _ _ _ dX6_cellNow_14 (by decide) (by decide) rfl ⟨_, _, _, rfl, rfl⟩
abbrev rm_X6_cellOfGate : Room := { frames := 2, cells := 0, slots := 0, locals := 43 }
set_option maxHeartbeats 4000000 in
set_option maxRecDepth 100000 in
theorem c_X6_cellOfGate (l : Launch) (D : va_G) (k : Nat → ClassId) (N : Int) (ad : Nat → Nat) (st : Nat → Int → Int) (tl : Int → Int) (t x y h : Int) (a : Int) (hI : I6 N st) (hg : 0 ≤ a ∧ a < st 5 0) : CI l yX6_cellOfGate cX6_cellOfGate 2 (some .int) rm_X6_cellOfGate D k [.ref (ad 0), .int (J a)] (mW k ad st tl t x y h) (fun z w' => ∃ x' y' h', w' = mW k ad st tl t x' y' h' ∧ z = gC st a) := by
  refine CI.of (by decide +kernel) (Nat.le_of_ble_eq_true rfl) (fun pᵢ eᵢ sᵢ mᵢ argsᵢ belowᵢ methᵢ cᵢ Aᵢ Qᵢ X RI => ?_)
  show SW pᵢ l eᵢ rm_X6_cellOfGate sᵢ mᵢ argsᵢ belowᵢ methᵢ cᵢ 2 D Aᵢ 0 0 Qᵢ (mW k ad st tl t x y h) 0 [(0, .ref (ad 0)), (1, .int (J a))] []
  have hG := I_ga hI
  have hE := I_en hI
  have h6 := I_g hI a hg.1 hg.2
  refine sw_aload_n X dX6_cellOfGate_0 rfl 0 rfl ?_
  refine sw_aload_n X dX6_cellOfGate_1 rfl 0 rfl ?_
  refine sw_get (q0 := 0) (v := .ref (ad 6)) X iw_X6 rfl rfl 6 (by decide) gw3_214 rfl rfl dX6_cellOfGate_2 ?_
  refine sw_iload_n X dX6_cellOfGate_5 rfl 1 rfl ?_
  refine sw_iald (q0 := 3) (n := 10) X rfl (by omega) (by omega) (by decide) dX6_cellOfGate_6 ?_
  refine sw_iconst X dX6_cellOfGate_7 ?_
  refine sw_iadd X dX6_cellOfGate_8 ?_
  refine sw_callVV0 (C := RX6) (As := [.int (J ((st 6 a) + 1))]) (rest := []) X (c_X6_followBook l D k N ad st tl t x y h ((st 6 a) + 1) hI (by omega)) (cwV 1 (sw_ts X) (sw_goodV gw4_66 gw4_68 gws_18 gw1_3 gw4_69) rfl rfl rfl (by decide +kernel) ⟨Nat.le_of_ble_eq_true rfl, Nat.le_of_ble_eq_true rfl⟩) 0 (ci := 6) rfl rfl rfl dX6_cellOfGate_9 rfl rfl (Nat.le_of_ble_eq_true rfl) ⟨Nat.le_of_ble_eq_true rfl, Nat.le_of_ble_eq_true rfl⟩ (fun w9 hp2 => ?_)
  subst hp2
  refine sw_aload_n X dX6_cellOfGate_12 rfl 0 rfl ?_
  refine sw_callVI0 (C := RX6) (As := []) (rest := []) X (c_X6_cell l D k ad st tl t ((bP st ((st 6 a) + 1).toNat).1) ((bP st ((st 6 a) + 1).toNat).2.1) ((bP st ((st 6 a) + 1).toNat).2.2)) (cwV 0 (sw_ts X) (sw_goodV gw4_82 gw4_84 gws_22 gw1_3 gw4_85) rfl rfl rfl (by decide +kernel) ⟨Nat.le_of_ble_eq_true rfl, Nat.le_of_ble_eq_true rfl⟩) 0 (ci := 6) rfl rfl rfl dX6_cellOfGate_13 rfl rfl (Nat.le_of_ble_eq_true rfl) ⟨Nat.le_of_ble_eq_true rfl, Nat.le_of_ble_eq_true rfl⟩ (fun z3 w9 hp4 => ?_)
  obtain ⟨rfl, rfl⟩ := hp4
  exact RI _ _ _ _ _ _ dX6_cellOfGate_16 (by decide) (by decide) rfl ⟨_, _, _, rfl, by unfold gC clO; rw [show (st 6 a).toNat + 1 = (st 6 a + 1).toNat by omega]⟩
