/-! the first minute in a cell; passing the gates; due minutes; points -/
section Fi
variable {N : Int} {st : ST} {c : Int}
theorem tM_clk (hI : I6 N st) (hc : 0 ≤ c ∧ c < 8) {n : Nat} (hn : (n : Int) = st 10 c) : tM st c n = clk st c := by
  unfold clk
  rw [show nP st c = n by unfold nP; omega]
theorem tM_in (hI : I6 N st) (hc : 0 ≤ c ∧ c < 8) {n : Nat} {j : Int} (hn : (n : Int) < st 10 c) (hj : j ≤ st 12 (60 * c + (n : Int))) : tM st c n + j ≤ clk st c := by
  have h1 := tM_le hI hc.1 hc.2 (n := n + 1) (m := nP st c) (by have := nP_e hI hc.1 hc.2; omega) (by rw [nP_e hI hc.1 hc.2]; omega)
  rw [tM_s] at h1
  unfold clk
  omega
theorem fi_end (hI : I6 N st) (hc : 0 ≤ c ∧ c < 8) {n : Nat} {a tg : Int} (ha : 0 ≤ a) (hn : (n : Int) = st 10 c) (hno : ∀ m, a ≤ m → m ≤ tM st c n → aC st c m ≠ tg) : -1 = fF (aC st c) (clk st c) tg a := by
  rw [tM_clk hI hc hn] at hno
  exact fF_eq ha (Or.inl ⟨rfl, hno⟩)
theorem fi_hit (hI : I6 N st) (hc : 0 ≤ c ∧ c < 8) {n : Nat} {j a tg : Int} (ha : 0 ≤ a) (hn : (n : Int) < st 10 c) (hj : j ≤ st 12 (60 * c + (n : Int))) (h1 : a ≤ tM st c n + j) (h2 : aC st c (tM st c n + j) = tg) (hno : ∀ m, a ≤ m → m < tM st c n + j → aC st c m ≠ tg) : tM st c n + j = fF (aC st c) (clk st c) tg a :=
  fF_eq ha (Or.inr ⟨h1, tM_in hI hc hn hj, h2, hno⟩)
end Fi
theorem pG_b {N : Int} {st : ST} {c g : Int} (hI : I6 N st) (hc : 0 ≤ c ∧ c < 8) (hg : 0 ≤ g ∧ g < st 5 0) : 0 ≤ pG st c g ∧ pG st c g ≤ 60 := by
  unfold pG
  split <;> (try split) <;> (try split) <;> omega
theorem pts_b {N : Int} {st : ST} {c : Int} (hI : I6 N st) (hc : 0 ≤ c ∧ c < 8) : ∀ n : Nat, (n : Int) ≤ st 5 0 → 0 ≤ sM (fun g => pG st c (g : Int)) n ∧ sM (fun g => pG st c (g : Int)) n ≤ 600 := by
  intro n hn
  have h1 := sM_b (f := fun g => pG st c (g : Int)) (a := 60) (n := n) (fun i hi => pG_b hI hc (by omega))
  have h2 := I_ga hI
  omega
theorem fi_pos0 {X Y H u2 v2 j d : Int} (hq : u2 = X + dx H (if d = -1 then 0 else if j = 0 then 0 else j - 1) ∧ v2 = Y + dy H (if d = -1 then 0 else if j = 0 then 0 else j - 1)) (h : j = 0) : u2 = X + dx H (if d = -1 then 0 else j) ∧ v2 = Y + dy H (if d = -1 then 0 else j) := by
  subst h
  simpa using hq
theorem fi_pos1 {X Y H u2 v2 j d o u v g : Int} (hq : u2 = X + dx H (if d = -1 then 0 else if j = 0 then 0 else j - 1) ∧ v2 = Y + dy H (if d = -1 then 0 else if j = 0 then 0 else j - 1)) (hp : u = X ∧ v = Y ∧ g = H) (h : ¬ j = 0) (ho : (d = -1 ∧ o = 0) ∨ (¬ d = -1 ∧ o = 1)) : u2 + dx g o = X + dx H (if d = -1 then 0 else j) ∧ v2 + dy g o = Y + dy H (if d = -1 then 0 else j) := by
  obtain ⟨-, -, rfl⟩ := hp
  rw [if_neg h] at hq
  rcases ho with ⟨h1, rfl⟩ | ⟨h1, rfl⟩
  · rw [if_pos h1] at hq ⊢
    rw [dx_0, dy_0] at *
    omega
  · rw [if_neg h1] at hq ⊢
    have e1 := dx_1 g j
    have e2 := dy_1 g j
    omega
theorem fi_next {st : ST} {c : Int} {n : Nat} {i j u2 v2 u v g : Int} (hj : j = st 12 i + 1) (hq : u2 = (tP st c n).1 + dx (tP st c n).2.2 (if st 11 i = -1 then 0 else if j = 0 then 0 else j - 1) ∧ v2 = (tP st c n).2.1 + dy (tP st c n).2.2 (if st 11 i = -1 then 0 else if j = 0 then 0 else j - 1)) (hp : u = (tP st c n).1 ∧ v = (tP st c n).2.1 ∧ g = (tP st c n).2.2) (hi : i = 60 * c + (n : Int)) (h : ((st 11 i = -1 ∧ 1 ≤ st 12 i ∧ st 12 i ≤ 100) ∨ (0 ≤ st 11 i ∧ st 11 i ≤ 15 ∧ st 12 i = st 11 i)) ∧ 0 ≤ st 13 i ∧ st 13 i ≤ 3) : u2 = (tP st c (n + 1)).1 ∧ v2 = (tP st c (n + 1)).2.1 ∧ (g + st 13 i) % 4 = (tP st c (n + 1)).2.2 := by
  rw [tP_s]
  have hD : (if st 11 i = -1 then 0 else if j = 0 then 0 else j - 1) = tD st c n := by
    unfold tD
    rw [← hi]
    split
    · rfl
    · rw [if_neg (by omega)]; omega
  rw [hD] at hq
  exact ⟨hq.1, hq.2, by rw [hp.2.2, hi]⟩
abbrev rm_X6_firstIn : Room := { frames := 1, cells := 0, slots := 0, locals := 21 }
set_option maxHeartbeats 4000000 in
set_option maxRecDepth 100000 in
theorem c_X6_firstIn (l : Launch) (D : va_G) (k : Nat → ClassId) (N : Int) (ad : Nat → Nat) (st : Nat → Int → Int) (tl : Int → Int) (t x y h : Int) (c tg a : Int) (hI : I6 N st) (hc : 0 ≤ c ∧ c < 8) (ht : 0 ≤ tg ∧ tg ≤ 255) (ha : 0 ≤ a ∧ a ≤ 6000) : CI l yX6_firstIn cX6_firstIn 7 (some .int) rm_X6_firstIn D k [.ref (ad 0), .int (J c), .int (J tg), .int (J a)] (mW k ad st tl t x y h) (fun z w' => ∃ x' y' h', w' = mW k ad st tl t x' y' h' ∧ z = fF (aC st c) (clk st c) tg a) := by
  refine CI.of (by decide +kernel) (Nat.le_of_ble_eq_true rfl) (fun pᵢ eᵢ sᵢ mᵢ argsᵢ belowᵢ methᵢ cᵢ Aᵢ Qᵢ X RI => ?_)
  show SW pᵢ l eᵢ rm_X6_firstIn sᵢ mᵢ argsᵢ belowᵢ methᵢ cᵢ 7 D Aᵢ 0 0 Qᵢ (mW k ad st tl t x y h) 0 [(0, .ref (ad 0)), (1, .int (J c)), (2, .int (J tg)), (3, .int (J a))] []
  have hS := I_st hI
  have hN := (I_c hI c (by omega) (by omega)).1
  have hK := clk_b hI hc.1 hc.2
  have h00 := aC_0 hI hc
  refine sw_aload_n X dX6_firstIn_0 rfl 0 rfl ?_
  refine sw_callVV0 (C := RX6) (As := []) (rest := []) X (c_X6_begin l D k ad st tl t x y h (by omega)) (cwV 0 (sw_ts X) (sw_goodV gw4_70 gw4_72 gws_19 gw1_3 gw4_73) rfl rfl rfl (by decide +kernel) ⟨Nat.le_of_ble_eq_true rfl, Nat.le_of_ble_eq_true rfl⟩) 0 (ci := 6) rfl rfl rfl dX6_firstIn_1 rfl rfl (Nat.le_of_ble_eq_true rfl) ⟨Nat.le_of_ble_eq_true rfl, Nat.le_of_ble_eq_true rfl⟩ (fun w9 hp2 => ?_)
  subst hp2
  refine sw_iconst X dX6_firstIn_4 ?_
  refine sw_istore (lv' := [(4, .int (J 0)), (0, .ref (ad 0)), (1, .int (J c)), (2, .int (J tg)), (3, .int (J a))]) X dX6_firstIn_5 (by decide) rfl ?_
  refine sw_iload_n X dX6_firstIn_7 rfl 4 rfl ?_
  have jn3 : (∀ m, a ≤ m → m ≤ 0 → aC st c m ≠ tg) → SW pᵢ l eᵢ rm_X6_firstIn sᵢ mᵢ argsᵢ belowᵢ methᵢ cᵢ 7 D Aᵢ 0 0 Qᵢ (mW k ad st tl t (st 1 0 / 16) (st 1 0 % 16) 0) 21 [(0, .ref (ad 0)), (1, .int (J c)), (2, .int (J tg)), (3, .int (J a)), (4, .int (J 0))] [] := by
    intro hno0
    refine sw_bipush X dX6_firstIn_21 (by decide +kernel) ?_
    refine sw_iload_n X dX6_firstIn_23 rfl 1 rfl ?_
    refine sw_imul X dX6_firstIn_24 ?_
    refine sw_istore (lv' := [(5, .int (J (60 * c))), (0, .ref (ad 0)), (1, .int (J c)), (2, .int (J tg)), (3, .int (J a)), (4, .int (J 0))]) X dX6_firstIn_25 (by decide) rfl ?_
    have lp5 : ∀ (n6 : Nat) (n : Nat) (ck i u v g : Int), st 10 c - (n : Int) < (n6 : Nat) → (i = 60 * c + (n : Int)) → ((n : Int) ≤ st 10 c) → (ck = tM st c n) → (u = (tP st c n).1 ∧ v = (tP st c n).2.1 ∧ g = (tP st c n).2.2) → (∀ m, a ≤ m → m ≤ tM st c n → aC st c m ≠ tg) → SW pᵢ l eᵢ rm_X6_firstIn sᵢ mᵢ argsᵢ belowᵢ methᵢ cᵢ 7 D Aᵢ 0 0 Qᵢ (mW k ad st tl t u v g) 27 [(0, .ref (ad 0)), (1, .int (J c)), (2, .int (J tg)), (3, .int (J a)), (4, .int (J ck)), (5, .int (J i))] [] := by
      intro n6
      induction n6 with
      | zero => intro n ck i u v g hm7 hi hn hck hp hno; exact absurd hm7 (by omega)
      | succ n6 ih4 =>
        intro n ck i u v g hm7 hi hn hck hp hno
        refine sw_iload X dX6_firstIn_27 5 rfl ?_
        refine sw_bipush X dX6_firstIn_29 (by decide +kernel) ?_
        refine sw_iload_n X dX6_firstIn_31 rfl 1 rfl ?_
        refine sw_imul X dX6_firstIn_32 ?_
        refine sw_aload_n X dX6_firstIn_33 rfl 0 rfl ?_
        refine sw_get (q0 := 0) (v := .ref (ad 10)) X iw_X6 rfl rfl 10 (by decide) gw3_218 rfl rfl dX6_firstIn_34 ?_
        refine sw_iload_n X dX6_firstIn_37 rfl 1 rfl ?_
        refine sw_iald (q0 := 5) (n := 8) X rfl (by omega) (by omega) (by decide) dX6_firstIn_38 ?_
        refine sw_iadd X dX6_firstIn_39 ?_
        refine sw_icmp_ge (tgt := 148) X (by omega) (by omega) dX6_firstIn_40 (by decide) (fun h8 => ?_) (fun h8 => ?_)
        · refine sw_iconst X dX6_firstIn_148 ?_
          exact RI _ _ _ _ _ _ dX6_firstIn_149 (by decide) (by decide) rfl ⟨_, _, _, rfl, fi_end hI hc ha.1 (by omega) hno⟩
        · have hp1 := I_p hI c n (by omega) (by omega) (by omega) (by omega)
          have hm1 := I_m hI hc.1 hc.2 n (by omega)
          rw [← hi] at hp1 hm1
          have hTb := tM_b2 hI hc.1 hc.2 n (by omega)
          have hTh := tP_h st c n
          refine sw_iconst X dX6_firstIn_43 ?_
          refine sw_istore (lv' := [(6, .int (J 0)), (0, .ref (ad 0)), (1, .int (J c)), (2, .int (J tg)), (3, .int (J a)), (4, .int (J ck)), (5, .int (J i))]) X dX6_firstIn_44 (by decide) rfl ?_
          have lp10 : ∀ (n11 : Nat) (j u2 v2 : Int), st 12 i + 2 - j < (n11 : Nat) → (0 ≤ j ∧ j ≤ st 12 i + 1) → (u2 = (tP st c n).1 + dx (tP st c n).2.2 (if st 11 i = -1 then 0 else if j = 0 then 0 else j - 1) ∧ v2 = (tP st c n).2.1 + dy (tP st c n).2.2 (if st 11 i = -1 then 0 else if j = 0 then 0 else j - 1)) → (∀ m, a ≤ m → m < ck + j → aC st c m ≠ tg) → SW pᵢ l eᵢ rm_X6_firstIn sᵢ mᵢ argsᵢ belowᵢ methᵢ cᵢ 7 D Aᵢ 0 0 Qᵢ (mW k ad st tl t u2 v2 g) 46 [(0, .ref (ad 0)), (1, .int (J c)), (2, .int (J tg)), (3, .int (J a)), (4, .int (J ck)), (5, .int (J i)), (6, .int (J j))] [] := by
            intro n11
            induction n11 with
            | zero => intro j u2 v2 hm12 hj hq hno2; exact absurd hm12 (by omega)
            | succ n11 ih9 =>
              intro j u2 v2 hm12 hj hq hno2
              refine sw_iload X dX6_firstIn_46 6 rfl ?_
              refine sw_aload_n X dX6_firstIn_48 rfl 0 rfl ?_
              refine sw_get (q0 := 0) (v := .ref (ad 12)) X iw_X6 rfl rfl 12 (by decide) gw3_220 rfl rfl dX6_firstIn_49 ?_
              refine sw_iload X dX6_firstIn_52 5 rfl ?_
              refine sw_iald (q0 := 7) (n := 480) X rfl (by omega) (by omega) (by decide) dX6_firstIn_54 ?_
              refine sw_icmp_gt (tgt := 112) X (by omega) (by omega) dX6_firstIn_55 (by decide) (fun h13 => ?_) (fun h13 => ?_)
              · have hj2 : j = st 12 i + 1 := by omega
                refine sw_iload X dX6_firstIn_112 4 rfl ?_
                refine sw_aload_n X dX6_firstIn_114 rfl 0 rfl ?_
                refine sw_get (q0 := 0) (v := .ref (ad 12)) X iw_X6 rfl rfl 12 (by decide) gw3_220 rfl rfl dX6_firstIn_115 ?_
                refine sw_iload X dX6_firstIn_118 5 rfl ?_
                refine sw_iald (q0 := 7) (n := 480) X rfl (by omega) (by omega) (by decide) dX6_firstIn_120 ?_
                refine sw_iadd X dX6_firstIn_121 ?_
                refine sw_istore (lv' := [(4, .int (J (ck + (st 12 i)))), (0, .ref (ad 0)), (1, .int (J c)), (2, .int (J tg)), (3, .int (J a)), (5, .int (J i)), (6, .int (J j))]) X dX6_firstIn_122 (by decide) rfl ?_
                refine sw_aload_n X dX6_firstIn_124 rfl 1 rfl ?_
                refine sw_aload_n X dX6_firstIn_125 rfl 1 rfl ?_
                refine sw_get (q0 := 0) (v := .int (J g)) X iw_X6 rfl rfl 25 (by decide) gw3_233 rfl rfl dX6_firstIn_126 ?_
                refine sw_aload_n X dX6_firstIn_129 rfl 1 rfl ?_
                refine sw_get (q0 := 0) (v := .ref (ad 13)) X iw_X6 rfl rfl 13 (by decide) gw3_221 rfl rfl dX6_firstIn_130 ?_
                refine sw_iload X dX6_firstIn_133 5 rfl ?_
                refine sw_iald (q0 := 8) (n := 480) X rfl (by omega) (by omega) (by decide) dX6_firstIn_135 ?_
                refine sw_iadd X dX6_firstIn_136 ?_
                refine sw_iconst X dX6_firstIn_137 ?_
                refine sw_irem X (by omega) (by omega) (by omega) dX6_firstIn_138 ?_
                refine sw_put (q0 := 0) X iw_X6 tyX6 tyX6_ok nmX6 rfl rfl 25 (by decide) gw3_233 rfl rfl (ty := .int) (by decide +kernel) rfl rfl (Nat.le_of_ble_eq_true rfl) mW_p25 dX6_firstIn_139 ?_
                refine sw_iinc (lv' := [(5, .int (J (i + 1))), (4, .int (J (ck + (st 12 i)))), (0, .ref (ad 0)), (1, .int (J c)), (2, .int (J tg)), (3, .int (J a)), (6, .int (J j))]) X dX6_firstIn_142 5 rfl (by decide) rfl ?_
                refine sw_goto (tgt := 27) X dX6_firstIn_145 (by decide) ?_
                refine sw_sub [2, 3, 4, 5, 1, 0] rfl ?_
                exact ih4 (n + 1) (ck + (st 12 i)) (i + 1) u2 v2 ((g + (st 13 i)) % 4) (by omega) (by omega) (by omega) (by rw [tM_s, hck, hi]) (fi_next hj2 hq hp hi hp1) (fun m q1 q2 => hno2 m q1 (by rw [tM_s, ← hi] at q2; omega))
              · refine sw_iload X dX6_firstIn_58 6 rfl ?_
                have jn14 : ∀ (u3 v3 : Int), (u3 = (tP st c n).1 + dx (tP st c n).2.2 (if st 11 i = -1 then 0 else j) ∧ v3 = (tP st c n).2.1 + dy (tP st c n).2.2 (if st 11 i = -1 then 0 else j)) → SW pᵢ l eᵢ rm_X6_firstIn sᵢ mᵢ argsᵢ belowᵢ methᵢ cᵢ 7 D Aᵢ 0 0 Qᵢ (mW k ad st tl t u3 v3 g) 83 [(0, .ref (ad 0)), (1, .int (J c)), (2, .int (J tg)), (3, .int (J a)), (4, .int (J ck)), (5, .int (J i)), (6, .int (J j))] [] := by
                  intro u3 v3 hu
                  have hA := pA_in hI hc.1 hc.2 (j := j) n (by omega) (by omega) (by rw [← hi]; omega)
                  have hO := pA_on hI hc.1 hc.2 (j := j) n (by omega) (by omega) (by rw [← hi]; omega)
                  rw [← hi] at hA hO
                  rw [← hu.1, ← hu.2] at hO
                  have hcell : 16 * u3 + v3 = aC st c (ck + j) := by rw [hck]; unfold aC; rw [hA, hu.1, hu.2]
                  refine sw_iload X dX6_firstIn_83 4 rfl ?_
                  refine sw_iload X dX6_firstIn_85 6 rfl ?_
                  refine sw_iadd X dX6_firstIn_87 ?_
                  refine sw_iload_n X dX6_firstIn_88 rfl 3 rfl ?_
                  refine sw_icmp_lt (tgt := 106) X (by omega) (by omega) dX6_firstIn_89 (by decide) (fun h15 => ?_) (fun h15 => ?_)
                  · refine sw_iinc (lv' := [(6, .int (J (j + 1))), (0, .ref (ad 0)), (1, .int (J c)), (2, .int (J tg)), (3, .int (J a)), (4, .int (J ck)), (5, .int (J i))]) X dX6_firstIn_106 6 rfl (by decide) rfl ?_
                    refine sw_goto (tgt := 46) X dX6_firstIn_109 (by decide) ?_
                    refine sw_sub [1, 2, 3, 4, 5, 6, 0] rfl ?_
                    exact ih9 (j + 1) u3 v3 (by omega) (by omega) (by rw [hu.1, hu.2, if_neg (show ¬ (j + 1 = 0) by omega), show j + 1 - 1 = j by omega]; exact ⟨rfl, rfl⟩) (fun m q1 q2 => by rcases Int.lt_or_le m (ck + j) with q3 | q3; exact hno2 m q1 q3; first | (exfalso; omega) | (rw [show m = ck + j by omega, ← hcell]; omega))
                  · refine sw_aload_n X dX6_firstIn_92 rfl 0 rfl ?_
                    refine sw_callVI0 (C := RX6) (As := []) (rest := []) X (c_X6_cell l D k ad st tl t u3 v3 g) (cwV 0 (sw_ts X) (sw_goodV gw4_82 gw4_84 gws_22 gw1_3 gw4_85) rfl rfl rfl (by decide +kernel) ⟨Nat.le_of_ble_eq_true rfl, Nat.le_of_ble_eq_true rfl⟩) 0 (ci := 6) rfl rfl rfl dX6_firstIn_93 rfl rfl (Nat.le_of_ble_eq_true rfl) ⟨Nat.le_of_ble_eq_true rfl, Nat.le_of_ble_eq_true rfl⟩ (fun z16 w9 hp17 => ?_)
                    obtain ⟨rfl, rfl⟩ := hp17
                    refine sw_iload_n X dX6_firstIn_96 rfl 2 rfl ?_
                    refine sw_icmp_ne (tgt := 106) X (by omega) (by omega) dX6_firstIn_97 (by decide) (fun h18 => ?_) (fun h18 => ?_)
                    · refine sw_iinc (lv' := [(6, .int (J (j + 1))), (0, .ref (ad 0)), (1, .int (J c)), (2, .int (J tg)), (3, .int (J a)), (4, .int (J ck)), (5, .int (J i))]) X dX6_firstIn_106 6 rfl (by decide) rfl ?_
                      refine sw_goto (tgt := 46) X dX6_firstIn_109 (by decide) ?_
                      refine sw_sub [1, 2, 3, 4, 5, 6, 0] rfl ?_
                      exact ih9 (j + 1) u3 v3 (by omega) (by omega) (by rw [hu.1, hu.2, if_neg (show ¬ (j + 1 = 0) by omega), show j + 1 - 1 = j by omega]; exact ⟨rfl, rfl⟩) (fun m q1 q2 => by rcases Int.lt_or_le m (ck + j) with q3 | q3; exact hno2 m q1 q3; first | (exfalso; omega) | (rw [show m = ck + j by omega, ← hcell]; omega))
                    · refine sw_iload X dX6_firstIn_100 4 rfl ?_
                      refine sw_iload X dX6_firstIn_102 6 rfl ?_
                      refine sw_iadd X dX6_firstIn_104 ?_
                      exact RI _ _ _ _ _ _ dX6_firstIn_105 (by decide) (by decide) rfl ⟨_, _, _, rfl, by rw [hck]; exact fi_hit hI hc ha.1 (by omega) (by rw [← hi]; omega) (by omega) (by rw [← hck, ← hcell]; omega) (by rw [← hck]; exact hno2)⟩
                refine sw_if_le (tgt := 83) X (by omega) dX6_firstIn_60 (by decide) (fun h19 => ?_) (fun h19 => ?_)
                · exact jn14 u2 v2 (by first | exact fi_pos0 hq (by omega) | exact fi_pos1 hq hp (by omega) (by omega))
                · refine sw_aload_n X dX6_firstIn_63 rfl 0 rfl ?_
                  refine sw_aload_n X dX6_firstIn_64 rfl 0 rfl ?_
                  refine sw_get (q0 := 0) (v := .ref (ad 11)) X iw_X6 rfl rfl 11 (by decide) gw3_219 rfl rfl dX6_firstIn_65 ?_
                  refine sw_iload X dX6_firstIn_68 5 rfl ?_
                  refine sw_iald (q0 := 6) (n := 480) X rfl (by omega) (by omega) (by decide) dX6_firstIn_70 ?_
                  refine sw_iconst X dX6_firstIn_71 ?_
                  refine sw_icmp_ne (tgt := 79) X (by omega) (by omega) dX6_firstIn_72 (by decide) (fun h20 => ?_) (fun h20 => ?_)
                  · refine sw_iconst X dX6_firstIn_79 ?_
                    refine sw_callVV0 (C := RX6) (As := [.int (J 1)]) (rest := []) X (c_X6_goOn l D k ad st tl t u2 v2 g 1 (by omega)) (cwV 1 (sw_ts X) (sw_goodV gw4_74 gw4_76 gws_20 gw1_3 gw4_77) rfl rfl rfl (by decide +kernel) ⟨Nat.le_of_ble_eq_true rfl, Nat.le_of_ble_eq_true rfl⟩) 0 (ci := 6) rfl rfl rfl dX6_firstIn_80 rfl rfl (Nat.le_of_ble_eq_true rfl) ⟨Nat.le_of_ble_eq_true rfl, Nat.le_of_ble_eq_true rfl⟩ (fun w9 hp22 => ?_)
                    subst hp22
                    exact jn14 (u2 + dx g 1) (v2 + dy g 1) (by first | exact fi_pos0 hq (by omega) | exact fi_pos1 hq hp (by omega) (by omega))
                  · refine sw_iconst X dX6_firstIn_75 ?_
                    refine sw_goto (tgt := 80) X dX6_firstIn_76 (by decide) ?_
                    refine sw_callVV0 (C := RX6) (As := [.int (J 0)]) (rest := []) X (c_X6_goOn l D k ad st tl t u2 v2 g 0 (by omega)) (cwV 1 (sw_ts X) (sw_goodV gw4_74 gw4_76 gws_20 gw1_3 gw4_77) rfl rfl rfl (by decide +kernel) ⟨Nat.le_of_ble_eq_true rfl, Nat.le_of_ble_eq_true rfl⟩) 0 (ci := 6) rfl rfl rfl dX6_firstIn_80 rfl rfl (Nat.le_of_ble_eq_true rfl) ⟨Nat.le_of_ble_eq_true rfl, Nat.le_of_ble_eq_true rfl⟩ (fun w9 hp24 => ?_)
                    subst hp24
                    exact jn14 (u2 + dx g 0) (v2 + dy g 0) (by first | exact fi_pos0 hq (by omega) | exact fi_pos1 hq hp (by omega) (by omega))
          refine sw_sub [1, 2, 3, 4, 5, 6, 0] rfl ?_
          exact lp10 (st 12 i + 2 - 0).toNat.succ 0 u v (by omega) (by omega) (by obtain ⟨rfl, rfl, rfl⟩ := hp; simp [dx_0, dy_0]) (fun m q1 q2 => hno m q1 (by omega))
    refine sw_sub [1, 2, 3, 4, 5, 0] rfl ?_
    exact lp5 (st 10 c - (0 : Int)).toNat.succ 0 0 (60 * c) (st 1 0 / 16) (st 1 0 % 16) 0 (by omega) (by simp) (by omega) (rfl) (⟨rfl, rfl, rfl⟩) (fun m q1 q2 => hno0 m q1 q2)
  refine sw_if_ne (tgt := 21) X (by omega) dX6_firstIn_8 (by decide) (fun h25 => ?_) (fun h25 => ?_)
  · refine sw_sub [1, 2, 3, 4, 0] rfl ?_
    exact jn3 (fun m q1 q2 => by first | (exfalso; omega) | (rw [show m = 0 by omega, h00]; omega))
  · refine sw_aload_n X dX6_firstIn_11 rfl 1 rfl ?_
    refine sw_callVI0 (C := RX6) (As := []) (rest := []) X (c_X6_cell l D k ad st tl t (st 1 0 / 16) (st 1 0 % 16) 0) (cwV 0 (sw_ts X) (sw_goodV gw4_82 gw4_84 gws_22 gw1_3 gw4_85) rfl rfl rfl (by decide +kernel) ⟨Nat.le_of_ble_eq_true rfl, Nat.le_of_ble_eq_true rfl⟩) 0 (ci := 6) rfl rfl rfl dX6_firstIn_12 rfl rfl (Nat.le_of_ble_eq_true rfl) ⟨Nat.le_of_ble_eq_true rfl, Nat.le_of_ble_eq_true rfl⟩ (fun z26 w9 hp27 => ?_)
    obtain ⟨rfl, rfl⟩ := hp27
    refine sw_iload_n X dX6_firstIn_15 rfl 3 rfl ?_
    refine sw_icmp_ne (tgt := 21) X (by omega) (by omega) dX6_firstIn_16 (by decide) (fun h28 => ?_) (fun h28 => ?_)
    · refine sw_sub [1, 2, 3, 4, 0] rfl ?_
      exact jn3 (fun m q1 q2 => by first | (exfalso; omega) | (rw [show m = 0 by omega, h00]; omega))
    · refine sw_iconst X dX6_firstIn_19 ?_
      exact RI _ _ _ _ _ _ dX6_firstIn_20 (by decide) (by decide) rfl ⟨_, _, _, rfl, fF_eq ha.1 (Or.inr ⟨by omega, hK.1, by rw [h00]; omega, fun m q1 q2 => by exfalso; omega⟩)⟩
