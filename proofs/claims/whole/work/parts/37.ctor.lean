/-! a new object -/
def st0 : ST := fun f i => if f = 8 then 10 else if f = 14 then (if 0 ≤ i ∧ i < 8 then -1 else 0) else if f = 16 then (if 0 ≤ i ∧ i < 80 then -1 else 0) else 0
theorem I6_0 : I6 0 st0 := by
  refine ⟨by decide, by decide, by decide, by decide, by decide, by decide, fun i a0 a1 => ?_, fun g a0 a1 => ?_, fun c a0 a1 => ⟨by show (0 : Int) ≤ 0 ∧ (0 : Int) ≤ 60; decide, ?_, by show (0 : Int) ≤ 0 ∧ (0 : Int) ≤ 0; decide, fun _ => ⟨rfl, ?_, rfl, fun g g0 g1 => ?_⟩⟩, fun c i a0 a1 a2 a3 => ?_, fun n hn => ?_, fun c n a0 a1 hn => ?_, fun c g a0 a1 a2 a3 => ?_, fun j a0 a1 => ?_, fun g a0 a1 => ?_, fun j a0 a1 => by show -1 ≤ (0 : Int) ∧ (0 : Int) < 8; decide⟩
  · have a1 : i < 0 := a1
    omega
  · have a1 : g < 0 := a1
    omega
  · show -1 ≤ (if 0 ≤ c ∧ c < 8 then (-1 : Int) else 0) ∧ (if 0 ≤ c ∧ c < 8 then (-1 : Int) else 0) ≤ 3
    rw [if_pos ⟨a0, a1⟩]; decide
  · show (if 0 ≤ c ∧ c < 8 then (-1 : Int) else 0) = -1
    rw [if_pos ⟨a0, a1⟩]
  · show (if 0 ≤ 10 * c + g ∧ 10 * c + g < 80 then (-1 : Int) else 0) = -1
    rw [if_pos (by omega)]
  · have a3 : i < 0 := a3
    omega
  · have hn : (n : Int) ≤ 0 := hn
    rw [show n = 0 by omega]
    decide
  · have hn : (n : Int) ≤ 0 := hn
    rw [show n = 0 by omega]
    show (0 ≤ (0 : Int) / 16 ∧ (0 : Int) / 16 ≤ 15) ∧ 0 ≤ (0 : Int) % 16 ∧ (0 : Int) % 16 ≤ 15
    decide
  · show -1 ≤ (if 0 ≤ 10 * c + g ∧ 10 * c + g < 80 then (-1 : Int) else 0) ∧ (if 0 ≤ 10 * c + g ∧ 10 * c + g < 80 then (-1 : Int) else 0) ≤ 10000
    rw [if_pos (by omega)]; decide
  · have a1 : j < 0 := a1
    omega
  · have a1 : g + 1 < 0 := a1
    omega
def qI (a g1 c1 p1 t1 w1 b : Nat) : Int → Nat := fun t => if t = 0 then a else if t = 1 then g1 else if t = 2 then c1 else if t = 3 then p1 else if t = 4 then t1 else if t = 9 then w1 else b
set_option maxHeartbeats 4000000 in
theorem ini_end {k : Nat → ClassId} {L : List Nat} {M : MM} {a w1 b g1 c1 p1 t1 : Nat} (hq : a ∈ L ∧ M 90 a 0 = 5) (h0 : w1 ∉ L) (h1 : b ∉ L ++ [w1]) (h2 : g1 ∉ (L ++ [w1]) ++ [b]) (h3 : c1 ∉ ((L ++ [w1]) ++ [b]) ++ [g1]) (h4 : p1 ∉ (((L ++ [w1]) ++ [b]) ++ [g1]) ++ [c1]) (h5 : t1 ∉ ((((L ++ [w1]) ++ [b]) ++ [g1]) ++ [c1]) ++ [p1]) : ∃ (q' : Int → Nat) (L' : List Nat) (M' : MM), pW k (L ++ [w1] ++ [b] ++ [g1] ++ [c1] ++ [p1] ++ [t1]) (upM (alM (upM (upM (alM (upM (upM (alM (upM (upM (upM (alM (upM (upM (upM (upM (upM (upM (alM (alM (upM M 50 a 0 0) w1 4 0) b 15 30) 40 w1 0 ((b : Int))) 41 w1 0 0) 42 w1 0 0) 43 w1 0 0) 44 w1 0 0) 51 a 0 ((w1 : Int))) g1 13 10) 52 a 0 ((g1 : Int))) 53 a 0 0) 54 a 0 10) c1 12 8) 55 a 0 ((c1 : Int))) 56 a 0 0) p1 14 40) 57 a 0 ((p1 : Int))) 58 a 0 0) t1 10 8) 59 a 0 ((t1 : Int))) = pW k L' M' ∧ q' 0 = a ∧ CW st0 q' L' M' := by
  have e01 : a ≠ w1 := sw_ne hq.1 h0
  have e02 : a ≠ b := sw_ne (List.mem_append_left _ hq.1) h1
  have e12 : w1 ≠ b := sw_ne (List.mem_append_right _ List.mem_cons_self) h1
  have e03 : a ≠ g1 := sw_ne (List.mem_append_left _ (List.mem_append_left _ hq.1)) h2
  have e13 : w1 ≠ g1 := sw_ne (List.mem_append_left _ (List.mem_append_right _ List.mem_cons_self)) h2
  have e23 : b ≠ g1 := sw_ne (List.mem_append_right _ List.mem_cons_self) h2
  have e04 : a ≠ c1 := sw_ne (List.mem_append_left _ (List.mem_append_left _ (List.mem_append_left _ hq.1))) h3
  have e14 : w1 ≠ c1 := sw_ne (List.mem_append_left _ (List.mem_append_left _ (List.mem_append_right _ List.mem_cons_self))) h3
  have e24 : b ≠ c1 := sw_ne (List.mem_append_left _ (List.mem_append_right _ List.mem_cons_self)) h3
  have e34 : g1 ≠ c1 := sw_ne (List.mem_append_right _ List.mem_cons_self) h3
  have e05 : a ≠ p1 := sw_ne (List.mem_append_left _ (List.mem_append_left _ (List.mem_append_left _ (List.mem_append_left _ hq.1)))) h4
  have e15 : w1 ≠ p1 := sw_ne (List.mem_append_left _ (List.mem_append_left _ (List.mem_append_left _ (List.mem_append_right _ List.mem_cons_self)))) h4
  have e25 : b ≠ p1 := sw_ne (List.mem_append_left _ (List.mem_append_left _ (List.mem_append_right _ List.mem_cons_self))) h4
  have e35 : g1 ≠ p1 := sw_ne (List.mem_append_left _ (List.mem_append_right _ List.mem_cons_self)) h4
  have e45 : c1 ≠ p1 := sw_ne (List.mem_append_right _ List.mem_cons_self) h4
  have e06 : a ≠ t1 := sw_ne (List.mem_append_left _ (List.mem_append_left _ (List.mem_append_left _ (List.mem_append_left _ (List.mem_append_left _ hq.1))))) h5
  have e16 : w1 ≠ t1 := sw_ne (List.mem_append_left _ (List.mem_append_left _ (List.mem_append_left _ (List.mem_append_left _ (List.mem_append_right _ List.mem_cons_self))))) h5
  have e26 : b ≠ t1 := sw_ne (List.mem_append_left _ (List.mem_append_left _ (List.mem_append_left _ (List.mem_append_right _ List.mem_cons_self)))) h5
  have e36 : g1 ≠ t1 := sw_ne (List.mem_append_left _ (List.mem_append_left _ (List.mem_append_right _ List.mem_cons_self))) h5
  have e46 : c1 ≠ t1 := sw_ne (List.mem_append_left _ (List.mem_append_right _ List.mem_cons_self)) h5
  have e56 : p1 ≠ t1 := sw_ne (List.mem_append_right _ List.mem_cons_self) h5
  refine ⟨qI a g1 c1 p1 t1 w1 b, _, upM (upM (upM (upM (upM (upM (upM (upM (alM (upM (upM (alM (upM (upM (alM (upM (upM (upM (alM (upM (upM (upM (upM (upM (upM (alM (alM (upM M 50 a 0 0) w1 4 0) b 15 30) 40 w1 0 ((b : Int))) 41 w1 0 0) 42 w1 0 0) 43 w1 0 0) 44 w1 0 0) 51 a 0 ((w1 : Int))) g1 13 10) 52 a 0 ((g1 : Int))) 53 a 0 0) 54 a 0 10) c1 12 8) 55 a 0 ((c1 : Int))) 56 a 0 0) p1 14 40) 57 a 0 ((p1 : Int))) 58 a 0 0) t1 10 8) 59 a 0 ((t1 : Int))) 80 a 0 0) 80 g1 0 1) 80 c1 0 2) 80 p1 0 3) 80 t1 0 4) 80 w1 0 9) 80 b 0 19, (Eq.trans (Eq.trans (Eq.trans (Eq.trans (Eq.trans (Eq.trans (pW_80 k _ _ a 0 0) (pW_80 k _ _ g1 0 1)) (pW_80 k _ _ c1 0 2)) (pW_80 k _ _ p1 0 3)) (pW_80 k _ _ t1 0 4)) (pW_80 k _ _ w1 0 9)) (pW_80 k _ _ b 0 19)), rfl, ?_⟩
  have q0 : qI a g1 c1 p1 t1 w1 b 0 = a := rfl
  have q1 : qI a g1 c1 p1 t1 w1 b 1 = g1 := rfl
  have q2 : qI a g1 c1 p1 t1 w1 b 2 = c1 := rfl
  have q3 : qI a g1 c1 p1 t1 w1 b 3 = p1 := rfl
  have q4 : qI a g1 c1 p1 t1 w1 b 4 = t1 := rfl
  have q9 : qI a g1 c1 p1 t1 w1 b (10 + -1) = w1 := rfl
  have q19 : qI a g1 c1 p1 t1 w1 b (20 + -1) = b := rfl
  have hv0 : vN st0 (-1) = 0 := rfl
  refine ⟨?_, ?_, fun c d0 d1 => ?_, fun c d0 d1 => ?_, fun c d0 d1 => ?_⟩
  · unfold cXo ob
    rw [q0, q1, q2, q3, q4, q9, show st0 1 0 = 0 from rfl, show st0 5 0 = 0 from rfl, show st0 8 0 = 10 from rfl, show st0 9 0 = 0 from rfl, show st0 17 0 = 0 from rfl]
    refine ⟨⟨⟨(List.mem_append_left _ (List.mem_append_left _ (List.mem_append_left _ (List.mem_append_left _ (List.mem_append_left _ (List.mem_append_left _ hq.1)))))), ?_, ?_⟩, ⟨(List.mem_append_left _ (List.mem_append_left _ (List.mem_append_left _ (List.mem_append_right _ List.mem_cons_self)))), ?_, ?_⟩, ⟨(List.mem_append_left _ (List.mem_append_left _ (List.mem_append_right _ List.mem_cons_self))), ?_, ?_⟩, ⟨(List.mem_append_left _ (List.mem_append_right _ List.mem_cons_self)), ?_, ?_⟩, ⟨(List.mem_append_right _ List.mem_cons_self), ?_, ?_⟩⟩, ⟨?_, ?_, ?_, ?_⟩, ⟨?_, ?_, ?_, ?_, ?_⟩, ?_, ?_, ?_, ?_, ?_⟩ <;> simp [upM, alM, dfM, hq.2, e01, e01.symm, e02, e02.symm, e12, e12.symm, e03, e03.symm, e13, e13.symm, e23, e23.symm, e04, e04.symm, e14, e14.symm, e24, e24.symm, e34, e34.symm, e05, e05.symm, e15, e15.symm, e25, e25.symm, e35, e35.symm, e45, e45.symm, e06, e06.symm, e16, e16.symm, e26, e26.symm, e36, e36.symm, e46, e46.symm, e56, e56.symm]
  · unfold cWy ob
    rw [q9, q19, hv0, show vL (-1) = 30 from rfl, show (0 : Int).toNat = 0 from rfl, show clO (vP st0 (-1) 0) = 0 from rfl, show (vP st0 (-1) 0).2.2 = 0 from rfl, show vM st0 (-1) 0 = 0 from rfl]
    refine ⟨⟨⟨(List.mem_append_left _ (List.mem_append_left _ (List.mem_append_left _ (List.mem_append_left _ (List.mem_append_left _ (List.mem_append_right _ List.mem_cons_self)))))), ?_, ?_⟩, ?_⟩, ?_, ?_, ?_, ?_, ⟨⟨(List.mem_append_left _ (List.mem_append_left _ (List.mem_append_left _ (List.mem_append_left _ (List.mem_append_right _ List.mem_cons_self))))), ?_, ?_⟩, ?_⟩, fun i hi => by omega⟩ <;> simp [upM, alM, dfM, e01, e01.symm, e02, e02.symm, e12, e12.symm, e03, e03.symm, e13, e13.symm, e23, e23.symm, e04, e04.symm, e14, e14.symm, e24, e24.symm, e34, e34.symm, e05, e05.symm, e15, e15.symm, e25, e25.symm, e35, e35.symm, e45, e45.symm, e06, e06.symm, e16, e16.symm, e26, e26.symm, e36, e36.symm, e46, e46.symm, e56, e56.symm]
  · have d1 : c < 0 := d1
    omega
  · have d1 : c < 0 := d1
    omega
  · have d1 : c < 0 := d1
    omega
abbrev rm_X5_init : Room := { frames := 2, cells := 6, slots := 131, locals := 34 }
set_option maxHeartbeats 4000000 in
set_option maxRecDepth 100000 in
theorem c_X5_init (l : Launch) (D : va_G) (k : Nat → ClassId) (L : List Nat) (M : MM) (a : Nat) (hq : a ∈ L ∧ M 90 a 0 = 5) : CV l yX5_init cX5_init 1 none rm_X5_init D k [.ref a] (pW k L M) (fun w' => ∃ (q' : Int → Nat) (L' : List Nat) (M' : MM), w' = pW k L' M' ∧ q' 0 = a ∧ CW st0 q' L' M') := by
  refine CV.of (by decide +kernel) (Nat.le_of_ble_eq_true rfl) (fun pᵢ eᵢ sᵢ mᵢ argsᵢ belowᵢ methᵢ cᵢ Aᵢ Qᵢ X hnm RV => ?_)
  show SW pᵢ l eᵢ rm_X5_init sᵢ mᵢ argsᵢ belowᵢ methᵢ cᵢ 1 D Aᵢ 0 0 Qᵢ (pW k L M) 0 [(0, .ref a)] []
  refine sw_aload_n X dX5_init_0 rfl 0 rfl ?_
  refine sw_objInit X gw1_21 (Nat.le_of_ble_eq_true rfl) (Nat.le_of_ble_eq_true rfl) dX5_init_1 ?_
  refine sw_aload_n X dX5_init_4 rfl 0 rfl ?_
  refine sw_iconst X dX5_init_5 ?_
  refine px_put (f := 50) (z := 0) X iw_X5 tyX5 tyX5_ok nmX5 hq.1 (by decide) hq.2 rfl 0 (by decide) gw1_57 rfl rfl (ty := .int) (by decide +kernel) rfl rfl (Nat.le_of_ble_eq_true rfl) (by decide) (pS50 _ _ _) dX5_init_6 ?_
  refine sw_aload_n X dX5_init_9 rfl 0 rfl ?_
  refine px_new (ci := 4) (N := 5) (T := TX4) (C := RX4) X iw_X4 tyX4 tyX4_ok gw1_24 gw1_25 gw1_2 rfl (by decide) dv_X4 (al_X4 _) ⟨Nat.le_of_ble_eq_true rfl, Nat.le_of_ble_eq_true rfl⟩ dX5_init_10 (fun q1 hq1 => ?_)
  refine sw_dup X dX5_init_13 rfl ?_
  refine sw_bipush X dX5_init_14 (by decide +kernel) ?_
  refine sw_iconst X dX5_init_16 ?_
  refine sw_callIV0 (As := [.int (J 30), .int (J 0)]) (rest := [.ref q1, .ref a]) X (c_X4_init30 l D k (L ++ [q1]) (alM (upM M 50 a 0 0) q1 4 0) q1 0 ⟨(List.mem_append_right _ List.mem_cons_self), (alM_n _ _ _ _ _ _)⟩) ⟨callB_of 2 (sw_ts X) (sw_goodI gw1_28) rfl rfl rfl (sw_ts X _ gw1_2) (sw_ts X _ gw1_26) (by decide +kernel) ⟨Nat.le_of_ble_eq_true rfl, Nat.le_of_ble_eq_true rfl⟩, rfl, sw_ts X _ gw1_27⟩ dX5_init_17 rfl rfl (Nat.le_of_ble_eq_true rfl) ⟨Nat.le_of_ble_eq_true rfl, Nat.le_of_ble_eq_true rfl⟩ (fun w9 hp3 => ?_)
  obtain ⟨q4, hq4, rfl⟩ := hp3
  refine px_putF (M := upM (upM (upM (upM (upM (alM (alM (upM M 50 a 0 0) q1 4 0) q4 15 30) 40 q1 0 ((q4 : Int))) 41 q1 0 0) 42 q1 0 0) 43 q1 0 0) 44 q1 0 0) (f := 51) (z := (q1 : Int)) X hnm iw_X5 tyX5 tyX5_ok nmX5 (List.mem_append_left _ (List.mem_append_left _ hq.1)) (by decide) ((alM_o _ _ _ _ _ (sw_ne (List.mem_append_left _ hq.1) hq4)).trans ((alM_o _ _ _ _ _ (sw_ne hq.1 hq1)).trans hq.2)) rfl 1 (by decide) gw1_58 rfl rfl rfl (ty := (.object "OriginRally$Way")) (by decide +kernel) rfl rfl (Nat.le_of_ble_eq_true rfl) (by decide) (pS51 _ _ _) dX5_init_20 ?_
  refine sw_aload_n X dX5_init_23 rfl 0 rfl ?_
  refine sw_bipush X dX5_init_24 (by decide +kernel) ?_
  refine px_newQ (C := RX1) X 3 (by decide) rfl gw1_51 (by decide) 10 (by decide) ⟨Nat.le_of_ble_eq_true rfl, Nat.le_of_ble_eq_true rfl⟩ dX5_init_26 (fun q5 hq5 => ?_)
  refine px_putF (M := alM (upM (upM (upM (upM (upM (upM (alM (alM (upM M 50 a 0 0) q1 4 0) q4 15 30) 40 q1 0 ((q4 : Int))) 41 q1 0 0) 42 q1 0 0) 43 q1 0 0) 44 q1 0 0) 51 a 0 ((q1 : Int))) q5 13 10) (f := 52) (z := (q5 : Int)) X hnm iw_X5 tyX5 tyX5_ok nmX5 (List.mem_append_left _ (List.mem_append_left _ (List.mem_append_left _ hq.1))) (by decide) ((alM_o _ _ _ _ _ (sw_ne (List.mem_append_left _ (List.mem_append_left _ hq.1)) hq5)).trans ((alM_o _ _ _ _ _ (sw_ne (List.mem_append_left _ hq.1) hq4)).trans ((alM_o _ _ _ _ _ (sw_ne hq.1 hq1)).trans hq.2))) rfl 2 (by decide) gw1_59 rfl rfl rfl (ty := (.array (.object "OriginRally$Gate"))) (by decide +kernel) rfl rfl (Nat.le_of_ble_eq_true rfl) (by decide) (pS52 _ _ _) dX5_init_29 ?_
  refine sw_aload_n X dX5_init_32 rfl 0 rfl ?_
  refine sw_iconst X dX5_init_33 ?_
  refine px_put (M := upM (alM (upM (upM (upM (upM (upM (upM (alM (alM (upM M 50 a 0 0) q1 4 0) q4 15 30) 40 q1 0 ((q4 : Int))) 41 q1 0 0) 42 q1 0 0) 43 q1 0 0) 44 q1 0 0) 51 a 0 ((q1 : Int))) q5 13 10) 52 a 0 ((q5 : Int))) (f := 53) (z := 0) X iw_X5 tyX5 tyX5_ok nmX5 (List.mem_append_left _ (List.mem_append_left _ (List.mem_append_left _ hq.1))) (by decide) ((alM_o _ _ _ _ _ (sw_ne (List.mem_append_left _ (List.mem_append_left _ hq.1)) hq5)).trans ((alM_o _ _ _ _ _ (sw_ne (List.mem_append_left _ hq.1) hq4)).trans ((alM_o _ _ _ _ _ (sw_ne hq.1 hq1)).trans hq.2))) rfl 3 (by decide) gw1_60 rfl rfl (ty := .int) (by decide +kernel) rfl rfl (Nat.le_of_ble_eq_true rfl) (by decide) (pS53 _ _ _) dX5_init_34 ?_
  refine sw_aload_n X dX5_init_37 rfl 0 rfl ?_
  refine sw_bipush X dX5_init_38 (by decide +kernel) ?_
  refine px_put (M := upM (upM (alM (upM (upM (upM (upM (upM (upM (alM (alM (upM M 50 a 0 0) q1 4 0) q4 15 30) 40 q1 0 ((q4 : Int))) 41 q1 0 0) 42 q1 0 0) 43 q1 0 0) 44 q1 0 0) 51 a 0 ((q1 : Int))) q5 13 10) 52 a 0 ((q5 : Int))) 53 a 0 0) (f := 54) (z := 10) X iw_X5 tyX5 tyX5_ok nmX5 (List.mem_append_left _ (List.mem_append_left _ (List.mem_append_left _ hq.1))) (by decide) ((alM_o _ _ _ _ _ (sw_ne (List.mem_append_left _ (List.mem_append_left _ hq.1)) hq5)).trans ((alM_o _ _ _ _ _ (sw_ne (List.mem_append_left _ hq.1) hq4)).trans ((alM_o _ _ _ _ _ (sw_ne hq.1 hq1)).trans hq.2))) rfl 4 (by decide) gw1_61 rfl rfl (ty := .int) (by decide +kernel) rfl rfl (Nat.le_of_ble_eq_true rfl) (by decide) (pS54 _ _ _) dX5_init_40 ?_
  refine sw_aload_n X dX5_init_43 rfl 0 rfl ?_
  refine sw_bipush X dX5_init_44 (by decide +kernel) ?_
  refine px_newQ (C := RX0) X 2 (by decide) rfl gw1_53 (by decide) 8 (by decide) ⟨Nat.le_of_ble_eq_true rfl, Nat.le_of_ble_eq_true rfl⟩ dX5_init_46 (fun q6 hq6 => ?_)
  refine px_putF (M := alM (upM (upM (upM (alM (upM (upM (upM (upM (upM (upM (alM (alM (upM M 50 a 0 0) q1 4 0) q4 15 30) 40 q1 0 ((q4 : Int))) 41 q1 0 0) 42 q1 0 0) 43 q1 0 0) 44 q1 0 0) 51 a 0 ((q1 : Int))) q5 13 10) 52 a 0 ((q5 : Int))) 53 a 0 0) 54 a 0 10) q6 12 8) (f := 55) (z := (q6 : Int)) X hnm iw_X5 tyX5 tyX5_ok nmX5 (List.mem_append_left _ (List.mem_append_left _ (List.mem_append_left _ (List.mem_append_left _ hq.1)))) (by decide) ((alM_o _ _ _ _ _ (sw_ne (List.mem_append_left _ (List.mem_append_left _ (List.mem_append_left _ hq.1))) hq6)).trans ((alM_o _ _ _ _ _ (sw_ne (List.mem_append_left _ (List.mem_append_left _ hq.1)) hq5)).trans ((alM_o _ _ _ _ _ (sw_ne (List.mem_append_left _ hq.1) hq4)).trans ((alM_o _ _ _ _ _ (sw_ne hq.1 hq1)).trans hq.2)))) rfl 5 (by decide) gw1_62 rfl rfl rfl (ty := (.array (.object "OriginRally$Car"))) (by decide +kernel) rfl rfl (Nat.le_of_ble_eq_true rfl) (by decide) (pS55 _ _ _) dX5_init_49 ?_
  refine sw_aload_n X dX5_init_52 rfl 0 rfl ?_
  refine sw_iconst X dX5_init_53 ?_
  refine px_put (M := upM (alM (upM (upM (upM (alM (upM (upM (upM (upM (upM (upM (alM (alM (upM M 50 a 0 0) q1 4 0) q4 15 30) 40 q1 0 ((q4 : Int))) 41 q1 0 0) 42 q1 0 0) 43 q1 0 0) 44 q1 0 0) 51 a 0 ((q1 : Int))) q5 13 10) 52 a 0 ((q5 : Int))) 53 a 0 0) 54 a 0 10) q6 12 8) 55 a 0 ((q6 : Int))) (f := 56) (z := 0) X iw_X5 tyX5 tyX5_ok nmX5 (List.mem_append_left _ (List.mem_append_left _ (List.mem_append_left _ (List.mem_append_left _ hq.1)))) (by decide) ((alM_o _ _ _ _ _ (sw_ne (List.mem_append_left _ (List.mem_append_left _ (List.mem_append_left _ hq.1))) hq6)).trans ((alM_o _ _ _ _ _ (sw_ne (List.mem_append_left _ (List.mem_append_left _ hq.1)) hq5)).trans ((alM_o _ _ _ _ _ (sw_ne (List.mem_append_left _ hq.1) hq4)).trans ((alM_o _ _ _ _ _ (sw_ne hq.1 hq1)).trans hq.2)))) rfl 6 (by decide) gw1_63 rfl rfl (ty := .int) (by decide +kernel) rfl rfl (Nat.le_of_ble_eq_true rfl) (by decide) (pS56 _ _ _) dX5_init_54 ?_
  refine sw_aload_n X dX5_init_57 rfl 0 rfl ?_
  refine sw_bipush X dX5_init_58 (by decide +kernel) ?_
  refine px_newQ (C := RX2) X 4 (by decide) rfl gw1_55 (by decide) 40 (by decide) ⟨Nat.le_of_ble_eq_true rfl, Nat.le_of_ble_eq_true rfl⟩ dX5_init_60 (fun q7 hq7 => ?_)
  refine px_putF (M := alM (upM (upM (alM (upM (upM (upM (alM (upM (upM (upM (upM (upM (upM (alM (alM (upM M 50 a 0 0) q1 4 0) q4 15 30) 40 q1 0 ((q4 : Int))) 41 q1 0 0) 42 q1 0 0) 43 q1 0 0) 44 q1 0 0) 51 a 0 ((q1 : Int))) q5 13 10) 52 a 0 ((q5 : Int))) 53 a 0 0) 54 a 0 10) q6 12 8) 55 a 0 ((q6 : Int))) 56 a 0 0) q7 14 40) (f := 57) (z := (q7 : Int)) X hnm iw_X5 tyX5 tyX5_ok nmX5 (List.mem_append_left _ (List.mem_append_left _ (List.mem_append_left _ (List.mem_append_left _ (List.mem_append_left _ hq.1))))) (by decide) ((alM_o _ _ _ _ _ (sw_ne (List.mem_append_left _ (List.mem_append_left _ (List.mem_append_left _ (List.mem_append_left _ hq.1)))) hq7)).trans ((alM_o _ _ _ _ _ (sw_ne (List.mem_append_left _ (List.mem_append_left _ (List.mem_append_left _ hq.1))) hq6)).trans ((alM_o _ _ _ _ _ (sw_ne (List.mem_append_left _ (List.mem_append_left _ hq.1)) hq5)).trans ((alM_o _ _ _ _ _ (sw_ne (List.mem_append_left _ hq.1) hq4)).trans ((alM_o _ _ _ _ _ (sw_ne hq.1 hq1)).trans hq.2))))) rfl 7 (by decide) gw1_64 rfl rfl rfl (ty := (.array (.object "OriginRally$Part"))) (by decide +kernel) rfl rfl (Nat.le_of_ble_eq_true rfl) (by decide) (pS57 _ _ _) dX5_init_63 ?_
  refine sw_aload_n X dX5_init_66 rfl 0 rfl ?_
  refine sw_iconst X dX5_init_67 ?_
  refine px_put (M := upM (alM (upM (upM (alM (upM (upM (upM (alM (upM (upM (upM (upM (upM (upM (alM (alM (upM M 50 a 0 0) q1 4 0) q4 15 30) 40 q1 0 ((q4 : Int))) 41 q1 0 0) 42 q1 0 0) 43 q1 0 0) 44 q1 0 0) 51 a 0 ((q1 : Int))) q5 13 10) 52 a 0 ((q5 : Int))) 53 a 0 0) 54 a 0 10) q6 12 8) 55 a 0 ((q6 : Int))) 56 a 0 0) q7 14 40) 57 a 0 ((q7 : Int))) (f := 58) (z := 0) X iw_X5 tyX5 tyX5_ok nmX5 (List.mem_append_left _ (List.mem_append_left _ (List.mem_append_left _ (List.mem_append_left _ (List.mem_append_left _ hq.1))))) (by decide) ((alM_o _ _ _ _ _ (sw_ne (List.mem_append_left _ (List.mem_append_left _ (List.mem_append_left _ (List.mem_append_left _ hq.1)))) hq7)).trans ((alM_o _ _ _ _ _ (sw_ne (List.mem_append_left _ (List.mem_append_left _ (List.mem_append_left _ hq.1))) hq6)).trans ((alM_o _ _ _ _ _ (sw_ne (List.mem_append_left _ (List.mem_append_left _ hq.1)) hq5)).trans ((alM_o _ _ _ _ _ (sw_ne (List.mem_append_left _ hq.1) hq4)).trans ((alM_o _ _ _ _ _ (sw_ne hq.1 hq1)).trans hq.2))))) rfl 8 (by decide) gw1_65 rfl rfl (ty := .int) (by decide +kernel) rfl rfl (Nat.le_of_ble_eq_true rfl) (by decide) (pS58 _ _ _) dX5_init_68 ?_
  refine sw_aload_n X dX5_init_71 rfl 0 rfl ?_
  refine sw_bipush X dX5_init_72 (by decide +kernel) ?_
  refine px_newI X 8 (by decide) ⟨Nat.le_of_ble_eq_true rfl, Nat.le_of_ble_eq_true rfl⟩ dX5_init_74 (fun q8 hq8 => ?_)
  refine px_putF (M := alM (upM (upM (alM (upM (upM (alM (upM (upM (upM (alM (upM (upM (upM (upM (upM (upM (alM (alM (upM M 50 a 0 0) q1 4 0) q4 15 30) 40 q1 0 ((q4 : Int))) 41 q1 0 0) 42 q1 0 0) 43 q1 0 0) 44 q1 0 0) 51 a 0 ((q1 : Int))) q5 13 10) 52 a 0 ((q5 : Int))) 53 a 0 0) 54 a 0 10) q6 12 8) 55 a 0 ((q6 : Int))) 56 a 0 0) q7 14 40) 57 a 0 ((q7 : Int))) 58 a 0 0) q8 10 8) (f := 59) (z := (q8 : Int)) X hnm iw_X5 tyX5 tyX5_ok nmX5 (List.mem_append_left _ (List.mem_append_left _ (List.mem_append_left _ (List.mem_append_left _ (List.mem_append_left _ (List.mem_append_left _ hq.1)))))) (by decide) ((alM_o _ _ _ _ _ (sw_ne (List.mem_append_left _ (List.mem_append_left _ (List.mem_append_left _ (List.mem_append_left _ (List.mem_append_left _ hq.1))))) hq8)).trans ((alM_o _ _ _ _ _ (sw_ne (List.mem_append_left _ (List.mem_append_left _ (List.mem_append_left _ (List.mem_append_left _ hq.1)))) hq7)).trans ((alM_o _ _ _ _ _ (sw_ne (List.mem_append_left _ (List.mem_append_left _ (List.mem_append_left _ hq.1))) hq6)).trans ((alM_o _ _ _ _ _ (sw_ne (List.mem_append_left _ (List.mem_append_left _ hq.1)) hq5)).trans ((alM_o _ _ _ _ _ (sw_ne (List.mem_append_left _ hq.1) hq4)).trans ((alM_o _ _ _ _ _ (sw_ne hq.1 hq1)).trans hq.2)))))) rfl 9 (by decide) gw1_66 rfl rfl rfl (ty := (.array .int)) (by decide +kernel) rfl rfl (Nat.le_of_ble_eq_true rfl) (by decide) (pS59 _ _ _) dX5_init_76 ?_
  exact RV _ _ _ _ _ dX5_init_79 (Nat.le_of_ble_eq_true rfl) (Nat.le_of_ble_eq_true rfl) (ini_end hq hq1 hq4 hq5 hq6 hq7 hq8)
