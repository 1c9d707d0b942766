/-! the loop of the law -/
/-- the room that the Statement names is wide enough: read off room_1 itself, whatever its numbers are -/
theorem rm_c : 5200 ≤ room_1.cells := Nat.le_of_ble_eq_true rfl
theorem rm_s : 53800 ≤ room_1.slots := Nat.le_of_ble_eq_true rfl
section LO
variable {p : Program} {l : Launch} {e : Env} {s : State} {m : MethodId} {args : Array Value} {below : List Frame} {meth : Method} {c : Code} {D : va_G} {A : Nat → Prop} {Q : State → Prop} {k : Nat → ClassId}
set_option maxHeartbeats 8000000 in
set_option maxRecDepth 100000 in
theorem law_loop (hfl : l.stackTraces = false) (X : sw_C p s m args c cL_law 7 RL WG D k A) {ad : Nat → Nat} {b o n qa : Nat} {xs : Nat → Int32} (hSc : SC b n xs s A)
    (RET : ∀ (w : va_W) (lv : List (Nat × Value)) (cells slots : Nat), cells ≤ room_1.cells → slots ≤ room_1.slots → SW p l e room_1 s m args below meth c 7 D A cells slots Q w 1798 lv [.int (J 1)]) :
    ∀ (fuel j : Nat) (i N : Int) (cells slots : Nat), 512 < j + fuel → j ≤ 512 → i = 4 * (j : Int) → N = (j : Int) → cells = 40 + 10 * j → slots = 2500 + 100 * j →
    ∀ (f : Nat → Int64) (q : Int → Nat) (L : List Nat) (M : MM) (st : ST) (tl : Int → Int) (t x y h : Int), I6 N st → CW st q L M → q 0 = qa → SW p l e room_1 s m args below meth c 7 D A cells slots Q (lawW k ad st tl t x y h o f L M) 23 (lawB b qa (ad 0) o i) [] := by
  intro fuel
  induction fuel with
  | zero => intro j i N cells slots h1 h2; omega
  | succ fuel ih =>
    intro j i N cells slots h1 h2 h3 h4 h5 h6 f q L M st tl t x y h hI hC hq
    have hn := hSc.2.2.2
    have hrc := rm_c
    have hrs := rm_s
    refine sw_iload X dL_law_23 4 rfl ?_
    refine sw_aload_n X dL_law_25 rfl 0 rfl ?_
    refine sw_slen X hSc dL_law_26 ?_
    refine sw_iconst X dL_law_27 ?_
    refine sw_isub X dL_law_28 ?_
    refine sw_icmp_gt (tgt := 1797) X (by omega) (by omega) dL_law_29 (by decide) (fun h7 => ?_) (fun h7 => ?_)
    · refine sw_iconst X dL_law_1797 ?_
      exact RET _ _ _ _ (by omega) (by omega)
    have KK : lawK p l e s m args below meth c D A Q k ad b qa o i N (cells + 10) (slots + 100) := by
      intro f2 q2 L2 M2 st2 tl2 t2 x2 y2 h2' hI2 hC2 hq2
      refine sw_iinc (lv' := [(4, .int (J (i + 4))), (0, .ref b), (1, .ref qa), (2, .ref (ad 0)), (3, .ref o)]) X dL_law_1791 4 rfl (by decide) rfl ?_
      refine sw_goto (tgt := 23) X dL_law_1794 (by decide) ?_
      refine sw_sub (lv' := lawB b qa (ad 0) o (i + 4)) [1, 2, 3, 4, 0] rfl ?_
      exact ih (j + 1) (i + 4) (N + 1) (cells + 10) (slots + 100) (by omega) (by omega) (by omega) (by omega) (by omega) (by omega) f2 q2 L2 M2 st2 tl2 t2 x2 y2 h2' hI2 hC2 hq2
    have hN : 0 ≤ N ∧ N < 512 := by omega
    have hi : 0 ≤ i ∧ i + 4 ≤ (n : Int) := by omega
    have hcs : cells + 10 ≤ room_1.cells ∧ slots + 100 ≤ room_1.slots := by omega
    clear ih h1 h2 h3 h4 h5 h6 h7 hrc hrs
    subst hq
    refine sw_aload_n X dL_law_32 rfl 0 rfl ?_
    refine sw_iload X dL_law_33 4 rfl ?_
    refine sw_sld X hSc (by omega) (by omega) dL_law_35 ?_
    refine sw_bipush X dL_law_36 rfl ?_
    refine sw_mask X dL_law_38 (fun z hz0 hz1 => ?_)
    by_cases hz : z ≤ 26
    · have hz2 : z = 0 ∨ z = 1 ∨ z = 2 ∨ z = 3 ∨ z = 4 ∨ z = 5 ∨ z = 6 ∨ z = 7 ∨ z = 8 ∨ z = 9 ∨ z = 10 ∨ z = 11 ∨ z = 12 ∨ z = 13 ∨ z = 14 ∨ z = 15 ∨ z = 16 ∨ z = 17 ∨ z = 18 ∨ z = 19 ∨ z = 20 ∨ z = 21 ∨ z = 22 ∨ z = 23 ∨ z = 24 ∨ z = 25 ∨ z = 26 := by omega
      clear hz hz0 hz1
      rcases hz2 with rfl | rfl | rfl | rfl | rfl | rfl | rfl | rfl | rfl | rfl | rfl | rfl | rfl | rfl | rfl | rfl | rfl | rfl | rfl | rfl | rfl | rfl | rfl | rfl | rfl | rfl | rfl
      · exact sw_tabIn (off := 121) (tgt := 160) X (by decide) dL_law_39 (by decide) (by decide) rfl (by decide) (law_t_setStart hfl X hSc hi hN hI hC hcs KK)
      · exact sw_tabIn (off := 177) (tgt := 216) X (by decide) dL_law_39 (by decide) (by decide) rfl (by decide) (law_t_addEntry hfl X hSc hi hN hI hC hcs KK)
      · exact sw_tabIn (off := 245) (tgt := 284) X (by decide) dL_law_39 (by decide) (by decide) rfl (by decide) (law_t_addGate hfl X hSc hi hN hI hC hcs KK)
      · exact sw_tabIn (off := 313) (tgt := 352) X (by decide) dL_law_39 (by decide) (by decide) rfl (by decide) (law_t_cut hfl X hSc hi hN hI hC hcs KK)
      · exact sw_tabIn (off := 369) (tgt := 408) X (by decide) dL_law_39 (by decide) (by decide) rfl (by decide) (law_t_enter hfl X hSc hi hN hI hC hcs KK)
      · exact sw_tabIn (off := 413) (tgt := 452) X (by decide) dL_law_39 (by decide) (by decide) rfl (by decide) (law_t_drive hfl X hSc hi hN hI hC hcs KK)
      · exact sw_tabIn (off := 493) (tgt := 532) X (by decide) dL_law_39 (by decide) (by decide) rfl (by decide) (law_t_stand hfl X hSc hi hN hI hC hcs KK)
      · exact sw_tabIn (off := 561) (tgt := 600) X (by decide) dL_law_39 (by decide) (by decide) rfl (by decide) (law_t_breakDown hfl X hSc hi hN hI hC hcs KK)
      · exact sw_tabIn (off := 609) (tgt := 648) X (by decide) dL_law_39 (by decide) (by decide) rfl (by decide) (law_t_mend hfl X hSc hi hN hI hC hcs KK)
      · exact sw_tabIn (off := 665) (tgt := 704) X (by decide) dL_law_39 (by decide) (by decide) rfl (by decide) (law_t_bring hfl X hSc hi hN hI hC hcs KK)
      · exact sw_tabIn (off := 733) (tgt := 772) X (by decide) dL_law_39 (by decide) (by decide) rfl (by decide) (law_t_hand hfl X hSc hi hN hI hC hcs KK)
      · exact sw_tabIn (off := 801) (tgt := 840) X (by decide) dL_law_39 (by decide) (by decide) rfl (by decide) (law_t_record hfl X hSc hi hN hI hC hcs KK)
      · exact sw_tabIn (off := 881) (tgt := 920) X (by decide) dL_law_39 (by decide) (by decide) rfl (by decide) (law_t_appeal hfl X hSc hi hN hI hC hcs KK)
      · exact sw_tabIn (off := 956) (tgt := 995) X (by decide) dL_law_39 (by decide) (by decide) rfl (by decide) (law_t_gates hfl X hSc hi hN hI hC hcs KK)
      · exact sw_tabIn (off := 969) (tgt := 1008) X (by decide) dL_law_39 (by decide) (by decide) rfl (by decide) (law_t_cellOf hfl X hSc hi hN hI hC hcs KK)
      · exact sw_tabIn (off := 1025) (tgt := 1064) X (by decide) dL_law_39 (by decide) (by decide) rfl (by decide) (law_t_due hfl X hSc hi hN hI hC hcs KK)
      · exact sw_tabIn (off := 1081) (tgt := 1120) X (by decide) dL_law_39 (by decide) (by decide) rfl (by decide) (law_t_followed hfl X hSc hi hN hI hC hcs KK)
      · exact sw_tabIn (off := 1137) (tgt := 1176) X (by decide) dL_law_39 (by decide) (by decide) rfl (by decide) (law_t_cellAt hfl X hSc hi hN hI hC hcs KK)
      · exact sw_tabIn (off := 1205) (tgt := 1244) X (by decide) dL_law_39 (by decide) (by decide) rfl (by decide) (law_t_clock hfl X hSc hi hN hI hC hcs KK)
      · exact sw_tabIn (off := 1261) (tgt := 1300) X (by decide) dL_law_39 (by decide) (by decide) rfl (by decide) (law_t_byTrack hfl X hSc hi hN hI hC hcs KK)
      · exact sw_tabIn (off := 1329) (tgt := 1368) X (by decide) dL_law_39 (by decide) (by decide) rfl (by decide) (law_t_byMinutes hfl X hSc hi hN hI hC hcs KK)
      · exact sw_tabIn (off := 1397) (tgt := 1436) X (by decide) dL_law_39 (by decide) (by decide) rfl (by decide) (law_t_time hfl X hSc hi hN hI hC hcs KK)
      · exact sw_tabIn (off := 1465) (tgt := 1504) X (by decide) dL_law_39 (by decide) (by decide) rfl (by decide) (law_t_points hfl X hSc hi hN hI hC hcs KK)
      · exact sw_tabIn (off := 1521) (tgt := 1560) X (by decide) dL_law_39 (by decide) (by decide) rfl (by decide) (law_t_table hfl X hSc hi hN hI hC hcs KK)
      · exact sw_tabIn (off := 1577) (tgt := 1616) X (by decide) dL_law_39 (by decide) (by decide) rfl (by decide) (law_t_where hfl X hSc hi hN hI hC hcs KK)
      · exact sw_tabIn (off := 1633) (tgt := 1672) X (by decide) dL_law_39 (by decide) (by decide) rfl (by decide) (law_t_lent hfl X hSc hi hN hI hC hcs KK)
      · exact sw_tabIn (off := 1689) (tgt := 1728) X (by decide) dL_law_39 (by decide) (by decide) rfl (by decide) (law_t_isBroken hfl X hSc hi hN hI hC hcs KK)
    · exact sw_tabOut (tgt := 1791) X (by omega) dL_law_39 (Or.inr (by omega)) (by decide) (sw_widen (by omega) (by omega) (KK f q L M st tl t x y h (I_mono hI (by omega)) hC rfl))
end LO
