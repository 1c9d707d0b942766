/-! the law from its entry -/
abbrev fs6 : List Value := [.int (J 0), .int (J 0), .int (J 0), .null, .null, .int (J 0), .null, .null, .int (J 0), .int (J 0), .null, .null, .null, .null, .null, .null, .null, .int (J 0), .null, .null, .null, .null, .null, .int (J 0), .int (J 0), .int (J 0)]
theorem dv_X6 : ∀ j, j < 26 → defaultValue (tyX6 j) = vp_V fs6 j := fun j hj => match j, hj with
  | 0, _ => rfl
  | 1, _ => rfl
  | 2, _ => rfl
  | 3, _ => rfl
  | 4, _ => rfl
  | 5, _ => rfl
  | 6, _ => rfl
  | 7, _ => rfl
  | 8, _ => rfl
  | 9, _ => rfl
  | 10, _ => rfl
  | 11, _ => rfl
  | 12, _ => rfl
  | 13, _ => rfl
  | 14, _ => rfl
  | 15, _ => rfl
  | 16, _ => rfl
  | 17, _ => rfl
  | 18, _ => rfl
  | 19, _ => rfl
  | 20, _ => rfl
  | 21, _ => rfl
  | 22, _ => rfl
  | 23, _ => rfl
  | 24, _ => rfl
  | 25, _ => rfl
  | j + 26, hj => absurd hj (by omega)
section LS
variable {p : Program} {l : Launch} {e : Env} {s : State} {m : MethodId} {args : Array Value} {below : List Frame} {meth : Method} {c : Code} {D : va_G} {A : Nat → Prop} {cells slots : Nat} {Q : State → Prop} {k : Nat → ClassId} {w : va_W} {pc : Nat} {lv : List (Nat × Value)} {st : List Value}
theorem law_new6 (X : sw_C p s m args c cL_law 7 RL WG D k A) (hcs : cells + 1 ≤ room_1.cells ∧ slots + 26 ≤ room_1.slots) (hdg : decode cL_law pc = .ok (.new 103, 3))
    (kk : ∀ q : Nat, SW p l e room_1 s m args below meth c 7 D A (cells + 1) (slots + 26) Q (w ++ [(q, .inr (6, fs6))]) (pc + 3) lv (.ref q :: st)) : SW p l e room_1 s m args below meth c 7 D A cells slots Q w pc lv st := by
  intro H locs ls hP hD hS hl
  exact va_new (ci := 6) (fs := fs6) X.1.1 X.1.2.1 (sw_ts X) iw_X6 tyX6 tyX6_ok X.1.2.2.2.1 (sw_ts X _ gw3_202) (sw_ts X _ gw3_203) (sw_ts X _ gw1_3) X.2.1 hP hD hS X.2.2.1 rfl dv_X6 hcs.1 hcs.2 hdg (fun q H1 hP1 hD1 hS1 => kk q H1 locs ls hP1 hD1 hS1 hl)
theorem law_newJ (X : sw_C p s m args c cL_law 7 RL WG D k A) (hcs : cells + 1 ≤ room_1.cells ∧ slots + 1 ≤ room_1.slots) (hdg : decode cL_law pc = .ok (.newarray .long, 2))
    (kk : ∀ q : Nat, SW p l e room_1 s m args below meth c 7 D A (cells + 1) (slots + 1) Q (w ++ [(q, oE k (fun _ => 0))]) (pc + 2) lv (.ref q :: st)) : SW p l e room_1 s m args below meth c 7 D A cells slots Q w pc lv (.int (J 1) :: st) := by
  intro H locs ls hP hD hS hl
  refine va_newa (atype := .long) (ty := .long) (N' := 1) (a0 := (1, .inr (.inl (fun _ => 0)))) X.1.1 X.1.2.1 (sw_ts X _ gw5_3) rfl X.2.1 hP hD hS X.2.2.1 (fun cA => rfl) (by decide) (by decide) (by decide) hcs.1 hcs.2 hdg (fun q cA H1 hK1 hP1 hD1 hS1 => ?_)
  have hcA := sw_cA (t := 1) hK1 rfl
  subst hcA
  exact kk q H1 locs ls hP1 hD1 hS1 hl
set_option maxHeartbeats 4000000 in
set_option maxRecDepth 100000 in
theorem law_run (hfl : l.stackTraces = false) (X : sw_C p s m args c cL_law 7 RL WG D k A) {b n : Nat} {xs : Nat → Int32} (hSc : SC b n xs s A)
    (RET : ∀ (w : va_W) (lv : List (Nat × Value)) (cells slots : Nat), cells ≤ room_1.cells → slots ≤ room_1.slots → SW p l e room_1 s m args below meth c 7 D A cells slots Q w 1798 lv [.int (J 1)]) :
    SW p l e room_1 s m args below meth c 7 D A 0 0 Q (pW k [] (fun _ _ _ => 0)) 0 [(0, .ref b)] [] := by
  refine px_new (ci := 5) (N := 10) (T := TX5) (C := RX5) X iw_X5 tyX5 tyX5_ok gw1_16 gw1_17 gw1_1 rfl (by decide) dv_X5 (al_X5 _) ⟨Nat.le_of_ble_eq_true rfl, Nat.le_of_ble_eq_true rfl⟩ dL_law_0 (fun qa hqa => ?_)
  refine sw_dup X dL_law_3 rfl ?_
  refine sw_callIV0 (As := []) (rest := [.ref qa]) X (c_X5_init l D k ([] ++ [qa]) (alM (fun _ _ _ => 0) qa ((5 : Nat) : Int) 0) qa ⟨List.mem_append_right _ List.mem_cons_self, alM_n _ _ _ _ _ _⟩) ⟨callB_of 0 (sw_ts X) (sw_goodI gw1_20) rfl rfl rfl (sw_ts X _ gw1_1) (sw_ts X _ gw1_18) (by decide +kernel) ⟨Nat.le_of_ble_eq_true rfl, Nat.le_of_ble_eq_true rfl⟩, rfl, sw_ts X _ gw1_19⟩ dL_law_4 rfl rfl (Nat.le_of_ble_eq_true rfl) ⟨Nat.le_of_ble_eq_true rfl, Nat.le_of_ble_eq_true rfl⟩ (fun w9 hp => ?_)
  obtain ⟨q, L, M, rfl, hq, hC⟩ := hp
  refine sw_astore_n (lv' := [(1, .ref qa), (0, .ref b)]) X dL_law_7 rfl (by decide) rfl ?_
  refine law_new6 X ⟨Nat.le_of_ble_eq_true rfl, Nat.le_of_ble_eq_true rfl⟩ dL_law_8 (fun qm => ?_)
  refine sw_dup X dL_law_11 rfl ?_
  refine sw_callIV (wr := pW k L M) (wc := [(qm, .inr (6, fs6))]) (As := []) (rest := [.ref qm]) X (c_X6_init l D k qm) ⟨callB_of 0 (sw_ts X) (sw_goodI gw3_206) rfl rfl rfl (sw_ts X _ gw1_3) (sw_ts X _ gw3_204) (by decide +kernel) ⟨Nat.le_of_ble_eq_true rfl, Nat.le_of_ble_eq_true rfl⟩, rfl, sw_ts X _ gw3_205⟩ dL_law_12 rfl rfl (Nat.le_of_ble_eq_true rfl) ⟨Nat.le_of_ble_eq_true rfl, Nat.le_of_ble_eq_true rfl⟩ (fun w9 hp => ?_)
  obtain ⟨ad, rfl, rfl⟩ := hp
  refine sw_astore_n (lv' := [(2, .ref (ad 0)), (1, .ref qa), (0, .ref b)]) X dL_law_15 rfl (by decide) rfl ?_
  refine sw_iconst X dL_law_16 ?_
  refine law_newJ X ⟨Nat.le_of_ble_eq_true rfl, Nat.le_of_ble_eq_true rfl⟩ dL_law_17 (fun o => ?_)
  refine sw_astore_n (lv' := [(3, .ref o), (2, .ref (ad 0)), (1, .ref qa), (0, .ref b)]) X dL_law_19 rfl (by decide) rfl ?_
  refine sw_iconst X dL_law_20 ?_
  refine sw_istore (lv' := [(4, .int (J 0)), (3, .ref o), (2, .ref (ad 0)), (1, .ref qa), (0, .ref b)]) X dL_law_21 (by decide) rfl ?_
  refine sw_sub (lv' := lawB b qa (ad 0) o 0) [4, 3, 2, 1, 0] rfl ?_
  refine sw_swap ?_
  show SW p l e room_1 s m args below meth c 7 D A _ _ Q (([(o, oE k (fun _ => 0))] ++ pW k L M) ++ mW k ad st0 (fun _ => 0) 0 0 0 0) _ _ _
  refine sw_swap ?_
  refine sw_widen (c1 := 40) (s1 := 2500) (Nat.le_of_ble_eq_true rfl) (Nat.le_of_ble_eq_true rfl) ?_
  exact law_loop hfl X hSc RET 513 0 0 0 40 2500 (by omega) (by omega) rfl rfl rfl rfl (fun _ => 0) q L M st0 (fun _ => 0) 0 0 0 0 I6_0 hC hq
end LS
set_option maxHeartbeats 4000000 in
set_option maxRecDepth 100000 in
theorem whole_start {p : Program} {e : Env} {s : State} {m : MethodId} {below : List Frame} {meth : Method} {c : Code} (l : Launch) (hflags : l.flags = flags0) {b L : Nat} {xs : Nat → Int32} (hL : L ≤ 2048) (C0 : lw_At p s m meth c b L xs) : W p l e room_1 s m #[Value.ref b] below meth c s.heap [] 0 0 (lw_Z below #[Value.ref b] s) (entryFrame m ([Value.ref b] : List Value).toArray 7) := by
  obtain ⟨hx, hb, hr, hml, hown, hts, hX, hbl, hlocks, hgv⟩ := id C0
  have hfl : l.stackTraces = false := by
    unfold Launch.stackTraces
    rw [hflags]
    decide +kernel
  obtain ⟨D, k, hK⟩ := law_K hts
  have X : sw_C p s m #[Value.ref b] c cL_law 7 RL WG D k (fun q : Nat => s.heap.size ≤ q) := ⟨⟨hx, hb, hml, hown, fun w h => hts w (WG_tbl w h)⟩, hK, fun q h => h, law_G hts hgv (fun a ha h => absurd h (Nat.not_le.mpr ha))⟩
  have hSc : SC b L xs s (fun q : Nat => s.heap.size ≤ q) := ⟨hX, hbl, Nat.not_le.mpr hbl, hL⟩
  have RET : ∀ (w : va_W) (lv : List (Nat × Value)) (cells slots : Nat), cells ≤ room_1.cells → slots ≤ room_1.slots → SW p l e room_1 s m #[Value.ref b] below meth c 7 D (fun q : Nat => s.heap.size ≤ q) cells slots (lw_Z below #[Value.ref b] s) w 1798 lv [.int (J 1)] := by
    intro w lv cells slots h1 h2 H locs ls hP hD hS hl
    refine va_forget (fun q hq => hS.2.2 q hq) ?_
    refine W.widen h1 h2 ?_
    exact lw_ret hx hb hr hlocks dL_law_1798
  have hP : va_P D vwCl (pW k [] (fun _ _ _ => 0)) s.heap := fun k q h => by simp [pW, va_pl] at h
  have hD : va_D (fun q : Nat => s.heap.size ≤ q) (pW k [] (fun _ _ _ => 0)) := ⟨fun i j p q h => by simp [pW, va_pl] at h, fun k q h => by simp [pW, va_pl] at h⟩
  have hl := lv_entry ([.ref b]) (n := 7) (Nat.le_of_ble_eq_true rfl)
  rw [lg_entry_eq]
  exact law_run hfl X hSc RET s.heap [] _ hP hD va_S.rf hl
