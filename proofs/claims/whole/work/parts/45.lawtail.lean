/-! the end of a turn of the law: both answered, now they are compared -/
/-- the law's world: the reference, the row for answers, the class -/
abbrev lawW (k : Nat → ClassId) (ad : Nat → Nat) (st : ST) (tl : Int → Int) (t x y h : Int) (o : Nat) (f : Nat → Int64) (L : List Nat) (M : MM) : va_W := mW k ad st tl t x y h ++ ([(o, oE k f)] ++ pW k L M)
abbrev lawB (b qa am o : Nat) (i : Int) : List (Nat × Value) := [(0, .ref b), (1, .ref qa), (2, .ref am), (3, .ref o), (4, .int (J i))]
/-- what the loop makes of a turn's end -/
def lawK (p : Program) (l : Launch) (e : Env) (s : State) (m : MethodId) (args : Array Value) (below : List Frame) (meth : Method) (c : Code) (D : va_G) (A : Nat → Prop) (Q : State → Prop) (k : Nat → ClassId) (ad : Nat → Nat) (b qa o : Nat) (i N : Int) (c1 s1 : Nat) : Prop :=
  ∀ (f : Nat → Int64) (q : Int → Nat) (L : List Nat) (M : MM) (st : ST) (tl : Int → Int) (t x y h : Int), I6 (N + 1) st → CW st q L M → q 0 = qa → SW p l e room_1 s m args below meth c 7 D A c1 s1 Q (lawW k ad st tl t x y h o f L M) 1791 (lawB b qa (ad 0) o i) []
section LT
variable {p : Program} {l : Launch} {e : Env} {s : State} {m : MethodId} {args : Array Value} {below : List Frame} {meth : Method} {c : Code} {D : va_G} {A : Nat → Prop} {cells slots c1 s1 : Nat} {Q : State → Prop} {k : Nat → ClassId}
set_option maxHeartbeats 4000000 in
set_option maxRecDepth 100000 in
theorem law_tailI (X : sw_C p s m args c cL_law 7 RL WG D k A) {P : Nat} {off : Int} (d0 : decode cL_law P = .ok (.aload_n 2, 1)) (d1 : decode cL_law (P + 1) = .ok (.invokevirtual 112, 3)) (d2 : decode cL_law (P + 4) = .ok (.iload 5, 2)) (d3 : decode cL_law (P + 6) = .ok (.if_icmp .eq 5, 3)) (d4 : decode cL_law (P + 11) = .ok (.iload 5, 2)) (d5 : decode cL_law (P + 13) = .ok (.ifCond .ne 15, 3)) (d6 : decode cL_law (P + 16) = .ok (.aload_n 3, 1)) (d7 : decode cL_law (P + 17) = .ok (.iconst 0, 1)) (d8 : decode cL_law (P + 18) = .ok (.laload, 1)) (d9 : decode cL_law (P + 19) = .ok (.iload 6, 2)) (d10 : decode cL_law (P + 21) = .ok (.i2l, 1)) (d11 : decode cL_law (P + 22) = .ok (.lcmp, 1)) (d12 : decode cL_law (P + 23) = .ok (.ifCond .eq 5, 3)) (d13 : decode cL_law (P + 28) = .ok (.goto off, 3)) (hoff : ((P + 28 : Nat) : Int) + off = ((1791 : Nat) : Int))
    {ad : Nat → Nat} {b o : Nat} {i N : Int} {st S : ST} {K V : Int} {val : Int64} {f : Nat → Int64} {q : Int → Nat} {L : List Nat} {M : MM} {z z2 : Int} {w9 w8 : va_W} (hI : I6 N st) (hC : CW st q L M) (hKr : 0 ≤ K ∧ K ≤ 3) (hIS : K = 0 → I6 (N + 1) S) (hV : val = (J V).toInt64) (hp : hP k o f L M q S K val z w9) (hp2 : oP k ad st S K V z2 w8) (hcs : cells ≤ room_1.cells ∧ slots ≤ room_1.slots) (h1 : cells ≤ c1) (h2 : slots ≤ s1)
    (KK : lawK p l e s m args below meth c D A Q k ad b (q 0) o i N c1 s1) : SW p l e room_1 s m args below meth c 7 D A cells slots Q (w9 ++ w8) P ((6, .int (J z2)) :: (5, .int (J z)) :: lawB b (q 0) (ad 0) o i) [] := by
  rcases hp2 with ⟨tl', t', x', y', h', rfl, ht0, htK⟩ | ⟨tl', x', y', h', rfl, hK0, hV2⟩
  · rcases hp with ⟨hK, -⟩ | ⟨hK, hz, rfl⟩
    · exact absurd hK (by omega)
    obtain rfl : z = t' := by omega
    refine sw_aload_n X d0 rfl 4 rfl ?_
    refine sw_callVI (As := []) (rest := []) X (c_X6_thrown l D k ad st tl' z x' y' h') (cwV 0 (sw_ts X) (sw_goodV gw4_47 gw4_48 gw4_49 gw1_3 gw4_50) rfl rfl rfl (by decide +kernel) ⟨Nat.le_of_ble_eq_true rfl, Nat.le_of_ble_eq_true rfl⟩) 0 (ci := 6) rfl rfl rfl d1 rfl rfl (Nat.le_of_ble_eq_true rfl) ⟨hcs.1, hcs.2⟩ (fun z3 w7 hp3 => ?_)
    obtain ⟨rfl, rfl⟩ := hp3
    refine sw_iload X d2 1 rfl ?_
    refine sw_icmp_eqT X d3 (tgt := P + 11) (by omega) ?_
    refine sw_iload X d4 1 rfl ?_
    refine sw_if_ne (tgt := P + 28) X (by omega) d5 (by omega) (fun _ => ?_) (fun h => absurd h ht0)
    refine sw_goto (tgt := 1791) X d13 hoff ?_
    refine sw_sub [2, 3, 4, 5, 6] rfl ?_
    refine sw_swap (sw_widen h1 h2 ?_)
    exact KK f q L M st tl' z3 x' y' h' (I_mono hI (by omega)) hC rfl
  · rcases hp with ⟨-, hz, f', q', L', M', rfl, hf, hq, hC'⟩ | ⟨hK, -⟩
    rotate_left
    · exact absurd hK0 hK
    subst hz
    subst hV2
    refine sw_aload_n X d0 rfl 4 rfl ?_
    refine sw_callVI (As := []) (rest := []) X (c_X6_thrown l D k ad S tl' 0 x' y' h') (cwV 0 (sw_ts X) (sw_goodV gw4_47 gw4_48 gw4_49 gw1_3 gw4_50) rfl rfl rfl (by decide +kernel) ⟨Nat.le_of_ble_eq_true rfl, Nat.le_of_ble_eq_true rfl⟩) 0 (ci := 6) rfl rfl rfl d1 rfl rfl (Nat.le_of_ble_eq_true rfl) ⟨hcs.1, hcs.2⟩ (fun z3 w7 hp3 => ?_)
    obtain ⟨rfl, rfl⟩ := hp3
    refine sw_iload X d2 1 rfl ?_
    refine sw_icmp_eqT X d3 (tgt := P + 11) (by omega) ?_
    refine sw_iload X d4 1 rfl ?_
    refine sw_if_ne (tgt := P + 28) X (by omega) d5 (by omega) (fun h => absurd rfl h) (fun _ => ?_)
    refine sw_aload_n X d6 rfl 5 rfl ?_
    refine sw_iconst X d7 ?_
    refine sw_lald (q0 := 0) X rfl d8 ?_
    rw [hf, hV]
    refine sw_iload X d9 0 rfl ?_
    refine sw_i2l X d10 ?_
    refine sw_lcmp X d11 ?_
    refine sw_if_eq (tgt := P + 28) X (by omega) d12 (by omega) (fun _ => ?_) (fun h => absurd rfl h)
    refine sw_goto (tgt := 1791) X d13 hoff ?_
    refine sw_sub [2, 3, 4, 5, 6] rfl ?_
    refine sw_swap (sw_widen h1 h2 ?_)
    exact KK f' q' L' M' S tl' 0 x' y' h' (hIS hK0) hC' hq
set_option maxHeartbeats 4000000 in
set_option maxRecDepth 100000 in
theorem law_tailZ (X : sw_C p s m args c cL_law 7 RL WG D k A) {P : Nat} {off : Int} (d0 : decode cL_law P = .ok (.aload_n 2, 1)) (d1 : decode cL_law (P + 1) = .ok (.invokevirtual 112, 3)) (d2 : decode cL_law (P + 4) = .ok (.iload 5, 2)) (d3 : decode cL_law (P + 6) = .ok (.if_icmp .eq 5, 3)) (d4 : decode cL_law (P + 11) = .ok (.iload 5, 2)) (d5 : decode cL_law (P + 13) = .ok (.ifCond .ne 22, 3)) (d6 : decode cL_law (P + 16) = .ok (.aload_n 3, 1)) (d7 : decode cL_law (P + 17) = .ok (.iconst 0, 1)) (d8 : decode cL_law (P + 18) = .ok (.laload, 1)) (d9 : decode cL_law (P + 19) = .ok (.iload 6, 2)) (d10 : decode cL_law (P + 21) = .ok (.ifCond .eq 7, 3)) (d11 : decode cL_law (P + 24) = .ok (.lconst 1, 1)) (d12 : decode cL_law (P + 25) = .ok (.goto 4, 3)) (d13 : decode cL_law (P + 28) = .ok (.lconst 0, 1)) (d14 : decode cL_law (P + 29) = .ok (.lcmp, 1)) (d15 : decode cL_law (P + 30) = .ok (.ifCond .eq 5, 3)) (d16 : decode cL_law (P + 35) = .ok (.goto off, 3)) (hoff : ((P + 35 : Nat) : Int) + off = ((1791 : Nat) : Int))
    {ad : Nat → Nat} {b o : Nat} {i N : Int} {st S : ST} {K V : Int} {val : Int64} {f : Nat → Int64} {q : Int → Nat} {L : List Nat} {M : MM} {z z2 : Int} {w9 w8 : va_W} (hI : I6 N st) (hC : CW st q L M) (hKr : 0 ≤ K ∧ K ≤ 3) (hIS : K = 0 → I6 (N + 1) S) (hV : val = if V = 0 then 0 else 1) (hVr : V = 0 ∨ V = 1) (hp : hP k o f L M q S K val z w9) (hp2 : oP k ad st S K V z2 w8) (hcs : cells ≤ room_1.cells ∧ slots ≤ room_1.slots) (h1 : cells ≤ c1) (h2 : slots ≤ s1)
    (KK : lawK p l e s m args below meth c D A Q k ad b (q 0) o i N c1 s1) : SW p l e room_1 s m args below meth c 7 D A cells slots Q (w9 ++ w8) P ((6, .int (J z2)) :: (5, .int (J z)) :: lawB b (q 0) (ad 0) o i) [] := by
  rcases hp2 with ⟨tl', t', x', y', h', rfl, ht0, htK⟩ | ⟨tl', x', y', h', rfl, hK0, hV2⟩
  · rcases hp with ⟨hK, -⟩ | ⟨hK, hz, rfl⟩
    · exact absurd hK (by omega)
    obtain rfl : z = t' := by omega
    refine sw_aload_n X d0 rfl 4 rfl ?_
    refine sw_callVI (As := []) (rest := []) X (c_X6_thrown l D k ad st tl' z x' y' h') (cwV 0 (sw_ts X) (sw_goodV gw4_47 gw4_48 gw4_49 gw1_3 gw4_50) rfl rfl rfl (by decide +kernel) ⟨Nat.le_of_ble_eq_true rfl, Nat.le_of_ble_eq_true rfl⟩) 0 (ci := 6) rfl rfl rfl d1 rfl rfl (Nat.le_of_ble_eq_true rfl) ⟨hcs.1, hcs.2⟩ (fun z3 w7 hp3 => ?_)
    obtain ⟨rfl, rfl⟩ := hp3
    refine sw_iload X d2 1 rfl ?_
    refine sw_icmp_eqT X d3 (tgt := P + 11) (by omega) ?_
    refine sw_iload X d4 1 rfl ?_
    refine sw_if_ne (tgt := P + 35) X (by omega) d5 (by omega) (fun _ => ?_) (fun h => absurd h ht0)
    refine sw_goto (tgt := 1791) X d16 hoff ?_
    refine sw_sub [2, 3, 4, 5, 6] rfl ?_
    refine sw_swap (sw_widen h1 h2 ?_)
    exact KK f q L M st tl' z3 x' y' h' (I_mono hI (by omega)) hC rfl
  · rcases hp with ⟨-, hz, f', q', L', M', rfl, hf, hq, hC'⟩ | ⟨hK, -⟩
    rotate_left
    · exact absurd hK0 hK
    subst hz
    subst hV2
    refine sw_aload_n X d0 rfl 4 rfl ?_
    refine sw_callVI (As := []) (rest := []) X (c_X6_thrown l D k ad S tl' 0 x' y' h') (cwV 0 (sw_ts X) (sw_goodV gw4_47 gw4_48 gw4_49 gw1_3 gw4_50) rfl rfl rfl (by decide +kernel) ⟨Nat.le_of_ble_eq_true rfl, Nat.le_of_ble_eq_true rfl⟩) 0 (ci := 6) rfl rfl rfl d1 rfl rfl (Nat.le_of_ble_eq_true rfl) ⟨hcs.1, hcs.2⟩ (fun z3 w7 hp3 => ?_)
    obtain ⟨rfl, rfl⟩ := hp3
    refine sw_iload X d2 1 rfl ?_
    refine sw_icmp_eqT X d3 (tgt := P + 11) (by omega) ?_
    refine sw_iload X d4 1 rfl ?_
    refine sw_if_ne (tgt := P + 35) X (by omega) d5 (by omega) (fun h => absurd rfl h) (fun _ => ?_)
    refine sw_aload_n X d6 rfl 5 rfl ?_
    refine sw_iconst X d7 ?_
    refine sw_lald (q0 := 0) X rfl d8 ?_
    rw [hf, hV]
    refine sw_iload X d9 0 rfl ?_
    refine sw_if_eq (tgt := P + 28) X (by omega) d10 (by omega) (fun hv => ?_) (fun hv => ?_)
    · rw [if_pos hv]
      refine sw_lconst (v := 0) X d13 rfl ?_
      refine sw_lcmp X d14 ?_
      refine sw_if_eq (tgt := P + 35) X (by omega) d15 (by omega) (fun _ => ?_) (fun h => absurd rfl h)
      refine sw_goto (tgt := 1791) X d16 hoff ?_
      refine sw_sub [2, 3, 4, 5, 6] rfl ?_
      refine sw_swap (sw_widen h1 h2 ?_)
      exact KK f' q' L' M' S tl' 0 x' y' h' (hIS hK0) hC' hq
    · rw [if_neg hv]
      refine sw_lconst (v := 1) X d11 rfl ?_
      refine sw_goto (tgt := P + 29) X d12 (by omega) ?_
      refine sw_lcmp X d14 ?_
      refine sw_if_eq (tgt := P + 35) X (by omega) d15 (by omega) (fun _ => ?_) (fun h => absurd rfl h)
      refine sw_goto (tgt := 1791) X d16 hoff ?_
      refine sw_sub [2, 3, 4, 5, 6] rfl ?_
      refine sw_swap (sw_widen h1 h2 ?_)
      exact KK f' q' L' M' S tl' 0 x' y' h' (hIS hK0) hC' hq
set_option maxHeartbeats 4000000 in
set_option maxRecDepth 100000 in
theorem law_tailV (X : sw_C p s m args c cL_law 7 RL WG D k A) {P : Nat} {off : Int} (d0 : decode cL_law P = .ok (.aload_n 2, 1)) (d1 : decode cL_law (P + 1) = .ok (.invokevirtual 112, 3)) (d2 : decode cL_law (P + 4) = .ok (.iload 5, 2)) (d3 : decode cL_law (P + 6) = .ok (.if_icmp .eq 5, 3)) (d4 : decode cL_law (P + 11) = .ok (.goto off, 3)) (hoff : ((P + 11 : Nat) : Int) + off = ((1791 : Nat) : Int))
    {ad : Nat → Nat} {b o : Nat} {i N : Int} {st S : ST} {K V : Int} {val : Int64} {f : Nat → Int64} {q : Int → Nat} {L : List Nat} {M : MM} {z z2 : Int} {w9 w8 : va_W} (hI : I6 N st) (hC : CW st q L M) (hKr : 0 ≤ K ∧ K ≤ 3) (hIS : K = 0 → I6 (N + 1) S) (hp : hP k o f L M q S K val z w9) (hp2 : oP k ad st S K V z2 w8) (hcs : cells ≤ room_1.cells ∧ slots ≤ room_1.slots) (h1 : cells ≤ c1) (h2 : slots ≤ s1)
    (KK : lawK p l e s m args below meth c D A Q k ad b (q 0) o i N c1 s1) : SW p l e room_1 s m args below meth c 7 D A cells slots Q (w9 ++ w8) P ((5, .int (J z)) :: lawB b (q 0) (ad 0) o i) [] := by
  rcases hp2 with ⟨tl', t', x', y', h', rfl, ht0, htK⟩ | ⟨tl', x', y', h', rfl, hK0, hV2⟩
  · rcases hp with ⟨hK, -⟩ | ⟨hK, hz, rfl⟩
    · exact absurd hK (by omega)
    obtain rfl : z = t' := by omega
    refine sw_aload_n X d0 rfl 3 rfl ?_
    refine sw_callVI (As := []) (rest := []) X (c_X6_thrown l D k ad st tl' z x' y' h') (cwV 0 (sw_ts X) (sw_goodV gw4_47 gw4_48 gw4_49 gw1_3 gw4_50) rfl rfl rfl (by decide +kernel) ⟨Nat.le_of_ble_eq_true rfl, Nat.le_of_ble_eq_true rfl⟩) 0 (ci := 6) rfl rfl rfl d1 rfl rfl (Nat.le_of_ble_eq_true rfl) ⟨hcs.1, hcs.2⟩ (fun z3 w7 hp3 => ?_)
    obtain ⟨rfl, rfl⟩ := hp3
    refine sw_iload X d2 0 rfl ?_
    refine sw_icmp_eqT X d3 (tgt := P + 11) (by omega) ?_
    refine sw_goto (tgt := 1791) X d4 hoff ?_
    refine sw_sub [1, 2, 3, 4, 5] rfl ?_
    refine sw_swap (sw_widen h1 h2 ?_)
    exact KK f q L M st tl' z3 x' y' h' (I_mono hI (by omega)) hC rfl
  · rcases hp with ⟨-, hz, f', q', L', M', rfl, hf, hq, hC'⟩ | ⟨hK, -⟩
    rotate_left
    · exact absurd hK0 hK
    subst hz
    subst hV2
    refine sw_aload_n X d0 rfl 3 rfl ?_
    refine sw_callVI (As := []) (rest := []) X (c_X6_thrown l D k ad S tl' 0 x' y' h') (cwV 0 (sw_ts X) (sw_goodV gw4_47 gw4_48 gw4_49 gw1_3 gw4_50) rfl rfl rfl (by decide +kernel) ⟨Nat.le_of_ble_eq_true rfl, Nat.le_of_ble_eq_true rfl⟩) 0 (ci := 6) rfl rfl rfl d1 rfl rfl (Nat.le_of_ble_eq_true rfl) ⟨hcs.1, hcs.2⟩ (fun z3 w7 hp3 => ?_)
    obtain ⟨rfl, rfl⟩ := hp3
    refine sw_iload X d2 0 rfl ?_
    refine sw_icmp_eqT X d3 (tgt := P + 11) (by omega) ?_
    refine sw_goto (tgt := 1791) X d4 hoff ?_
    refine sw_sub [1, 2, 3, 4, 5] rfl ?_
    refine sw_swap (sw_widen h1 h2 ?_)
    exact KK f' q' L' M' S tl' 0 x' y' h' (hIS hK0) hC' hq
end LT
