/-! what the tables and the premises say at the law's start: the classes, the statics, the texts, the casts -/
theorem tb_1 {w : Cond} {i : Nat} (h : tables_1_1[i]? = some w) : w ∈ lw_tbl := List.mem_append_right _ (List.mem_append_left _ (List.mem_of_getElem? h))
theorem tb_2 {w : Cond} {i : Nat} (h : tables_1_2[i]? = some w) : w ∈ lw_tbl := List.mem_append_right _ (List.mem_append_right _ (List.mem_append_left _ (List.mem_of_getElem? h)))
theorem tb_3 {w : Cond} {i : Nat} (h : tables_1_3[i]? = some w) : w ∈ lw_tbl := List.mem_append_right _ (List.mem_append_right _ (List.mem_append_right _ (List.mem_append_left _ (List.mem_of_getElem? h))))
theorem tb_4 {w : Cond} {i : Nat} (h : tables_1_4[i]? = some w) : w ∈ lw_tbl := List.mem_append_right _ (List.mem_append_right _ (List.mem_append_right _ (List.mem_append_right _ (List.mem_append_left _ (List.mem_of_getElem? h)))))
theorem tb_5 {w : Cond} {i : Nat} (h : tables_1_5[i]? = some w) : w ∈ lw_tbl := List.mem_append_right _ (List.mem_append_right _ (List.mem_append_right _ (List.mem_append_right _ (List.mem_append_right _ (List.mem_of_getElem? h)))))
section LB
variable {args : Array Value} {s : State}
theorem law_arrI (h : (Cond.arrayClass .int).before args s = true) : ∃ cA : ClassId, ArrOfT s cA .int ∧ va_RA s cA .int := by
  obtain ⟨c, k, comp, h1, h2, h3⟩ := Cond.arrayClass_spec h
  exact ⟨c, fun n z => ⟨fun k h => (by cases h), k, h2, comp, h3⟩, h1⟩
theorem law_arrJ (h : (Cond.arrayClass .long).before args s = true) : ∃ cA : ClassId, ArrOfT s cA .long ∧ va_RA s cA .long := by
  obtain ⟨c, k, comp, h1, h2, h3⟩ := Cond.arrayClass_spec h
  exact ⟨c, fun n z => ⟨fun k h => (by cases h), k, h2, comp, h3⟩, h1⟩
theorem law_arrO {C : String} (h : (Cond.arrayOver (.object C)).before args s = true) : ∃ cA : ClassId, ArrOfT s cA (.object C) ∧ va_RA s cA (.object C) := by
  obtain ⟨comp, c, k, h1, h2, h3, h4, h5⟩ := Cond.arrayOver_spec h
  exact ⟨c, fun N z => ⟨fun k h => (by cases h), k, h3, comp, h4⟩, k, comp, h3, h4, h1, h5⟩
theorem law_str {own tx : String} {k : Nat} (h1 : (Cond.stringRef own k tx).before args s = true) (h2 : (Cond.exactly (.string own k) "java/lang/String").before args s = true) : ∃ a, vk_R own k tx a s := by
  obtain ⟨a, c, cell, k', q1, -⟩ := Cond.exactly_spec h2
  exact ⟨a, vk_R.of h1 q1⟩
theorem law_K (hts : ∀ w ∈ lw_tbl, w.before args s = true) : ∃ (D : va_G) (k : Nat → ClassId), va_K D vwCl (TYS k) s := by
  obtain ⟨c0, i0, h0⟩ := u_known (C := RX0) (T := TX0) (N := 4) (n := 4) hts (fun w h => WG_tbl w (iw_X0 w h)) (hts _ (WG_tbl _ gw2_106))
  obtain ⟨c1, i1, h1⟩ := u_known (C := RX1) (T := TX1) (N := 3) (n := 3) hts (fun w h => WG_tbl w (iw_X1 w h)) (hts _ (WG_tbl _ gw2_72))
  obtain ⟨c2, i2, h2⟩ := u_known (C := RX2) (T := TX2) (N := 4) (n := 4) hts (fun w h => WG_tbl w (iw_X2 w h)) (hts _ (WG_tbl _ gw2_219))
  obtain ⟨c3, i3, h3⟩ := u_known (C := RX3) (T := TX3) (N := 6) (n := 6) hts (fun w h => WG_tbl w (iw_X3 w h)) (hts _ (WG_tbl _ gw1_224))
  obtain ⟨c4, i4, h4⟩ := u_known (C := RX4) (T := TX4) (N := 5) (n := 5) hts (fun w h => WG_tbl w (iw_X4 w h)) (hts _ (WG_tbl _ gw1_25))
  obtain ⟨c5, i5, h5⟩ := u_known (C := RX5) (T := TX5) (N := 10) (n := 10) hts (fun w h => WG_tbl w (iw_X5 w h)) (hts _ (WG_tbl _ gw1_17))
  obtain ⟨c6, i6, h6⟩ := u_known (C := RX6) (T := TX6) (N := 26) (n := 26) hts (fun w h => WG_tbl w (iw_X6 w h)) (hts _ (WG_tbl _ gw3_203))
  obtain ⟨a0, e0⟩ := law_arrI (hts _ (WG_tbl _ gw1_88))
  obtain ⟨a1, e1⟩ := law_arrJ (hts _ (WG_tbl _ gw5_3))
  obtain ⟨a2, e2⟩ := law_arrO (C := RX0) (hts _ (tb_1 (i := 54) rfl))
  obtain ⟨a3, e3⟩ := law_arrO (C := RX1) (hts _ (tb_1 (i := 52) rfl))
  obtain ⟨a4, e4⟩ := law_arrO (C := RX2) (hts _ (tb_1 (i := 56) rfl))
  obtain ⟨a5, e5⟩ := law_arrO (C := RX3) (hts _ (tb_1 (i := 31) rfl))
  refine ⟨(fun j => match j with | 0 => c0 | 1 => c1 | 2 => c2 | 3 => c3 | 4 => c4 | 5 => c5 | _ => c6, fun j => match j with | 0 => i0 | 1 => i1 | 2 => i2 | 3 => i3 | 4 => i4 | 5 => i5 | _ => i6), fun j => match j with | 0 => a0 | 1 => a1 | 2 => a2 | 3 => a3 | 4 => a4 | _ => a5, fun c q hq => ?_, fun c q hq => ?_⟩
  · match c, hq with
    | 0, hq => cases hq; exact h0
    | 1, hq => cases hq; exact h1
    | 2, hq => cases hq; exact h2
    | 3, hq => cases hq; exact h3
    | 4, hq => cases hq; exact h4
    | 5, hq => cases hq; exact h5
    | 6, hq => cases hq; exact h6
    | c + 7, hq => simp at hq
  · match c, hq with
    | 0, hq => cases hq; exact e0
    | 1, hq => cases hq; exact e1
    | 2, hq => cases hq; exact e2
    | 3, hq => cases hq; exact e3
    | 4, hq => cases hq; exact e4
    | 5, hq => cases hq; exact e5
    | c + 6, hq => simp at hq
theorem law_T1 (hts : ∀ w ∈ lw_tbl, w.before args s = true) (hgv : (Jvm.Cond.and given_1 narrow_1).before args s = true) : ∀ q ∈ cTx, ∃ a, vk_R RX5 q.1 q.2 a s := by
  have hs := flat_of_before _ hgv
  intro q hq
  simp only [cTx, List.mem_cons, List.not_mem_nil, or_false] at hq
  rcases hq with rfl | rfl | rfl | rfl | rfl | rfl | rfl | rfl
  · exact law_str (hts _ (tb_2 (i := 197) rfl)) (hs (Cond.exactly (.string "OriginRally" 137) "java/lang/String") (by decide +kernel))
  · exact law_str (hts _ (tb_2 (i := 170) rfl)) (hs (Cond.exactly (.string "OriginRally" 220) "java/lang/String") (by decide +kernel))
  · exact law_str (hts _ (tb_1 (i := 150) rfl)) (hs (Cond.exactly (.string "OriginRally" 225) "java/lang/String") (by decide +kernel))
  · exact law_str (hts _ (tb_1 (i := 189) rfl)) (hs (Cond.exactly (.string "OriginRally" 230) "java/lang/String") (by decide +kernel))
  · exact law_str (hts _ (tb_2 (i := 56) rfl)) (hs (Cond.exactly (.string "OriginRally" 236) "java/lang/String") (by decide +kernel))
  · exact law_str (hts _ (tb_2 (i := 71) rfl)) (hs (Cond.exactly (.string "OriginRally" 238) "java/lang/String") (by decide +kernel))
  · exact law_str (hts _ (tb_2 (i := 144) rfl)) (hs (Cond.exactly (.string "OriginRally" 240) "java/lang/String") (by decide +kernel))
  · exact law_str (hts _ (tb_2 (i := 187) rfl)) (hs (Cond.exactly (.string "OriginRally" 242) "java/lang/String") (by decide +kernel))
theorem law_T2 (hts : ∀ w ∈ lw_tbl, w.before args s = true) : ∀ q ∈ cNF, va_Nw (.fieldLinkNest q.1 q.2.1 q.2.2.1 q.2.2.2.1 q.2.2.2.2.1 q.2.2.2.2.2) s := by
  intro q hq
  simp only [cNF, List.mem_cons, List.not_mem_nil, or_false] at hq
  rcases hq with rfl | rfl | rfl | rfl | rfl | rfl | rfl | rfl | rfl | rfl | rfl | rfl | rfl | rfl | rfl | rfl | rfl | rfl | rfl
  · exact va_Nw.of rfl (hts _ (tb_1 (i := 34) rfl))
  · exact va_Nw.of rfl (hts _ (tb_1 (i := 36) rfl))
  · exact va_Nw.of rfl (hts _ (tb_1 (i := 39) rfl))
  · exact va_Nw.of rfl (hts _ (tb_1 (i := 215) rfl))
  · exact va_Nw.of rfl (hts _ (tb_1 (i := 217) rfl))
  · exact va_Nw.of rfl (hts _ (tb_1 (i := 230) rfl))
  · exact va_Nw.of rfl (hts _ (tb_1 (i := 234) rfl))
  · exact va_Nw.of rfl (hts _ (tb_1 (i := 236) rfl))
  · exact va_Nw.of rfl (hts _ (tb_1 (i := 238) rfl))
  · exact va_Nw.of rfl (hts _ (tb_2 (i := 29) rfl))
  · exact va_Nw.of rfl (hts _ (tb_2 (i := 30) rfl))
  · exact va_Nw.of rfl (hts _ (tb_2 (i := 80) rfl))
  · exact va_Nw.of rfl (hts _ (tb_2 (i := 82) rfl))
  · exact va_Nw.of rfl (hts _ (tb_2 (i := 84) rfl))
  · exact va_Nw.of rfl (hts _ (tb_2 (i := 114) rfl))
  · exact va_Nw.of rfl (hts _ (tb_2 (i := 117) rfl))
  · exact va_Nw.of rfl (hts _ (tb_2 (i := 119) rfl))
  · exact va_Nw.of rfl (hts _ (tb_2 (i := 225) rfl))
  · exact va_Nw.of rfl (hts _ (tb_2 (i := 228) rfl))
theorem law_T3 (hts : ∀ w ∈ lw_tbl, w.before args s = true) : ∀ q ∈ cNM, va_Nw (.methodLinkNest q.1 q.2.1 q.2.2.1 q.2.2.2) s := by
  intro q hq
  simp only [cNM, List.mem_cons, List.not_mem_nil, or_false] at hq
  rcases hq with rfl | rfl | rfl
  · exact va_Nw.of rfl (hts _ (tb_1 (i := 219) rfl))
  · exact va_Nw.of rfl (hts _ (tb_3 (i := 42) rfl))
  · exact va_Nw.of rfl (hts _ (tb_3 (i := 52) rfl))
theorem law_T4 (hts : ∀ w ∈ lw_tbl, w.before args s = true) : ∀ C ∈ cAO, va_AO C s := by
  intro C hC
  simp only [cAO, List.mem_cons, List.not_mem_nil, or_false] at hC
  rcases hC with rfl | rfl | rfl | rfl
  · exact va_AO.of (hts _ (tb_1 (i := 54) rfl))
  · exact va_AO.of (hts _ (tb_1 (i := 52) rfl))
  · exact va_AO.of (hts _ (tb_1 (i := 56) rfl))
  · exact va_AO.of (hts _ (tb_1 (i := 31) rfl))
theorem law_T5 (hts : ∀ w ∈ lw_tbl, w.before args s = true) : ∀ C ∈ cEx, va_Nw (.castable C C) s := by
  intro C hC
  simp only [cEx, List.mem_cons, List.not_mem_nil, or_false] at hC
  rcases hC with rfl | rfl | rfl | rfl
  · exact va_Nw.of rfl (hts _ (tb_2 (i := 49) rfl))
  · exact va_Nw.of rfl (hts _ (tb_1 (i := 110) rfl))
  · exact va_Nw.of rfl (hts _ (tb_1 (i := 182) rfl))
  · exact va_Nw.of rfl (hts _ (tb_2 (i := 190) rfl))
theorem law_T6 (hgv : (Jvm.Cond.and given_1 narrow_1).before args s = true) : ∀ C ∈ cEx, ∀ E ∈ cEx, C ≠ E → va_Nc C E s := by
  have hs := flat_of_before _ hgv
  intro C hC E hE hn
  simp only [cEx, List.mem_cons, List.not_mem_nil, or_false] at hC hE
  rcases hC with rfl | rfl | rfl | rfl <;> rcases hE with rfl | rfl | rfl | rfl
  · exact absurd rfl hn
  · exact va_Nc.of (hs (Cond.not (.castable "java/lang/IndexOutOfBoundsException" "java/lang/IllegalArgumentException")) (by decide +kernel))
  · exact va_Nc.of (hs (Cond.not (.castable "java/lang/IndexOutOfBoundsException" "java/lang/IllegalStateException")) (by decide +kernel))
  · exact va_Nc.of (hs (Cond.not (.castable "java/lang/IndexOutOfBoundsException" "java/util/NoSuchElementException")) (by decide +kernel))
  · exact va_Nc.of (hs (Cond.not (.castable "java/lang/IllegalArgumentException" "java/lang/IndexOutOfBoundsException")) (by decide +kernel))
  · exact absurd rfl hn
  · exact va_Nc.of (hs (Cond.not (.castable "java/lang/IllegalArgumentException" "java/lang/IllegalStateException")) (by decide +kernel))
  · exact va_Nc.of (hs (Cond.not (.castable "java/lang/IllegalArgumentException" "java/util/NoSuchElementException")) (by decide +kernel))
  · exact va_Nc.of (hs (Cond.not (.castable "java/lang/IllegalStateException" "java/lang/IndexOutOfBoundsException")) (by decide +kernel))
  · exact va_Nc.of (hs (Cond.not (.castable "java/lang/IllegalStateException" "java/lang/IllegalArgumentException")) (by decide +kernel))
  · exact absurd rfl hn
  · exact va_Nc.of (hs (Cond.not (.castable "java/lang/IllegalStateException" "java/util/NoSuchElementException")) (by decide +kernel))
  · exact va_Nc.of (hs (Cond.not (.castable "java/util/NoSuchElementException" "java/lang/IndexOutOfBoundsException")) (by decide +kernel))
  · exact va_Nc.of (hs (Cond.not (.castable "java/util/NoSuchElementException" "java/lang/IllegalArgumentException")) (by decide +kernel))
  · exact va_Nc.of (hs (Cond.not (.castable "java/util/NoSuchElementException" "java/lang/IllegalStateException")) (by decide +kernel))
  · exact absurd rfl hn
theorem law_T7 (hts : ∀ w ∈ lw_tbl, w.before args s = true) : ∀ y ∈ cDe, va_Nw (.declares y) s := by
  intro y hy
  simp only [cDe, List.mem_cons, List.not_mem_nil, or_false] at hy
  rcases hy with rfl | rfl | rfl
  · exact va_Nw.of rfl (hts _ (tb_1 (i := 112) rfl))
  · exact va_Nw.of rfl (hts _ (tb_1 (i := 114) rfl))
  · exact va_Nw.of rfl (hts _ (tb_1 (i := 116) rfl))
theorem law_STEP_X (hts : ∀ w ∈ lw_tbl, w.before args s = true) (hgv : (Jvm.Cond.and given_1 narrow_1).before args s = true) {A : Nat → Prop} (hA : ∀ a : Nat, a < s.heap.size → ¬ A a) : ∃ t, va_Z RX5 "STEP_X" "[I" (.ref t) A s s.heap ∧ va_T .int t 4 stepX A s s.heap := by
  have hs := flat_of_before _ hgv
  have hel : ∀ j : Nat, j < 4 → (Term.elem (.static RX5 "STEP_X" "[I") (.int (Int32.ofNat j))).eval args s none [] s = some (stepX j) := by
    intro j hj
    match j, hj with
    | 0, _ => exact (va_eqt (z := 0) (hs _ (by decide +kernel))).trans rfl
    | 1, _ => exact (va_eqt (z := 1) (hs _ (by decide +kernel))).trans rfl
    | 2, _ => exact (va_eqt (z := 0) (hs _ (by decide +kernel))).trans rfl
    | 3, _ => exact (va_eqt (z := -1) (hs _ (by decide +kernel))).trans rfl
    | j + 4, hj => omega
  obtain ⟨t, ht, hT⟩ := va_Tof (args := args) (s := s) (tm := .static RX5 "STEP_X" "[I") (ty := .int) (N := 4) (f := stepX) (A := A) (by decide) (hs _ (by decide +kernel)) (va_eqt (z := 4) (hs _ (by decide +kernel))) hel hA
  exact ⟨t, va_Zref (hts _ (tb_1 (i := 216) rfl)) (hts _ (WG_tbl _ gw1_1)) ht hA, hT⟩
theorem law_STEP_Y (hts : ∀ w ∈ lw_tbl, w.before args s = true) (hgv : (Jvm.Cond.and given_1 narrow_1).before args s = true) {A : Nat → Prop} (hA : ∀ a : Nat, a < s.heap.size → ¬ A a) : ∃ t, va_Z RX5 "STEP_Y" "[I" (.ref t) A s s.heap ∧ va_T .int t 4 stepY A s s.heap := by
  have hs := flat_of_before _ hgv
  have hel : ∀ j : Nat, j < 4 → (Term.elem (.static RX5 "STEP_Y" "[I") (.int (Int32.ofNat j))).eval args s none [] s = some (stepY j) := by
    intro j hj
    match j, hj with
    | 0, _ => exact (va_eqt (z := 1) (hs _ (by decide +kernel))).trans rfl
    | 1, _ => exact (va_eqt (z := 0) (hs _ (by decide +kernel))).trans rfl
    | 2, _ => exact (va_eqt (z := -1) (hs _ (by decide +kernel))).trans rfl
    | 3, _ => exact (va_eqt (z := 0) (hs _ (by decide +kernel))).trans rfl
    | j + 4, hj => omega
  obtain ⟨t, ht, hT⟩ := va_Tof (args := args) (s := s) (tm := .static RX5 "STEP_Y" "[I") (ty := .int) (N := 4) (f := stepY) (A := A) (by decide) (hs _ (by decide +kernel)) (va_eqt (z := 4) (hs _ (by decide +kernel))) hel hA
  exact ⟨t, va_Zref (hts _ (tb_1 (i := 218) rfl)) (hts _ (WG_tbl _ gw1_1)) ht hA, hT⟩
theorem law_G (hts : ∀ w ∈ lw_tbl, w.before args s = true) (hgv : (Jvm.Cond.and given_1 narrow_1).before args s = true) {A : Nat → Prop} (hA : ∀ a : Nat, a < s.heap.size → ¬ A a) : cG A s s.heap := by
  have hs := flat_of_before _ hgv
  have zU : vx_Zq "java/lang/Throwable" "UNASSIGNED_STACK" "[Ljava/lang/StackTraceElement;" A s s.heap := vx_Zqof (hts _ (tb_1 (i := 135) rfl)) (hts _ (WG_tbl _ gw1_4)) (hs _ (by decide +kernel)) hA
  have zS : vx_Zq "java/lang/Throwable" "SUPPRESSED_SENTINEL" "Ljava/util/List;" A s s.heap := vx_Zqof (hts _ (tb_1 (i := 137) rfl)) (hts _ (WG_tbl _ gw1_4)) (hs _ (by decide +kernel)) hA
  exact ⟨zU, zS, law_STEP_X hts hgv hA, law_STEP_Y hts hgv hA, law_T1 hts hgv, law_T2 hts, law_T3 hts, law_T4 hts, law_T5 hts, law_T6 hgv, law_T7 hts⟩
end LB
