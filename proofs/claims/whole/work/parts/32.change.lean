/-! each change of the object, and the state behind it -/
section Cs
variable {N : Int} {st S : ST} {q : Int → Nat} {L : List Nat} {M : MM} {c : Int}
theorem cCr_s (h : cCr st q L M c) (h1 : S 14 c = st 14 c) (h2 : S 15 c = st 15 c) (h3 : ∀ g : Int, 0 ≤ g → g < 10 → S 16 (10 * c + g) = st 16 (10 * c + g)) : cCr S q L M c := by
  obtain ⟨g1, g2, g3, g4, g5, g6, g7⟩ := h
  exact ⟨g1, g2, g3, by rw [h1]; exact g4, by rw [h2]; exact g5, g6, fun g a0 a1 => by rw [h3 g a0 a1]; exact g7 g a0 a1⟩
theorem cPt_s {j : Int} (h : cPt st q L M j) (h1 : S 18 j = st 18 j) (h2 : S 19 j = st 19 j) (h3 : S 20 j = st 20 j) (h4 : S 21 j = st 21 j) : cPt S q L M j := by
  obtain ⟨g1, g2, g3, g4, g5, g6⟩ := h
  exact ⟨g1, by rw [h1]; exact g2, by rw [h2]; exact g3, by rw [h3]; exact g4, fun e => by rw [h4]; exact g5 (by rw [← h3]; exact e), g6⟩
theorem CW_break (hI : I6 N st) (hC : CW st q L M) (hc : 0 ≤ c ∧ c < st 9 0) (a : Int) : CW (up2 st 14 c a) q L (upM M 2 (q (30 + c)) 0 a) := by
  obtain ⟨hX, hB, hCa, hGa, hPa⟩ := hC
  have i5 := I_ga hI
  have i9 := I_ca hI
  have i17 := I_pa hI
  obtain ⟨hWc, hCc⟩ := hCa c hc.1 hc.2
  have hk := kp_one (M' := upM M 2 (q (30 + c)) 0 a) hCc.1.1 (fun f b y hb => upM_a M 2 f 0 a y hb)
  refine ⟨?_, ?_, fun d d0 d1 => ⟨?_, ?_⟩, fun g1 e0 e1 => ?_, fun j1 e0 e1 => ?_⟩
  · skip
    exact cXo_k hk hX (fun t a0 a1 => by omega) rfl
  · skip
    exact cWy_k hk hB (by omega) (by omega) (fun i hi => by omega)
  · have d1 : d < st 9 0 := d1
    exact cWy_k hk (hCa d d0 d1).1 (by omega) (by omega) (fun i hi => by omega)
  · have d1 : d < st 9 0 := d1
    by_cases e : d = c
    · subst e
      obtain ⟨⟨o1, g1⟩, g2, g3, g4, g5, ⟨o2, g6⟩, g7⟩ := hCc
      exact ⟨⟨⟨o1.1, o1.2.1, o1.2.2⟩, g1⟩, g2, g3, (upM_e _ _ _ _ _).trans (upI_e _ _ _).symm, g5, ⟨⟨o2.1, o2.2.1, o2.2.2⟩, g6⟩, g7⟩
    · exact cCr_s (cCr_k hk (hCa d d0 d1).2 (by omega) (by omega) rfl rfl) (upI_n _ _ e) rfl (fun g a0 a1 => rfl)
  · have e1 : g1 < st 5 0 := e1
    exact cGt_k hk (hGa g1 e0 e1) (by omega) rfl
  · have e1 : j1 < st 17 0 := e1
    exact cPt_k hk (hPa j1 e0 e1) (by omega) rfl
theorem CW_lost (hI : I6 N st) (hC : CW st q L M) (hc : 0 ≤ c ∧ c < st 9 0) (a : Int) : CW (up2 st 15 c a) q L (upM M 3 (q (30 + c)) 0 a) := by
  obtain ⟨hX, hB, hCa, hGa, hPa⟩ := hC
  have i5 := I_ga hI
  have i9 := I_ca hI
  have i17 := I_pa hI
  obtain ⟨hWc, hCc⟩ := hCa c hc.1 hc.2
  have hk := kp_one (M' := upM M 3 (q (30 + c)) 0 a) hCc.1.1 (fun f b y hb => upM_a M 3 f 0 a y hb)
  refine ⟨?_, ?_, fun d d0 d1 => ⟨?_, ?_⟩, fun g1 e0 e1 => ?_, fun j1 e0 e1 => ?_⟩
  · skip
    exact cXo_k hk hX (fun t a0 a1 => by omega) rfl
  · skip
    exact cWy_k hk hB (by omega) (by omega) (fun i hi => by omega)
  · have d1 : d < st 9 0 := d1
    exact cWy_k hk (hCa d d0 d1).1 (by omega) (by omega) (fun i hi => by omega)
  · have d1 : d < st 9 0 := d1
    by_cases e : d = c
    · subst e
      obtain ⟨⟨o1, g1⟩, g2, g3, g4, g5, ⟨o2, g6⟩, g7⟩ := hCc
      exact ⟨⟨⟨o1.1, o1.2.1, o1.2.2⟩, g1⟩, g2, g3, g4, (upM_e _ _ _ _ _).trans (upI_e _ _ _).symm, ⟨⟨o2.1, o2.2.1, o2.2.2⟩, g6⟩, g7⟩
    · exact cCr_s (cCr_k hk (hCa d d0 d1).2 (by omega) (by omega) rfl rfl) rfl (upI_n _ _ e) (fun g a0 a1 => rfl)
  · have e1 : g1 < st 5 0 := e1
    exact cGt_k hk (hGa g1 e0 e1) (by omega) rfl
  · have e1 : j1 < st 17 0 := e1
    exact cPt_k hk (hPa j1 e0 e1) (by omega) rfl
theorem CW_rec (hI : I6 N st) (hC : CW st q L M) (hc : 0 ≤ c ∧ c < st 9 0) {g : Int} (hg : 0 ≤ g ∧ g < 10) (a : Int) : CW (up2 st 16 (10 * c + g) a) q L (upM M 92 (q (40 + c)) g a) := by
  obtain ⟨hX, hB, hCa, hGa, hPa⟩ := hC
  have i5 := I_ga hI
  have i9 := I_ca hI
  have i17 := I_pa hI
  obtain ⟨hWc, hCc⟩ := hCa c hc.1 hc.2
  have hk := kp_one (M' := upM M 92 (q (40 + c)) g a) hCc.2.2.2.2.2.1.1 (fun f b y hb => upM_a M 92 f g a y hb)
  refine ⟨?_, ?_, fun d d0 d1 => ⟨?_, ?_⟩, fun g1 e0 e1 => ?_, fun j1 e0 e1 => ?_⟩
  · skip
    exact cXo_k hk hX (fun t a0 a1 => by omega) rfl
  · skip
    exact cWy_k hk hB (by omega) (by omega) (fun i hi => by omega)
  · have d1 : d < st 9 0 := d1
    exact cWy_k hk (hCa d d0 d1).1 (by omega) (by omega) (fun i hi => by omega)
  · have d1 : d < st 9 0 := d1
    by_cases e : d = c
    · subst e
      obtain ⟨⟨o1, g1⟩, g2, g3, g4, g5, ⟨o2, g6⟩, g7⟩ := hCc
      refine ⟨⟨⟨o1.1, o1.2.1, o1.2.2⟩, g1⟩, g2, g3, g4, g5, ⟨⟨o2.1, o2.2.1, o2.2.2⟩, g6⟩, fun x a0 a1 => ?_⟩
      show upM M 92 (q (40 + d)) g a 92 (q (40 + d)) x = upI (st 16) (10 * d + g) a (10 * d + x)
      rw [upM_x, upI_x]
      by_cases z : x = g
      · rw [if_pos ⟨rfl, rfl, z⟩, if_pos (by omega)]
      · rw [if_neg (fun y => z y.2.2), if_neg (by omega)]; exact g7 x a0 a1
    · exact cCr_s (cCr_k hk (hCa d d0 d1).2 (by omega) (by omega) rfl rfl) rfl rfl (fun x a0 a1 => upI_n _ _ (by omega))
  · have e1 : g1 < st 5 0 := e1
    exact cGt_k hk (hGa g1 e0 e1) (by omega) rfl
  · have e1 : j1 < st 17 0 := e1
    exact cPt_k hk (hPa j1 e0 e1) (by omega) rfl
theorem CW_tot (hI : I6 N st) (hC : CW st q L M) (i a : Int) : CW (st) q L (upM M 92 (q 4) i a) := by
  obtain ⟨hX, hB, hCa, hGa, hPa⟩ := hC
  have i5 := I_ga hI
  have i9 := I_ca hI
  have i17 := I_pa hI
  have hk := kp_one (M' := upM M 92 (q 4) i a) hX.1.2.2.2.2 (fun f b y hb => upM_a M 92 f i a y hb)
  refine ⟨?_, ?_, fun d d0 d1 => ⟨?_, ?_⟩, fun g1 e0 e1 => ?_, fun j1 e0 e1 => ?_⟩
  · skip
    obtain ⟨⟨o0, o1, o2, o3, o4⟩, ⟨n1, n2, n3, n4⟩, ⟨r51, r52, r55, r57, r59⟩, v50, v53, v54, v56, v58⟩ := hX
    exact ⟨⟨⟨o0.1, o0.2.1, o0.2.2⟩, ⟨o1.1, o1.2.1, o1.2.2⟩, ⟨o2.1, o2.2.1, o2.2.2⟩, ⟨o3.1, o3.2.1, o3.2.2⟩, ⟨o4.1, o4.2.1, o4.2.2⟩⟩, ⟨n1, n2, n3, n4⟩, ⟨r51, r52, r55, r57, r59⟩, v50, v53, v54, v56, v58⟩
  · skip
    exact cWy_k hk hB (by omega) (by omega) (fun i hi => by omega)
  · have d1 : d < st 9 0 := d1
    exact cWy_k hk (hCa d d0 d1).1 (by omega) (by omega) (fun i hi => by omega)
  · have d1 : d < st 9 0 := d1
    exact cCr_k hk (hCa d d0 d1).2 (by omega) (by omega) rfl rfl
  · have e1 : g1 < st 5 0 := e1
    exact cGt_k hk (hGa g1 e0 e1) (by omega) rfl
  · have e1 : j1 < st 17 0 := e1
    exact cPt_k hk (hPa j1 e0 e1) (by omega) rfl
theorem CW_cut (hI : I6 N st) (hC : CW st q L M) (a : Int) : CW (up2 st 8 0 a) q L (upM M 54 (q 0) 0 a) := by
  obtain ⟨hX, hB, hCa, hGa, hPa⟩ := hC
  have i5 := I_ga hI
  have i9 := I_ca hI
  have i17 := I_pa hI
  have hk := kp_one (M' := upM M 54 (q 0) 0 a) hX.1.1 (fun f b y hb => upM_a M 54 f 0 a y hb)
  refine ⟨?_, ?_, fun d d0 d1 => ⟨?_, ?_⟩, fun g1 e0 e1 => ?_, fun j1 e0 e1 => ?_⟩
  · skip
    obtain ⟨⟨o0, o1, o2, o3, o4⟩, ⟨n1, n2, n3, n4⟩, ⟨r51, r52, r55, r57, r59⟩, v50, v53, v54, v56, v58⟩ := hX
    exact ⟨⟨⟨o0.1, o0.2.1, o0.2.2⟩, ⟨o1.1, o1.2.1, o1.2.2⟩, ⟨o2.1, o2.2.1, o2.2.2⟩, ⟨o3.1, o3.2.1, o3.2.2⟩, ⟨o4.1, o4.2.1, o4.2.2⟩⟩, ⟨n1, n2, n3, n4⟩, ⟨r51, r52, r55, r57, r59⟩, v50, v53, (upM_e _ _ _ _ _).trans (upI_e (st 8) 0 a).symm, v56, v58⟩
  · skip
    exact cWy_k hk hB (by omega) (by omega) (fun i hi => by omega)
  · have d1 : d < st 9 0 := d1
    exact cWy_k hk (hCa d d0 d1).1 (by omega) (by omega) (fun i hi => by omega)
  · have d1 : d < st 9 0 := d1
    exact cCr_k hk (hCa d d0 d1).2 (by omega) (by omega) rfl rfl
  · have e1 : g1 < st 5 0 := e1
    exact cGt_k hk (hGa g1 e0 e1) (by omega) rfl
  · have e1 : j1 < st 17 0 := e1
    exact cPt_k hk (hPa j1 e0 e1) (by omega) rfl
theorem CW_where (hI : I6 N st) (hC : CW st q L M) {j : Int} (hj : 0 ≤ j ∧ j < st 17 0) {a : Int} (ha : a ≠ -2) : CW (up2 st 20 j a) q L (upM M 22 (q (60 + j)) 0 a) := by
  obtain ⟨hX, hB, hCa, hGa, hPa⟩ := hC
  have i5 := I_ga hI
  have i9 := I_ca hI
  have i17 := I_pa hI
  have hPj := hPa j hj.1 hj.2
  have hk := kp_one (M' := upM M 22 (q (60 + j)) 0 a) hPj.1.1 (fun f b y hb => upM_a M 22 f 0 a y hb)
  refine ⟨?_, ?_, fun d d0 d1 => ⟨?_, ?_⟩, fun g1 e0 e1 => ?_, fun j1 e0 e1 => ?_⟩
  · skip
    exact cXo_k hk hX (fun t a0 a1 => by omega) rfl
  · skip
    exact cWy_k hk hB (by omega) (by omega) (fun i hi => by omega)
  · have d1 : d < st 9 0 := d1
    exact cWy_k hk (hCa d d0 d1).1 (by omega) (by omega) (fun i hi => by omega)
  · have d1 : d < st 9 0 := d1
    exact cCr_k hk (hCa d d0 d1).2 (by omega) (by omega) rfl rfl
  · have e1 : g1 < st 5 0 := e1
    exact cGt_k hk (hGa g1 e0 e1) (by omega) rfl
  · have e1 : j1 < st 17 0 := e1
    by_cases e : j1 = j
    · subst e
      obtain ⟨⟨o1, g1⟩, g2, g3, g4, g5, g6⟩ := hPj
      exact ⟨⟨⟨o1.1, o1.2.1, o1.2.2⟩, g1⟩, g2, g3, (upM_e _ _ _ _ _).trans (upI_e _ _ _).symm, fun z => absurd ((upI_e (st 20) j1 a).symm.trans z) ha, g6⟩
    · exact cPt_s (cPt_k hk (hPa j1 e0 e1) (by omega) rfl) rfl rfl (upI_n _ _ e) rfl
theorem CW_use (hI : I6 N st) (hC : CW st q L M) {j u : Int} (hj : 0 ≤ j ∧ j < st 17 0) (hu : 0 ≤ u ∧ u < 8) : CW (up2 (up2 st 20 j (-2)) 21 j u) q L (upM (upM M 22 (q (60 + j)) 0 (-2)) 23 (q (60 + j)) 0 u) := by
  obtain ⟨hX, hB, hCa, hGa, hPa⟩ := hC
  have i5 := I_ga hI
  have i9 := I_ca hI
  have i17 := I_pa hI
  have hPj := hPa j hj.1 hj.2
  have hk := kp_one (M' := upM (upM M 22 (q (60 + j)) 0 (-2)) 23 (q (60 + j)) 0 u) hPj.1.1 (fun f b i hb => (upM_a _ 23 f 0 u i hb).trans (upM_a M 22 f 0 (-2) i hb))
  refine ⟨?_, ?_, fun d d0 d1 => ⟨?_, ?_⟩, fun g1 e0 e1 => ?_, fun j1 e0 e1 => ?_⟩
  · skip
    exact cXo_k hk hX (fun t a0 a1 => by omega) rfl
  · skip
    exact cWy_k hk hB (by omega) (by omega) (fun i hi => by omega)
  · have d1 : d < st 9 0 := d1
    exact cWy_k hk (hCa d d0 d1).1 (by omega) (by omega) (fun i hi => by omega)
  · have d1 : d < st 9 0 := d1
    exact cCr_k hk (hCa d d0 d1).2 (by omega) (by omega) rfl rfl
  · have e1 : g1 < st 5 0 := e1
    exact cGt_k hk (hGa g1 e0 e1) (by omega) rfl
  · have e1 : j1 < st 17 0 := e1
    by_cases e : j1 = j
    · subst e
      obtain ⟨⟨o1, g1⟩, g2, g3, g4, g5, g6⟩ := hPj
      exact ⟨⟨⟨o1.1, o1.2.1, o1.2.2⟩, g1⟩, g2, g3, (upM_e M 22 _ 0 _).trans (upI_e _ _ _).symm, fun z => (upM_e _ _ _ _ _).trans (upI_e _ _ _).symm, by rw [upM_e]; omega, by rw [upM_e]; omega⟩
    · exact cPt_s (cPt_k hk (hPa j1 e0 e1) (by omega) rfl) rfl rfl (upI_n _ _ e) (upI_n _ _ e)
theorem CW_setStart (hI : I6 N st) (hC : CW st q L M) (hE : st 2 0 = 0) (hZ : st 9 0 = 0) (a : Int) : CW (up2 st 1 0 a) q L (upM (upM M 50 (q 0) 0 a) 42 (q (10 + -1)) 0 a) := by
  obtain ⟨hX, hB, hCa, hGa, hPa⟩ := hC
  obtain ⟨⟨w1, w2⟩, w3, w4, w5, w6, ⟨w7, w8⟩, w9⟩ := hB
  have i17 := I_pa hI
  have hk := kp_two (M' := upM (upM M 50 (q 0) 0 a) 42 (q (10 + -1)) 0 a) hX.1.1 w1 (fun f b i h1 h2 => (upM_a _ 42 f 0 a i h2).trans (upM_a M 50 f 0 a i h1))
  have e0 : (vN st (-1)).toNat = 0 := by show (st 2 0).toNat = 0; omega
  refine ⟨?_, ?_, fun d d0 d1 => ?_, fun g1 e0 e1 => ?_, fun j1 e0 e1 => ?_⟩
  · obtain ⟨⟨o0, o1, o2, o3, o4⟩, ⟨n1, n2, n3, n4⟩, ⟨r51, r52, r55, r57, r59⟩, v50, v53, v54, v56, v58⟩ := hX
    exact ⟨⟨⟨o0.1, o0.2.1, o0.2.2⟩, ⟨o1.1, o1.2.1, o1.2.2⟩, ⟨o2.1, o2.2.1, o2.2.2⟩, ⟨o3.1, o3.2.1, o3.2.2⟩, ⟨o4.1, o4.2.1, o4.2.2⟩⟩, ⟨n1, n2, n3, n4⟩, ⟨r51, r52, r55, r57, r59⟩, (upM_e M 50 _ 0 _).trans (upI_e (st 1) 0 a).symm, v53, v54, v56, v58⟩
  · refine ⟨⟨⟨w1.1, w1.2.1, w1.2.2⟩, w2⟩, w3, ?_, ?_, ?_, ⟨⟨w7.1, w7.2.1, w7.2.2⟩, w8⟩, fun i hi => ?_⟩
    · show upM (upM M 50 (q 0) 0 a) 42 (q (10 + -1)) 0 a 42 (q (10 + -1)) 0 = clO (vP (up2 st 1 0 a) (-1) (vN st (-1)).toNat)
      rw [upM_e, e0]
      show a = 16 * (a / 16) + a % 16
      omega
    · show M 43 (q (10 + -1)) 0 = (vP (up2 st 1 0 a) (-1) (vN st (-1)).toNat).2.2
      rw [w5, e0]
      rfl
    · exact w6
    · have hi : (i : Int) < st 2 0 := hi
      omega
  · have d1 : d < st 9 0 := d1
    omega
  · have h1 := (I_g hI g1 e0 e1).1
    omega
  · have e1 : j1 < st 17 0 := e1
    exact cPt_k hk (hPa j1 e0 e1) (by omega) rfl
end Cs
