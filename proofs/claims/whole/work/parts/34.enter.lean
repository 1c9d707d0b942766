/-! a car more -/
theorem CW_enter {N : Int} {st : ST} {q : Int → Nat} {L : List Nat} {M M1 : MM} {p w1 b r : Nat} (hI : I6 N st) (hC : CW st q L M) (hn : st 9 0 < 8) (hp : p ∉ L) (hx : w1 ∉ L ++ [p] ∧ b ∉ (L ++ [p]) ++ [w1] ∧ r ∉ ((L ++ [p]) ++ [w1]) ++ [b])
    (hM : ∀ f x i, x ∈ L ++ [p] → x ≠ p → M1 f x i = alM M p 0 0 f x i) (hc : M1 90 p 0 = 0 ∧ M1 0 p 0 = (w1 : Int) ∧ M1 1 p 0 = (r : Int) ∧ M1 2 p 0 = -1 ∧ M1 3 p 0 = 0) (hw : M1 90 w1 0 = 4 ∧ M1 40 w1 0 = (b : Int) ∧ M1 41 w1 0 = 0 ∧ M1 42 w1 0 = st 1 0 ∧ M1 43 w1 0 = 0 ∧ M1 44 w1 0 = 0) (hb : M1 90 b 0 = 15 ∧ M1 91 b 0 = 60) (hr : M1 90 r 0 = 10 ∧ M1 91 r 0 = 10 ∧ ∀ g : Int, 0 ≤ g → g < 10 → M1 92 r g = -1) :
    CW (up2 st 9 0 (st 9 0 + 1)) (upq (upq (upq (upq q (30 + st 9 0) p) (10 + st 9 0) w1) (20 + st 9 0) b) (40 + st 9 0) r) ((((L ++ [p]) ++ [w1]) ++ [b]) ++ [r]) (upM (upM (upM (upM (upM (upM M1 93 (q 2) (st 9 0) (p : Int)) 56 (q 0) 0 (st 9 0 + 1)) 80 p 0 (30 + st 9 0)) 80 w1 0 (10 + st 9 0)) 80 b 0 (20 + st 9 0)) 80 r 0 (40 + st 9 0)) := by
  obtain ⟨hX, hB, hCa, hGa, hPa⟩ := hC
  have i2 := I_en hI
  have i5 := I_ga hI
  have i9 := I_ca hI
  have i17 := I_pa hI
  have bB : vN st (-1) = st 2 0 := rfl
  obtain ⟨hx1, hx2, hx3⟩ := hx
  have z1 : p ≠ w1 := sw_ne (List.mem_append_right _ List.mem_cons_self) hx1
  have z2 : p ≠ b := sw_ne (List.mem_append_left _ (List.mem_append_right _ List.mem_cons_self)) hx2
  have z3 : p ≠ r := sw_ne (List.mem_append_left _ (List.mem_append_left _ (List.mem_append_right _ List.mem_cons_self))) hx3
  have z4 : w1 ≠ b := sw_ne (List.mem_append_right _ List.mem_cons_self) hx2
  have z5 : w1 ≠ r := sw_ne (List.mem_append_left _ (List.mem_append_right _ List.mem_cons_self)) hx3
  have z6 : b ≠ r := sw_ne (List.mem_append_right _ List.mem_cons_self) hx3
  have mL : ∀ x, x ∈ L → x ∈ (((L ++ [p]) ++ [w1]) ++ [b]) ++ [r] := fun x h => List.mem_append_left _ (List.mem_append_left _ (List.mem_append_left _ (List.mem_append_left _ h)))
  have nL : ∀ x, x ∈ L → x ≠ p ∧ x ≠ w1 ∧ x ≠ b ∧ x ≠ r := fun x h => ⟨sw_ne h hp, sw_ne (List.mem_append_left _ h) hx1, sw_ne (List.mem_append_left _ (List.mem_append_left _ h)) hx2, sw_ne (List.mem_append_left _ (List.mem_append_left _ (List.mem_append_left _ h))) hx3⟩
  have n0 := nL _ hX.1.1.1
  have n2 := nL _ hX.1.2.2.1.1
  generalize hM2 : upM (upM (upM (upM (upM (upM M1 93 (q 2) (st 9 0) (p : Int)) 56 (q 0) 0 (st 9 0 + 1)) 80 p 0 (30 + st 9 0)) 80 w1 0 (10 + st 9 0)) 80 b 0 (20 + st 9 0)) 80 r 0 (40 + st 9 0) = M2
  generalize hq2 : upq (upq (upq (upq q (30 + st 9 0) p) (10 + st 9 0) w1) (20 + st 9 0) b) (40 + st 9 0) r = q2
  have g : ∀ f x i, x ∈ L → (f ≠ 93 ∨ x ≠ q 2 ∨ i ≠ st 9 0) → (f ≠ 56 ∨ x ≠ q 0) → M2 f x i = M f x i := fun f x i h a1 a2 => by
    obtain ⟨b1, b2, b3, b4⟩ := nL x h
    rw [← hM2, upM_a _ _ _ _ _ _ b4, upM_a _ _ _ _ _ _ b3, upM_a _ _ _ _ _ _ b2, upM_a _ _ _ _ _ _ b1, upM_x, if_neg (fun z => by rcases a2 with y | y; exact y z.1; exact y z.2.1), upM_x, if_neg (fun z => by rcases a1 with y | y | y; exact y z.1; exact y z.2.1; exact y z.2.2), hM f x i (List.mem_append_left _ h) b1, alM_o _ _ _ _ _ b1]
  have gq : ∀ t : Int, t ≠ 30 + st 9 0 → t ≠ 10 + st 9 0 → t ≠ 20 + st 9 0 → t ≠ 40 + st 9 0 → q2 t = q t := fun t a1 a2 a3 a4 => by
    rw [← hq2, upq_n _ _ a4, upq_n _ _ a3, upq_n _ _ a2, upq_n _ _ a1]
  have gp : q2 (30 + st 9 0) = p := by rw [← hq2, upq_n _ _ (by omega), upq_n _ _ (by omega), upq_n _ _ (by omega), upq_e]
  have gw : q2 (10 + st 9 0) = w1 := by rw [← hq2, upq_n _ _ (by omega), upq_n _ _ (by omega), upq_e]
  have gb : q2 (20 + st 9 0) = b := by rw [← hq2, upq_n _ _ (by omega), upq_e]
  have gr : q2 (40 + st 9 0) = r := by rw [← hq2, upq_e]
  have hk : kp q q2 L ((((L ++ [p]) ++ [w1]) ++ [b]) ++ [r]) M M2 (fun t => (t ≠ 30 + st 9 0 ∧ t ≠ 10 + st 9 0 ∧ t ≠ 20 + st 9 0 ∧ t ≠ 40 + st 9 0) ∧ t ≠ 2 ∧ t ≠ 0) := fun t d ht ho =>
    ⟨gq t ht.1.1 ht.1.2.1 ht.1.2.2.1 ht.1.2.2.2, mL _ ho.1, fun f i => g f _ i ho.1 (Or.inr (Or.inl (ob_ne ho hX.1.2.2.1 ht.2.1))) (Or.inr (ob_ne ho hX.1.1 ht.2.2))⟩
  have hr1 := hk 1 13 (by omega) hX.1.2.1
  have hr3 := hk 3 14 (by omega) hX.1.2.2.2.1
  have q20 := gq 2 (by omega) (by omega) (by omega) (by omega)
  have hlow : ∀ f x i, f ≠ 80 → (f ≠ 93 ∨ x ≠ q 2) → (f ≠ 56 ∨ x ≠ q 0) → M2 f x i = M1 f x i := fun f x i a0 a1 a2 => by
    rw [← hM2, upM_f _ _ _ _ _ _ a0, upM_f _ _ _ _ _ _ a0, upM_f _ _ _ _ _ _ a0, upM_f _ _ _ _ _ _ a0, upM_x, if_neg (fun z => by rcases a2 with y | y; exact y z.1; exact y z.2.1), upM_x, if_neg (fun z => by rcases a1 with y | y; exact y z.1; exact y z.2.1)]
  have gh : M2 80 p 0 = 30 + st 9 0 ∧ M2 80 w1 0 = 10 + st 9 0 ∧ M2 80 b 0 = 20 + st 9 0 ∧ M2 80 r 0 = 40 + st 9 0 := by
    rw [← hM2]
    refine ⟨?_, ?_, ?_, ?_⟩
    · rw [upM_a _ _ _ _ _ _ z3, upM_a _ _ _ _ _ _ z2, upM_a _ _ _ _ _ _ z1, upM_e]
    · rw [upM_a _ _ _ _ _ _ z5, upM_a _ _ _ _ _ _ z4, upM_e]
    · rw [upM_a _ _ _ _ _ _ z6, upM_e]
    · rw [upM_e]
  refine ⟨?_, cWy_k (st := st) hk hB (by omega) (by omega) (fun i hi => by omega), fun e d0 d1 => ?_, fun g1 d0 d1 => ?_, fun j1 d0 d1 => ?_⟩
  · obtain ⟨⟨o0, o1, o2, o3, o4⟩, ⟨n1, n2, n3, n4⟩, ⟨r51, r52, r55, r57, r59⟩, v50, v53, v54, v56, v58⟩ := hX
    have x20 : q 2 ≠ q 0 := ob_ne o2 o0 (by decide)
    have gf : ∀ f, f ≠ 93 → f ≠ 56 → M2 f (q 0) 0 = M f (q 0) 0 := fun f a1 a2 => g f _ 0 o0.1 (Or.inl a1) (Or.inl a2)
    have gf2 : ∀ f, f ≠ 93 → f ≠ 56 → M2 f (q 2) 0 = M f (q 2) 0 := fun f a1 a2 => g f _ 0 o2.1 (Or.inl a1) (Or.inl a2)
    have k1 := ob_k hk o1 (by omega)
    have k3 := ob_k hk o3 (by omega)
    have k4 := ob_k hk o4 (by omega)
    have m1 := hk _ _ (by omega) o1
    have m3 := hk _ _ (by omega) o3
    have m4 := hk _ _ (by omega) o4
    have m0 := gq 0 (by omega) (by omega) (by omega) (by omega)
    have m9 := gq (10 + -1) (by omega) (by omega) (by omega) (by omega)
    refine ⟨⟨?_, k1, ?_, k3, k4⟩, ⟨?_, ?_, ?_, ?_⟩, ⟨?_, ?_, ?_, ?_, ?_⟩, ?_, ?_, ?_, ?_, ?_⟩
    · unfold ob; rw [m0, gf _ (by decide) (by decide), gf _ (by decide) (by decide)]; exact ⟨mL _ o0.1, o0.2⟩
    · unfold ob; rw [q20, gf2 _ (by decide) (by decide), gf2 _ (by decide) (by decide)]; exact ⟨mL _ o2.1, o2.2⟩
    · rw [m1.1, m1.2.2]; exact n1
    · rw [q20, gf2 _ (by decide) (by decide)]; exact n2
    · rw [m3.1, m3.2.2]; exact n3
    · rw [m4.1, m4.2.2]; exact n4
    · rw [m0, m9, gf _ (by decide) (by decide)]; exact r51
    · rw [m0, m1.1, gf _ (by decide) (by decide)]; exact r52
    · rw [m0, q20, gf _ (by decide) (by decide)]; exact r55
    · rw [m0, m3.1, gf _ (by decide) (by decide)]; exact r57
    · rw [m0, m4.1, gf _ (by decide) (by decide)]; exact r59
    · rw [m0, gf _ (by decide) (by decide)]; exact v50
    · rw [m0, gf _ (by decide) (by decide)]; exact v53
    · rw [m0, gf _ (by decide) (by decide)]; exact v54
    · rw [m0, ← hM2, upM_f _ _ _ _ _ _ (by decide), upM_f _ _ _ _ _ _ (by decide), upM_f _ _ _ _ _ _ (by decide), upM_f _ _ _ _ _ _ (by decide), upM_e]
      exact (upI_e (st 9) 0 (st 9 0 + 1)).symm
    · rw [m0, gf _ (by decide) (by decide)]; exact v58
  · have d1 : e < st 9 0 + 1 := d1
    by_cases z : e = st 9 0
    · subst z
      have hv := (I_c hI (st 9 0) d0 hn).2.2.2 (Int.le_refl _)
      have hN0 : vN st (st 9 0) = 0 := by rw [vN_t d0]; exact hv.1
      have hl : ∀ f i, f ≠ 80 → f ≠ 93 → f ≠ 56 → ∀ x, M2 f x i = M1 f x i := fun f i a0 a1 a2 x => hlow f x i a0 (Or.inl a1) (Or.inl a2)
      refine ⟨?_, ?_⟩
      · show cWy st q2 _ M2 (st 9 0)
        unfold cWy ob
        rw [gw, gb, hN0]
        refine ⟨⟨⟨List.mem_append_left _ (List.mem_append_left _ (List.mem_append_right _ List.mem_cons_self)), gh.2.1, (hl 90 0 (by decide) (by decide) (by decide) w1).trans hw.1⟩, (hl 40 0 (by decide) (by decide) (by decide) w1).trans hw.2.1⟩, (hl 41 0 (by decide) (by decide) (by decide) w1).trans hw.2.2.1, ?_, ?_, ?_, ⟨⟨List.mem_append_left _ (List.mem_append_right _ List.mem_cons_self), gh.2.2.1, (hl 90 0 (by decide) (by decide) (by decide) b).trans hb.1⟩, ?_⟩, fun i hi => by omega⟩
        · rw [hl 42 0 (by decide) (by decide) (by decide) w1, hw.2.2.2.1, vP_t d0]
          show st 1 0 = 16 * (st 1 0 / 16) + st 1 0 % 16
          omega
        · rw [hl 43 0 (by decide) (by decide) (by decide) w1, hw.2.2.2.2.1, vP_t d0]; rfl
        · rw [hl 44 0 (by decide) (by decide) (by decide) w1, hw.2.2.2.2.2, vM_t d0]; rfl
        · rw [hl 91 0 (by decide) (by decide) (by decide) b, hb.2]; unfold vL; rw [if_neg (by omega)]
      · show cCr st q2 _ M2 (st 9 0)
        unfold cCr ob
        rw [gp, gr, gw, q20, hv.2.1, hv.2.2.1]
        refine ⟨⟨⟨List.mem_append_left _ (List.mem_append_left _ (List.mem_append_left _ (List.mem_append_right _ List.mem_cons_self))), gh.1, (hl 90 0 (by decide) (by decide) (by decide) p).trans hc.1⟩, ?_⟩, (hl 0 0 (by decide) (by decide) (by decide) p).trans hc.2.1, (hl 1 0 (by decide) (by decide) (by decide) p).trans hc.2.2.1, (hl 2 0 (by decide) (by decide) (by decide) p).trans hc.2.2.2.1, (hl 3 0 (by decide) (by decide) (by decide) p).trans hc.2.2.2.2, ⟨⟨List.mem_append_right _ List.mem_cons_self, gh.2.2.2, (hl 90 0 (by decide) (by decide) (by decide) r).trans hr.1⟩, (hl 91 0 (by decide) (by decide) (by decide) r).trans hr.2.1⟩, fun g1 a0 a1 => ?_⟩
        · rw [← hM2, upM_f _ _ _ _ _ _ (by decide), upM_f _ _ _ _ _ _ (by decide), upM_f _ _ _ _ _ _ (by decide), upM_f _ _ _ _ _ _ (by decide), upM_f _ _ _ _ _ _ (by decide), upM_e]
        · rw [hl _ _ (by decide) (by decide) (by decide), hr.2.2 g1 a0 a1, hv.2.2.2 g1 a0 a1]
    · have d2 : e < st 9 0 := by omega
      have be := vN_t (st := st) d0
      have be2 := (I_c hI e d0 (by omega)).1
      exact ⟨cWy_k (st := st) hk (hCa e d0 d2).1 (by omega) (by omega) (fun i hi => by omega), cCr_k (st := st) hk (hCa e d0 d2).2 (by omega) (by omega) (gq _ (by omega) (by omega) (by omega) (by omega)) (by rw [q20]; exact g 93 _ e hX.1.2.2.1.1 (Or.inr (Or.inr z)) (Or.inl (by decide)))⟩
  · have d1 : g1 < st 5 0 := d1
    exact cGt_k (st := st) hk (hGa g1 d0 d1) (by omega) (by rw [hr1.1]; exact hr1.2.2 93 g1)
  · have d1 : j1 < st 17 0 := d1
    exact cPt_k (st := st) hk (hPa j1 d0 d1) (by omega) (by rw [hr3.1]; exact hr3.2.2 93 j1)
