/-! the object grows -/
section Gr
variable {N : Int} {st : ST} {q : Int → Nat} {L : List Nat} {M : MM} {c : Int} {p : Nat}
/-- a car's track with a piece more -/
theorem CW_piece (hI : I6 N st) (hC : CW st q L M) (hc : 0 ≤ c ∧ c < st 9 0) (hn : st 10 c < 60) (hp : p ∉ L) {d m t k : Int} (hd : (d = -1 ∧ k = 0) ∨ (d ≠ -1 ∧ k = 1)) :
    CW (aP st c d m t) (upq q (160 + 60 * c + vN st c) p) (L ++ [p]) (upM (apM M p (vM st c (vN st c).toNat) m (clO (vP st c (vN st c).toNat)) (vP st c (vN st c).toNat).2.2 t k (q (10 + c)) (q (20 + c)) (vN st c)) 80 p 0 (160 + 60 * c + vN st c)) := by
  obtain ⟨hX, hB, hCa, hGa, hPa⟩ := hC
  have i5 := I_ga hI
  have i9 := I_ca hI
  have i17 := I_pa hI
  obtain ⟨hWc, hCc⟩ := hCa c hc.1 hc.2
  have bB := vN_b hI (c := -1) (Or.inl rfl)
  have bB2 : vL (-1) = 30 := rfl
  have bc := vN_t (st := st) hc.1
  have bc2 := (I_c hI c hc.1 (by omega)).1
  have hk := kp_new (M' := upM (apM M p (vM st c (vN st c).toNat) m (clO (vP st c (vN st c).toNat)) (vP st c (vN st c).toNat).2.2 t k (q (10 + c)) (q (20 + c)) (vN st c)) 80 p 0 (160 + 60 * c + vN st c)) (t2 := 160 + 60 * c + vN st c) hp hWc.1.1 hWc.2.2.2.2.2.1.1 (fun f b i h1 h2 h3 => by simp [apM, upM, alM, h1, h2, h3])
  have hr1 := hk 1 13 (by omega) hX.1.2.1
  have hr2 := hk 2 12 (by omega) hX.1.2.2.1
  have hr3 := hk 3 14 (by omega) hX.1.2.2.2.1
  have hS : ∀ e : Int, 0 ≤ e → e < 8 → ∀ n : Nat, (n : Int) ≤ vN st e → vP (aP st c d m t) e n = vP st e n ∧ vM (aP st c d m t) e n = vM st e n := fun e e0 e1 n hn2 => by
    rw [vN_t e0] at hn2
    rw [vP_t e0, vP_t e0, vM_t e0, vM_t e0]
    exact ⟨tP_aP hI hc hn ⟨e0, e1⟩ n hn2, tM_aP hI hc hn ⟨e0, e1⟩ n hn2⟩
  have hS3 : ∀ e : Int, 0 ≤ e → e < 8 → ∀ n : Nat, (n : Int) < vN st e → vD (aP st c d m t) e n = vD st e n ∧ vT (aP st c d m t) e n = vT st e n ∧ vK (aP st c d m t) e n = vK st e n := fun e e0 e1 n hn2 => by
    have be := (I_c hI e e0 e1).1
    rw [vN_t e0] at hn2
    have hix : ¬ 60 * e + (n : Int) = 60 * c + st 10 c := fun z => by
      have := aP_idx ⟨e0, e1⟩ ⟨hc.1, by omega⟩ (i := (n : Int)) ⟨by omega, by omega⟩ ⟨bc2.1, hn⟩ z
      rw [this.1] at hn2
      omega
    rw [vD_t e0, vD_t e0, vT_t e0, vT_t e0, vK_t e0, vK_t e0]
    refine ⟨upI_n _ _ hix, upI_n _ _ hix, ?_⟩
    rw [show aP st c d m t 11 (60 * e + (n : Int)) = st 11 (60 * e + (n : Int)) from upI_n _ _ hix]
  refine ⟨cXo_k hk hX (fun t a0 a1 => by omega) (upq_n _ _ (by omega)), cWy_k (st := st) hk hB (by omega) (by omega) (fun i hi => by omega), fun e e0 e1 => ?_, fun g1 e0 e1 => ?_, fun j1 e0 e1 => ?_⟩
  · have e1 : e < st 9 0 := e1
    have e8 : e < 8 := by omega
    have be := vN_t (st := st) e0
    have be2 := (I_c hI e e0 e8).1
    refine ⟨?_, ?_⟩
    · by_cases z : e = c
      · subst z
        have hnn : ((vN st e).toNat : Int) = st 10 e := by omega
        have hD : tD (aP st e d m t) e (vN st e).toNat = if d = -1 then 0 else m := by
          unfold tD
          show (if upI (st 11) (60 * e + st 10 e) d (60 * e + ((vN st e).toNat : Int)) = -1 then 0 else upI (st 12) (60 * e + st 10 e) m (60 * e + ((vN st e).toNat : Int))) = _
          rw [hnn, upI_e, upI_e]
        have hP := (hS e e0 e8 (vN st e).toNat (by omega)).1
        rw [vP_t e0, vP_t e0] at hP
        refine cWy_ap hWc hp (by omega) (by omega) ?_ (hS e e0 e8) (hS3 e e0 e8) ⟨?_, ?_, ?_⟩ ?_ ?_
        · rw [vN_t e0, vN_t e0]; exact upI_e _ _ _
        · rw [vD_t e0, hnn]; exact upI_e _ _ _
        · rw [vT_t e0, hnn]; exact upI_e _ _ _
        · rw [vK_t e0, hnn, show aP st e d m t 11 (60 * e + st 10 e) = d from upI_e _ _ _]
          rcases hd with ⟨h1, h2⟩ | ⟨h1, h2⟩
          · rw [if_pos h1, h2]
          · rw [if_neg h1, h2]
        · rw [vP_t e0, vP_t e0, tP_s, hP, hD]
          unfold clO
          dsimp only
          rcases hd with ⟨h1, h2⟩ | ⟨h1, h2⟩
          · rw [if_pos h1, if_pos h2, dx_0, dy_0]; omega
          · rw [if_neg h1, if_neg (by omega)]; omega
        · rw [vP_t e0, vP_t e0, tP_s, hP]
          show ((tP st e (vN st e).toNat).2.2 + upI (st 13) (60 * e + st 10 e) t (60 * e + ((vN st e).toNat : Int))) % 4 = _
          rw [hnn, upI_e]
      · refine cWy_s (cWy_k hk (hCa e e0 e1).1 (by omega) (by omega) (fun i hi => by omega)) ?_ (hS e e0 e8) (hS3 e e0 e8) (by omega)
        rw [vN_t e0, vN_t e0]; exact upI_n _ _ z
    · exact cCr_k hk (hCa e e0 e1).2 (by omega) (by omega) (upq_n _ _ (by omega)) (by rw [hr2.1]; exact hr2.2.2 93 e)
  · have e1 : g1 < st 5 0 := e1
    exact cGt_k hk (hGa g1 e0 e1) (by omega) (by rw [hr1.1]; exact hr1.2.2 93 g1)
  · have e1 : j1 < st 17 0 := e1
    exact cPt_k hk (hPa j1 e0 e1) (by omega) (by rw [hr3.1]; exact hr3.2.2 93 j1)
/-- the book with an entry more -/
theorem CW_addEntry (hI : I6 N st) (hC : CW st q L M) (hn : st 2 0 < 30) (hp : p ∉ L) (a b : Int) :
    CW (sAddEntry st a b) (upq q (160 + 60 * -1 + vN st (-1)) p) (L ++ [p]) (upM (apM M p (vM st (-1) (vN st (-1)).toNat) a (clO (vP st (-1) (vN st (-1)).toNat)) (vP st (-1) (vN st (-1)).toNat).2.2 b 1 (q (10 + -1)) (q (20 + -1)) (vN st (-1))) 80 p 0 (160 + 60 * -1 + vN st (-1))) := by
  obtain ⟨hX, hB, hCa, hGa, hPa⟩ := hC
  have i2 := I_en hI
  have i5 := I_ga hI
  have i9 := I_ca hI
  have i17 := I_pa hI
  have bB : vN st (-1) = st 2 0 := rfl
  have hk := kp_new (M' := upM (apM M p (vM st (-1) (vN st (-1)).toNat) a (clO (vP st (-1) (vN st (-1)).toNat)) (vP st (-1) (vN st (-1)).toNat).2.2 b 1 (q (10 + -1)) (q (20 + -1)) (vN st (-1))) 80 p 0 (160 + 60 * -1 + vN st (-1))) (t2 := 160 + 60 * -1 + vN st (-1)) hp hB.1.1 hB.2.2.2.2.2.1.1 (fun f b i h1 h2 h3 => by have h2 : b ≠ q 9 := h2; have h3 : b ≠ q 19 := h3; simp [apM, upM, alM, h1, h2, h3])
  have hr1 := hk 1 13 (by omega) hX.1.2.1
  have hr2 := hk 2 12 (by omega) hX.1.2.2.1
  have hr3 := hk 3 14 (by omega) hX.1.2.2.2.1
  have hb : ∀ n : Nat, (n : Int) ≤ st 2 0 → bP (sAddEntry st a b) n = bP st n := fun n hn2 => wP_c (fun i hi => ⟨upI_n _ _ (by omega), upI_n _ _ (by omega)⟩)
  have hm : ∀ n : Nat, (n : Int) ≤ st 2 0 → sM (fun i => sAddEntry st a b 3 (i : Int)) n = sM (fun i => st 3 (i : Int)) n := fun n hn2 => sM_c (fun i hi => upI_n _ _ (by omega))
  refine ⟨cXo_k hk hX (fun t a0 a1 => by omega) (upq_n _ _ (by omega)), ?_, fun e e0 e1 => ?_, fun g1 e0 e1 => ?_, fun j1 e0 e1 => ?_⟩
  · have hnn : ((vN st (-1)).toNat : Int) = st 2 0 := by omega
    have hP := hb (vN st (-1)).toNat (by omega)
    refine cWy_ap hB hp (by omega) (by omega) rfl (fun n hn2 => ⟨hb n hn2, hm n hn2⟩) (fun n hn2 => ⟨upI_n _ _ (by omega), upI_n _ _ (by omega), rfl⟩) ⟨?_, ?_, rfl⟩ ?_ ?_
    · show upI (st 3) (st 2 0) a ((vN st (-1)).toNat : Int) = a
      rw [hnn, upI_e]
    · show upI (st 4) (st 2 0) b ((vN st (-1)).toNat : Int) = b
      rw [hnn, upI_e]
    · rw [if_neg (by decide)]
      show clO (bP (sAddEntry st a b) ((vN st (-1)).toNat + 1)) = clO (bP st (vN st (-1)).toNat) + (16 * dx (bP st (vN st (-1)).toNat).2.2 a + dy (bP st (vN st (-1)).toNat).2.2 a)
      rw [bP_s, hP, show sAddEntry st a b 3 ((vN st (-1)).toNat : Int) = a by rw [hnn]; exact upI_e _ _ _]
      unfold clO
      dsimp only
      omega
    · show (bP (sAddEntry st a b) ((vN st (-1)).toNat + 1)).2.2 = ((bP st (vN st (-1)).toNat).2.2 + b) % 4
      rw [bP_s, hP, show sAddEntry st a b 4 ((vN st (-1)).toNat : Int) = b by rw [hnn]; exact upI_e _ _ _]
  · have e1 : e < st 9 0 := e1
    have be := vN_t (st := st) e0
    have be2 := (I_c hI e e0 (by omega)).1
    refine ⟨?_, cCr_k hk (hCa e e0 e1).2 (by omega) (by omega) (upq_n _ _ (by omega)) (by rw [hr2.1]; exact hr2.2.2 93 e)⟩
    refine cWy_s (cWy_k hk (hCa e e0 e1).1 (by omega) (by omega) (fun i hi => by omega)) ?_ (fun n _ => ?_) (fun n _ => ?_) (by omega)
    · rw [vN_t e0, vN_t e0]; rfl
    · rw [vP_t e0, vP_t e0, vM_t e0, vM_t e0]; exact ⟨rfl, rfl⟩
    · rw [vD_t e0, vD_t e0, vT_t e0, vT_t e0, vK_t e0, vK_t e0]; exact ⟨rfl, rfl, rfl⟩
  · have e1 : g1 < st 5 0 := e1
    have h6 := (I_g hI g1 e0 e1).1
    refine cGt_s (cGt_k hk (hGa g1 e0 e1) (by omega) (by rw [hr1.1]; exact hr1.2.2 93 g1)) rfl ?_ ?_
    · show clO (bP (sAddEntry st a b) ((st 6 g1).toNat + 1)) = clO (bP st ((st 6 g1).toNat + 1))
      rw [hb _ (by omega)]
    · show st 7 g1 + sM (fun i => sAddEntry st a b 3 (i : Int)) ((st 6 g1).toNat + 1) = st 7 g1 + sM (fun i => st 3 (i : Int)) ((st 6 g1).toNat + 1)
      rw [hm _ (by omega)]
  · have e1 : j1 < st 17 0 := e1
    exact cPt_k hk (hPa j1 e0 e1) (by omega) (by rw [hr3.1]; exact hr3.2.2 93 j1)
/-- the object's own cell and one of its rows change; a new object -/
theorem cXo_g {S : ST} {r cn xf : Int} {M' : MM} {f0 : Nat} (hX : cXo st q L M) (hp : p ∉ L) {t2 : Int} (ht : 50 ≤ t2)
    (hM : ∀ f b i, b ≠ p → M' f b i = if f = f0 ∧ b = q 0 ∧ i = 0 then xf else if f = 93 ∧ b = q r ∧ i = cn then (p : Int) else M f b i) (hf : f0 = 53 ∨ f0 = 58) (hr : r = 1 ∨ r = 3)
    (h1 : S 1 0 = st 1 0) (h5 : S 5 0 = if f0 = 53 then xf else st 5 0) (h8 : S 8 0 = st 8 0) (h9 : S 9 0 = st 9 0) (h17 : S 17 0 = if f0 = 58 then xf else st 17 0) : cXo S (upq q t2 p) (L ++ [p]) M' := by
  obtain ⟨⟨o0, o1, o2, o3, o4⟩, ⟨n1, n2, n3, n4⟩, ⟨r51, r52, r55, r57, r59⟩, v50, v53, v54, v56, v58⟩ := hX
  have e0 : q 0 ≠ p := sw_ne o0.1 hp
  have e1 : q 1 ≠ p := sw_ne o1.1 hp
  have e2 : q 2 ≠ p := sw_ne o2.1 hp
  have e3 : q 3 ≠ p := sw_ne o3.1 hp
  have e4 : q 4 ≠ p := sw_ne o4.1 hp
  have x1 : q 1 ≠ q 0 := ob_ne o1 o0 (by decide)
  have x2 : q 2 ≠ q 0 := ob_ne o2 o0 (by decide)
  have x3 : q 3 ≠ q 0 := ob_ne o3 o0 (by decide)
  have x4 : q 4 ≠ q 0 := ob_ne o4 o0 (by decide)
  have g : ∀ f b i, b ≠ p → f ≠ 93 → (f ≠ f0 ∨ b ≠ q 0) → M' f b i = M f b i := fun f b i hb hf3 hq => by
    rw [hM f b i hb, if_neg (fun z => by rcases hq with y | y; exact y z.1; exact y z.2.1), if_neg (fun z => hf3 z.1)]
  have gf : ∀ f, f ≠ 93 → f ≠ f0 → M' f (q 0) 0 = M f (q 0) 0 := fun f h1 h2 => g f _ 0 e0 h1 (Or.inl h2)
  have g0 : M' f0 (q 0) 0 = xf := by rw [hM _ _ _ e0, if_pos ⟨rfl, rfl, rfl⟩]
  unfold cXo ob
  rw [upq_n q p (u := 0) (by omega), upq_n q p (u := 1) (by omega), upq_n q p (u := 2) (by omega), upq_n q p (u := 3) (by omega), upq_n q p (u := 4) (by omega), upq_n q p (u := 10 + -1) (by omega)]
  refine ⟨⟨⟨List.mem_append_left _ o0.1, ?_, ?_⟩, ⟨List.mem_append_left _ o1.1, ?_, ?_⟩, ⟨List.mem_append_left _ o2.1, ?_, ?_⟩, ⟨List.mem_append_left _ o3.1, ?_, ?_⟩, ⟨List.mem_append_left _ o4.1, ?_, ?_⟩⟩, ⟨?_, ?_, ?_, ?_⟩, ⟨?_, ?_, ?_, ?_, ?_⟩, ?_, ?_, ?_, ?_, ?_⟩
  · rw [gf _ (by decide) (by omega)]; exact o0.2.1
  · rw [gf _ (by decide) (by omega)]; exact o0.2.2
  · rw [g _ _ _ e1 (by decide) (Or.inr x1)]; exact o1.2.1
  · rw [g _ _ _ e1 (by decide) (Or.inr x1)]; exact o1.2.2
  · rw [g _ _ _ e2 (by decide) (Or.inr x2)]; exact o2.2.1
  · rw [g _ _ _ e2 (by decide) (Or.inr x2)]; exact o2.2.2
  · rw [g _ _ _ e3 (by decide) (Or.inr x3)]; exact o3.2.1
  · rw [g _ _ _ e3 (by decide) (Or.inr x3)]; exact o3.2.2
  · rw [g _ _ _ e4 (by decide) (Or.inr x4)]; exact o4.2.1
  · rw [g _ _ _ e4 (by decide) (Or.inr x4)]; exact o4.2.2
  · rw [g _ _ _ e1 (by decide) (Or.inr x1)]; exact n1
  · rw [g _ _ _ e2 (by decide) (Or.inr x2)]; exact n2
  · rw [g _ _ _ e3 (by decide) (Or.inr x3)]; exact n3
  · rw [g _ _ _ e4 (by decide) (Or.inr x4)]; exact n4
  · rw [gf _ (by decide) (by omega)]; exact r51
  · rw [gf _ (by decide) (by omega)]; exact r52
  · rw [gf _ (by decide) (by omega)]; exact r55
  · rw [gf _ (by decide) (by omega)]; exact r57
  · rw [gf _ (by decide) (by omega)]; exact r59
  · rw [gf _ (by decide) (by omega), h1]; exact v50
  · rw [h5]
    rcases hf with rfl | rfl
    · rw [if_pos rfl]; exact g0
    · rw [if_neg (by decide), gf _ (by decide) (by decide)]; exact v53
  · rw [gf _ (by decide) (by omega), h8]; exact v54
  · rw [gf _ (by decide) (by omega), h9]; exact v56
  · rw [h17]
    rcases hf with rfl | rfl
    · rw [if_neg (by decide), gf _ (by decide) (by decide)]; exact v58
    · rw [if_pos rfl]; exact g0
theorem CW_addGate (hI : I6 N st) (hC : CW st q L M) (hn : st 5 0 < 10) (hp : p ∉ L) {a b cl du : Int} (ha : 0 ≤ a ∧ a < st 2 0) (hcl : cl = clO (bP st (a.toNat + 1))) (hdu : du = b + sM (fun i => st 3 (i : Int)) (a.toNat + 1)) :
    CW (sAddGate st a b) (upq q (50 + st 5 0) p) (L ++ [p]) (upM (upM (upM (upM (upM (upM (alM M p 1 0) 10 p 0 a) 11 p 0 cl) 12 p 0 du) 93 (q 1) (st 5 0) (p : Int)) 53 (q 0) 0 (st 5 0 + 1)) 80 p 0 (50 + st 5 0)) := by
  obtain ⟨hX, hB, hCa, hGa, hPa⟩ := hC
  have i2 := I_en hI
  have i5 := I_ga hI
  have i9 := I_ca hI
  have i17 := I_pa hI
  have bB : vN st (-1) = st 2 0 := rfl
  have e0 : q 0 ≠ p := sw_ne hX.1.1.1 hp
  have e1 : q 1 ≠ p := sw_ne hX.1.2.1.1 hp
  have x1 : q 1 ≠ q 0 := ob_ne hX.1.2.1 hX.1.1 (by decide)
  have hk := kp_new (M' := upM (upM (upM (upM (upM (upM (alM M p 1 0) 10 p 0 a) 11 p 0 cl) 12 p 0 du) 93 (q 1) (st 5 0) (p : Int)) 53 (q 0) 0 (st 5 0 + 1)) 80 p 0 (50 + st 5 0)) (t2 := 50 + st 5 0) hp hX.1.1 hX.1.2.1 (fun f b i h1 h2 h3 => by simp [upM, alM, h1, h2, h3])
  have hr2 := hk 2 12 (by omega) hX.1.2.2.1
  have hr3 := hk 3 14 (by omega) hX.1.2.2.2.1
  have q1 : upq q (50 + st 5 0) p 1 = q 1 := upq_n q p (by omega)
  refine ⟨?_, cWy_k hk hB (by omega) (by omega) (fun i hi => by omega), fun e d0 d1 => ⟨?_, ?_⟩, fun g1 d0 d1 => ?_, fun j1 d0 d1 => ?_⟩
  · refine cXo_g (f0 := 53) (r := 1) (cn := st 5 0) (xf := st 5 0 + 1) hX hp (by omega) (fun f b i hb => ?_) (Or.inl rfl) (Or.inl rfl) rfl (by rw [if_pos rfl]; exact upI_e (st 5) 0 (st 5 0 + 1)) rfl rfl rfl
    simp [upM, alM, hb]
  · have d1 : e < st 9 0 := d1
    have be := vN_t (st := st) d0
    have be2 := (I_c hI e d0 (by omega)).1
    exact cWy_k hk (hCa e d0 d1).1 (by omega) (by omega) (fun i hi => by omega)
  · have d1 : e < st 9 0 := d1
    exact cCr_k hk (hCa e d0 d1).2 (by omega) (by omega) (upq_n _ _ (by omega)) (by rw [hr2.1]; exact hr2.2.2 93 e)
  · have d1 : g1 < st 5 0 + 1 := d1
    by_cases z : g1 = st 5 0
    · subst z
      unfold cGt ob
      rw [upq_e, q1, show sAddGate st a b 6 (st 5 0) = a from upI_e _ _ _, show gC (sAddGate st a b) (st 5 0) = cl by rw [hcl]; show clO (bP st ((upI (st 6) (st 5 0) a (st 5 0)).toNat + 1)) = _; rw [upI_e], show gD (sAddGate st a b) (st 5 0) = du by rw [hdu]; show upI (st 7) (st 5 0) b (st 5 0) + sM (fun i => st 3 (i : Int)) ((upI (st 6) (st 5 0) a (st 5 0)).toNat + 1) = _; rw [upI_e, upI_e]]
      refine ⟨⟨⟨List.mem_append_right _ List.mem_cons_self, ?_, ?_⟩, ?_⟩, ?_, ?_, ?_⟩ <;> simp [upM, alM, e0.symm, e1, e1.symm, x1]
    · have hrow : upM (upM (upM (upM (upM (upM (alM M p 1 0) 10 p 0 a) 11 p 0 cl) 12 p 0 du) 93 (q 1) (st 5 0) (p : Int)) 53 (q 0) 0 (st 5 0 + 1)) 80 p 0 (50 + st 5 0) 93 (upq q (50 + st 5 0) p 1) g1 = M 93 (q 1) g1 := by
        rw [q1]; simp [upM, alM, e1, z]
      refine cGt_s (cGt_k hk (hGa g1 d0 (by omega)) (by omega) hrow) (upI_n _ _ z) ?_ ?_
      · show clO (bP st ((upI (st 6) (st 5 0) a g1).toNat + 1)) = clO (bP st ((st 6 g1).toNat + 1))
        rw [upI_n _ _ z]
      · show upI (st 7) (st 5 0) b g1 + sM (fun i => st 3 (i : Int)) ((upI (st 6) (st 5 0) a g1).toNat + 1) = st 7 g1 + sM (fun i => st 3 (i : Int)) ((st 6 g1).toNat + 1)
        rw [upI_n _ _ z, upI_n _ _ z]
  · have d1 : j1 < st 17 0 := d1
    exact cPt_k hk (hPa j1 d0 d1) (by omega) (by rw [hr3.1]; exact hr3.2.2 93 j1)
theorem CW_bring (hI : I6 N st) (hC : CW st q L M) (hn : st 17 0 < 40) (hp : p ∉ L) {a b : Int} (hb : b ≠ -2) :
    CW (sBring st a b) (upq q (60 + st 17 0) p) (L ++ [p]) (upM (upM (upM (upM (upM (upM (upM (alM M p 2 0) 20 p 0 a) 21 p 0 b) 22 p 0 b) 23 p 0 (-1)) 93 (q 3) (st 17 0) (p : Int)) 58 (q 0) 0 (st 17 0 + 1)) 80 p 0 (60 + st 17 0)) := by
  obtain ⟨hX, hB, hCa, hGa, hPa⟩ := hC
  have i2 := I_en hI
  have i5 := I_ga hI
  have i9 := I_ca hI
  have i17 := I_pa hI
  have bB : vN st (-1) = st 2 0 := rfl
  have e0 : q 0 ≠ p := sw_ne hX.1.1.1 hp
  have e1 : q 3 ≠ p := sw_ne hX.1.2.2.2.1.1 hp
  have x1 : q 3 ≠ q 0 := ob_ne hX.1.2.2.2.1 hX.1.1 (by decide)
  have hk := kp_new (M' := upM (upM (upM (upM (upM (upM (upM (alM M p 2 0) 20 p 0 a) 21 p 0 b) 22 p 0 b) 23 p 0 (-1)) 93 (q 3) (st 17 0) (p : Int)) 58 (q 0) 0 (st 17 0 + 1)) 80 p 0 (60 + st 17 0)) (t2 := 60 + st 17 0) hp hX.1.1 hX.1.2.2.2.1 (fun f b i h1 h2 h3 => by simp [upM, alM, h1, h2, h3])
  have hr2 := hk 2 12 (by omega) hX.1.2.2.1
  have hr1 := hk 1 13 (by omega) hX.1.2.1
  have q1 : upq q (60 + st 17 0) p 3 = q 3 := upq_n q p (by omega)
  refine ⟨?_, cWy_k hk hB (by omega) (by omega) (fun i hi => by omega), fun e d0 d1 => ⟨?_, ?_⟩, fun g1 d0 d1 => ?_, fun j1 d0 d1 => ?_⟩
  · refine cXo_g (f0 := 58) (r := 3) (cn := st 17 0) (xf := st 17 0 + 1) hX hp (by omega) (fun f b i hb => ?_) (Or.inr rfl) (Or.inr rfl) rfl rfl rfl rfl (by rw [if_pos rfl]; exact upI_e (st 17) 0 (st 17 0 + 1))
    simp [upM, alM, hb]
  · have d1 : e < st 9 0 := d1
    have be := vN_t (st := st) d0
    have be2 := (I_c hI e d0 (by omega)).1
    exact cWy_k hk (hCa e d0 d1).1 (by omega) (by omega) (fun i hi => by omega)
  · have d1 : e < st 9 0 := d1
    exact cCr_k hk (hCa e d0 d1).2 (by omega) (by omega) (upq_n _ _ (by omega)) (by rw [hr2.1]; exact hr2.2.2 93 e)
  · have d1 : g1 < st 5 0 := d1
    exact cGt_k hk (hGa g1 d0 d1) (by omega) (by rw [hr1.1]; exact hr1.2.2 93 g1)
  · have d1 : j1 < st 17 0 + 1 := d1
    by_cases z : j1 = st 17 0
    · subst z
      unfold cPt ob
      rw [upq_e, q1, show sBring st a b 18 (st 17 0) = a from upI_e _ _ _, show sBring st a b 19 (st 17 0) = b from upI_e _ _ _, show sBring st a b 20 (st 17 0) = b from upI_e _ _ _]
      refine ⟨⟨⟨List.mem_append_right _ List.mem_cons_self, ?_, ?_⟩, ?_⟩, ?_, ?_, ?_, fun y => absurd y hb, ?_, ?_⟩ <;> simp [upM, alM, e0.symm, e1, e1.symm, x1]
    · have hrow : upM (upM (upM (upM (upM (upM (upM (alM M p 2 0) 20 p 0 a) 21 p 0 b) 22 p 0 b) 23 p 0 (-1)) 93 (q 3) (st 17 0) (p : Int)) 58 (q 0) 0 (st 17 0 + 1)) 80 p 0 (60 + st 17 0) 93 (upq q (60 + st 17 0) p 3) j1 = M 93 (q 3) j1 := by
        rw [q1]; simp [upM, alM, e1, z]
      exact cPt_s (cPt_k hk (hPa j1 d0 (by omega)) (by omega) hrow) (upI_n _ _ z) (upI_n _ _ z) (upI_n _ _ z) rfl
end Gr
