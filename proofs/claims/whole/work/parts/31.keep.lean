/-! what a change of memory keeps -/
def kp (q q' : Int → Nat) (L L' : List Nat) (M M' : MM) (K : Int → Prop) : Prop := ∀ t d, K t → ob q L M t d → q' t = q t ∧ q t ∈ L' ∧ ∀ f i, M' f (q t) i = M f (q t) i
def upq (q : Int → Nat) (t : Int) (p : Nat) : Int → Nat := fun u => if u = t then p else q u
theorem upq_e (q : Int → Nat) (t : Int) (p : Nat) : upq q t p t = p := by unfold upq; rw [if_pos rfl]
theorem upq_n (q : Int → Nat) {t u : Int} (p : Nat) (h : u ≠ t) : upq q t p u = q u := by unfold upq; rw [if_neg h]
theorem ob_ne {q : Int → Nat} {L : List Nat} {M : MM} {t u d e : Int} (h : ob q L M t d) (h' : ob q L M u e) (n : t ≠ u) : q t ≠ q u := fun z => n (by
  have h1 := h.2.1
  have h2 := h'.2.1
  rw [z] at h1
  omega)
/-- the ghost field is not read -/
theorem pW_80 (k : Nat → ClassId) (L : List Nat) (M : MM) (a : Nat) (i v : Int) : pW k L M = pW k L (upM M 80 a i v) := by
  refine va_pl_congr (fun b => ?_)
  have hf : ∀ f, f ≠ 80 → ∀ b i', upM M 80 a i v f b i' = M f b i' := fun f h b i' => upM_f M a i v b i' h
  unfold pF
  have hc : ∀ c, cFs c (upM M 80 a i v) b = cFs c M b := by
    intro c
    unfold cFs
    simp only [hf 0 (by decide), hf 1 (by decide), hf 2 (by decide), hf 3 (by decide), hf 10 (by decide), hf 11 (by decide), hf 12 (by decide), hf 20 (by decide), hf 21 (by decide), hf 22 (by decide), hf 23 (by decide), hf 30 (by decide), hf 31 (by decide), hf 32 (by decide), hf 33 (by decide), hf 34 (by decide), hf 35 (by decide), hf 40 (by decide), hf 41 (by decide), hf 42 (by decide), hf 43 (by decide), hf 44 (by decide), hf 50 (by decide), hf 51 (by decide), hf 52 (by decide), hf 53 (by decide), hf 54 (by decide), hf 55 (by decide), hf 56 (by decide), hf 57 (by decide), hf 58 (by decide), hf 59 (by decide)]
  simp only [hf 90 (by decide), hf 91 (by decide), hf 92 (by decide), hf 93 (by decide), hc]
section Kp
variable {st S : ST} {q q' : Int → Nat} {L L' : List Nat} {M M' : MM} {K : Int → Prop} {c t d : Int}
theorem ob_k (hk : kp q q' L L' M M' K) (h : ob q L M t d) (ht : K t) : ob q' L' M' t d := by
  obtain ⟨h1, h2, h3⟩ := hk t d ht h
  unfold ob
  rw [h1, h3, h3]
  exact ⟨h2, h.2⟩
theorem cPc_k {i : Nat} (hk : kp q q' L L' M M' K) (h : cPc st q L M c i) (ha : q' (20 + c) = q (20 + c) ∧ M' 93 (q (20 + c)) (i : Int) = M 93 (q (20 + c)) (i : Int)) (ht : K (160 + 60 * c + (i : Int))) : cPc st q' L' M' c i := by
  obtain ⟨⟨h0, h1⟩, h2⟩ := h
  have ho := ob_k hk h1 ht
  obtain ⟨e1, -, e3⟩ := hk _ _ ht h1
  unfold cPc
  refine ⟨⟨?_, ho⟩, ?_⟩
  · rw [ha.1, ha.2, e1]; exact h0
  · rw [e1, e3, e3, e3, e3, e3, e3]
    exact h2
theorem cWy_k (hk : kp q q' L L' M M' K) (h : cWy st q L M c) (h1 : K (10 + c)) (h2 : K (20 + c)) (h3 : ∀ i : Nat, (i : Int) < vN st c → K (160 + 60 * c + (i : Int))) : cWy st q' L' M' c := by
  obtain ⟨⟨o1, g1⟩, g2, g3, g4, g5, ⟨o2, g6⟩, g7⟩ := h
  obtain ⟨e1, -, e3⟩ := hk _ _ h1 o1
  obtain ⟨f1, -, f3⟩ := hk _ _ h2 o2
  have p1 := ob_k hk o1 h1
  have p2 := ob_k hk o2 h2
  refine ⟨⟨p1, ?_⟩, ?_, ?_, ?_, ?_, ⟨p2, ?_⟩, fun i hi => cPc_k hk (g7 i hi) ⟨f1, f3 _ _⟩ (h3 i hi)⟩
  · rw [e1, e3, f1]; exact g1
  · rw [e1, e3]; exact g2
  · rw [e1, e3]; exact g3
  · rw [e1, e3]; exact g4
  · rw [e1, e3]; exact g5
  · rw [f1, f3]; exact g6
theorem cCr_k (hk : kp q q' L L' M M' K) (h : cCr st q L M c) (h1 : K (30 + c)) (h2 : K (40 + c)) (h3 : q' (10 + c) = q (10 + c)) (hr : M' 93 (q' 2) c = M 93 (q 2) c) : cCr st q' L' M' c := by
  obtain ⟨⟨o1, g1⟩, g2, g3, g4, g5, ⟨o2, g6⟩, g7⟩ := h
  obtain ⟨e1, -, e3⟩ := hk _ _ h1 o1
  obtain ⟨f1, -, f3⟩ := hk _ _ h2 o2
  have p1 := ob_k hk o1 h1
  have p2 := ob_k hk o2 h2
  refine ⟨⟨p1, ?_⟩, ?_, ?_, ?_, ?_, ⟨p2, ?_⟩, fun g a0 a1 => ?_⟩
  · rw [hr, e1]; exact g1
  · rw [e1, e3, h3]; exact g2
  · rw [e1, e3, f1]; exact g3
  · rw [e1, e3]; exact g4
  · rw [e1, e3]; exact g5
  · rw [f1, f3]; exact g6
  · rw [f1, f3]; exact g7 g a0 a1
theorem cGt_k {g : Int} (hk : kp q q' L L' M M' K) (h : cGt st q L M g) (h1 : K (50 + g)) (hr : M' 93 (q' 1) g = M 93 (q 1) g) : cGt st q' L' M' g := by
  obtain ⟨⟨o1, g1⟩, g2, g3, g4⟩ := h
  obtain ⟨e1, -, e3⟩ := hk _ _ h1 o1
  have p1 := ob_k hk o1 h1
  refine ⟨⟨p1, ?_⟩, ?_, ?_, ?_⟩
  · rw [hr, e1]; exact g1
  · rw [e1, e3]; exact g2
  · rw [e1, e3]; exact g3
  · rw [e1, e3]; exact g4
theorem cPt_k {j : Int} (hk : kp q q' L L' M M' K) (h : cPt st q L M j) (h1 : K (60 + j)) (hr : M' 93 (q' 3) j = M 93 (q 3) j) : cPt st q' L' M' j := by
  obtain ⟨⟨o1, g1⟩, g2, g3, g4, g5⟩ := h
  obtain ⟨e1, -, e3⟩ := hk _ _ h1 o1
  have p1 := ob_k hk o1 h1
  refine ⟨⟨p1, ?_⟩, ?_, ?_, ?_, ?_⟩
  · rw [hr, e1]; exact g1
  · rw [e1, e3]; exact g2
  · rw [e1, e3]; exact g3
  · rw [e1, e3]; exact g4
  · rw [e1, e3]; exact g5
theorem cXo_k (hk : kp q q' L L' M M' K) (h : cXo st q L M) (h0 : ∀ t : Int, 0 ≤ t → t < 5 → K t) (h9 : q' (10 + -1) = q (10 + -1)) : cXo st q' L' M' := by
  obtain ⟨⟨o0, o1, o2, o3, o4⟩, n, r, v⟩ := h
  obtain ⟨a0, -, b0⟩ := hk _ _ (h0 0 (by omega) (by omega)) o0
  obtain ⟨a1, -, b1⟩ := hk _ _ (h0 1 (by omega) (by omega)) o1
  obtain ⟨a2, -, b2⟩ := hk _ _ (h0 2 (by omega) (by omega)) o2
  obtain ⟨a3, -, b3⟩ := hk _ _ (h0 3 (by omega) (by omega)) o3
  obtain ⟨a4, -, b4⟩ := hk _ _ (h0 4 (by omega) (by omega)) o4
  refine ⟨⟨ob_k hk o0 (h0 0 (by omega) (by omega)), ob_k hk o1 (h0 1 (by omega) (by omega)), ob_k hk o2 (h0 2 (by omega) (by omega)), ob_k hk o3 (h0 3 (by omega) (by omega)), ob_k hk o4 (h0 4 (by omega) (by omega))⟩, ?_, ?_, ?_⟩
  · rw [a1, a2, a3, a4, b1, b2, b3, b4]; exact n
  · rw [a0, a1, a2, a3, a4, h9, b0, b0, b0, b0, b0]; exact r
  · rw [a0, b0, b0, b0, b0, b0]; exact v
/-- the same values of another state -/
theorem cWy_s (h : cWy st q L M c) (h1 : vN S c = vN st c) (h2 : ∀ n : Nat, (n : Int) ≤ vN st c → vP S c n = vP st c n ∧ vM S c n = vM st c n) (h3 : ∀ n : Nat, (n : Int) < vN st c → vD S c n = vD st c n ∧ vT S c n = vT st c n ∧ vK S c n = vK st c n) (h0 : 0 ≤ vN st c) : cWy S q L M c := by
  obtain ⟨g1, g2, g3, g4, g5, g6, g7⟩ := h
  have e := h2 (vN st c).toNat (by omega)
  refine ⟨g1, ?_, ?_, ?_, ?_, g6, fun i hi => ?_⟩
  · rw [h1]; exact g2
  · rw [h1, e.1]; exact g3
  · rw [h1, e.1]; exact g4
  · rw [h1, e.2]; exact g5
  · rw [h1] at hi
    obtain ⟨k1, k2, k3, k4, k5, k6, k7⟩ := g7 i hi
    have e1 := h2 i (by omega)
    have e2 := h3 i hi
    refine ⟨k1, ?_, ?_, ?_, ?_, ?_, ?_⟩
    · rw [e1.2]; exact k2
    · rw [e2.1]; exact k3
    · rw [e1.1]; exact k4
    · rw [e1.1]; exact k5
    · rw [e2.2.1]; exact k6
    · rw [e2.2.2]; exact k7
theorem cGt_s {g : Int} (h : cGt st q L M g) (h1 : S 6 g = st 6 g) (h2 : gC S g = gC st g) (h3 : gD S g = gD st g) : cGt S q L M g := by
  obtain ⟨g1, g2, g3, g4⟩ := h
  exact ⟨g1, by rw [h1]; exact g2, by rw [h2]; exact g3, by rw [h3]; exact g4⟩
/-- one object changes -/
theorem kp_one {t0 d0 : Int} (hA : ob q L M t0 d0) (hM : ∀ f b i, b ≠ q t0 → M' f b i = M f b i) : kp q q L L M M' (fun t => t ≠ t0) := fun t d ht ho => ⟨rfl, ho.1, fun f i => hM f _ i (ob_ne ho hA ht)⟩
theorem kp_two {t0 d0 t1 d1 : Int} (hA : ob q L M t0 d0) (hB : ob q L M t1 d1) (hM : ∀ f b i, b ≠ q t0 → b ≠ q t1 → M' f b i = M f b i) : kp q q L L M M' (fun t => t ≠ t0 ∧ t ≠ t1) := fun t d ht ho => ⟨rfl, ho.1, fun f i => hM f _ i (ob_ne ho hA ht.1) (ob_ne ho hB ht.2)⟩
/-- a new object, two others change -/
theorem kp_new {t0 d0 t1 d1 t2 : Int} {p : Nat} (hp : p ∉ L) (hA : ob q L M t0 d0) (hB : ob q L M t1 d1) (hM : ∀ f b i, b ≠ p → b ≠ q t0 → b ≠ q t1 → M' f b i = M f b i) : kp q (upq q t2 p) L (L ++ [p]) M M' (fun t => t ≠ t2 ∧ t ≠ t0 ∧ t ≠ t1) := fun t d ht ho => ⟨upq_n q p ht.1, List.mem_append_left _ ho.1, fun f i => hM f _ i (sw_ne ho.1 hp) (ob_ne ho hA ht.2.1) (ob_ne ho hB ht.2.2)⟩
end Kp
section Ap
variable {N : Int} {st S : ST} {q : Int → Nat} {L : List Nat} {M : MM} {c : Int} {p : Nat}
/-- a way with a piece more -/
theorem cWy_ap (h : cWy st q L M c) (hp : p ∉ L) {m t d : Int} (hc : -1 ≤ c) (h0 : 0 ≤ vN st c) (h1 : vN S c = vN st c + 1) (h2 : ∀ n : Nat, (n : Int) ≤ vN st c → vP S c n = vP st c n ∧ vM S c n = vM st c n) (h3 : ∀ n : Nat, (n : Int) < vN st c → vD S c n = vD st c n ∧ vT S c n = vT st c n ∧ vK S c n = vK st c n)
    (h4 : vD S c (vN st c).toNat = m ∧ vT S c (vN st c).toNat = t ∧ vK S c (vN st c).toNat = d) (h5 : clO (vP S c ((vN st c).toNat + 1)) = if d = 0 then clO (vP st c (vN st c).toNat) else clO (vP st c (vN st c).toNat) + (16 * dx (vP st c (vN st c).toNat).2.2 m + dy (vP st c (vN st c).toNat).2.2 m)) (h6 : (vP S c ((vN st c).toNat + 1)).2.2 = ((vP st c (vN st c).toNat).2.2 + t) % 4) :
    cWy S (upq q (160 + 60 * c + vN st c) p) (L ++ [p]) (upM (apM M p (vM st c (vN st c).toNat) m (clO (vP st c (vN st c).toNat)) (vP st c (vN st c).toNat).2.2 t d (q (10 + c)) (q (20 + c)) (vN st c)) 80 p 0 (160 + 60 * c + vN st c)) c := by
  obtain ⟨⟨o1, g1⟩, g2, g3, g4, g5, ⟨o2, g6⟩, g7⟩ := h
  have e1 : q (10 + c) ≠ p := sw_ne o1.1 hp
  have e2 : q (20 + c) ≠ p := sw_ne o2.1 hp
  have e3 : q (10 + c) ≠ q (20 + c) := ob_ne o1 o2 (by omega)
  have q1 : upq q (160 + 60 * c + vN st c) p (10 + c) = q (10 + c) := upq_n q p (by omega)
  have q2 : upq q (160 + 60 * c + vN st c) p (20 + c) = q (20 + c) := upq_n q p (by omega)
  have q3 : upq q (160 + 60 * c + vN st c) p (160 + 60 * c + vN st c) = p := upq_e q _ p
  have hT : vN S c = ((((vN st c).toNat + 1 : Nat)) : Int) := by omega
  have hT2 : (vN S c).toNat = (vN st c).toNat + 1 := by omega
  have hm : vM S c ((vN st c).toNat + 1) = vM st c (vN st c).toNat + m := by rw [vM_s, (h2 _ (by omega)).2, h4.1]
  unfold cWy ob
  rw [q1, q2, hT2, h1]
  refine ⟨⟨⟨List.mem_append_left _ o1.1, ?_, ?_⟩, ?_⟩, ?_, ?_, ?_, ?_, ⟨⟨List.mem_append_left _ o2.1, ?_, ?_⟩, ?_⟩, fun i hi => ?_⟩
  · simp [apM, upM, alM, e1, e2, e3]; exact o1.2.1
  · simp [apM, upM, alM, e1, e2, e3]; exact o1.2.2
  · simp [apM, upM, alM, e1, e2, e3]; exact g1
  · simp [apM, upM, alM, e1, e2, e3]
  · rw [h5]; simp [apM, upM, alM, e1, e2, e3]
  · rw [h6]; simp [apM, upM, alM, e1, e2, e3]
  · rw [hm]; simp [apM, upM, alM, e1, e2, e3]
  · simp [apM, upM, alM, e2, e3.symm]; exact o2.2.1
  · simp [apM, upM, alM, e2, e3.symm]; exact o2.2.2
  · simp [apM, upM, alM, e2, e3.symm]; exact g6
  · unfold cPc ob
    by_cases hn : (i : Int) = vN st c
    · have hin : i = (vN st c).toNat := by omega
      rw [hn, q3, q2, hin, (h2 _ (by omega)).1, (h2 _ (by omega)).2, h4.1, h4.2.1, h4.2.2]
      refine ⟨⟨?_, ⟨List.mem_append_right _ List.mem_cons_self, ?_, ?_⟩⟩, ?_, ?_, ?_, ?_, ?_, ?_⟩ <;> simp [apM, upM, alM, e1.symm, e2, e2.symm, e3.symm]
    · have hi2 : (i : Int) < vN st c := by omega
      obtain ⟨⟨k0, k1⟩, k2, k3, k4, k5, k6, k7⟩ := g7 i hi2
      have e4 : q (160 + 60 * c + (i : Int)) ≠ p := sw_ne k1.1 hp
      have e5 : q (160 + 60 * c + (i : Int)) ≠ q (10 + c) := ob_ne k1 o1 (by omega)
      have e6 : q (160 + 60 * c + (i : Int)) ≠ q (20 + c) := ob_ne k1 o2 (by omega)
      have hn2 : ¬ 160 + 60 * c + (i : Int) = 160 + 60 * c + vN st c := by omega
      rw [upq_n q p hn2, q2, (h2 i (by omega)).1, (h2 i (by omega)).2, (h3 i hi2).1, (h3 i hi2).2.1, (h3 i hi2).2.2]
      refine ⟨⟨?_, ⟨List.mem_append_left _ k1.1, ?_, ?_⟩⟩, ?_, ?_, ?_, ?_, ?_, ?_⟩
      · simp [apM, upM, alM, e2, e3.symm, hn]; exact k0
      · simp [apM, upM, alM, e4, e5, e6]; exact k1.2.1
      · simp [apM, upM, alM, e4, e5, e6]; exact k1.2.2
      · simp [apM, upM, alM, e4, e5, e6]; exact k2
      · simp [apM, upM, alM, e4, e5, e6]; exact k3
      · simp [apM, upM, alM, e4, e5, e6]; exact k4
      · simp [apM, upM, alM, e4, e5, e6]; exact k5
      · simp [apM, upM, alM, e4, e5, e6]; exact k6
      · simp [apM, upM, alM, e4, e5, e6]; exact k7
end Ap
