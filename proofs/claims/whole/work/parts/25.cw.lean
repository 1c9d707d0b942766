/-! the class's memory as the state has it: the object of number t lies at q t -/
def vP (st : ST) (c : Int) (n : Nat) : Int × Int × Int := if c = -1 then bP st n else tP st c n
def vM (st : ST) (c : Int) (n : Nat) : Int := if c = -1 then sM (fun i => st 3 (i : Int)) n else tM st c n
def vN (st : ST) (c : Int) : Int := if c = -1 then st 2 0 else st 10 c
def vD (st : ST) (c : Int) (i : Nat) : Int := if c = -1 then st 3 (i : Int) else st 12 (60 * c + (i : Int))
def vT (st : ST) (c : Int) (i : Nat) : Int := if c = -1 then st 4 (i : Int) else st 13 (60 * c + (i : Int))
def vK (st : ST) (c : Int) (i : Nat) : Int := if c = -1 then 1 else if st 11 (60 * c + (i : Int)) = -1 then 0 else 1
def vL (c : Int) : Int := if c = -1 then 30 else 60
def ob (q : Int → Nat) (L : List Nat) (M : MM) (t c : Int) : Prop := q t ∈ L ∧ M 80 (q t) 0 = t ∧ M 90 (q t) 0 = c
/-- piece i of way c -/
def cPc (st : ST) (q : Int → Nat) (L : List Nat) (M : MM) (c : Int) (i : Nat) : Prop :=
  (M 93 (q (20 + c)) (i : Int) = (q (160 + 60 * c + (i : Int)) : Int) ∧ ob q L M (160 + 60 * c + (i : Int)) 3) ∧ M 30 (q (160 + 60 * c + (i : Int))) 0 = vM st c i ∧ M 31 (q (160 + 60 * c + (i : Int))) 0 = vD st c i ∧ M 32 (q (160 + 60 * c + (i : Int))) 0 = clO (vP st c i) ∧ M 33 (q (160 + 60 * c + (i : Int))) 0 = (vP st c i).2.2 ∧ M 34 (q (160 + 60 * c + (i : Int))) 0 = vT st c i ∧ M 35 (q (160 + 60 * c + (i : Int))) 0 = vK st c i
def cWy (st : ST) (q : Int → Nat) (L : List Nat) (M : MM) (c : Int) : Prop :=
  (ob q L M (10 + c) 4 ∧ M 40 (q (10 + c)) 0 = (q (20 + c) : Int)) ∧ M 41 (q (10 + c)) 0 = vN st c ∧ M 42 (q (10 + c)) 0 = clO (vP st c (vN st c).toNat) ∧ M 43 (q (10 + c)) 0 = (vP st c (vN st c).toNat).2.2 ∧ M 44 (q (10 + c)) 0 = vM st c (vN st c).toNat ∧
  (ob q L M (20 + c) 15 ∧ M 91 (q (20 + c)) 0 = vL c) ∧ ∀ i : Nat, (i : Int) < vN st c → cPc st q L M c i
def cCr (st : ST) (q : Int → Nat) (L : List Nat) (M : MM) (c : Int) : Prop :=
  (ob q L M (30 + c) 0 ∧ M 93 (q 2) c = (q (30 + c) : Int)) ∧ M 0 (q (30 + c)) 0 = (q (10 + c) : Int) ∧ M 1 (q (30 + c)) 0 = (q (40 + c) : Int) ∧ M 2 (q (30 + c)) 0 = st 14 c ∧ M 3 (q (30 + c)) 0 = st 15 c ∧ (ob q L M (40 + c) 10 ∧ M 91 (q (40 + c)) 0 = 10) ∧ ∀ g : Int, 0 ≤ g → g < 10 → M 92 (q (40 + c)) g = st 16 (10 * c + g)
def cGt (st : ST) (q : Int → Nat) (L : List Nat) (M : MM) (g : Int) : Prop :=
  (ob q L M (50 + g) 1 ∧ M 93 (q 1) g = (q (50 + g) : Int)) ∧ M 10 (q (50 + g)) 0 = st 6 g ∧ M 11 (q (50 + g)) 0 = gC st g ∧ M 12 (q (50 + g)) 0 = gD st g
def cPt (st : ST) (q : Int → Nat) (L : List Nat) (M : MM) (j : Int) : Prop :=
  (ob q L M (60 + j) 2 ∧ M 93 (q 3) j = (q (60 + j) : Int)) ∧ M 20 (q (60 + j)) 0 = st 18 j ∧ M 21 (q (60 + j)) 0 = st 19 j ∧ M 22 (q (60 + j)) 0 = st 20 j ∧ (st 20 j = -2 → M 23 (q (60 + j)) 0 = st 21 j) ∧ -1 ≤ M 23 (q (60 + j)) 0 ∧ M 23 (q (60 + j)) 0 < 8
def cXo (st : ST) (q : Int → Nat) (L : List Nat) (M : MM) : Prop :=
  (ob q L M 0 5 ∧ ob q L M 1 13 ∧ ob q L M 2 12 ∧ ob q L M 3 14 ∧ ob q L M 4 10) ∧ (M 91 (q 1) 0 = 10 ∧ M 91 (q 2) 0 = 8 ∧ M 91 (q 3) 0 = 40 ∧ M 91 (q 4) 0 = 8) ∧
  (M 51 (q 0) 0 = (q (10 + -1) : Int) ∧ M 52 (q 0) 0 = (q 1 : Int) ∧ M 55 (q 0) 0 = (q 2 : Int) ∧ M 57 (q 0) 0 = (q 3 : Int) ∧ M 59 (q 0) 0 = (q 4 : Int)) ∧
  M 50 (q 0) 0 = st 1 0 ∧ M 53 (q 0) 0 = st 5 0 ∧ M 54 (q 0) 0 = st 8 0 ∧ M 56 (q 0) 0 = st 9 0 ∧ M 58 (q 0) 0 = st 17 0
def CW (st : ST) (q : Int → Nat) (L : List Nat) (M : MM) : Prop :=
  cXo st q L M ∧ cWy st q L M (-1) ∧ (∀ c : Int, 0 ≤ c → c < st 9 0 → cWy st q L M c ∧ cCr st q L M c) ∧ (∀ g : Int, 0 ≤ g → g < st 5 0 → cGt st q L M g) ∧ ∀ j : Int, 0 ≤ j → j < st 17 0 → cPt st q L M j
/-! bounds of a way's values -/
section Vb
variable {N : Int} {st : ST} {c : Int}
theorem vN_b (hI : I6 N st) (hc : c = -1 ∨ (0 ≤ c ∧ c < 8)) : 0 ≤ vN st c ∧ vN st c ≤ vL c := by
  have h1 := I_en hI
  unfold vN vL
  split
  · exact h1
  · exact (I_c hI c (by omega) (by omega)).1
theorem vP_b (hI : I6 N st) (hc : c = -1 ∨ (0 ≤ c ∧ c < 8)) {n : Nat} (hn : (n : Int) ≤ vN st c) : ((0 ≤ (vP st c n).1 ∧ (vP st c n).1 ≤ 15) ∧ 0 ≤ (vP st c n).2.1 ∧ (vP st c n).2.1 ≤ 15) ∧ 0 ≤ (vP st c n).2.2 ∧ (vP st c n).2.2 ≤ 3 := by
  unfold vN at hn
  unfold vP
  split
  · rename_i h
    rw [if_pos h] at hn
    exact ⟨I_b hI n hn, bP_h st n⟩
  · rename_i h
    rw [if_neg h] at hn
    exact ⟨I_t hI c n (by omega) (by omega) hn, tP_h st c n⟩
theorem vC_b (hI : I6 N st) (hc : c = -1 ∨ (0 ≤ c ∧ c < 8)) {n : Nat} (hn : (n : Int) ≤ vN st c) : 0 ≤ clO (vP st c n) ∧ clO (vP st c n) ≤ 255 := by
  have := vP_b hI hc hn
  unfold clO
  omega
theorem vD_b (hI : I6 N st) (hc : c = -1 ∨ (0 ≤ c ∧ c < 8)) {n : Nat} (hn : (n : Int) < vN st c) : 0 ≤ vD st c n ∧ vD st c n ≤ 100 := by
  unfold vN at hn
  unfold vD
  split
  · rename_i h
    rw [if_pos h] at hn
    have := I_e hI n (by omega) hn
    omega
  · rename_i h
    rw [if_neg h] at hn
    exact I_m hI (by omega) (by omega) n hn
theorem vT_b (hI : I6 N st) (hc : c = -1 ∨ (0 ≤ c ∧ c < 8)) {n : Nat} (hn : (n : Int) < vN st c) : 0 ≤ vT st c n ∧ vT st c n ≤ 3 := by
  unfold vN at hn
  unfold vT
  split
  · rename_i h
    rw [if_pos h] at hn
    exact (I_e hI n (by omega) hn).2
  · rename_i h
    rw [if_neg h] at hn
    exact (I_p hI c n (by omega) (by omega) (by omega) hn).2
theorem vK_b (st : ST) (c : Int) (n : Nat) : vK st c n = 0 ∨ vK st c n = 1 := by
  unfold vK
  split
  · exact Or.inr rfl
  · split
    · exact Or.inl rfl
    · exact Or.inr rfl
theorem vM_s (st : ST) (c : Int) (n : Nat) : vM st c (n + 1) = vM st c n + vD st c n := by
  unfold vM vD
  split
  · exact sM_s _ n
  · exact tM_s st c n
theorem vM_b (hI : I6 N st) (hc : c = -1 ∨ (0 ≤ c ∧ c < 8)) : ∀ {n : Nat}, (n : Int) ≤ vN st c → 0 ≤ vM st c n ∧ vM st c n ≤ n * 100
  | 0, _ => by unfold vM; split <;> exact ⟨Int.le_refl 0, Int.le_refl 0⟩
  | n + 1, hn => by
    have h1 := vM_b hI hc (n := n) (by omega)
    have h2 := vD_b hI hc (n := n) (by omega)
    rw [vM_s]
    omega
theorem vM_b2 (hI : I6 N st) (hc : c = -1 ∨ (0 ≤ c ∧ c < 8)) {n : Nat} (hn : (n : Int) ≤ vN st c) : 0 ≤ vM st c n ∧ vM st c n ≤ 6000 := by
  have h1 := vM_b hI hc hn
  have h2 := vN_b hI hc
  have h3 : vL c ≤ 60 := by unfold vL; split <;> omega
  omega
theorem vP_t (h : 0 ≤ c) (n : Nat) : vP st c n = tP st c n := by unfold vP; rw [if_neg (by omega)]
theorem vM_t (h : 0 ≤ c) (n : Nat) : vM st c n = tM st c n := by unfold vM; rw [if_neg (by omega)]
theorem vN_t (h : 0 ≤ c) : vN st c = st 10 c := by unfold vN; rw [if_neg (by omega)]
theorem vD_t (h : 0 ≤ c) (n : Nat) : vD st c n = st 12 (60 * c + (n : Int)) := by unfold vD; rw [if_neg (by omega)]
theorem vK_t (h : 0 ≤ c) (n : Nat) : vK st c n = if st 11 (60 * c + (n : Int)) = -1 then 0 else 1 := by unfold vK; rw [if_neg (by omega)]
theorem vT_t (h : 0 ≤ c) (n : Nat) : vT st c n = st 13 (60 * c + (n : Int)) := by unfold vT; rw [if_neg (by omega)]
theorem vN_n (h : 0 ≤ c) : (vN st c).toNat = nP st c := by rw [vN_t h]; rfl
theorem clk_v (h : 0 ≤ c) : vM st c (vN st c).toNat = clk st c := by rw [vN_n h, vM_t h]; rfl
/-- sX, sY against dx, dy -/
theorem sX_d {h m : Int} (hh : 0 ≤ h ∧ h ≤ 3) : m * sX (h % 4) = dx h m := by
  have : h = 0 ∨ h = 1 ∨ h = 2 ∨ h = 3 := by omega
  rcases this with rfl | rfl | rfl | rfl <;> simp [sX, dx]
theorem sY_d {h m : Int} (hh : 0 ≤ h ∧ h ≤ 3) : m * sY (h % 4) = dy h m := by
  have : h = 0 ∨ h = 1 ∨ h = 2 ∨ h = 3 := by omega
  rcases this with rfl | rfl | rfl | rfl <;> simp [sY, dy]
theorem pcA_d {M : MM} {a : Nat} {m h : Int} (hh : 0 ≤ h ∧ h ≤ 3) (e : M 33 a 0 = h) : pcA M a m = if M 35 a 0 = 0 then M 32 a 0 else M 32 a 0 + (16 * dx h m + dy h m) := by
  unfold pcA
  rw [e, ← sX_d hh, ← sY_d hh, Int.mul_add, ← Int.mul_assoc, Int.mul_comm 16]
end Vb
section Pf
variable {N : Int} {st : ST} {c : Int} {q : Int → Nat} {L : List Nat} {M : MM}
/-- the cell after m minutes of piece n -/
theorem pcA_aC (hI : I6 N st) (hc : 0 ≤ c ∧ c < 8) {n : Nat} (hn : (n : Int) < vN st c) (hp : cPc st q L M c n) {m : Int} (hm : 0 ≤ m) (hm2 : m ≤ st 12 (60 * c + (n : Int))) : pcA M (q (160 + 60 * c + (n : Int))) m = aC st c (tM st c n + m) := by
  obtain ⟨-, -, -, e2, e3, -, e5⟩ := hp
  rw [vN_t hc.1] at hn
  have hv := tP_h st c n
  rw [vP_t hc.1] at e2 e3
  rw [vK_t hc.1] at e5
  have h1 := pA_in hI hc.1 hc.2 n hn hm hm2
  rw [pcA_d hv e3, e5, e2]
  unfold aC
  rw [h1]
  dsimp only
  unfold clO
  by_cases hs : st 11 (60 * c + (n : Int)) = -1
  · rw [if_pos hs, if_pos hs, if_pos rfl, dx_0, dy_0]
    omega
  · rw [if_neg hs, if_neg hs, if_neg (by decide)]
    omega
/-- the first minute of a piece in a cell -/
theorem pf_is (hI : I6 N st) (hc : 0 ≤ c ∧ c < 8) {n : Nat} (hn : (n : Int) < vN st c) (hp : cPc st q L M c n) {t f : Int} (ht : 0 ≤ t ∧ t ≤ 255) : isF (aC st c) (tM st c (n + 1)) t (if tM st c n < f then f else tM st c n) (pfM M (q (160 + 60 * c + (n : Int))) t f) := by
  have hA := fun m => pcA_aC hI hc hn hp (m := m)
  obtain ⟨-, e0, e1, e2, e3, -, e5⟩ := hp
  rw [vM_t hc.1] at e0
  rw [vD_t hc.1] at e1
  rw [vP_t hc.1] at e2 e3
  rw [vK_t hc.1] at e5
  rw [vN_t hc.1] at hn
  have hv := tP_h st c n
  have h1 := I_t hI c n hc.1 hc.2 (by omega)
  have h2 := I_t hI c (n + 1) hc.1 hc.2 (by omega)
  have hmm := I_m hI hc.1 hc.2 n hn
  rw [tM_s]
  unfold pfM
  rw [e5, e1, e0]
  by_cases hs : st 11 (60 * c + (n : Int)) = -1
  · rw [if_pos hs] at e5
    rw [if_pos hs, if_pos rfl]
    have hcell : ∀ m, tM st c n ≤ m → m ≤ tM st c n + st 12 (60 * c + (n : Int)) → aC st c m = M 32 (q (160 + 60 * c + (n : Int))) 0 := fun m a0 a1 => by
      have := hA (m - tM st c n) (by omega) (by omega)
      rw [show tM st c n + (m - tM st c n) = m by omega] at this
      rw [← this]
      unfold pcA
      rw [e5, if_pos rfl]
    by_cases hq : M 32 (q (160 + 60 * c + (n : Int))) 0 = t ∧ f ≤ tM st c n + st 12 (60 * c + (n : Int))
    · rw [if_pos hq]
      refine Or.inr ⟨Int.le_refl _, by split <;> omega, ?_, fun m a0 a1 => absurd a1 (by omega)⟩
      rw [hcell _ (by split <;> omega) (by split <;> omega)]
      exact hq.1
    · rw [if_neg hq]
      refine Or.inl ⟨rfl, fun m a0 a1 => ?_⟩
      rw [hcell m (by split at a0 <;> omega) a1]
      intro z
      exact hq ⟨z, by split at a0 <;> omega⟩
  · rw [if_neg hs] at e5
    rw [if_neg hs, if_neg (show ¬ ((1 : Int) = 0) by decide)]
    rw [tP_s] at h2
    dsimp only at h2
    unfold tD at h2
    rw [if_neg hs] at h2
    have hcell : ∀ m, 0 ≤ m → m ≤ st 12 (60 * c + (n : Int)) → aC st c (tM st c n + m) = clO (tP st c n) + (16 * dx (tP st c n).2.2 m + dy (tP st c n).2.2 m) := fun m a0 a1 => by
      rw [← hA m a0 a1, pcA_d hv e3, e5, if_neg (by decide), e2]
    have hpc : pcA M (q (160 + 60 * c + (n : Int))) (pcO M (q (160 + 60 * c + (n : Int))) t) = clO (tP st c n) + (16 * dx (tP st c n).2.2 (pcO M (q (160 + 60 * c + (n : Int))) t) + dy (tP st c n).2.2 (pcO M (q (160 + 60 * c + (n : Int))) t)) := by
      rw [pcA_d hv e3, e5, if_neg (by decide), e2]
    have hO : pcO M (q (160 + 60 * c + (n : Int))) t = dx (tP st c n).2.2 (t / 16 - (tP st c n).1) + dy (tP st c n).2.2 (t % 16 - (tP st c n).2.1) := by
      unfold pcO
      rw [e2, e3, sX_d hv, sY_d hv]
      unfold clO
      rw [show (16 * (tP st c n).1 + (tP st c n).2.1) / 16 = (tP st c n).1 by omega, show (16 * (tP st c n).1 + (tP st c n).2.1) % 16 = (tP st c n).2.1 by omega]
    have hu : ∀ m, 0 ≤ m → m ≤ st 12 (60 * c + (n : Int)) → clO (tP st c n) + (16 * dx (tP st c n).2.2 m + dy (tP st c n).2.2 m) = t → m = pcO M (q (160 + 60 * c + (n : Int))) t ∨ st 12 (60 * c + (n : Int)) < 0 := fun m a0 a1 a2 => by
      left
      have b1 := dx_in (x := (tP st c n).1) h1.1 h2.1 a0 a1
      have b2 := dy_in (x := (tP st c n).2.1) h1.2 h2.2 a0 a1
      rw [hO]
      unfold clO at a2
      have hd : (tP st c n).2.2 = 0 ∨ (tP st c n).2.2 = 1 ∨ (tP st c n).2.2 = 2 ∨ (tP st c n).2.2 = 3 := by omega
      rcases hd with hd | hd | hd | hd <;> rw [hd] at a2 b1 b2 ⊢ <;> simp [dx, dy] at a2 b1 b2 ⊢ <;> omega
    generalize hX : pcO M (q (160 + 60 * c + (n : Int))) t = X at *
    by_cases hq : (pcA M (q (160 + 60 * c + (n : Int))) X = t ∧ 0 ≤ X ∧ X ≤ st 12 (60 * c + (n : Int))) ∧ f ≤ tM st c n + X
    · rw [if_pos hq]
      refine Or.inr ⟨by split <;> omega, by omega, ?_, fun m a0 a1 a2 => ?_⟩
      · rw [hcell X hq.1.2.1 hq.1.2.2, ← hpc]
        exact hq.1.1
      · have b0 : tM st c n ≤ m := by split at a0 <;> omega
        have := hcell (m - tM st c n) (by omega) (by omega)
        rw [show tM st c n + (m - tM st c n) = m by omega, a2] at this
        have := hu (m - tM st c n) (by omega) (by omega) this.symm
        omega
    · rw [if_neg hq]
      refine Or.inl ⟨rfl, fun m a0 a1 a2 => ?_⟩
      have b0 : tM st c n ≤ m := by split at a0 <;> omega
      have b1 : f ≤ m := by split at a0 <;> omega
      have := hcell (m - tM st c n) (by omega) (by omega)
      rw [show tM st c n + (m - tM st c n) = m by omega, a2] at this
      have h9 := hu (m - tM st c n) (by omega) (by omega) this.symm
      have h8 : m - tM st c n = X := by omega
      rw [h8] at this
      exact hq ⟨⟨by rw [hpc]; exact this.symm, by omega, by omega⟩, by omega⟩
end Pf
