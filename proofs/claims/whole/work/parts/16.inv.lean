/-! the table's order has every place; what always holds stays so -/
theorem sM_le {f g : Nat → Int} : ∀ {n : Nat}, (∀ i, i < n → f i ≤ g i) → sM f n ≤ sM g n
  | 0, _ => Int.le_refl _
  | n + 1, h => by
    have h1 := sM_le (n := n) (fun i hi => h i (by omega))
    have h2 := h n (by omega)
    rw [sM_s, sM_s]
    omega
theorem sM_lt {f g : Nat → Int} {j : Nat} : ∀ {n : Nat}, (∀ i, i < n → f i ≤ g i) → j < n → f j + 1 ≤ g j → sM f n + 1 ≤ sM g n
  | 0, _, h, _ => absurd h (Nat.not_lt_zero j)
  | n + 1, h, hj, hq => by
    rw [sM_s, sM_s]
    by_cases e : j = n
    · have h1 := sM_le (n := n) (fun i hi => h i (by omega))
      rw [e] at hq
      omega
    · have h1 := sM_lt (n := n) (fun i hi => h i (by omega)) (by omega) hq
      have h2 := h n (by omega)
      omega
theorem rk1_b (f : Int → Int) (c o : Int) : 0 ≤ rk1 f c o ∧ rk1 f c o ≤ 1 := by unfold rk1; split <;> omega
theorem rk_b (f : Int → Int) (c : Int) (n : Nat) : 0 ≤ rk f c n ∧ rk f c n ≤ n := by
  have h := sM_b (f := fun o => rk1 f c (o : Int)) (a := 1) (n := n) (fun i _ => rk1_b f c i)
  unfold rk
  omega
theorem rk_s (f : Int → Int) (c : Int) (n : Nat) : rk f c (n + 1) = rk f c n + rk1 f c (n : Int) := rfl
theorem rk_le {f : Int → Int} {c d : Int} (n : Nat) (h : f c < f d ∨ (f c = f d ∧ c < d)) : rk f c n ≤ rk f d n :=
  sM_le (fun i _ => by
    show rk1 f c (i : Int) ≤ rk1 f d (i : Int)
    unfold rk1
    split <;> split <;> omega)
theorem rk_lt {f : Int → Int} {c : Nat} {d : Int} (n : Nat) (hc : c < n) (h : f (c : Int) < f d ∨ (f (c : Int) = f d ∧ (c : Int) < d)) : rk f (c : Int) n + 1 ≤ rk f d n :=
  sM_lt (j := c) (fun i _ => by
    show rk1 f (c : Int) (i : Int) ≤ rk1 f d (i : Int)
    unfold rk1
    split <;> split <;> omega) hc (by
    show rk1 f (c : Int) (c : Int) + 1 ≤ rk1 f d (c : Int)
    unfold rk1
    rw [if_neg (by omega), if_pos h]
    omega)
theorem rk_on (f : Int → Int) : ∀ (n : Nat) (a : Int), 0 ≤ a → a < n → ∃ c : Nat, c < n ∧ rk f (c : Int) n = a
  | 0, a, h0, h1 => absurd h1 (by omega)
  | n + 1, a, h0, h1 => by
    have hr := rk_b f (n : Int) n
    have hn : rk1 f (n : Int) (n : Int) = 0 := by unfold rk1; rw [if_neg (by omega)]
    rcases Int.lt_trichotomy a (rk f (n : Int) n) with q | q | q
    · obtain ⟨c, hc, e⟩ := rk_on f n a h0 (by omega)
      refine ⟨c, by omega, ?_⟩
      have hb : ¬ (f (n : Int) < f (c : Int) ∨ (f (n : Int) = f (c : Int) ∧ (n : Int) < c)) := fun z => by
        have := rk_le n z
        omega
      rw [rk_s, e]
      unfold rk1
      rw [if_neg hb]
      omega
    · exact ⟨n, by omega, by rw [rk_s, hn]; omega⟩
    · obtain ⟨c, hc, e⟩ := rk_on f n (a - 1) (by omega) (by omega)
      refine ⟨c, by omega, ?_⟩
      have hb : f (n : Int) < f (c : Int) ∨ (f (n : Int) = f (c : Int) ∧ (n : Int) < c) := by
        rcases Int.lt_trichotomy (f (n : Int)) (f (c : Int)) with z | z | z
        · exact Or.inl z
        · rcases Nat.lt_or_ge n c with y | y
          · exact Or.inr ⟨z, by omega⟩
          · have := rk_lt (f := f) (d := (n : Int)) n hc (Or.inr ⟨z.symm, by omega⟩)
            omega
        · have := rk_lt (f := f) (d := (n : Int)) n hc (Or.inl z)
          omega
      rw [rk_s, e]
      unfold rk1
      rw [if_pos hb]
      omega
/-- the car at a place of the table -/
def tab (st : ST) (a : Int) : Int := fF (fun c => rk (pts st) c (st 9 0).toNat) (st 9 0 - 1) a 0
theorem tab_is {N : Int} {st : ST} {a : Int} (hI : I6 N st) (h : 0 ≤ a ∧ a < st 9 0) : 0 ≤ tab st a ∧ tab st a < st 9 0 ∧ rk (pts st) (tab st a) (st 9 0).toNat = a ∧ ∀ m : Int, 0 ≤ m → m < tab st a → rk (pts st) m (st 9 0).toNat ≠ a := by
  have hA := I_ca hI
  rcases fF_is (fun c => rk (pts st) c (st 9 0).toNat) (e := st 9 0 - 1) (v := a) (a := 0) with ⟨h1, h2⟩ | ⟨h1, h2, h3, h4⟩
  · obtain ⟨c, hc, e⟩ := rk_on (pts st) (st 9 0).toNat a h.1 (by omega)
    exact absurd e (h2 c (by omega) (by omega))
  · exact ⟨h1, by show fF _ _ _ _ < _; omega, h3, h4⟩
/-- the first part of a kind in a car -/
def fPt (st : ST) (c q : Int) : Int := fF (fun j => if st 20 j = c ∧ st 18 j = q then 1 else 0) (st 17 0 - 1) 1 0
/-! what always holds -/
theorem I_mono {N M : Int} {st : ST} (h : I6 N st) (hM : N ≤ M) : I6 M st := by
  obtain ⟨h1, h2, h3, h4, h5, h6, h7, h8, h9, h10, h11, h12, h13, h14, h15, h16⟩ := h
  exact ⟨h1, h2, h3, h4, h5, h6, h7, h8, fun c a b => by have := h9 c a b; exact ⟨this.1, this.2.1, ⟨this.2.2.1.1, by omega⟩, this.2.2.2⟩, h10, h11, h12, h13, h14, h15, h16⟩
theorem up2_e (st : ST) (f : Nat) (i v : Int) : up2 st f i v f = upI (st f) i v := by unfold up2; rw [if_pos rfl]
theorem up2_n (st : ST) {f g : Nat} (i v : Int) (h : g ≠ f) : up2 st f i v g = st g := by unfold up2; rw [if_neg h]
theorem upI_e (f : Int → Int) (i v : Int) : upI f i v i = v := by unfold upI; rw [if_pos rfl]
theorem upI_n (f : Int → Int) {i j : Int} (v : Int) (h : j ≠ i) : upI f i v j = f j := by unfold upI; rw [if_neg h]
theorem upI_x (f : Int → Int) (i v j : Int) : upI f i v j = if j = i then v else f j := rfl
theorem up2_id (st : ST) (f : Nat) (i : Int) : up2 st f i (st f i) = st := by
  funext g j
  by_cases h : g = f
  · subst h
    rw [up2_e, upI_x]
    split
    · rename_i e; rw [e]
    · rfl
  · rw [up2_n _ _ _ h]
section Inv
variable {N : Int} {st : ST}
theorem I_setStart (h : I6 N st) {a : Int} (ha : 0 ≤ a ∧ a ≤ 255) (hE : st 2 0 = 0) (hC : st 9 0 = 0) : I6 N (up2 st 1 0 a) := by
  obtain ⟨h1, h2, h3, h4, h5, h6, h7, h8, h9, h10, h11, h12, h13, h14, h15, h16⟩ := h
  refine ⟨ha, h2, h3, h4, h5, h6, h7, h8, h9, h10, fun n hn => ?_, fun c n h0 h8 hn => ?_, h13, h14, h15, h16⟩
  · have hn : (n : Int) ≤ st 2 0 := hn
    rw [show n = 0 by omega]
    show (0 ≤ a / 16 ∧ a / 16 ≤ 15) ∧ 0 ≤ a % 16 ∧ a % 16 ≤ 15
    omega
  · have hn : (n : Int) ≤ st 10 c := hn
    have h9 := (h9 c h0 h8).2.2.2 (by omega)
    rw [show n = 0 by omega]
    show (0 ≤ a / 16 ∧ a / 16 ≤ 15) ∧ 0 ≤ a % 16 ∧ a % 16 ≤ 15
    omega
theorem I_cut (h : I6 N st) {a : Int} (ha : 0 ≤ a ∧ a ≤ 10) : I6 N (up2 st 8 0 a) := by
  obtain ⟨h1, h2, h3, h4, h5, h6, h7, h8, h9, h10, h11, h12, h13, h14, h15, h16⟩ := h
  exact ⟨h1, h2, h3, ha, h5, h6, h7, h8, h9, h10, h11, h12, h13, h14, h15, h16⟩
theorem I_enter (h : I6 N st) (hc : st 9 0 < 8) : I6 N (up2 st 9 0 (st 9 0 + 1)) := by
  obtain ⟨h1, h2, h3, h4, h5, h6, h7, h8, h9, h10, h11, h12, h13, h14, h15, h16⟩ := h
  refine ⟨h1, h2, h3, h4, ?_, h6, h7, h8, fun c a b => ?_, h10, h11, h12, h13, fun j a b => ?_, h15, h16⟩
  · show 0 ≤ st 9 0 + 1 ∧ st 9 0 + 1 ≤ 8
    omega
  · have := h9 c a b
    refine ⟨this.1, this.2.1, this.2.2.1, fun q => this.2.2.2 ?_⟩
    have q : st 9 0 + 1 ≤ c := q
    omega
  · have := h14 j a b
    show (0 ≤ st 18 j ∧ st 18 j ≤ 3) ∧ (-1 ≤ st 19 j ∧ st 19 j < st 9 0 + 1) ∧ -2 ≤ st 20 j ∧ st 20 j < st 9 0 + 1
    omega
theorem I_addEntry (h : I6 N st) {a b : Int} (ha : 1 ≤ a ∧ a ≤ 15) (hb : 0 ≤ b ∧ b ≤ 3) (hE : st 2 0 < 30)
    (hx : 0 ≤ (bP st (st 2 0).toNat).1 + dx (bP st (st 2 0).toNat).2.2 a ∧ (bP st (st 2 0).toNat).1 + dx (bP st (st 2 0).toNat).2.2 a ≤ 15) (hy : 0 ≤ (bP st (st 2 0).toNat).2.1 + dy (bP st (st 2 0).toNat).2.2 a ∧ (bP st (st 2 0).toNat).2.1 + dy (bP st (st 2 0).toNat).2.2 a ≤ 15) :
    I6 N (up2 (up2 (up2 st 3 (st 2 0) a) 4 (st 2 0) b) 2 0 (st 2 0 + 1)) := by
  obtain ⟨h1, h2, h3, h4, h5, h6, h7, h8, h9, h10, h11, h12, h13, h14, h15, h16⟩ := h
  have key : ∀ n : Nat, (n : Int) ≤ st 2 0 → bP (up2 (up2 (up2 st 3 (st 2 0) a) 4 (st 2 0) b) 2 0 (st 2 0 + 1)) n = bP st n := fun n hn => wP_c (fun i hi => by
    have e : ¬ (i : Int) = st 2 0 := by omega
    exact ⟨upI_n _ _ e, upI_n _ _ e⟩)
  refine ⟨h1, ?_, h3, h4, h5, h6, fun i a0 a1 => ?_, fun g a0 a1 => ?_, h9, h10, fun n hn => ?_, h12, h13, h14, h15, h16⟩
  · show 0 ≤ st 2 0 + 1 ∧ st 2 0 + 1 ≤ 30
    omega
  · have a1 : i < st 2 0 + 1 := a1
    show (1 ≤ upI (st 3) (st 2 0) a i ∧ upI (st 3) (st 2 0) a i ≤ 15) ∧ 0 ≤ upI (st 4) (st 2 0) b i ∧ upI (st 4) (st 2 0) b i ≤ 3
    rw [upI_x, upI_x]
    by_cases e : i = st 2 0
    · rw [if_pos e, if_pos e]; omega
    · rw [if_neg e, if_neg e]; exact h7 i a0 (by omega)
  · have := h8 g a0 a1
    show (0 ≤ st 6 g ∧ st 6 g < st 2 0 + 1) ∧ 0 ≤ st 7 g ∧ st 7 g ≤ 100
    omega
  · have hn : (n : Int) ≤ st 2 0 + 1 := hn
    by_cases e : (n : Int) ≤ st 2 0
    · rw [key n e]; exact h11 n e
    · have e2 : n = (st 2 0).toNat + 1 := by omega
      rw [e2, bP_s, key _ (by omega), show ((st 2 0).toNat : Int) = st 2 0 by omega, show up2 (up2 (up2 st 3 (st 2 0) a) 4 (st 2 0) b) 2 0 (st 2 0 + 1) 3 (st 2 0) = a from upI_e _ _ _]
      exact ⟨hx, hy⟩
theorem I_addGate (h : I6 N st) {a b : Int} (ha : 0 ≤ a ∧ a < st 2 0) (hb : 0 ≤ b ∧ b ≤ 100) (hG : st 5 0 < 10) (hs : st 5 0 = 0 ∨ st 6 (st 5 0 - 1) < a) : I6 N (up2 (up2 (up2 st 6 (st 5 0) a) 7 (st 5 0) b) 5 0 (st 5 0 + 1)) := by
  obtain ⟨h1, h2, h3, h4, h5, h6, h7, h8, h9, h10, h11, h12, h13, h14, h15, h16⟩ := h
  refine ⟨h1, h2, ?_, h4, h5, h6, h7, fun g a0 a1 => ?_, h9, h10, h11, h12, h13, h14, fun g a0 a1 => ?_, h16⟩
  · show 0 ≤ st 5 0 + 1 ∧ st 5 0 + 1 ≤ 10
    omega
  · have a1 : g < st 5 0 + 1 := a1
    show (0 ≤ upI (st 6) (st 5 0) a g ∧ upI (st 6) (st 5 0) a g < st 2 0) ∧ 0 ≤ upI (st 7) (st 5 0) b g ∧ upI (st 7) (st 5 0) b g ≤ 100
    rw [upI_x, upI_x]
    by_cases e : g = st 5 0
    · rw [if_pos e, if_pos e]; omega
    · rw [if_neg e, if_neg e]; exact h8 g a0 (by omega)
  · have a1 : g + 1 < st 5 0 + 1 := a1
    show upI (st 6) (st 5 0) a g < upI (st 6) (st 5 0) a (g + 1)
    rw [upI_x, upI_x, if_neg (by omega)]
    by_cases e : g + 1 = st 5 0
    · rw [if_pos e, show g = st 5 0 - 1 by omega]; omega
    · rw [if_neg e]; exact h15 g a0 (by omega)
theorem I_broken (h : I6 N st) {c a : Int} (hc : 0 ≤ c ∧ c < st 9 0) (ha : -1 ≤ a ∧ a ≤ 3) : I6 N (up2 st 14 c a) := by
  obtain ⟨h1, h2, h3, h4, h5, h6, h7, h8, h9, h10, h11, h12, h13, h14, h15, h16⟩ := h
  refine ⟨h1, h2, h3, h4, h5, h6, h7, h8, fun d a0 a1 => ?_, h10, h11, h12, h13, h14, h15, h16⟩
  have := h9 d a0 a1
  show (0 ≤ st 10 d ∧ st 10 d ≤ 60) ∧ (-1 ≤ upI (st 14) c a d ∧ upI (st 14) c a d ≤ 3) ∧ (0 ≤ st 15 d ∧ st 15 d ≤ N) ∧ (st 9 0 ≤ d → st 10 d = 0 ∧ upI (st 14) c a d = -1 ∧ st 15 d = 0 ∧ ∀ g : Int, 0 ≤ g → g < 10 → st 16 (10 * d + g) = -1)
  rw [upI_x]
  by_cases e : d = c
  · rw [if_pos e]; exact ⟨this.1, ha, this.2.2.1, fun q => by omega⟩
  · rw [if_neg e]; exact this
theorem I_lost (h : I6 N st) {c : Int} (hc : 0 ≤ c ∧ c < st 9 0) : I6 (N + 1) (up2 st 15 c (st 15 c + 1)) := by
  obtain ⟨h1, h2, h3, h4, h5, h6, h7, h8, h9, h10, h11, h12, h13, h14, h15, h16⟩ := h
  refine ⟨h1, h2, h3, h4, h5, h6, h7, h8, fun d a0 a1 => ?_, h10, h11, h12, h13, h14, h15, h16⟩
  have := h9 d a0 a1
  show (0 ≤ st 10 d ∧ st 10 d ≤ 60) ∧ (-1 ≤ st 14 d ∧ st 14 d ≤ 3) ∧ (0 ≤ upI (st 15) c (st 15 c + 1) d ∧ upI (st 15) c (st 15 c + 1) d ≤ N + 1) ∧ (st 9 0 ≤ d → st 10 d = 0 ∧ st 14 d = -1 ∧ upI (st 15) c (st 15 c + 1) d = 0 ∧ ∀ g : Int, 0 ≤ g → g < 10 → st 16 (10 * d + g) = -1)
  rw [upI_x]
  by_cases e : d = c
  · rw [if_pos e, ← e]; exact ⟨this.1, this.2.1, by omega, fun q => by omega⟩
  · rw [if_neg e]; exact ⟨this.1, this.2.1, by omega, this.2.2.2⟩
theorem I_record (h : I6 N st) {c g a : Int} (hc : 0 ≤ c ∧ c < st 9 0) (hg : 0 ≤ g ∧ g < 10) (ha : -1 ≤ a ∧ a ≤ 10000) : I6 N (up2 st 16 (10 * c + g) a) := by
  obtain ⟨h1, h2, h3, h4, h5, h6, h7, h8, h9, h10, h11, h12, h13, h14, h15, h16⟩ := h
  refine ⟨h1, h2, h3, h4, h5, h6, h7, h8, fun d a0 a1 => ?_, h10, h11, h12, fun d e a0 a1 a2 a3 => ?_, h14, h15, h16⟩
  · have := h9 d a0 a1
    refine ⟨this.1, this.2.1, this.2.2.1, fun q => ⟨(this.2.2.2 q).1, (this.2.2.2 q).2.1, (this.2.2.2 q).2.2.1, fun e b0 b1 => ?_⟩⟩
    have q : st 9 0 ≤ d := q
    show upI (st 16) (10 * c + g) a (10 * d + e) = -1
    rw [upI_n _ _ (by omega)]
    exact (this.2.2.2 q).2.2.2 e b0 b1
  · show -1 ≤ upI (st 16) (10 * c + g) a (10 * d + e) ∧ upI (st 16) (10 * c + g) a (10 * d + e) ≤ 10000
    rw [upI_x]
    split
    · exact ha
    · exact h13 d e a0 a1 a2 a3
theorem I_where (h : I6 N st) {j a : Int} (ha : -2 ≤ a ∧ a < st 9 0) : I6 N (up2 st 20 j a) := by
  obtain ⟨h1, h2, h3, h4, h5, h6, h7, h8, h9, h10, h11, h12, h13, h14, h15, h16⟩ := h
  refine ⟨h1, h2, h3, h4, h5, h6, h7, h8, h9, h10, h11, h12, h13, fun i a0 a1 => ?_, h15, h16⟩
  have := h14 i a0 a1
  show (0 ≤ st 18 i ∧ st 18 i ≤ 3) ∧ (-1 ≤ st 19 i ∧ st 19 i < st 9 0) ∧ -2 ≤ upI (st 20) j a i ∧ upI (st 20) j a i < st 9 0
  rw [upI_x]
  split <;> omega
theorem I_user (h : I6 N st) {j a : Int} (ha : -1 ≤ a ∧ a < 8) : I6 N (up2 st 21 j a) := by
  obtain ⟨h1, h2, h3, h4, h5, h6, h7, h8, h9, h10, h11, h12, h13, h14, h15, h16⟩ := h
  refine ⟨h1, h2, h3, h4, h5, h6, h7, h8, h9, h10, h11, h12, h13, h14, h15, fun i a0 a1 => ?_⟩
  have := h16 i a0 a1
  show -1 ≤ upI (st 21) j a i ∧ upI (st 21) j a i < 8
  rw [upI_x]
  split <;> omega
theorem I_bring (h : I6 N st) {a b : Int} (ha : 0 ≤ a ∧ a ≤ 3) (hb : -1 ≤ b ∧ b < st 9 0) (hP : st 17 0 < 40) : I6 N (up2 (up2 (up2 (up2 st 18 (st 17 0) a) 19 (st 17 0) b) 20 (st 17 0) b) 17 0 (st 17 0 + 1)) := by
  obtain ⟨h1, h2, h3, h4, h5, h6, h7, h8, h9, h10, h11, h12, h13, h14, h15, h16⟩ := h
  refine ⟨h1, h2, h3, h4, h5, ?_, h7, h8, h9, h10, h11, h12, h13, fun i a0 a1 => ?_, h15, h16⟩
  · show 0 ≤ st 17 0 + 1 ∧ st 17 0 + 1 ≤ 40
    omega
  · have a1 : i < st 17 0 + 1 := a1
    show (0 ≤ upI (st 18) (st 17 0) a i ∧ upI (st 18) (st 17 0) a i ≤ 3) ∧ (-1 ≤ upI (st 19) (st 17 0) b i ∧ upI (st 19) (st 17 0) b i < st 9 0) ∧ -2 ≤ upI (st 20) (st 17 0) b i ∧ upI (st 20) (st 17 0) b i < st 9 0
    rw [upI_x, upI_x, upI_x]
    by_cases e : i = st 17 0
    · rw [if_pos e, if_pos e, if_pos e]; omega
    · rw [if_neg e, if_neg e, if_neg e]
      have := h14 i a0 (by omega)
      omega
theorem aP_idx {c d i n : Int} (hd : 0 ≤ d ∧ d < 8) (hc : 0 ≤ c ∧ c < 8) (hi : 0 ≤ i ∧ i < 60) (hn : 0 ≤ n ∧ n < 60) (h : 60 * d + i = 60 * c + n) : d = c ∧ i = n := by omega
theorem tP_aP (h : I6 N st) {c d q r e : Int} (hc : 0 ≤ c ∧ c < st 9 0) (hn : st 10 c < 60) (he : 0 ≤ e ∧ e < 8) (n : Nat) (hq : (n : Int) ≤ st 10 e) : tP (aP st c d q r) e n = tP st e n := by
  have hb := I_c h c hc.1 (by have := I_ca h; omega)
  have hb2 := I_c h e he.1 he.2
  have hA := I_ca h
  refine wP_c (fun i hi => ?_)
  have e1 : ¬ 60 * e + (i : Int) = 60 * c + st 10 c := fun z => by
    have := aP_idx he ⟨hc.1, by omega⟩ (i := (i : Int)) ⟨by omega, by omega⟩ ⟨hb.1.1, hn⟩ z
    rw [this.1] at hq
    omega
  refine ⟨?_, upI_n _ _ e1⟩
  unfold tD
  show (if upI (st 11) (60 * c + st 10 c) d (60 * e + (i : Int)) = -1 then 0 else upI (st 12) (60 * c + st 10 c) q (60 * e + (i : Int))) = _
  rw [upI_n _ _ e1, upI_n _ _ e1]
theorem tM_aP (h : I6 N st) {c d q r e : Int} (hc : 0 ≤ c ∧ c < st 9 0) (hn : st 10 c < 60) (he : 0 ≤ e ∧ e < 8) (n : Nat) (hq : (n : Int) ≤ st 10 e) : tM (aP st c d q r) e n = tM st e n := by
  have hb := I_c h c hc.1 (by have := I_ca h; omega)
  have hb2 := I_c h e he.1 he.2
  have hA := I_ca h
  refine sM_c (fun i hi => ?_)
  have e1 : ¬ 60 * e + (i : Int) = 60 * c + st 10 c := fun z => by
    have := aP_idx he ⟨hc.1, by omega⟩ (i := (i : Int)) ⟨by omega, by omega⟩ ⟨hb.1.1, hn⟩ z
    rw [this.1] at hq
    omega
  exact upI_n _ _ e1
/-- a piece more -/
theorem I_piece (h : I6 N st) {c d q r : Int} (hc : 0 ≤ c ∧ c < st 9 0) (hn : st 10 c < 60) (hd : (d = -1 ∧ 1 ≤ q ∧ q ≤ 100) ∨ (0 ≤ d ∧ d ≤ 15 ∧ q = d)) (hr : 0 ≤ r ∧ r ≤ 3)
    (hx : 0 ≤ (tP st c (nP st c)).1 + dx (tP st c (nP st c)).2.2 (if d = -1 then 0 else q) ∧ (tP st c (nP st c)).1 + dx (tP st c (nP st c)).2.2 (if d = -1 then 0 else q) ≤ 15)
    (hy : 0 ≤ (tP st c (nP st c)).2.1 + dy (tP st c (nP st c)).2.2 (if d = -1 then 0 else q) ∧ (tP st c (nP st c)).2.1 + dy (tP st c (nP st c)).2.2 (if d = -1 then 0 else q) ≤ 15) : I6 N (aP st c d q r) := by
  have key := fun (e : Int) (he : 0 ≤ e ∧ e < 8) => tP_aP h (d := d) (q := q) (r := r) hc hn he
  have hnP := nP_e h hc.1 (by have := I_ca h; omega)
  obtain ⟨h1, h2, h3, h4, h5, h6, h7, h8, h9, h10, h11, h12, h13, h14, h15, h16⟩ := h
  have hb := h9 c hc.1 (by omega)
  refine ⟨h1, h2, h3, h4, h5, h6, h7, h8, fun e a0 a1 => ?_, fun e i a0 a1 a2 a3 => ?_, h11, fun e n a0 a1 a2 => ?_, h13, h14, h15, h16⟩
  · have := h9 e a0 a1
    show (0 ≤ upI (st 10) c (st 10 c + 1) e ∧ upI (st 10) c (st 10 c + 1) e ≤ 60) ∧ (-1 ≤ st 14 e ∧ st 14 e ≤ 3) ∧ (0 ≤ st 15 e ∧ st 15 e ≤ N) ∧ (st 9 0 ≤ e → upI (st 10) c (st 10 c + 1) e = 0 ∧ st 14 e = -1 ∧ st 15 e = 0 ∧ ∀ g : Int, 0 ≤ g → g < 10 → st 16 (10 * e + g) = -1)
    rw [upI_x]
    by_cases z : e = c
    · rw [if_pos z]; exact ⟨by omega, this.2.1, this.2.2.1, fun y => by omega⟩
    · rw [if_neg z]; exact this
  · have a3 : i < upI (st 10) c (st 10 c + 1) e := a3
    have hb2 := h9 e a0 a1
    show ((upI (st 11) (60 * c + st 10 c) d (60 * e + i) = -1 ∧ 1 ≤ upI (st 12) (60 * c + st 10 c) q (60 * e + i) ∧ upI (st 12) (60 * c + st 10 c) q (60 * e + i) ≤ 100) ∨ (0 ≤ upI (st 11) (60 * c + st 10 c) d (60 * e + i) ∧ upI (st 11) (60 * c + st 10 c) d (60 * e + i) ≤ 15 ∧ upI (st 12) (60 * c + st 10 c) q (60 * e + i) = upI (st 11) (60 * c + st 10 c) d (60 * e + i))) ∧ 0 ≤ upI (st 13) (60 * c + st 10 c) r (60 * e + i) ∧ upI (st 13) (60 * c + st 10 c) r (60 * e + i) ≤ 3
    rw [upI_x] at a3
    rw [upI_x, upI_x, upI_x]
    by_cases z : 60 * e + i = 60 * c + st 10 c
    · rw [if_pos z, if_pos z, if_pos z]; exact ⟨hd, hr⟩
    · rw [if_neg z, if_neg z, if_neg z]
      refine h10 e i a0 a1 a2 ?_
      by_cases y : e = c
      · rw [if_pos y] at a3; subst y; omega
      · rw [if_neg y] at a3; exact a3
  · have a2 : (n : Int) ≤ upI (st 10) c (st 10 c + 1) e := a2
    by_cases z : (n : Int) ≤ st 10 e
    · rw [key e ⟨a0, a1⟩ n z]; exact h12 e n a0 a1 z
    · rw [upI_x] at a2
      by_cases y : e = c
      · subst y
        rw [if_pos rfl] at a2
        have e2 : n = nP st e + 1 := by omega
        rw [e2, tP_s, key e ⟨a0, a1⟩ _ (by omega)]
        have hD : tD (aP st e d q r) e (nP st e) = if d = -1 then 0 else q := by
          unfold tD
          show (if upI (st 11) (60 * e + st 10 e) d (60 * e + (nP st e : Int)) = -1 then 0 else upI (st 12) (60 * e + st 10 e) q (60 * e + (nP st e : Int))) = _
          rw [hnP, upI_e, upI_e]
        rw [hD]
        exact ⟨hx, hy⟩
      · rw [if_neg y] at a2
        exact absurd a2 z
theorem I_mendP (h : I6 N st) {c p q : Int} (hc : 0 ≤ c ∧ c < st 9 0) (hn : st 10 c < 60) (hq : 1 ≤ q ∧ q ≤ 100) : I6 N (aP (up2 (up2 st 20 p (-2)) 21 p c) c (-1) q 0) := by
  have hA := I_ca h
  have hb := I_c h c hc.1 (by omega)
  have ht := I_t h c (nP st c) hc.1 (by omega) (by rw [nP_e h hc.1 (by omega)]; omega)
  have h2 : I6 N (up2 (up2 st 20 p (-2)) 21 p c) := I_user (I_where h ⟨by omega, by omega⟩) ⟨by omega, by omega⟩
  refine I_piece h2 hc hn (Or.inl ⟨rfl, hq.1, hq.2⟩) ⟨by omega, by omega⟩ ?_ ?_
  · rw [if_pos rfl, dx_0, Int.add_zero]
    exact ht.1
  · rw [if_pos rfl, dy_0, Int.add_zero]
    exact ht.2
theorem isF_dn {f : Int → Int} {e v a r x : Int} (h : isF f e v (a + 1) r) (ha : a ≤ e) (hx : (f a = v ∧ x = a) ∨ (f a ≠ v ∧ x = r)) : isF f e v a x := by
  rcases hx with ⟨h1, rfl⟩ | ⟨h1, rfl⟩
  · exact Or.inr ⟨Int.le_refl _, ha, h1, fun m q1 q2 => by omega⟩
  · rcases h with ⟨q1, q2⟩ | ⟨q1, q2, q3, q4⟩
    · refine Or.inl ⟨q1, fun m g1 g2 => ?_⟩
      by_cases e : m = a
      · rw [e]; exact h1
      · exact q2 m (by omega) g2
    · refine Or.inr ⟨by omega, q2, q3, fun m g1 g2 => ?_⟩
      by_cases e : m = a
      · rw [e]; exact h1
      · exact q4 m (by omega) g2
theorem pts_bb (h : I6 N st) {c : Int} (hc : 0 ≤ c ∧ c < 8) : 0 ≤ pts st c ∧ pts st c ≤ 10 * N + 600 := by
  have h1 := (I_c h c hc.1 hc.2).2.2.1
  have h2 := I_ga h
  have h3 := I_cu h
  have h4 := pts_b h hc (nG st) (by unfold nG; split <;> omega)
  unfold pts
  omega
theorem fol_b (h : I6 N st) {c : Int} : ∀ n : Nat, (0 ≤ (folS st c n).1 ∧ (folS st c n).1 ≤ st 2 0) ∧ ((folS st c n).2 = 0 ∨ (folS st c n).2 = 1)
  | 0 => by
    have := I_en h
    exact ⟨⟨Int.le_refl 0, this.1⟩, Or.inl rfl⟩
  | n + 1 => by
    have h1 := fol_b h (c := c) n
    unfold folS
    split
    · split
      · exact ⟨h1.1, Or.inr rfl⟩
      · rename_i h2
        exact ⟨⟨by dsimp only; omega, by dsimp only; omega⟩, Or.inl rfl⟩
    · exact h1
end Inv
