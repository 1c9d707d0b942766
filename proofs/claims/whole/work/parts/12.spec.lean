/-! what the answers are, as functions of the reference's state; what always holds of it -/
abbrev ST : Type := Nat → Int → Int
def clO (p : Int × Int × Int) : Int := 16 * p.1 + p.2.1
def gC (st : ST) (g : Int) : Int := clO (bP st ((st 6 g).toNat + 1))
def gD (st : ST) (g : Int) : Int := st 7 g + sM (fun i => st 3 (i : Int)) ((st 6 g).toNat + 1)
def nP (st : ST) (c : Int) : Nat := (st 10 c).toNat
def clk (st : ST) (c : Int) : Int := tM st c (nP st c)
/-- where a car is at minute m, over its first n pieces -/
def pA (st : ST) (c m : Int) : Nat → Int × Int
  | 0 => ((tP st c 0).1, (tP st c 0).2.1)
  | n + 1 => if m ≤ tM st c n then pA st c m n else
      ((tP st c n).1 + dx (tP st c n).2.2 (if st 11 (60 * c + (n : Int)) = -1 then 0 else if m - tM st c n < st 12 (60 * c + (n : Int)) then m - tM st c n else st 12 (60 * c + (n : Int))),
       (tP st c n).2.1 + dy (tP st c n).2.2 (if st 11 (60 * c + (n : Int)) = -1 then 0 else if m - tM st c n < st 12 (60 * c + (n : Int)) then m - tM st c n else st 12 (60 * c + (n : Int))))
def aC (st : ST) (c m : Int) : Int := 16 * (pA st c m (nP st c)).1 + (pA st c m (nP st c)).2
/-- the first of the n minutes from a on at which f is v -/
def fS (f : Int → Int) (v : Int) : Int → Nat → Int
  | _, 0 => -1
  | a, n + 1 => if f a = v then a else fS f v (a + 1) n
def fF (f : Int → Int) (e v a : Int) : Int := fS f v a (e + 1 - a).toNat
def isF (f : Int → Int) (e v a r : Int) : Prop := (r = -1 ∧ ∀ m, a ≤ m → m ≤ e → f m ≠ v) ∨ (a ≤ r ∧ r ≤ e ∧ f r = v ∧ ∀ m, a ≤ m → m < r → f m ≠ v)
theorem fS_is (f : Int → Int) (v : Int) : ∀ (n : Nat) (a : Int), isF f (a + n - 1) v a (fS f v a n)
  | 0, a => Or.inl ⟨rfl, fun m h1 h2 => by omega⟩
  | n + 1, a => by
    unfold fS
    by_cases h : f a = v
    · rw [if_pos h]
      exact Or.inr ⟨Int.le_refl a, by omega, h, fun m h1 h2 => by omega⟩
    · rw [if_neg h]
      rcases fS_is f v n (a + 1) with ⟨h1, h2⟩ | ⟨h1, h2, h3, h4⟩
      · refine Or.inl ⟨h1, fun m g1 g2 => ?_⟩
        by_cases hm : m = a
        · rw [hm]; exact h
        · exact h2 m (by omega) (by omega)
      · refine Or.inr ⟨by omega, by omega, h3, fun m g1 g2 => ?_⟩
        by_cases hm : m = a
        · rw [hm]; exact h
        · exact h4 m (by omega) g2
theorem isF_one {f : Int → Int} {e v a r r' : Int} (ha : 0 ≤ a) (h : isF f e v a r) (h' : isF f e v a r') : r = r' := by
  rcases h with ⟨h1, h2⟩ | ⟨h1, h2, h3, h4⟩ <;> rcases h' with ⟨g1, g2⟩ | ⟨g1, g2, g3, g4⟩
  · rw [h1, g1]
  · exact absurd g3 (h2 _ g1 g2)
  · exact absurd h3 (g2 _ h1 h2)
  · rcases Int.lt_trichotomy r r' with q | q | q
    · exact absurd h3 (g4 _ h1 q)
    · exact q
    · exact absurd g3 (h4 _ g1 q)
theorem fF_is (f : Int → Int) {e v a : Int} : isF f e v a (fF f e v a) := by
  unfold fF
  have h := fS_is f v (e + 1 - a).toNat a
  by_cases hq : a ≤ e
  · rw [show a + ((e + 1 - a).toNat : Int) - 1 = e by omega] at h
    exact h
  · rw [show (e + 1 - a).toNat = 0 by omega]
    exact Or.inl ⟨rfl, fun m h1 h2 => by omega⟩
theorem fF_eq {f : Int → Int} {e v a r : Int} (ha : 0 ≤ a) (h : isF f e v a r) : r = fF f e v a := isF_one ha h (fF_is f)
theorem isF_rng {f : Int → Int} {e v a r : Int} (h : isF f e v a r) : r = -1 ∨ (a ≤ r ∧ r ≤ e) := by
  rcases h with ⟨h1, -⟩ | ⟨h1, h2, -, -⟩
  · exact Or.inl h1
  · exact Or.inr ⟨h1, h2⟩
/-- the last passed minute, and the answer at the last gate -/
def pasL (st : ST) (c : Int) : Nat → Int × Int
  | 0 => (0, -1)
  | n + 1 => (if fF (aC st c) (clk st c) (gC st (n : Int)) (pasL st c n).1 = -1 then (pasL st c n).1 else fF (aC st c) (clk st c) (gC st (n : Int)) (pasL st c n).1, fF (aC st c) (clk st c) (gC st (n : Int)) (pasL st c n).1)
def pas (st : ST) (c g : Int) : Int := (pasL st c (g.toNat + 1)).2
def tim (st : ST) (c g : Int) : Int := if st 16 (10 * c + g) = -1 then pas st c g else st 16 (10 * c + g)
def pG (st : ST) (c g : Int) : Int :=
  if (if tim st c g = -1 then 60 else if tim st c g - gD st g < 0 then -2 * (tim st c g - gD st g) else tim st c g - gD st g) > 60 then 60
  else (if tim st c g = -1 then 60 else if tim st c g - gD st g < 0 then -2 * (tim st c g - gD st g) else tim st c g - gD st g)
def nG (st : ST) : Nat := if st 5 0 ≤ st 8 0 then (st 5 0).toNat else (st 8 0).toNat
def pts (st : ST) (c : Int) : Int := 10 * st 15 c + sM (fun g => pG st c (g : Int)) (nG st)
def folS (st : ST) (c : Int) : Nat → Int × Int
  | 0 => (0, 0)
  | n + 1 => if st 11 (60 * c + (n : Int)) ≠ -1 ∧ (folS st c n).2 = 0 then
      (if (folS st c n).1 = st 2 0 ∨ st 11 (60 * c + (n : Int)) ≠ st 3 (folS st c n).1 ∨ st 13 (60 * c + (n : Int)) ≠ st 4 (folS st c n).1 then ((folS st c n).1, 1) else ((folS st c n).1 + 1, 0))
      else folS st c n
/-- parts of c that are not in it -/
def isL (st : ST) (c j : Int) : Int := if st 19 j = c ∧ ((st 20 j = -2 ∧ st 21 j ≠ c) ∨ (st 20 j ≠ -2 ∧ st 20 j ≠ c)) then 1 else 0
def len (st : ST) (c : Int) : Int := sM (fun j => isL st c (j : Int)) (st 17 0).toNat
/-- the place of a car in the table -/
def rk1 (f : Int → Int) (c o : Int) : Int := if f o < f c ∨ (f o = f c ∧ o < c) then 1 else 0
def rk (f : Int → Int) (c : Int) (n : Nat) : Int := sM (fun o => rk1 f c (o : Int)) n
/-- what always holds, N calls after the start -/
def I6 (N : Int) (st : ST) : Prop :=
  (0 ≤ st 1 0 ∧ st 1 0 ≤ 255) ∧ (0 ≤ st 2 0 ∧ st 2 0 ≤ 30) ∧ (0 ≤ st 5 0 ∧ st 5 0 ≤ 10) ∧ (0 ≤ st 8 0 ∧ st 8 0 ≤ 10) ∧ (0 ≤ st 9 0 ∧ st 9 0 ≤ 8) ∧ (0 ≤ st 17 0 ∧ st 17 0 ≤ 40) ∧
  (∀ i : Int, 0 ≤ i → i < st 2 0 → (1 ≤ st 3 i ∧ st 3 i ≤ 15) ∧ 0 ≤ st 4 i ∧ st 4 i ≤ 3) ∧
  (∀ g : Int, 0 ≤ g → g < st 5 0 → (0 ≤ st 6 g ∧ st 6 g < st 2 0) ∧ 0 ≤ st 7 g ∧ st 7 g ≤ 100) ∧
  (∀ c : Int, 0 ≤ c → c < 8 → (0 ≤ st 10 c ∧ st 10 c ≤ 60) ∧ (-1 ≤ st 14 c ∧ st 14 c ≤ 3) ∧ (0 ≤ st 15 c ∧ st 15 c ≤ N) ∧ (st 9 0 ≤ c → st 10 c = 0 ∧ st 14 c = -1 ∧ st 15 c = 0 ∧ ∀ g : Int, 0 ≤ g → g < 10 → st 16 (10 * c + g) = -1)) ∧
  (∀ c i : Int, 0 ≤ c → c < 8 → 0 ≤ i → i < st 10 c → ((st 11 (60 * c + i) = -1 ∧ 1 ≤ st 12 (60 * c + i) ∧ st 12 (60 * c + i) ≤ 100) ∨ (0 ≤ st 11 (60 * c + i) ∧ st 11 (60 * c + i) ≤ 15 ∧ st 12 (60 * c + i) = st 11 (60 * c + i))) ∧ 0 ≤ st 13 (60 * c + i) ∧ st 13 (60 * c + i) ≤ 3) ∧
  (∀ n : Nat, (n : Int) ≤ st 2 0 → (0 ≤ (bP st n).1 ∧ (bP st n).1 ≤ 15) ∧ 0 ≤ (bP st n).2.1 ∧ (bP st n).2.1 ≤ 15) ∧
  (∀ (c : Int) (n : Nat), 0 ≤ c → c < 8 → (n : Int) ≤ st 10 c → (0 ≤ (tP st c n).1 ∧ (tP st c n).1 ≤ 15) ∧ 0 ≤ (tP st c n).2.1 ∧ (tP st c n).2.1 ≤ 15) ∧
  (∀ c g : Int, 0 ≤ c → c < 8 → 0 ≤ g → g < 10 → -1 ≤ st 16 (10 * c + g) ∧ st 16 (10 * c + g) ≤ 10000) ∧
  (∀ j : Int, 0 ≤ j → j < st 17 0 → (0 ≤ st 18 j ∧ st 18 j ≤ 3) ∧ (-1 ≤ st 19 j ∧ st 19 j < st 9 0) ∧ -2 ≤ st 20 j ∧ st 20 j < st 9 0) ∧
  (∀ g : Int, 0 ≤ g → g + 1 < st 5 0 → st 6 g < st 6 (g + 1)) ∧ (∀ j : Int, 0 ≤ j → j < 40 → -1 ≤ st 21 j ∧ st 21 j < 8)
section I6s
variable {N : Int} {st : ST}
theorem I_st (h : I6 N st) : 0 ≤ st 1 0 ∧ st 1 0 ≤ 255 := h.1
theorem I_en (h : I6 N st) : 0 ≤ st 2 0 ∧ st 2 0 ≤ 30 := h.2.1
theorem I_ga (h : I6 N st) : 0 ≤ st 5 0 ∧ st 5 0 ≤ 10 := h.2.2.1
theorem I_cu (h : I6 N st) : 0 ≤ st 8 0 ∧ st 8 0 ≤ 10 := h.2.2.2.1
theorem I_ca (h : I6 N st) : 0 ≤ st 9 0 ∧ st 9 0 ≤ 8 := h.2.2.2.2.1
theorem I_pa (h : I6 N st) : 0 ≤ st 17 0 ∧ st 17 0 ≤ 40 := h.2.2.2.2.2.1
theorem I_e (h : I6 N st) : ∀ i : Int, 0 ≤ i → i < st 2 0 → (1 ≤ st 3 i ∧ st 3 i ≤ 15) ∧ 0 ≤ st 4 i ∧ st 4 i ≤ 3 := h.2.2.2.2.2.2.1
theorem I_g (h : I6 N st) : ∀ g : Int, 0 ≤ g → g < st 5 0 → (0 ≤ st 6 g ∧ st 6 g < st 2 0) ∧ 0 ≤ st 7 g ∧ st 7 g ≤ 100 := h.2.2.2.2.2.2.2.1
theorem I_c (h : I6 N st) : ∀ c : Int, 0 ≤ c → c < 8 → (0 ≤ st 10 c ∧ st 10 c ≤ 60) ∧ (-1 ≤ st 14 c ∧ st 14 c ≤ 3) ∧ (0 ≤ st 15 c ∧ st 15 c ≤ N) ∧ (st 9 0 ≤ c → st 10 c = 0 ∧ st 14 c = -1 ∧ st 15 c = 0 ∧ ∀ g : Int, 0 ≤ g → g < 10 → st 16 (10 * c + g) = -1) := h.2.2.2.2.2.2.2.2.1
theorem I_p (h : I6 N st) : ∀ c i : Int, 0 ≤ c → c < 8 → 0 ≤ i → i < st 10 c → ((st 11 (60 * c + i) = -1 ∧ 1 ≤ st 12 (60 * c + i) ∧ st 12 (60 * c + i) ≤ 100) ∨ (0 ≤ st 11 (60 * c + i) ∧ st 11 (60 * c + i) ≤ 15 ∧ st 12 (60 * c + i) = st 11 (60 * c + i))) ∧ 0 ≤ st 13 (60 * c + i) ∧ st 13 (60 * c + i) ≤ 3 := h.2.2.2.2.2.2.2.2.2.1
theorem I_b (h : I6 N st) : ∀ n : Nat, (n : Int) ≤ st 2 0 → (0 ≤ (bP st n).1 ∧ (bP st n).1 ≤ 15) ∧ 0 ≤ (bP st n).2.1 ∧ (bP st n).2.1 ≤ 15 := h.2.2.2.2.2.2.2.2.2.2.1
theorem I_t (h : I6 N st) : ∀ (c : Int) (n : Nat), 0 ≤ c → c < 8 → (n : Int) ≤ st 10 c → (0 ≤ (tP st c n).1 ∧ (tP st c n).1 ≤ 15) ∧ 0 ≤ (tP st c n).2.1 ∧ (tP st c n).2.1 ≤ 15 := h.2.2.2.2.2.2.2.2.2.2.2.1
theorem I_r (h : I6 N st) : ∀ c g : Int, 0 ≤ c → c < 8 → 0 ≤ g → g < 10 → -1 ≤ st 16 (10 * c + g) ∧ st 16 (10 * c + g) ≤ 10000 := h.2.2.2.2.2.2.2.2.2.2.2.2.1
theorem I_j (h : I6 N st) : ∀ j : Int, 0 ≤ j → j < st 17 0 → (0 ≤ st 18 j ∧ st 18 j ≤ 3) ∧ (-1 ≤ st 19 j ∧ st 19 j < st 9 0) ∧ -2 ≤ st 20 j ∧ st 20 j < st 9 0 := h.2.2.2.2.2.2.2.2.2.2.2.2.2.1
theorem I_gs (h : I6 N st) : ∀ g : Int, 0 ≤ g → g + 1 < st 5 0 → st 6 g < st 6 (g + 1) := h.2.2.2.2.2.2.2.2.2.2.2.2.2.2.1
theorem I_u (h : I6 N st) : ∀ j : Int, 0 ≤ j → j < 40 → -1 ≤ st 21 j ∧ st 21 j < 8 := h.2.2.2.2.2.2.2.2.2.2.2.2.2.2.2
end I6s
/-! sums -/
theorem sM_s (f : Nat → Int) (n : Nat) : sM f (n + 1) = sM f n + f n := rfl
theorem sM_c {f g : Nat → Int} : ∀ {n : Nat}, (∀ i, i < n → f i = g i) → sM f n = sM g n
  | 0, _ => rfl
  | n + 1, h => by rw [sM_s, sM_s, sM_c (fun i hi => h i (by omega)), h n (by omega)]
theorem sM_b {f : Nat → Int} {a : Int} : ∀ {n : Nat}, (∀ i, i < n → 0 ≤ f i ∧ f i ≤ a) → 0 ≤ sM f n ∧ sM f n ≤ n * a
  | 0, _ => by simp [sM]
  | n + 1, h => by
    have h1 := sM_b (n := n) (fun i hi => h i (by omega))
    have h2 := h n (by omega)
    rw [sM_s, show ((n + 1 : Nat) : Int) * a = n * a + a by rw [Int.natCast_add, Int.add_mul]; simp]
    omega
theorem wP_c {s0 : Int} {d d' t t' : Nat → Int} : ∀ {n : Nat}, (∀ i, i < n → d i = d' i ∧ t i = t' i) → wP s0 d t n = wP s0 d' t' n
  | 0, _ => rfl
  | n + 1, h => by rw [wP_s, wP_s, wP_c (fun i hi => h i (by omega)), (h n (by omega)).1, (h n (by omega)).2]
theorem dx_0 (h : Int) : dx h 0 = 0 := by unfold dx; split <;> (try split) <;> omega
theorem dy_0 (h : Int) : dy h 0 = 0 := by unfold dy; split <;> (try split) <;> omega
theorem dx_b (h c : Int) (hc : 0 ≤ c) : -c ≤ dx h c ∧ dx h c ≤ c := by unfold dx; split <;> (try split) <;> omega
theorem dy_b (h c : Int) (hc : 0 ≤ c) : -c ≤ dy h c ∧ dy h c ≤ c := by unfold dy; split <;> (try split) <;> omega
theorem dx_in {h x d j : Int} (h0 : 0 ≤ x ∧ x ≤ 15) (h1 : 0 ≤ x + dx h d ∧ x + dx h d ≤ 15) (hj : 0 ≤ j) (hjd : j ≤ d) : 0 ≤ x + dx h j ∧ x + dx h j ≤ 15 := by
  unfold dx at *
  split <;> (try split) <;> simp_all <;> omega
theorem dy_in {h x d j : Int} (h0 : 0 ≤ x ∧ x ≤ 15) (h1 : 0 ≤ x + dy h d ∧ x + dy h d ≤ 15) (hj : 0 ≤ j) (hjd : j ≤ d) : 0 ≤ x + dy h j ∧ x + dy h j ≤ 15 := by
  unfold dy at *
  split <;> (try split) <;> simp_all <;> omega
theorem tP_s (st : ST) (c : Int) (n : Nat) : tP st c (n + 1) = ((tP st c n).1 + dx (tP st c n).2.2 (tD st c n), (tP st c n).2.1 + dy (tP st c n).2.2 (tD st c n), ((tP st c n).2.2 + st 13 (60 * c + (n : Int))) % 4) := rfl
theorem bP_s (st : ST) (n : Nat) : bP st (n + 1) = ((bP st n).1 + dx (bP st n).2.2 (st 3 (n : Int)), (bP st n).2.1 + dy (bP st n).2.2 (st 3 (n : Int)), ((bP st n).2.2 + st 4 (n : Int)) % 4) := rfl
theorem tM_s (st : ST) (c : Int) (n : Nat) : tM st c (n + 1) = tM st c n + st 12 (60 * c + (n : Int)) := rfl
theorem tP_h (st : ST) (c : Int) (n : Nat) : 0 ≤ (tP st c n).2.2 ∧ (tP st c n).2.2 ≤ 3 := wP_h _ _ _ n
theorem bP_h (st : ST) (n : Nat) : 0 ≤ (bP st n).2.2 ∧ (bP st n).2.2 ≤ 3 := wP_h _ _ _ n
section Tr
variable {N : Int} {st : ST} {c : Int}
theorem I_m (h : I6 N st) (h0 : 0 ≤ c) (h8 : c < 8) (n : Nat) (hn : (n : Int) < st 10 c) : 0 ≤ st 12 (60 * c + (n : Int)) ∧ st 12 (60 * c + (n : Int)) ≤ 100 := by
  have := I_p h c n h0 h8 (by omega) hn
  omega
theorem tM_b (h : I6 N st) (h0 : 0 ≤ c) (h8 : c < 8) (n : Nat) (hn : (n : Int) ≤ st 10 c) : 0 ≤ tM st c n ∧ tM st c n ≤ n * 100 :=
  sM_b (f := fun i => st 12 (60 * c + (i : Int))) (fun i hi => I_m h h0 h8 i (by omega))
theorem tM_b2 (h : I6 N st) (h0 : 0 ≤ c) (h8 : c < 8) (n : Nat) (hn : (n : Int) ≤ st 10 c) : 0 ≤ tM st c n ∧ tM st c n ≤ 6000 := by
  have h1 := tM_b h h0 h8 n hn
  have h2 := (I_c h c h0 h8).1
  omega
theorem nP_e (h : I6 N st) (h0 : 0 ≤ c) (h8 : c < 8) : ((nP st c : Nat) : Int) = st 10 c := by
  have h2 := (I_c h c h0 h8).1
  unfold nP
  omega
theorem clk_b (h : I6 N st) (h0 : 0 ≤ c) (h8 : c < 8) : 0 ≤ clk st c ∧ clk st c ≤ 6000 := tM_b2 h h0 h8 _ (by rw [nP_e h h0 h8]; omega)
theorem tM_mono (h : I6 N st) (h0 : 0 ≤ c) (h8 : c < 8) (n : Nat) : ∀ (i : Nat), ((n + i : Nat) : Int) ≤ st 10 c → tM st c n ≤ tM st c (n + i)
  | 0, _ => Int.le_refl _
  | i + 1, hi => by
    have h1 := tM_mono h h0 h8 n i (by omega)
    have h2 := I_m h h0 h8 (n + i) (by omega)
    rw [← Nat.add_assoc, tM_s]
    omega
theorem tM_le (h : I6 N st) (h0 : 0 ≤ c) (h8 : c < 8) {n m : Nat} (hnm : n ≤ m) (hm : (m : Int) ≤ st 10 c) : tM st c n ≤ tM st c m := by
  have := tM_mono h h0 h8 n (m - n) (by omega)
  rwa [show n + (m - n) = m by omega] at this
/-- at the end of a piece, and behind it -/
theorem pA_full (h : I6 N st) (h0 : 0 ≤ c) (h8 : c < 8) {m : Int} : ∀ (n : Nat), (n : Int) ≤ st 10 c → tM st c n ≤ m → pA st c m n = ((tP st c n).1, (tP st c n).2.1)
  | 0, _, _ => rfl
  | n + 1, hn, hm => by
    have h2 := I_m h h0 h8 n (by omega)
    have h3 := I_p h c n h0 h8 (by omega) (by omega)
    rw [tM_s] at hm
    unfold pA
    by_cases hq : m ≤ tM st c n
    · rw [if_pos hq, pA_full h h0 h8 n (by omega) (by omega), tP_s]
      have h4 : tD st c n = 0 := by
        unfold tD
        split <;> omega
      rw [h4, dx_0, dy_0]
      simp
    · rw [if_neg hq, tP_s]
      have h4 : (if st 11 (60 * c + (n : Int)) = -1 then 0 else if m - tM st c n < st 12 (60 * c + (n : Int)) then m - tM st c n else st 12 (60 * c + (n : Int))) = tD st c n := by
        unfold tD
        split
        · rfl
        · split <;> omega
      rw [h4]
theorem pA_stop (h : I6 N st) (h0 : 0 ≤ c) (h8 : c < 8) {m : Int} (n : Nat) (hm : m ≤ tM st c n) : ∀ (i : Nat), ((n + i : Nat) : Int) ≤ st 10 c → pA st c m (n + i) = pA st c m n
  | 0, _ => rfl
  | i + 1, hi => by
    have h1 := tM_mono h h0 h8 n i (by omega)
    rw [← Nat.add_assoc]
    conv => lhs; unfold pA
    rw [if_pos (by omega)]
    exact pA_stop h h0 h8 n hm i (by omega)
/-- j minutes into piece n -/
theorem pA_in (h : I6 N st) (h0 : 0 ≤ c) (h8 : c < 8) {j : Int} (n : Nat) (hn : (n : Int) < st 10 c) (hj : 0 ≤ j) (hj2 : j ≤ st 12 (60 * c + (n : Int))) :
    pA st c (tM st c n + j) (nP st c) = ((tP st c n).1 + dx (tP st c n).2.2 (if st 11 (60 * c + (n : Int)) = -1 then 0 else j), (tP st c n).2.1 + dy (tP st c n).2.2 (if st 11 (60 * c + (n : Int)) = -1 then 0 else j)) := by
  have e := nP_e h h0 h8
  have h2 := pA_stop h h0 h8 (m := tM st c n + j) (n + 1) (by rw [tM_s]; omega) (nP st c - (n + 1)) (by omega)
  rw [show n + 1 + (nP st c - (n + 1)) = nP st c by omega] at h2
  rw [h2]
  unfold pA
  by_cases hq : tM st c n + j ≤ tM st c n
  · have hz : j = 0 := by omega
    subst hz
    rw [if_pos hq, pA_full h h0 h8 n (by omega) (by omega)]
    simp [dx_0, dy_0]
  · rw [if_neg hq]
    have h4 : (if st 11 (60 * c + (n : Int)) = -1 then 0 else if tM st c n + j - tM st c n < st 12 (60 * c + (n : Int)) then tM st c n + j - tM st c n else st 12 (60 * c + (n : Int))) = (if st 11 (60 * c + (n : Int)) = -1 then 0 else j) := by
      split
      · rfl
      · split <;> omega
    rw [h4]
theorem pA_on (h : I6 N st) (h0 : 0 ≤ c) (h8 : c < 8) {j : Int} (n : Nat) (hn : (n : Int) < st 10 c) (hj : 0 ≤ j) (hj2 : j ≤ st 12 (60 * c + (n : Int))) :
    (0 ≤ (tP st c n).1 + dx (tP st c n).2.2 (if st 11 (60 * c + (n : Int)) = -1 then 0 else j) ∧ (tP st c n).1 + dx (tP st c n).2.2 (if st 11 (60 * c + (n : Int)) = -1 then 0 else j) ≤ 15) ∧
    0 ≤ (tP st c n).2.1 + dy (tP st c n).2.2 (if st 11 (60 * c + (n : Int)) = -1 then 0 else j) ∧ (tP st c n).2.1 + dy (tP st c n).2.2 (if st 11 (60 * c + (n : Int)) = -1 then 0 else j) ≤ 15 := by
  have h1 := I_t h c n h0 h8 (by omega)
  have h2 := I_t h c (n + 1) h0 h8 (by omega)
  have h3 := I_p h c n h0 h8 (by omega) hn
  rw [tP_s] at h2
  dsimp only at h2
  unfold tD at h2
  split
  · rw [dx_0, dy_0]; omega
  · rename_i hd
    rw [if_neg hd] at h2
    exact ⟨dx_in h1.1 h2.1 hj hj2, dy_in h1.2 h2.2 hj hj2⟩
end Tr
