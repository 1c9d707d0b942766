/-! the methods of a track -/
section Tk
variable {N : Int} {st : ST} {c : Int} {q : Int → Nat} {L : List Nat} {M : MM}
theorem pA_b (hI : I6 N st) (hc : 0 ≤ c ∧ c < 8) {m : Int} : ∀ n : Nat, (n : Int) ≤ st 10 c → (0 ≤ (pA st c m n).1 ∧ (pA st c m n).1 ≤ 15) ∧ 0 ≤ (pA st c m n).2 ∧ (pA st c m n).2 ≤ 15
  | 0, hn => I_t hI c 0 hc.1 hc.2 hn
  | n + 1, hn => by
    have h1 := I_t hI c n hc.1 hc.2 (by omega)
    have h2 := I_t hI c (n + 1) hc.1 hc.2 (by omega)
    have h3 := I_m hI hc.1 hc.2 n (by omega)
    rw [tP_s] at h2
    dsimp only at h2
    unfold tD at h2
    unfold pA
    by_cases hq : m ≤ tM st c n
    · rw [if_pos hq]
      exact pA_b hI hc n (by omega)
    · rw [if_neg hq]
      dsimp only
      by_cases hd : st 11 (60 * c + (n : Int)) = -1
      · rw [if_pos hd, dx_0, dy_0]
        omega
      · rw [if_neg hd] at h2 ⊢
        exact ⟨dx_in h1.1 h2.1 (by split <;> omega) (by split <;> omega), dy_in h1.2 h2.2 (by split <;> omega) (by split <;> omega)⟩
theorem aC_b (hI : I6 N st) (hc : 0 ≤ c ∧ c < 8) (m : Int) : 0 ≤ aC st c m ∧ aC st c m ≤ 255 := by
  have h1 := pA_b hI hc (m := m) (nP st c) (by rw [nP_e hI hc.1 hc.2]; omega)
  unfold aC
  omega
theorem isF_rng2 {f : Int → Int} {e v x y r : Int} (h : isF f e v (if x < y then y else x) r) : r = -1 ∨ (y ≤ r ∧ x ≤ r ∧ r ≤ e) := by
  rcases isF_rng h with h1 | ⟨h1, h2⟩
  · exact Or.inl h1
  · right
    split at h1 <;> omega
theorem wf_next (hI : I6 N st) (hc : 0 ≤ c ∧ c < 8) {n : Nat} {t f r : Int} (hpf : isF (aC st c) (tM st c (n + 1)) t (if tM st c n < f then f else tM st c n) r) (hr : r = -1) (hf : 0 ≤ f) (hno : ∀ m, f ≤ m → m ≤ tM st c n → 0 < n → aC st c m ≠ t) : ∀ m, f ≤ m → m ≤ tM st c (n + 1) → 0 < n + 1 → aC st c m ≠ t := fun m a0 a1 _ => by
  rcases hpf with ⟨-, h2⟩ | ⟨h1, h2, -, -⟩
  · by_cases hm : m < tM st c n
    · refine hno m a0 (by omega) ?_
      rcases Nat.eq_zero_or_pos n with h | h
      · subst h
        have : tM st c 0 = 0 := rfl
        omega
      · exact h
    · exact h2 m (by split <;> omega) a1
  · split at h1 <;> omega
theorem wf_hit (hI : I6 N st) (hc : 0 ≤ c ∧ c < 8) {n : Nat} {t f r : Int} (hpf : isF (aC st c) (tM st c (n + 1)) t (if tM st c n < f then f else tM st c n) r) (hr : r ≠ -1) (hf : 0 ≤ f) (hn : (n : Int) < vN st c) (hno : ∀ m, f ≤ m → m ≤ tM st c n → 0 < n → aC st c m ≠ t) : r = fF (aC st c) (clk st c) t f := by
  rw [vN_t hc.1] at hn
  have hk := tM_clk hI hc (n := nP st c) (by have := nP_e hI hc.1 hc.2; omega)
  have hle := tM_le hI hc.1 hc.2 (n := n + 1) (m := nP st c) (by have := nP_e hI hc.1 hc.2; omega) (by have := nP_e hI hc.1 hc.2; omega)
  have hb := isF_rng2 hpf
  rcases hpf with ⟨h1, -⟩ | ⟨h1, h2, h3, h4⟩
  · exact absurd h1 hr
  · refine fF_eq hf (Or.inr ⟨by omega, by omega, h3, fun m a0 a1 => ?_⟩)
    by_cases hm : m < tM st c n
    · refine hno m a0 (by omega) ?_
      rcases Nat.eq_zero_or_pos n with h | h
      · subst h
        have : tM st c 0 = 0 := rfl
        omega
      · exact h
    · exact h4 m (by split <;> omega) a1
theorem wf_end (hI : I6 N st) (hc : 0 ≤ c ∧ c < 8) {n : Nat} {t f z : Int} (hf : 0 ≤ f ∧ f ≤ clk st c) (hn : (n : Int) = vN st c) (hno : ∀ m, f ≤ m → m ≤ tM st c n → 0 < n → aC st c m ≠ t) (hz : (vN st c = 0 ∧ clO (vP st c (vN st c).toNat) = t ∧ z = 0) ∨ (¬ (vN st c = 0 ∧ clO (vP st c (vN st c).toNat) = t) ∧ z = -1)) : z = fF (aC st c) (clk st c) t f := by
  rw [vN_t hc.1] at hn hz
  have hk := tM_clk hI hc hn
  rw [← hk] at hf ⊢
  by_cases h0 : st 10 c = 0
  · have hn0 : n = 0 := by omega
    subst hn0
    have e0 : tM st c 0 = 0 := rfl
    have hf0 : f = 0 := by omega
    have hcl : clO (vP st c (st 10 c).toNat) = aC st c 0 := by
      rw [vP_t hc.1, h0]
      have h1 := pA_full hI hc.1 hc.2 (m := 0) (nP st c) (by have := nP_e hI hc.1 hc.2; omega) (by rw [show nP st c = 0 by have := nP_e hI hc.1 hc.2; omega]; exact Int.le_refl 0)
      unfold aC
      rw [h1, show nP st c = 0 by have := nP_e hI hc.1 hc.2; omega]
      rfl
    rw [hcl] at hz
    rw [e0, hf0]
    refine fF_eq (Int.le_refl 0) ?_
    rcases hz with ⟨-, h2, h3⟩ | ⟨h2, h3⟩
    · exact Or.inr ⟨by omega, by omega, by rw [h3]; exact h2, fun m a0 a1 => by omega⟩
    · refine Or.inl ⟨h3, fun m a0 a1 a2 => h2 ⟨h0, ?_⟩⟩
      rw [show m = 0 by omega] at a2
      exact a2
  · rcases hz with ⟨h1, -⟩ | ⟨-, h3⟩
    · exact absurd h1 h0
    · exact fF_eq hf.1 (Or.inl ⟨h3, fun m a0 a1 => hno m a0 a1 (by omega)⟩)
theorem cPc_at {i : Int} {n : Nat} (h : ∀ i : Nat, (i : Int) < vN st c → cPc st q L M c i) (hi : i = (n : Int)) (h1 : (n : Int) < vN st c) : ob q L M (160 + 60 * c + i) 3 ∧ M 30 (q (160 + 60 * c + i)) 0 = vM st c n ∧ M 31 (q (160 + 60 * c + i)) 0 = vD st c n ∧ M 32 (q (160 + 60 * c + i)) 0 = clO (vP st c n) ∧ M 33 (q (160 + 60 * c + i)) 0 = (vP st c n).2.2 ∧ M 34 (q (160 + 60 * c + i)) 0 = vT st c n ∧ M 35 (q (160 + 60 * c + i)) 0 = vK st c n := by
  subst hi
  have := h n h1
  exact ⟨this.1.2, this.2⟩
theorem pc_rng (hI : I6 N st) (hc : c = -1 ∨ (0 ≤ c ∧ c < 8)) {A : Nat} {n : Nat} (hn : (n : Int) < vN st c) (p30 : M 30 A 0 = vM st c n) (p31 : M 31 A 0 = vD st c n) (p32 : M 32 A 0 = clO (vP st c n)) (p33 : M 33 A 0 = (vP st c n).2.2) (p34 : M 34 A 0 = vT st c n) (p35 : M 35 A 0 = vK st c n) :
    (0 ≤ M 33 A 0 ∧ M 33 A 0 ≤ 3) ∧ (M 35 A 0 = 0 ∨ M 35 A 0 = 1) ∧ (0 ≤ M 32 A 0 ∧ M 32 A 0 ≤ 255) ∧ ((0 ≤ M 30 A 0 ∧ M 30 A 0 ≤ 6000) ∧ 0 ≤ M 31 A 0 ∧ M 31 A 0 ≤ 1000) ∧ 0 ≤ M 34 A 0 ∧ M 34 A 0 ≤ 3 := by
  rw [p30, p31, p32, p33, p34, p35]
  have h1 := vM_b2 hI hc (n := n) (by omega)
  have h2 := vD_b hI hc hn
  exact ⟨(vP_b hI hc (by omega)).2, vK_b st c n, vC_b hI hc (by omega), by omega, vT_b hI hc hn⟩
theorem ca_in (hI : I6 N st) (hc : 0 ≤ c ∧ c < 8) (hp : ∀ i : Nat, (i : Int) < vN st c → cPc st q L M c i) {i a : Int} {n : Nat} (hi : i = (n : Int)) (hn : (n : Int) < vN st c) (ha : 0 ≤ a ∧ a ≤ clk st c) (hq : n = 0 ∨ ((n : Int) < vN st c ∧ tM st c n < a)) (hx : vN st c - 1 ≤ (n : Int) ∨ a ≤ tM st c (n + 1)) : pcA M (q (160 + 60 * c + i)) (a - vM st c n) = aC st c a := by
  subst hi
  have h1 : tM st c n ≤ a := by
    rcases hq with h | h
    · subst h; exact ha.1
    · omega
  have h2 : a ≤ tM st c n + st 12 (60 * c + (n : Int)) := by
    have : a ≤ tM st c (n + 1) := by
      rcases hx with h | h
      · rw [tM_clk hI hc (by have := vN_t (st := st) hc.1; omega)]; exact ha.2
      · exact h
    rwa [tM_s] at this
  rw [pcA_aC hI hc hn (hp n hn) (by rw [vM_t hc.1]; omega) (by rw [vM_t hc.1]; omega), vM_t hc.1, show tM st c n + (a - tM st c n) = a by omega]
theorem ca_no (hI : I6 N st) (hc : 0 ≤ c ∧ c < 8) {a : Int} (h0 : vN st c = 0) (ha : 0 ≤ a ∧ a ≤ clk st c) : clO (vP st c (vN st c).toNat) = aC st c a := by
  rw [vN_t hc.1] at h0
  have e : nP st c = 0 := by have := nP_e hI hc.1 hc.2; omega
  have hk : clk st c = 0 := by unfold clk; rw [e]; rfl
  rw [show a = 0 by omega]
  have h1 := pA_full hI hc.1 hc.2 (m := 0) (nP st c) (by have := nP_e hI hc.1 hc.2; omega) (by rw [e]; exact Int.le_refl 0)
  rw [vN_t hc.1, vP_t hc.1, h0]
  unfold aC
  rw [h1, e]
  rfl
theorem fw_stop {st : ST} {c : Int} {n : Nat} (h : (folS st c n).2 ≠ 0) : ∀ i : Nat, folS st c (n + i) = folS st c n
  | 0 => rfl
  | i + 1 => by
    rw [← Nat.add_assoc]
    conv => lhs; unfold folS
    rw [fw_stop h i, if_neg (fun z => h z.2)]
theorem fw_skip {n : Nat} (h : vK st c n = 0) (hc : 0 ≤ c ∧ c < 8) : folS st c (n + 1) = folS st c n := by
  rw [vK_t hc.1] at h
  conv => lhs; unfold folS
  rw [if_neg (fun z => by rw [if_neg z.1] at h; omega)]
theorem fw_go (hI : I6 N st) (hc : 0 ≤ c ∧ c < 8) {n : Nat} {k : Int} (hn : (n : Int) < vN st c) (h : vK st c n ≠ 0) (hf : k = (folS st c n).1 ∧ (folS st c n).2 = 0) (hk : 0 ≤ k ∧ k < vN st (-1)) (hm : vD st c n = vD st (-1) k.toNat ∧ vT st c n = vT st (-1) k.toNat) : k + 1 = (folS st c (n + 1)).1 ∧ (folS st c (n + 1)).2 = 0 := by
  have e1 : st 11 (60 * c + (n : Int)) ≠ -1 := fun z => h (by rw [vK_t hc.1, if_pos z])
  have e2 : vN st (-1) = st 2 0 := rfl
  have e3 : vD st (-1) k.toNat = st 3 k := by show st 3 ((k.toNat : Nat) : Int) = _; rw [show ((k.toNat : Nat) : Int) = k by omega]
  have e4 : vT st (-1) k.toNat = st 4 k := by show st 4 ((k.toNat : Nat) : Int) = _; rw [show ((k.toNat : Nat) : Int) = k by omega]
  rw [vN_t hc.1] at hn
  have e5 := I_p hI c n hc.1 hc.2 (by omega) hn
  rw [e3, e4, vD_t hc.1, vT_t hc.1] at hm
  unfold folS
  rw [if_pos ⟨e1, hf.2⟩, ← hf.1, if_neg (by omega)]
  exact ⟨rfl, rfl⟩
theorem fw_no (hI : I6 N st) (hc : 0 ≤ c ∧ c < 8) {n : Nat} {k : Int} (hn : (n : Int) < vN st c) (h : vK st c n ≠ 0) (hf : k = (folS st c n).1 ∧ (folS st c n).2 = 0) (h0 : 0 ≤ k) (hm : ¬ (k < vN st (-1)) ∨ ¬ (vD st c n = vD st (-1) k.toNat ∧ vT st c n = vT st (-1) k.toNat)) : k = (folS st c (nP st c)).1 := by
  have e1 : st 11 (60 * c + (n : Int)) ≠ -1 := fun z => h (by rw [vK_t hc.1, if_pos z])
  have e2 : vN st (-1) = st 2 0 := rfl
  have e3 : vD st (-1) k.toNat = st 3 k := by show st 3 ((k.toNat : Nat) : Int) = _; rw [show ((k.toNat : Nat) : Int) = k by omega]
  have e4 : vT st (-1) k.toNat = st 4 k := by show st 4 ((k.toNat : Nat) : Int) = _; rw [show ((k.toNat : Nat) : Int) = k by omega]
  rw [vN_t hc.1] at hn
  have e5 := I_p hI c n hc.1 hc.2 (by omega) hn
  have e6 := (fol_b hI (c := c) n).1
  rw [e3, e4, vD_t hc.1, vT_t hc.1, e2] at hm
  have e7 : folS st c (n + 1) = (k, 1) := by
    unfold folS
    rw [if_pos ⟨e1, hf.2⟩, ← hf.1, if_pos (by omega)]
  have e8 := fw_stop (st := st) (c := c) (n := n + 1) (by rw [e7]; show (1 : Int) ≠ 0; decide) (nP st c - (n + 1))
  rw [show n + 1 + (nP st c - (n + 1)) = nP st c by have := nP_e hI hc.1 hc.2; omega, e7] at e8
  rw [e8]
end Tk
abbrev rm_X4_firstMinuteIn : Room := { frames := 2, cells := 0, slots := 0, locals := 47 }
set_option maxHeartbeats 4000000 in
set_option maxRecDepth 100000 in
theorem c_X4_firstMinuteIn (l : Launch) (D : va_G) (k : Nat → ClassId) (N : Int) (st : ST) (q : Int → Nat) (L : List Nat) (M : MM) (c : Int) (t f : Int) (hI : I6 N st) (hc : 0 ≤ c ∧ c < 8) (hW : cWy st q L M c) (ht : 0 ≤ t ∧ t ≤ 255) (hf : 0 ≤ f ∧ f ≤ clk st c) : CI l yX4_firstMinuteIn cX4_firstMinuteIn 6 (some .int) rm_X4_firstMinuteIn D k [.ref (q (10 + c)), .int (J t), .int (J f)] (pW k L M) (fun z w' => w' = pW k L M ∧ z = fF (aC st c) (clk st c) t f) := by
  refine CI.of (by decide +kernel) (Nat.le_of_ble_eq_true rfl) (fun pᵢ eᵢ sᵢ mᵢ argsᵢ belowᵢ methᵢ cᵢ Aᵢ Qᵢ X RI => ?_)
  show SW pᵢ l eᵢ rm_X4_firstMinuteIn sᵢ mᵢ argsᵢ belowᵢ methᵢ cᵢ 6 D Aᵢ 0 0 Qᵢ (pW k L M) 0 [(0, .ref (q (10 + c))), (1, .int (J t)), (2, .int (J f))] []
  have hW2 := hW
  obtain ⟨⟨⟨wL, wG, wK⟩, w40⟩, w41, w42, w43, w44, ⟨⟨aL, aG, aK⟩, aN⟩, hp⟩ := hW2
  have hcc : c = -1 ∨ (0 ≤ c ∧ c < 8) := by omega
  have bN := vN_b hI hcc
  have bL : vL c = 30 ∨ vL c = 60 := by unfold vL; split <;> omega
  have bP := vP_b hI hcc (n := (vN st c).toNat) (by omega)
  have bC := vC_b hI hcc (n := (vN st c).toNat) (by omega)
  have bM := vM_b2 hI hcc (n := (vN st c).toNat) (by omega)
  have e16 := clO_d bP.1
  have hk := clk_b hI hc.1 hc.2
  refine sw_iconst X dX4_firstMinuteIn_0 ?_
  refine sw_istore_n (lv' := [(3, .int (J 0)), (0, .ref (q (10 + c))), (1, .int (J t)), (2, .int (J f))]) X dX4_firstMinuteIn_1 rfl (by decide) rfl ?_
  have lp2 : ∀ (n3 : Nat) (n : Nat) (i : Int), vN st c - i < (n3 : Nat) → (i = (n : Int)) → ((n : Int) ≤ vN st c) → (∀ m, f ≤ m → m ≤ tM st c n → 0 < n → aC st c m ≠ t) → SW pᵢ l eᵢ rm_X4_firstMinuteIn sᵢ mᵢ argsᵢ belowᵢ methᵢ cᵢ 6 D Aᵢ 0 0 Qᵢ (pW k L M) 2 [(0, .ref (q (10 + c))), (1, .int (J t)), (2, .int (J f)), (3, .int (J i))] [] := by
    intro n3
    induction n3 with
    | zero => intro n i hm4 hi hn hno; exact absurd hm4 (by omega)
    | succ n3 ih1 =>
      intro n i hm4 hi hn hno
      refine sw_iload_n X dX4_firstMinuteIn_2 rfl 3 rfl ?_
      refine sw_aload_n X dX4_firstMinuteIn_3 rfl 0 rfl ?_
      refine px_get (v := .int (J (vN st c))) X iw_X4 wL (by decide) wK rfl 1 (by decide) gw1_33 rfl (congrArg (fun z => some (Value.int (J z))) w41) dX4_firstMinuteIn_4 ?_
      refine sw_icmp_ge (tgt := 50) X (by omega) (by omega) dX4_firstMinuteIn_7 (by decide) (fun h5 => ?_) (fun h5 => ?_)
      · refine sw_aload_n X dX4_firstMinuteIn_50 rfl 0 rfl ?_
        refine px_get (v := .int (J (vN st c))) X iw_X4 wL (by decide) wK rfl 1 (by decide) gw1_33 rfl (congrArg (fun z => some (Value.int (J z))) w41) dX4_firstMinuteIn_51 ?_
        refine sw_if_ne (tgt := 69) X (by omega) dX4_firstMinuteIn_54 (by decide) (fun h6 => ?_) (fun h6 => ?_)
        · refine sw_iconst X dX4_firstMinuteIn_69 ?_
          exact RI _ _ _ _ _ _ dX4_firstMinuteIn_70 (Nat.le_of_ble_eq_true rfl) (Nat.le_of_ble_eq_true rfl) rfl ⟨rfl, wf_end hI hc hf (by omega) hno (by omega)⟩
        · refine sw_aload_n X dX4_firstMinuteIn_57 rfl 0 rfl ?_
          refine px_get (v := .int (J (clO (vP st c (vN st c).toNat)))) X iw_X4 wL (by decide) wK rfl 2 (by decide) gw1_35 rfl (congrArg (fun z => some (Value.int (J z))) w42) dX4_firstMinuteIn_58 ?_
          refine sw_iload_n X dX4_firstMinuteIn_61 rfl 1 rfl ?_
          refine sw_icmp_ne (tgt := 69) X (by omega) (by omega) dX4_firstMinuteIn_62 (by decide) (fun h7 => ?_) (fun h7 => ?_)
          · refine sw_iconst X dX4_firstMinuteIn_69 ?_
            exact RI _ _ _ _ _ _ dX4_firstMinuteIn_70 (Nat.le_of_ble_eq_true rfl) (Nat.le_of_ble_eq_true rfl) rfl ⟨rfl, wf_end hI hc hf (by omega) hno (by omega)⟩
          · refine sw_iconst X dX4_firstMinuteIn_65 ?_
            refine sw_goto (tgt := 70) X dX4_firstMinuteIn_66 (by decide) ?_
            exact RI _ _ _ _ _ _ dX4_firstMinuteIn_70 (Nat.le_of_ble_eq_true rfl) (Nat.le_of_ble_eq_true rfl) rfl ⟨rfl, wf_end hI hc hf (by omega) hno (by omega)⟩
      · refine sw_aload_n X dX4_firstMinuteIn_10 rfl 0 rfl ?_
        refine sw_iload_n X dX4_firstMinuteIn_11 rfl 3 rfl ?_
        refine px_callVQ (C := RX4) (As := [.int (J i)]) (rest := []) X (c_X4_pieceAt l D k N st q L M c i hI hcc hW (by omega)) (cwV 1 (sw_ts X) (sw_goodV gw3_29 gw2_44 gw2_45 gw1_2 gw2_46) rfl rfl rfl (by decide +kernel) ⟨Nat.le_of_ble_eq_true rfl, Nat.le_of_ble_eq_true rfl⟩) ⟨wL, wK⟩ (by decide) rfl rfl dX4_firstMinuteIn_12 rfl rfl (Nat.le_of_ble_eq_true rfl) ⟨Nat.le_of_ble_eq_true rfl, Nat.le_of_ble_eq_true rfl⟩ (fun z8 w9 hp9 => ?_)
        obtain ⟨rfl, hp9⟩ := hp9
        have hr9 : z8 = some (q (160 + 60 * c + i)) := by rcases hp9 with ⟨-, -, h⟩ | ⟨h, -⟩; exact h; exact absurd ⟨by omega, by omega⟩ h
        subst hr9
        obtain ⟨⟨pL, pG, pK⟩, p30, p31, p32, p33, p34, p35⟩ := cPc_at hp (i := i) (n := n) hi (by omega)
        obtain ⟨hh9, hd9, hc9, hb9, ht9⟩ := pc_rng hI hcc (n := n) (by omega) p30 p31 p32 p33 p34 p35
        refine sw_astore (lv' := [(4, .ref (q (160 + 60 * c + i))), (0, .ref (q (10 + c))), (1, .int (J t)), (2, .int (J f)), (3, .int (J i))]) X dX4_firstMinuteIn_15 (by decide) rfl ?_
        refine sw_aload X dX4_firstMinuteIn_17 0 rfl ?_
        refine sw_ifnonnull (tgt := 26) X dX4_firstMinuteIn_19 (by decide) ?_
        refine sw_aload X dX4_firstMinuteIn_26 0 rfl ?_
        refine sw_iload_n X dX4_firstMinuteIn_28 rfl 2 rfl ?_
        refine sw_iload_n X dX4_firstMinuteIn_29 rfl 3 rfl ?_
        refine px_callVI (C := RX3) (As := [.int (J t), .int (J f)]) (rest := []) X (c_X3_firstMinuteIn l D k L M (q (160 + 60 * c + i)) t f ⟨pL, pK⟩ hh9 hd9 ht hc9 (by omega) hb9) (cwV 2 (sw_ts X) (sw_goodV gw3_30 gw3_31 gw3_32 gw1_9 gw3_33) rfl rfl rfl (by decide +kernel) ⟨Nat.le_of_ble_eq_true rfl, Nat.le_of_ble_eq_true rfl⟩) ⟨pL, pK⟩ (by decide) rfl rfl dX4_firstMinuteIn_30 rfl rfl (Nat.le_of_ble_eq_true rfl) ⟨Nat.le_of_ble_eq_true rfl, Nat.le_of_ble_eq_true rfl⟩ (fun z10 w9 hp11 => ?_)
        obtain ⟨rfl, rfl⟩ := hp11
        have hpf := pf_is hI hc (n := n) (by omega) (hp n (by omega)) (t := t) (f := f) ht
        rw [← hi] at hpf
        have hpr := isF_rng2 hpf
        have hTb := tM_b2 hI hc.1 hc.2 (n + 1) (by have := vN_t (st := st) hc.1; omega)
        refine sw_istore (lv' := [(5, .int (J (pfM M (q (160 + 60 * c + i)) t f))), (4, .ref (q (160 + 60 * c + i))), (0, .ref (q (10 + c))), (1, .int (J t)), (2, .int (J f)), (3, .int (J i))]) X dX4_firstMinuteIn_33 (by decide) rfl ?_
        refine sw_iload X dX4_firstMinuteIn_35 0 rfl ?_
        refine sw_iconst X dX4_firstMinuteIn_37 ?_
        refine sw_icmp_eq (tgt := 44) X (by omega) (by omega) dX4_firstMinuteIn_38 (by decide) (fun h12 => ?_) (fun h12 => ?_)
        · refine sw_iinc (lv' := [(3, .int (J (i + 1))), (5, .int (J (pfM M (q (160 + 60 * c + i)) t f))), (4, .ref (q (160 + 60 * c + i))), (0, .ref (q (10 + c))), (1, .int (J t)), (2, .int (J f))]) X dX4_firstMinuteIn_44 5 rfl (by decide) rfl ?_
          refine sw_goto (tgt := 2) X dX4_firstMinuteIn_47 (by decide) ?_
          refine sw_sub [3, 4, 5, 0] rfl ?_
          exact ih1 (n + 1) (i + 1) (by omega) (by omega) (by omega) (wf_next hI hc hpf (by omega) hf.1 hno)
        · refine sw_iload X dX4_firstMinuteIn_41 0 rfl ?_
          exact RI _ _ _ _ _ _ dX4_firstMinuteIn_43 (Nat.le_of_ble_eq_true rfl) (Nat.le_of_ble_eq_true rfl) rfl ⟨rfl, wf_hit hI hc hpf (by omega) hf.1 (by omega) hno⟩
  refine sw_sub [1, 2, 3, 0] rfl ?_
  exact lp2 (vN st c - 0).toNat.succ 0 0 (by omega) (by simp) (by omega) (fun m a0 a1 a2 => absurd a2 (by omega))
abbrev rm_X4_endsAhead : Room := { frames := 2, cells := 0, slots := 0, locals := 43 }
set_option maxHeartbeats 4000000 in
set_option maxRecDepth 100000 in
theorem c_X4_endsAhead (l : Launch) (D : va_G) (k : Nat → ClassId) (N : Int) (st : ST) (q : Int → Nat) (L : List Nat) (M : MM) (c : Int) (i a : Int) (n : Nat) (hI : I6 N st) (hc : 0 ≤ c ∧ c < 8) (hW : cWy st q L M c) (hi : i = (n : Int)) (hn : (n : Int) < vN st c) (ha : -10 ≤ a ∧ a ≤ 10000) : CI l yX4_endsAhead cX4_endsAhead 4 (some .boolean) rm_X4_endsAhead D k [.ref (q (10 + c)), .int (J i), .int (J a)] (pW k L M) (fun z w' => w' = pW k L M ∧ ((z = 1 ∧ vM st c (n + 1) < a) ∨ (z = 0 ∧ a ≤ vM st c (n + 1)))) := by
  refine CI.of (by decide +kernel) (Nat.le_of_ble_eq_true rfl) (fun pᵢ eᵢ sᵢ mᵢ argsᵢ belowᵢ methᵢ cᵢ Aᵢ Qᵢ X RI => ?_)
  show SW pᵢ l eᵢ rm_X4_endsAhead sᵢ mᵢ argsᵢ belowᵢ methᵢ cᵢ 4 D Aᵢ 0 0 Qᵢ (pW k L M) 0 [(0, .ref (q (10 + c))), (1, .int (J i)), (2, .int (J a))] []
  have hW2 := hW
  obtain ⟨⟨⟨wL, wG, wK⟩, w40⟩, w41, w42, w43, w44, ⟨⟨aL, aG, aK⟩, aN⟩, hp⟩ := hW2
  have hcc : c = -1 ∨ (0 ≤ c ∧ c < 8) := by omega
  have bN := vN_b hI hcc
  have bL : vL c = 30 ∨ vL c = 60 := by unfold vL; split <;> omega
  have bP := vP_b hI hcc (n := (vN st c).toNat) (by omega)
  have bC := vC_b hI hcc (n := (vN st c).toNat) (by omega)
  have bM := vM_b2 hI hcc (n := (vN st c).toNat) (by omega)
  have e16 := clO_d bP.1
  refine sw_aload_n X dX4_endsAhead_0 rfl 0 rfl ?_
  refine sw_iload_n X dX4_endsAhead_1 rfl 1 rfl ?_
  refine px_callVQ (C := RX4) (As := [.int (J i)]) (rest := []) X (c_X4_pieceAt l D k N st q L M c i hI hcc hW (by omega)) (cwV 1 (sw_ts X) (sw_goodV gw3_29 gw2_44 gw2_45 gw1_2 gw2_46) rfl rfl rfl (by decide +kernel) ⟨Nat.le_of_ble_eq_true rfl, Nat.le_of_ble_eq_true rfl⟩) ⟨wL, wK⟩ (by decide) rfl rfl dX4_endsAhead_2 rfl rfl (Nat.le_of_ble_eq_true rfl) ⟨Nat.le_of_ble_eq_true rfl, Nat.le_of_ble_eq_true rfl⟩ (fun z1 w9 hp2 => ?_)
  obtain ⟨rfl, hp2⟩ := hp2
  have hr9 : z1 = some (q (160 + 60 * c + i)) := by rcases hp2 with ⟨-, -, h⟩ | ⟨h, -⟩; exact h; exact absurd ⟨by omega, by omega⟩ h
  subst hr9
  obtain ⟨⟨pL, pG, pK⟩, p30, p31, p32, p33, p34, p35⟩ := cPc_at hp (i := i) (n := n) hi (by omega)
  obtain ⟨hh9, hd9, hc9, hb9, ht9⟩ := pc_rng hI hcc (n := n) (by omega) p30 p31 p32 p33 p34 p35
  refine sw_astore_n (lv' := [(3, .ref (q (160 + 60 * c + i))), (0, .ref (q (10 + c))), (1, .int (J i)), (2, .int (J a))]) X dX4_endsAhead_5 rfl (by decide) rfl ?_
  refine sw_aload_n X dX4_endsAhead_6 rfl 0 rfl ?_
  refine sw_ifnull X dX4_endsAhead_7 ?_
  refine sw_aload_n X dX4_endsAhead_10 rfl 0 rfl ?_
  refine px_callVI (C := RX3) (As := []) (rest := []) X (c_X3_end l D k L M (q (160 + 60 * c + i)) ⟨pL, pK⟩) (cwV 0 (sw_ts X) (sw_goodV gw2_17 gw2_18 gw2_19 gw1_9 gw2_20) rfl rfl rfl (by decide +kernel) ⟨Nat.le_of_ble_eq_true rfl, Nat.le_of_ble_eq_true rfl⟩) ⟨pL, pK⟩ (by decide) rfl rfl dX4_endsAhead_11 rfl rfl (Nat.le_of_ble_eq_true rfl) ⟨Nat.le_of_ble_eq_true rfl, Nat.le_of_ble_eq_true rfl⟩ (fun z3 w9 hp4 => ?_)
  have hzz3 : z3 = vM st c n + vD st c n := hp4.2.trans (congr (congrArg HAdd.hAdd p30) p31)
  obtain ⟨rfl, -⟩ := hp4
  subst hzz3
  have hs9 := vM_s st c n
  refine sw_iload_n X dX4_endsAhead_14 rfl 3 rfl ?_
  refine sw_icmp_ge (tgt := 22) X (by omega) (by omega) dX4_endsAhead_15 (by decide) (fun h5 => ?_) (fun h5 => ?_)
  · refine sw_iconst X dX4_endsAhead_22 ?_
    exact RI _ _ _ _ _ _ dX4_endsAhead_23 (Nat.le_of_ble_eq_true rfl) (Nat.le_of_ble_eq_true rfl) rfl ⟨rfl, by omega⟩
  · refine sw_iconst X dX4_endsAhead_18 ?_
    refine sw_goto (tgt := 23) X dX4_endsAhead_19 (by decide) ?_
    exact RI _ _ _ _ _ _ dX4_endsAhead_23 (Nat.le_of_ble_eq_true rfl) (Nat.le_of_ble_eq_true rfl) rfl ⟨rfl, by omega⟩
abbrev rm_X4_pieceAtMinute : Room := { frames := 3, cells := 0, slots := 0, locals := 66 }
set_option maxHeartbeats 4000000 in
set_option maxRecDepth 100000 in
theorem c_X4_pieceAtMinute (l : Launch) (D : va_G) (k : Nat → ClassId) (N : Int) (st : ST) (q : Int → Nat) (L : List Nat) (M : MM) (c : Int) (a u : Int) (hI : I6 N st) (hc : 0 ≤ c ∧ c < 8) (hW : cWy st q L M c) (hu : 0 ≤ u ∧ u ≤ 100) (hq0 : (u.toNat = 0 ∨ ((u.toNat : Int) < vN st c ∧ vM st c u.toNat < a))) (ha : -10 ≤ a ∧ a ≤ 10000) : CI l yX4_pieceAtMinute cX4_pieceAtMinute 4 (some .int) rm_X4_pieceAtMinute D k [.ref (q (10 + c)), .int (J a), .int (J u)] (pW k L M) (fun z w' => w' = pW k L M ∧ ∃ n : Nat, z = (n : Int) ∧ (n = 0 ∨ ((n : Int) < vN st c ∧ vM st c n < a)) ∧ (vN st c - 1 ≤ (n : Int) ∨ a ≤ vM st c (n + 1))) := by
  refine CI.of (by decide +kernel) (Nat.le_of_ble_eq_true rfl) (fun pᵢ eᵢ sᵢ mᵢ argsᵢ belowᵢ methᵢ cᵢ Aᵢ Qᵢ X RI => ?_)
  show SW pᵢ l eᵢ rm_X4_pieceAtMinute sᵢ mᵢ argsᵢ belowᵢ methᵢ cᵢ 4 D Aᵢ 0 0 Qᵢ (pW k L M) 0 [(0, .ref (q (10 + c))), (1, .int (J a)), (2, .int (J u))] []
  have hW2 := hW
  obtain ⟨⟨⟨wL, wG, wK⟩, w40⟩, w41, w42, w43, w44, ⟨⟨aL, aG, aK⟩, aN⟩, hp⟩ := hW2
  have hcc : c = -1 ∨ (0 ≤ c ∧ c < 8) := by omega
  have bN := vN_b hI hcc
  have bL : vL c = 30 ∨ vL c = 60 := by unfold vL; split <;> omega
  have bP := vP_b hI hcc (n := (vN st c).toNat) (by omega)
  have bC := vC_b hI hcc (n := (vN st c).toNat) (by omega)
  have bM := vM_b2 hI hcc (n := (vN st c).toNat) (by omega)
  have e16 := clO_d bP.1
  refine sw_iload_n X dX4_pieceAtMinute_0 rfl 2 rfl ?_
  refine sw_istore_n (lv' := [(3, .int (J u)), (0, .ref (q (10 + c))), (1, .int (J a)), (2, .int (J u))]) X dX4_pieceAtMinute_1 rfl (by decide) rfl ?_
  have lp2 : ∀ (n3 : Nat) (n : Nat) (i : Int), vN st c + 200 - i < (n3 : Nat) → (i = (n : Int)) → ((n : Int) ≤ 100) → ((n = 0 ∨ ((n : Int) < vN st c ∧ vM st c n < a))) → SW pᵢ l eᵢ rm_X4_pieceAtMinute sᵢ mᵢ argsᵢ belowᵢ methᵢ cᵢ 4 D Aᵢ 0 0 Qᵢ (pW k L M) 2 [(0, .ref (q (10 + c))), (1, .int (J a)), (2, .int (J u)), (3, .int (J i))] [] := by
    intro n3
    induction n3 with
    | zero => intro n i hm4 hi hn hq; exact absurd hm4 (by omega)
    | succ n3 ih1 =>
      intro n i hm4 hi hn hq
      refine sw_iload_n X dX4_pieceAtMinute_2 rfl 3 rfl ?_
      refine sw_aload_n X dX4_pieceAtMinute_3 rfl 0 rfl ?_
      refine px_get (v := .int (J (vN st c))) X iw_X4 wL (by decide) wK rfl 1 (by decide) gw1_33 rfl (congrArg (fun z => some (Value.int (J z))) w41) dX4_pieceAtMinute_4 ?_
      refine sw_iconst X dX4_pieceAtMinute_7 ?_
      refine sw_isub X dX4_pieceAtMinute_8 ?_
      refine sw_icmp_ge (tgt := 27) X (by omega) (by omega) dX4_pieceAtMinute_9 (by decide) (fun h5 => ?_) (fun h5 => ?_)
      · refine sw_iload_n X dX4_pieceAtMinute_27 rfl 3 rfl ?_
        exact RI _ _ _ _ _ _ dX4_pieceAtMinute_28 (Nat.le_of_ble_eq_true rfl) (Nat.le_of_ble_eq_true rfl) rfl ⟨rfl, n, hi, hq, by omega⟩
      · refine sw_aload_n X dX4_pieceAtMinute_12 rfl 0 rfl ?_
        refine sw_iload_n X dX4_pieceAtMinute_13 rfl 3 rfl ?_
        refine sw_iload_n X dX4_pieceAtMinute_14 rfl 1 rfl ?_
        refine px_callVI (C := RX4) (As := [.int (J i), .int (J a)]) (rest := []) X (c_X4_endsAhead l D k N st q L M c i a n hI hc hW hi (by omega) ha) (cwV 2 (sw_ts X) (sw_goodV gw3_105 gw3_107 gws_14 gw1_2 gw3_108) rfl rfl rfl (by decide +kernel) ⟨Nat.le_of_ble_eq_true rfl, Nat.le_of_ble_eq_true rfl⟩) ⟨wL, wK⟩ (by decide) rfl rfl dX4_pieceAtMinute_15 rfl rfl (Nat.le_of_ble_eq_true rfl) ⟨Nat.le_of_ble_eq_true rfl, Nat.le_of_ble_eq_true rfl⟩ (fun z6 w9 hp7 => ?_)
        obtain ⟨rfl, hp7⟩ := hp7
        refine sw_if_eq (tgt := 27) X (by omega) dX4_pieceAtMinute_18 (by decide) (fun h8 => ?_) (fun h8 => ?_)
        · refine sw_iload_n X dX4_pieceAtMinute_27 rfl 3 rfl ?_
          exact RI _ _ _ _ _ _ dX4_pieceAtMinute_28 (Nat.le_of_ble_eq_true rfl) (Nat.le_of_ble_eq_true rfl) rfl ⟨rfl, n, hi, hq, by omega⟩
        · refine sw_iinc (lv' := [(3, .int (J (i + 1))), (0, .ref (q (10 + c))), (1, .int (J a)), (2, .int (J u))]) X dX4_pieceAtMinute_21 3 rfl (by decide) rfl ?_
          refine sw_goto (tgt := 2) X dX4_pieceAtMinute_24 (by decide) ?_
          refine sw_sub [1, 2, 3, 0] rfl ?_
          exact ih1 (n + 1) (i + 1) (by omega) (by omega) (by omega) (Or.inr ⟨by omega, by omega⟩)
  refine sw_sub [1, 2, 3, 0] rfl ?_
  exact lp2 (vN st c + 200 - u).toNat.succ u.toNat u (by omega) (by omega) (by omega) (hq0)
abbrev rm_X4_cellAtMinute : Room := { frames := 2, cells := 0, slots := 0, locals := 43 }
set_option maxHeartbeats 4000000 in
set_option maxRecDepth 100000 in
theorem c_X4_cellAtMinute (l : Launch) (D : va_G) (k : Nat → ClassId) (N : Int) (st : ST) (q : Int → Nat) (L : List Nat) (M : MM) (c : Int) (a i : Int) (n : Nat) (hI : I6 N st) (hc : 0 ≤ c ∧ c < 8) (hW : cWy st q L M c) (hi : i = (n : Int)) (hn : (n : Int) ≤ 100) (ha : 0 ≤ a ∧ a ≤ clk st c) (hq : (n = 0 ∨ ((n : Int) < vN st c ∧ vM st c n < a))) (hx : vN st c - 1 ≤ (n : Int) ∨ a ≤ vM st c (n + 1)) : CI l yX4_cellAtMinute cX4_cellAtMinute 4 (some .int) rm_X4_cellAtMinute D k [.ref (q (10 + c)), .int (J a), .int (J i)] (pW k L M) (fun z w' => w' = pW k L M ∧ z = aC st c a) := by
  refine CI.of (by decide +kernel) (Nat.le_of_ble_eq_true rfl) (fun pᵢ eᵢ sᵢ mᵢ argsᵢ belowᵢ methᵢ cᵢ Aᵢ Qᵢ X RI => ?_)
  show SW pᵢ l eᵢ rm_X4_cellAtMinute sᵢ mᵢ argsᵢ belowᵢ methᵢ cᵢ 4 D Aᵢ 0 0 Qᵢ (pW k L M) 0 [(0, .ref (q (10 + c))), (1, .int (J a)), (2, .int (J i))] []
  have hW2 := hW
  obtain ⟨⟨⟨wL, wG, wK⟩, w40⟩, w41, w42, w43, w44, ⟨⟨aL, aG, aK⟩, aN⟩, hp⟩ := hW2
  have hcc : c = -1 ∨ (0 ≤ c ∧ c < 8) := by omega
  have bN := vN_b hI hcc
  have bL : vL c = 30 ∨ vL c = 60 := by unfold vL; split <;> omega
  have bP := vP_b hI hcc (n := (vN st c).toNat) (by omega)
  have bC := vC_b hI hcc (n := (vN st c).toNat) (by omega)
  have bM := vM_b2 hI hcc (n := (vN st c).toNat) (by omega)
  have e16 := clO_d bP.1
  have hk := clk_b hI hc.1 hc.2
  refine sw_aload_n X dX4_cellAtMinute_0 rfl 0 rfl ?_
  refine sw_iload_n X dX4_cellAtMinute_1 rfl 2 rfl ?_
  refine px_callVQ (C := RX4) (As := [.int (J i)]) (rest := []) X (c_X4_pieceAt l D k N st q L M c i hI hcc hW (by omega)) (cwV 1 (sw_ts X) (sw_goodV gw3_29 gw2_44 gw2_45 gw1_2 gw2_46) rfl rfl rfl (by decide +kernel) ⟨Nat.le_of_ble_eq_true rfl, Nat.le_of_ble_eq_true rfl⟩) ⟨wL, wK⟩ (by decide) rfl rfl dX4_cellAtMinute_2 rfl rfl (Nat.le_of_ble_eq_true rfl) ⟨Nat.le_of_ble_eq_true rfl, Nat.le_of_ble_eq_true rfl⟩ (fun z1 w9 hp2 => ?_)
  obtain ⟨rfl, hp2⟩ := hp2
  rcases hp2 with ⟨g0, g1, rfl⟩ | ⟨g0, rfl⟩
  · obtain ⟨⟨pL, pG, pK⟩, p30, p31, p32, p33, p34, p35⟩ := cPc_at hp (i := i) (n := n) hi (by omega)
    obtain ⟨hh9, hd9, hc9, hb9, ht9⟩ := pc_rng hI hcc (n := n) (by omega) p30 p31 p32 p33 p34 p35
    have hM9 := vM_b2 hI hcc (n := n) (by omega)
    refine sw_astore_n (lv' := [(3, .ref (q (160 + 60 * c + i))), (0, .ref (q (10 + c))), (1, .int (J a)), (2, .int (J i))]) X dX4_cellAtMinute_5 rfl (by decide) rfl ?_
    refine sw_aload_n X dX4_cellAtMinute_6 rfl 0 rfl ?_
    refine sw_ifnonnull (tgt := 17) X dX4_cellAtMinute_7 (by decide) ?_
    refine sw_aload_n X dX4_cellAtMinute_17 rfl 0 rfl ?_
    refine sw_iload_n X dX4_cellAtMinute_18 rfl 2 rfl ?_
    refine sw_aload_n X dX4_cellAtMinute_19 rfl 0 rfl ?_
    refine px_getN (n := "") (d := "") (v := .int (J (vM st c n))) X iw_X3 pL (by decide) pK rfl 0 (by decide) (List.mem_of_getElem? (i := 5) rfl) rfl (congrArg (fun z => some (Value.int (J z))) p30) dX4_cellAtMinute_20 ?_
    refine sw_isub X dX4_cellAtMinute_23 ?_
    refine px_callVI (C := RX3) (As := [.int (J (a - (vM st c n)))]) (rest := []) X (c_X3_cellAfter l D k L M (q (160 + 60 * c + i)) (a - (vM st c n)) ⟨pL, pK⟩ hh9 hd9) (cwV 1 (sw_ts X) (sw_goodV gw3_113 gw2_26 gw2_27 gw1_9 gw2_28) rfl rfl rfl (by decide +kernel) ⟨Nat.le_of_ble_eq_true rfl, Nat.le_of_ble_eq_true rfl⟩) ⟨pL, pK⟩ (by decide) rfl rfl dX4_cellAtMinute_24 rfl rfl (Nat.le_of_ble_eq_true rfl) ⟨Nat.le_of_ble_eq_true rfl, Nat.le_of_ble_eq_true rfl⟩ (fun z3 w9 hp4 => ?_)
    obtain ⟨rfl, rfl⟩ := hp4
    exact RI _ _ _ _ _ _ dX4_cellAtMinute_27 (Nat.le_of_ble_eq_true rfl) (Nat.le_of_ble_eq_true rfl) rfl ⟨rfl, ca_in hI hc hp hi (by omega) ha (by rw [← vM_t hc.1]; exact hq) (by rw [← vM_t hc.1]; exact hx)⟩
  · refine sw_astore_nN (lv' := [(3, .null), (0, .ref (q (10 + c))), (1, .int (J a)), (2, .int (J i))]) X dX4_cellAtMinute_5 rfl (by decide) rfl ?_
    refine sw_aload_nN X dX4_cellAtMinute_6 rfl 0 rfl ?_
    refine sw_ifnonnullN X dX4_cellAtMinute_7 ?_
    refine sw_aload_n X dX4_cellAtMinute_10 rfl 1 rfl ?_
    refine px_get (v := .int (J (clO (vP st c (vN st c).toNat)))) X iw_X4 wL (by decide) wK rfl 2 (by decide) gw1_35 rfl (congrArg (fun z => some (Value.int (J z))) w42) dX4_cellAtMinute_11 ?_
    refine sw_goto (tgt := 27) X dX4_cellAtMinute_14 (by decide) ?_
    exact RI _ _ _ _ _ _ dX4_cellAtMinute_27 (Nat.le_of_ble_eq_true rfl) (Nat.le_of_ble_eq_true rfl) rfl ⟨rfl, ca_no hI hc (by omega) ha⟩
abbrev rm_X4_firstOfAllMinutes : Room := { frames := 4, cells := 0, slots := 0, locals := 89 }
set_option maxHeartbeats 4000000 in
set_option maxRecDepth 100000 in
theorem c_X4_firstOfAllMinutes (l : Launch) (D : va_G) (k : Nat → ClassId) (N : Int) (st : ST) (q : Int → Nat) (L : List Nat) (M : MM) (c : Int) (t f : Int) (hI : I6 N st) (hc : 0 ≤ c ∧ c < 8) (hW : cWy st q L M c) (ht : 0 ≤ t ∧ t ≤ 255) (hf : 0 ≤ f ∧ f ≤ clk st c) : CI l yX4_firstOfAllMinutes cX4_firstOfAllMinutes 5 (some .int) rm_X4_firstOfAllMinutes D k [.ref (q (10 + c)), .int (J t), .int (J f)] (pW k L M) (fun z w' => w' = pW k L M ∧ z = fF (aC st c) (clk st c) t f) := by
  refine CI.of (by decide +kernel) (Nat.le_of_ble_eq_true rfl) (fun pᵢ eᵢ sᵢ mᵢ argsᵢ belowᵢ methᵢ cᵢ Aᵢ Qᵢ X RI => ?_)
  show SW pᵢ l eᵢ rm_X4_firstOfAllMinutes sᵢ mᵢ argsᵢ belowᵢ methᵢ cᵢ 5 D Aᵢ 0 0 Qᵢ (pW k L M) 0 [(0, .ref (q (10 + c))), (1, .int (J t)), (2, .int (J f))] []
  have hW2 := hW
  obtain ⟨⟨⟨wL, wG, wK⟩, w40⟩, w41, w42, w43, w44, ⟨⟨aL, aG, aK⟩, aN⟩, hp⟩ := hW2
  have hcc : c = -1 ∨ (0 ≤ c ∧ c < 8) := by omega
  have bN := vN_b hI hcc
  have bL : vL c = 30 ∨ vL c = 60 := by unfold vL; split <;> omega
  have bP := vP_b hI hcc (n := (vN st c).toNat) (by omega)
  have bC := vC_b hI hcc (n := (vN st c).toNat) (by omega)
  have bM := vM_b2 hI hcc (n := (vN st c).toNat) (by omega)
  have e16 := clO_d bP.1
  have hk := clk_b hI hc.1 hc.2
  have hkv := clk_v (st := st) hc.1
  have hv60 : vN st c ≤ 60 := by omega
  refine sw_iconst X dX4_firstOfAllMinutes_0 ?_
  refine sw_istore_n (lv' := [(3, .int (J 0)), (0, .ref (q (10 + c))), (1, .int (J t)), (2, .int (J f))]) X dX4_firstOfAllMinutes_1 rfl (by decide) rfl ?_
  refine sw_iload_n X dX4_firstOfAllMinutes_2 rfl 3 rfl ?_
  refine sw_istore (lv' := [(4, .int (J f)), (3, .int (J 0)), (0, .ref (q (10 + c))), (1, .int (J t)), (2, .int (J f))]) X dX4_firstOfAllMinutes_3 (by decide) rfl ?_
  have lp2 : ∀ (n3 : Nat) (n : Nat) (i a : Int), clk st c + 2 - a < (n3 : Nat) → (i = (n : Int)) → ((n : Int) ≤ 100) → ((n = 0 ∨ ((n : Int) < vN st c ∧ vM st c n < a))) → (f ≤ a ∧ a ≤ clk st c + 1) → (∀ m, f ≤ m → m < a → aC st c m ≠ t) → SW pᵢ l eᵢ rm_X4_firstOfAllMinutes sᵢ mᵢ argsᵢ belowᵢ methᵢ cᵢ 5 D Aᵢ 0 0 Qᵢ (pW k L M) 5 [(0, .ref (q (10 + c))), (1, .int (J t)), (2, .int (J f)), (3, .int (J i)), (4, .int (J a))] [] := by
    intro n3
    induction n3 with
    | zero => intro n i a hm4 hi hn hq haf hno; exact absurd hm4 (by omega)
    | succ n3 ih1 =>
      intro n i a hm4 hi hn hq haf hno
      refine sw_iload X dX4_firstOfAllMinutes_5 4 rfl ?_
      refine sw_aload_n X dX4_firstOfAllMinutes_7 rfl 0 rfl ?_
      refine px_get (v := .int (J (vM st c (vN st c).toNat))) X iw_X4 wL (by decide) wK rfl 4 (by decide) gw1_38 rfl (congrArg (fun z => some (Value.int (J z))) w44) dX4_firstOfAllMinutes_8 ?_
      refine sw_icmp_gt (tgt := 42) X (by omega) (by omega) dX4_firstOfAllMinutes_11 (by decide) (fun h5 => ?_) (fun h5 => ?_)
      · refine sw_iconst X dX4_firstOfAllMinutes_42 ?_
        exact RI _ _ _ _ _ _ dX4_firstOfAllMinutes_43 (Nat.le_of_ble_eq_true rfl) (Nat.le_of_ble_eq_true rfl) rfl ⟨rfl, fF_eq hf.1 (Or.inl ⟨rfl, fun m a0 a1 => hno m a0 (by omega)⟩)⟩
      · refine sw_aload_n X dX4_firstOfAllMinutes_14 rfl 0 rfl ?_
        refine sw_iload X dX4_firstOfAllMinutes_15 4 rfl ?_
        refine sw_iload_n X dX4_firstOfAllMinutes_17 rfl 3 rfl ?_
        refine px_callVI (C := RX4) (As := [.int (J a), .int (J i)]) (rest := []) X (c_X4_pieceAtMinute l D k N st q L M c a i hI hc hW (by omega) (by rw [show i.toNat = n by omega]; exact hq) (by omega)) (cwV 2 (sw_ts X) (sw_goodV gw3_139 gw3_102 gw3_103 gw1_2 gw3_104) rfl rfl rfl (by decide +kernel) ⟨Nat.le_of_ble_eq_true rfl, Nat.le_of_ble_eq_true rfl⟩) ⟨wL, wK⟩ (by decide) rfl rfl dX4_firstOfAllMinutes_18 rfl rfl (Nat.le_of_ble_eq_true rfl) ⟨Nat.le_of_ble_eq_true rfl, Nat.le_of_ble_eq_true rfl⟩ (fun z6 w9 hp7 => ?_)
        obtain ⟨rfl, n2, hz2, hq2, hx2⟩ := hp7
        refine sw_istore_n (lv' := [(3, .int (J z6)), (0, .ref (q (10 + c))), (1, .int (J t)), (2, .int (J f)), (4, .int (J a))]) X dX4_firstOfAllMinutes_21 rfl (by decide) rfl ?_
        refine sw_aload_n X dX4_firstOfAllMinutes_22 rfl 1 rfl ?_
        refine sw_iload X dX4_firstOfAllMinutes_23 4 rfl ?_
        refine sw_iload_n X dX4_firstOfAllMinutes_25 rfl 0 rfl ?_
        refine px_callVI (C := RX4) (As := [.int (J a), .int (J z6)]) (rest := []) X (c_X4_cellAtMinute l D k N st q L M c a z6 n2 hI hc hW hz2 (by omega) (by omega) hq2 hx2) (cwV 2 (sw_ts X) (sw_goodV gw3_140 gw3_110 gw3_111 gw1_2 gw3_112) rfl rfl rfl (by decide +kernel) ⟨Nat.le_of_ble_eq_true rfl, Nat.le_of_ble_eq_true rfl⟩) ⟨wL, wK⟩ (by decide) rfl rfl dX4_firstOfAllMinutes_26 rfl rfl (Nat.le_of_ble_eq_true rfl) ⟨Nat.le_of_ble_eq_true rfl, Nat.le_of_ble_eq_true rfl⟩ (fun z8 w9 hp9 => ?_)
        obtain ⟨rfl, rfl⟩ := hp9
        have hb8 := aC_b hI hc a
        refine sw_iload_n X dX4_firstOfAllMinutes_29 rfl 2 rfl ?_
        refine sw_icmp_ne (tgt := 36) X (by omega) (by omega) dX4_firstOfAllMinutes_30 (by decide) (fun h10 => ?_) (fun h10 => ?_)
        · refine sw_iinc (lv' := [(4, .int (J (a + 1))), (3, .int (J z6)), (0, .ref (q (10 + c))), (1, .int (J t)), (2, .int (J f))]) X dX4_firstOfAllMinutes_36 4 rfl (by decide) rfl ?_
          refine sw_goto (tgt := 5) X dX4_firstOfAllMinutes_39 (by decide) ?_
          refine sw_sub [2, 3, 4, 1, 0] rfl ?_
          exact ih1 n2 z6 (a + 1) (by omega) (hz2) (by omega) (by omega) (by omega) (fun m a0 a1 => by rcases Int.lt_or_le m a with h8 | h8; exact hno m a0 h8; rw [show m = a by omega]; omega)
        · refine sw_iload X dX4_firstOfAllMinutes_33 4 rfl ?_
          exact RI _ _ _ _ _ _ dX4_firstOfAllMinutes_35 (Nat.le_of_ble_eq_true rfl) (Nat.le_of_ble_eq_true rfl) rfl ⟨rfl, fF_eq hf.1 (Or.inr ⟨haf.1, by omega, by omega, hno⟩)⟩
  refine sw_sub [2, 3, 4, 1, 0] rfl ?_
  exact lp2 (clk st c + 2 - f).toNat.succ 0 0 f (by omega) (by simp) (by omega) (Or.inl rfl) (by omega) (fun m a0 a1 => absurd a1 (by omega))
abbrev rm_X4_followedOf : Room := { frames := 2, cells := 0, slots := 0, locals := 43 }
set_option maxHeartbeats 4000000 in
set_option maxRecDepth 100000 in
theorem c_X4_followedOf (l : Launch) (D : va_G) (k : Nat → ClassId) (N : Int) (st : ST) (q : Int → Nat) (L : List Nat) (M : MM) (c : Int)  (hI : I6 N st) (hc : 0 ≤ c ∧ c < 8) (hW : cWy st q L M c) (hB : cWy st q L M (-1)) : CI l yX4_followedOf cX4_followedOf 6 (some .int) rm_X4_followedOf D k [.ref (q (10 + c)), .ref (q (10 + -1))] (pW k L M) (fun z w' => w' = pW k L M ∧ z = (folS st c (nP st c)).1) := by
  refine CI.of (by decide +kernel) (Nat.le_of_ble_eq_true rfl) (fun pᵢ eᵢ sᵢ mᵢ argsᵢ belowᵢ methᵢ cᵢ Aᵢ Qᵢ X RI => ?_)
  show SW pᵢ l eᵢ rm_X4_followedOf sᵢ mᵢ argsᵢ belowᵢ methᵢ cᵢ 6 D Aᵢ 0 0 Qᵢ (pW k L M) 0 [(0, .ref (q (10 + c))), (1, .ref (q (10 + -1)))] []
  have hW2 := hW
  obtain ⟨⟨⟨wL, wG, wK⟩, w40⟩, w41, w42, w43, w44, ⟨⟨aL, aG, aK⟩, aN⟩, hp⟩ := hW2
  have hcc : c = -1 ∨ (0 ≤ c ∧ c < 8) := by omega
  have bN := vN_b hI hcc
  have bL : vL c = 30 ∨ vL c = 60 := by unfold vL; split <;> omega
  have bP := vP_b hI hcc (n := (vN st c).toNat) (by omega)
  have bC := vC_b hI hcc (n := (vN st c).toNat) (by omega)
  have bM := vM_b2 hI hcc (n := (vN st c).toNat) (by omega)
  have e16 := clO_d bP.1
  have hB2 := hB
  obtain ⟨⟨⟨zL, zG, zK⟩, z40⟩, z41, z42, z43, z44, ⟨⟨yL, yG, yK⟩, yN⟩, hpB⟩ := hB2
  have bNB := vN_b hI (c := -1) (Or.inl rfl)
  have bLB : vL (-1) = 30 := rfl
  have hnc := nP_e hI hc.1 hc.2
  have hvc := vN_t (st := st) hc.1
  refine sw_iconst X dX4_followedOf_0 ?_
  refine sw_istore_n (lv' := [(2, .int (J 0)), (0, .ref (q (10 + c))), (1, .ref (q (10 + -1)))]) X dX4_followedOf_1 rfl (by decide) rfl ?_
  refine sw_iconst X dX4_followedOf_2 ?_
  refine sw_istore_n (lv' := [(3, .int (J 0)), (2, .int (J 0)), (0, .ref (q (10 + c))), (1, .ref (q (10 + -1)))]) X dX4_followedOf_3 rfl (by decide) rfl ?_
  have lp2 : ∀ (n3 : Nat) (n : Nat) (u i : Int), vN st c - i < (n3 : Nat) → (i = (n : Int)) → ((n : Int) ≤ vN st c) → (0 ≤ u ∧ u ≤ 30) → (u = (folS st c n).1 ∧ (folS st c n).2 = 0) → SW pᵢ l eᵢ rm_X4_followedOf sᵢ mᵢ argsᵢ belowᵢ methᵢ cᵢ 6 D Aᵢ 0 0 Qᵢ (pW k L M) 4 [(0, .ref (q (10 + c))), (1, .ref (q (10 + -1))), (2, .int (J u)), (3, .int (J i))] [] := by
    intro n3
    induction n3 with
    | zero => intro n u i hm4 hi hn hu hf; exact absurd hm4 (by omega)
    | succ n3 ih1 =>
      intro n u i hm4 hi hn hu hf
      refine sw_iload_n X dX4_followedOf_4 rfl 3 rfl ?_
      refine sw_aload_n X dX4_followedOf_5 rfl 0 rfl ?_
      refine px_get (v := .int (J (vN st c))) X iw_X4 wL (by decide) wK rfl 1 (by decide) gw1_33 rfl (congrArg (fun z => some (Value.int (J z))) w41) dX4_followedOf_6 ?_
      refine sw_icmp_ge (tgt := 68) X (by omega) (by omega) dX4_followedOf_9 (by decide) (fun h5 => ?_) (fun h5 => ?_)
      · refine sw_iload_n X dX4_followedOf_68 rfl 2 rfl ?_
        exact RI _ _ _ _ _ _ dX4_followedOf_69 (Nat.le_of_ble_eq_true rfl) (Nat.le_of_ble_eq_true rfl) rfl ⟨rfl, by rw [show nP st c = n by omega]; exact hf.1⟩
      · refine sw_aload_n X dX4_followedOf_12 rfl 0 rfl ?_
        refine sw_iload_n X dX4_followedOf_13 rfl 3 rfl ?_
        refine px_callVQ (C := RX4) (As := [.int (J i)]) (rest := []) X (c_X4_pieceAt l D k N st q L M c i hI hcc hW (by omega)) (cwV 1 (sw_ts X) (sw_goodV gw3_29 gw2_44 gw2_45 gw1_2 gw2_46) rfl rfl rfl (by decide +kernel) ⟨Nat.le_of_ble_eq_true rfl, Nat.le_of_ble_eq_true rfl⟩) ⟨wL, wK⟩ (by decide) rfl rfl dX4_followedOf_14 rfl rfl (Nat.le_of_ble_eq_true rfl) ⟨Nat.le_of_ble_eq_true rfl, Nat.le_of_ble_eq_true rfl⟩ (fun z6 w9 hp7 => ?_)
        obtain ⟨rfl, hp7⟩ := hp7
        have hr9 : z6 = some (q (160 + 60 * c + i)) := by rcases hp7 with ⟨-, -, h⟩ | ⟨h, -⟩; exact h; exact absurd ⟨by omega, by omega⟩ h
        subst hr9
        obtain ⟨⟨pL, pG, pK⟩, p30, p31, p32, p33, p34, p35⟩ := cPc_at hp (i := i) (n := n) hi (by omega)
        obtain ⟨hh9, hd9, hc9, hb9, ht9⟩ := pc_rng hI hcc (n := n) (by omega) p30 p31 p32 p33 p34 p35
        refine sw_astore (lv' := [(4, .ref (q (160 + 60 * c + i))), (0, .ref (q (10 + c))), (1, .ref (q (10 + -1))), (2, .int (J u)), (3, .int (J i))]) X dX4_followedOf_17 (by decide) rfl ?_
        refine sw_aload X dX4_followedOf_19 0 rfl ?_
        refine sw_ifnull X dX4_followedOf_21 ?_
        refine sw_aload X dX4_followedOf_24 0 rfl ?_
        refine px_getN (n := "") (d := "") (v := .int (J (vK st c n))) X iw_X3 pL (by decide) pK rfl 5 (by decide) (List.mem_of_getElem? (i := 8) rfl) rfl (congrArg (fun z => some (Value.int (J z))) p35) dX4_followedOf_26 ?_
        refine sw_if_ne (tgt := 35) X (by omega) dX4_followedOf_29 (by decide) (fun h8 => ?_) (fun h8 => ?_)
        · refine sw_aload_n X dX4_followedOf_35 rfl 2 rfl ?_
          refine sw_iload_n X dX4_followedOf_36 rfl 3 rfl ?_
          refine px_callVQ (C := RX4) (As := [.int (J u)]) (rest := []) X (c_X4_pieceAt l D k N st q L M (-1) u hI (Or.inl rfl) hB (by omega)) (cwV 1 (sw_ts X) (sw_goodV gw3_29 gw2_44 gw2_45 gw1_2 gw2_46) rfl rfl rfl (by decide +kernel) ⟨Nat.le_of_ble_eq_true rfl, Nat.le_of_ble_eq_true rfl⟩) ⟨zL, zK⟩ (by decide) rfl rfl dX4_followedOf_37 rfl rfl (Nat.le_of_ble_eq_true rfl) ⟨Nat.le_of_ble_eq_true rfl, Nat.le_of_ble_eq_true rfl⟩ (fun z9 w9 hp10 => ?_)
          obtain ⟨rfl, hp10⟩ := hp10
          rcases hp10 with ⟨g0, g1, rfl⟩ | ⟨g0, rfl⟩
          · obtain ⟨⟨bL, bG, bK⟩, b30, b31, b32, b33, b34, b35⟩ := cPc_at hpB (i := u) (n := u.toNat) (by omega) (by omega)
            obtain ⟨hh8, hd8, hc8, hb8, ht8⟩ := pc_rng hI (Or.inl rfl) (n := u.toNat) (by omega) b30 b31 b32 b33 b34 b35
            refine sw_astore (lv' := [(5, .ref (q (160 + 60 * -1 + u))), (4, .ref (q (160 + 60 * c + i))), (0, .ref (q (10 + c))), (1, .ref (q (10 + -1))), (2, .int (J u)), (3, .int (J i))]) X dX4_followedOf_40 (by decide) rfl ?_
            refine sw_aload X dX4_followedOf_42 0 rfl ?_
            refine sw_ifnull X dX4_followedOf_44 ?_
            refine sw_aload X dX4_followedOf_47 1 rfl ?_
            refine sw_aload X dX4_followedOf_49 0 rfl ?_
            refine px_callVI (C := RX3) (As := [.ref (q (160 + 60 * -1 + u))]) (rest := []) X (c_X3_isDrivenLike l D k L M (q (160 + 60 * c + i)) (q (160 + 60 * -1 + u)) ⟨pL, pK⟩ ⟨bL, bK⟩ (by omega)) (cwV 1 (sw_ts X) (sw_goodV gw3_90 gw3_91 gw3_92 gw1_9 gw3_93) rfl rfl rfl (by decide +kernel) ⟨Nat.le_of_ble_eq_true rfl, Nat.le_of_ble_eq_true rfl⟩) ⟨pL, pK⟩ (by decide) rfl rfl dX4_followedOf_51 rfl rfl (Nat.le_of_ble_eq_true rfl) ⟨Nat.le_of_ble_eq_true rfl, Nat.le_of_ble_eq_true rfl⟩ (fun z11 w9 hp12 => ?_)
            obtain ⟨rfl, hp12⟩ := hp12
            rw [p31, p34, p35, b31, b34] at hp12
            refine sw_if_ne (tgt := 59) X (by omega) dX4_followedOf_54 (by decide) (fun h13 => ?_) (fun h13 => ?_)
            · refine sw_iinc (lv' := [(2, .int (J (u + 1))), (5, .ref (q (160 + 60 * -1 + u))), (4, .ref (q (160 + 60 * c + i))), (0, .ref (q (10 + c))), (1, .ref (q (10 + -1))), (3, .int (J i))]) X dX4_followedOf_59 4 rfl (by decide) rfl ?_
              refine sw_iinc (lv' := [(3, .int (J (i + 1))), (2, .int (J (u + 1))), (5, .ref (q (160 + 60 * -1 + u))), (4, .ref (q (160 + 60 * c + i))), (0, .ref (q (10 + c))), (1, .ref (q (10 + -1)))]) X dX4_followedOf_62 5 rfl (by decide) rfl ?_
              refine sw_goto (tgt := 4) X dX4_followedOf_65 (by decide) ?_
              refine sw_sub [4, 5, 1, 0] rfl ?_
              exact ih1 (n + 1) (u + 1) (i + 1) (by omega) (by omega) (by omega) (by omega) (fw_go hI hc (by omega) (by omega) hf (by omega) (by omega))
            · refine sw_iload_n X dX4_followedOf_57 rfl 4 rfl ?_
              exact RI _ _ _ _ _ _ dX4_followedOf_58 (Nat.le_of_ble_eq_true rfl) (Nat.le_of_ble_eq_true rfl) rfl ⟨rfl, fw_no hI hc (by omega) (by omega) hf hu.1 (by omega)⟩
          · refine sw_astoreN (lv' := [(5, .null), (4, .ref (q (160 + 60 * c + i))), (0, .ref (q (10 + c))), (1, .ref (q (10 + -1))), (2, .int (J u)), (3, .int (J i))]) X dX4_followedOf_40 (by decide) rfl ?_
            refine sw_aloadN X dX4_followedOf_42 0 rfl ?_
            refine sw_ifnullN (tgt := 57) X dX4_followedOf_44 (by decide) ?_
            refine sw_iload_n X dX4_followedOf_57 rfl 4 rfl ?_
            exact RI _ _ _ _ _ _ dX4_followedOf_58 (Nat.le_of_ble_eq_true rfl) (Nat.le_of_ble_eq_true rfl) rfl ⟨rfl, fw_no hI hc (by omega) (by omega) hf hu.1 (by omega)⟩
        · refine sw_goto (tgt := 62) X dX4_followedOf_32 (by decide) ?_
          refine sw_iinc (lv' := [(3, .int (J (i + 1))), (4, .ref (q (160 + 60 * c + i))), (0, .ref (q (10 + c))), (1, .ref (q (10 + -1))), (2, .int (J u))]) X dX4_followedOf_62 4 rfl (by decide) rfl ?_
          refine sw_goto (tgt := 4) X dX4_followedOf_65 (by decide) ?_
          refine sw_sub [2, 3, 4, 0] rfl ?_
          exact ih1 (n + 1) u (i + 1) (by omega) (by omega) (by omega) (by omega) (by rw [fw_skip (by omega) hc]; exact hf)
  refine sw_sub [2, 3, 1, 0] rfl ?_
  exact lp2 (vN st c - 0).toNat.succ 0 0 0 (by omega) (by simp) (by omega) (by omega) (⟨rfl, rfl⟩)
