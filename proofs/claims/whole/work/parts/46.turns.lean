/-! the turns of the law -/
theorem rK_kSetStart (st : ST) (a : Int) : 0 ≤ kSetStart st a ∧ kSetStart st a ≤ 3 := by
  unfold kSetStart
  (repeat' split) <;> omega
theorem rK_kAddEntry (st : ST) (a b : Int) : 0 ≤ kAddEntry st a b ∧ kAddEntry st a b ≤ 3 := by
  unfold kAddEntry
  (repeat' split) <;> omega
theorem rK_kAddGate (st : ST) (a b : Int) : 0 ≤ kAddGate st a b ∧ kAddGate st a b ≤ 3 := by
  unfold kAddGate
  (repeat' split) <;> omega
theorem rK_kCut (a : Int) : 0 ≤ kCut a ∧ kCut a ≤ 3 := by
  unfold kCut
  (repeat' split) <;> omega
theorem rK_kEnter (st : ST) : 0 ≤ kEnter st ∧ kEnter st ≤ 3 := by
  unfold kEnter
  (repeat' split) <;> omega
theorem rK_kDrive (st : ST) (c a b : Int) : 0 ≤ kDrive st c a b ∧ kDrive st c a b ≤ 3 := by
  unfold kDrive
  (repeat' split) <;> omega
theorem rK_kStand (st : ST) (c a : Int) : 0 ≤ kStand st c a ∧ kStand st c a ≤ 3 := by
  unfold kStand
  (repeat' split) <;> omega
theorem rK_kBreak (st : ST) (c a : Int) : 0 ≤ kBreak st c a ∧ kBreak st c a ≤ 3 := by
  unfold kBreak
  (repeat' split) <;> omega
theorem rK_kMend (st : ST) (c : Int) : 0 ≤ kMend st c ∧ kMend st c ≤ 3 := by
  unfold kMend
  (repeat' split) <;> omega
theorem rK_kBring (st : ST) (a b : Int) : 0 ≤ kBring st a b ∧ kBring st a b ≤ 3 := by
  unfold kBring
  (repeat' split) <;> omega
theorem rK_kHand (st : ST) (a b : Int) : 0 ≤ kHand st a b ∧ kHand st a b ≤ 3 := by
  unfold kHand
  (repeat' split) <;> omega
theorem rK_kRecord (st : ST) (c g a : Int) : 0 ≤ kRecord st c g a ∧ kRecord st c g a ≤ 3 := by
  unfold kRecord
  (repeat' split) <;> omega
theorem rK_kAppeal (st : ST) (c g : Int) : 0 ≤ kAppeal st c g ∧ kAppeal st c g ≤ 3 := by
  unfold kAppeal
  (repeat' split) <;> omega
theorem rK_kGate (st : ST) (g : Int) : 0 ≤ kGate st g ∧ kGate st g ≤ 3 := by
  unfold kGate
  (repeat' split) <;> omega
theorem rK_kCar (st : ST) (c : Int) : 0 ≤ kCar st c ∧ kCar st c ≤ 3 := by
  unfold kCar
  (repeat' split) <;> omega
theorem rK_kPart (st : ST) (j : Int) : 0 ≤ kPart st j ∧ kPart st j ≤ 3 := by
  unfold kPart
  (repeat' split) <;> omega
theorem rK_kCellAt (st : ST) (c a : Int) : 0 ≤ kCellAt st c a ∧ kCellAt st c a ≤ 3 := by
  unfold kCellAt
  (repeat' split) <;> omega
theorem rK_kCG (st : ST) (c g : Int) : 0 ≤ kCG st c g ∧ kCG st c g ≤ 3 := by
  unfold kCG
  (repeat' split) <;> omega
theorem rK_kTab (st : ST) (a : Int) : 0 ≤ kTab st a ∧ kTab st a ≤ 3 := by
  unfold kTab
  (repeat' split) <;> omega
theorem rV_vBroken (st : ST) (c : Int) : vBroken st c = 0 ∨ vBroken st c = 1 := by
  unfold vBroken
  split <;> omega
theorem rV_vAppeal (st : ST) (c g : Int) : vAppeal st c g = 0 ∨ vAppeal st c g = 1 := by
  unfold vAppeal
  split <;> omega
section LC
variable {p : Program} {l : Launch} {e : Env} {s : State} {m : MethodId} {args : Array Value} {below : List Frame} {meth : Method} {c : Code} {D : va_G} {A : Nat → Prop} {cells slots : Nat} {Q : State → Prop} {k : Nat → ClassId}
set_option maxHeartbeats 4000000 in
set_option maxRecDepth 100000 in
theorem law_t_setStart (hfl : l.stackTraces = false) (X : sw_C p s m args c cL_law 7 RL WG D k A) {ad : Nat → Nat} {b o n : Nat} {xs : Nat → Int32} {i N : Int} {st : ST} {f : Nat → Int64} {q : Int → Nat} {L : List Nat} {M : MM} {tl : Int → Int} {t x y h : Int} (hSc : SC b n xs s A) (hi : 0 ≤ i ∧ i + 4 ≤ (n : Int)) (hN : 0 ≤ N ∧ N < 512) (hI : I6 N st) (hC : CW st q L M) (hcs : cells + 10 ≤ room_1.cells ∧ slots + 100 ≤ room_1.slots)
    (KK : lawK p l e s m args below meth c D A Q k ad b (q 0) o i N (cells + 10) (slots + 100)) : SW p l e room_1 s m args below meth c 7 D A cells slots Q (lawW k ad st tl t x y h o f L M) 160 (lawB b (q 0) (ad 0) o i) [] := by
  refine sw_aload_n X dL_law_160 rfl 1 rfl ?_
  refine sw_aload_n X dL_law_161 rfl 0 rfl ?_
  refine sw_iload X dL_law_162 4 rfl ?_
  refine sw_iconst X dL_law_164 ?_
  refine sw_iadd X dL_law_165 ?_
  refine sw_sld X hSc (by omega) (by omega) dL_law_166 ?_
  refine sw_aload_n X dL_law_167 rfl 3 rfl ?_
  refine sw_callHI (wr := mW k ad st tl t x y h) (As := [.ref (q 0), .int (J (sxs xs (i + 1))), .ref o]) (rest := []) X (c_L_setStart l hfl D k N st q L M o f (sxs xs (i + 1)) hI hC (sxs_rng _ _)) (vx_cwSW 3 (sw_ts X) (sw_goodH gw1_93 gw1_94 gw1_0 gw1_95) rfl rfl rfl (by decide +kernel) ⟨Nat.le_of_ble_eq_true rfl, Nat.le_of_ble_eq_true rfl⟩) dL_law_168 rfl rfl (Nat.le_of_ble_eq_true rfl) ⟨by show cells + 2 ≤ room_1.cells; omega, by show slots + 12 ≤ room_1.slots; omega⟩ (fun z w9 hp => ?_)
  refine sw_istore (lv' := (5, .int (J z)) :: lawB b (q 0) (ad 0) o i) X dL_law_171 (by decide) rfl ?_
  refine sw_swap ?_
  refine sw_aload_n X dL_law_173 rfl 3 rfl ?_
  refine sw_aload_n X dL_law_174 rfl 1 rfl ?_
  refine sw_iload X dL_law_175 5 rfl ?_
  refine sw_iconst X dL_law_177 ?_
  refine sw_iadd X dL_law_178 ?_
  refine sw_sld X hSc (by omega) (by omega) dL_law_179 ?_
  refine sw_callVI (wr := w9) (As := [.int (J (sxs xs (i + 1)))]) (rest := []) X (c_X6_setStart l D k N ad st tl t x y h (sxs xs (i + 1)) hI (sxs_rng _ _)) (cwV 1 (sw_ts X) (sw_goodV gw4_51 gw4_52 gw4_53 gw1_3 gw4_54) rfl rfl rfl (by decide +kernel) ⟨Nat.le_of_ble_eq_true rfl, Nat.le_of_ble_eq_true rfl⟩) 0 (ci := 6) rfl rfl rfl dL_law_180 rfl rfl (Nat.le_of_ble_eq_true rfl) ⟨by show cells + 2 + 0 ≤ room_1.cells; omega, by show slots + 12 + 0 ≤ room_1.slots; omega⟩ (fun z2 w8 hp2 => ?_)
  refine sw_istore (lv' := (6, .int (J z2)) :: (5, .int (J z)) :: lawB b (q 0) (ad 0) o i) X dL_law_183 (by decide) rfl ?_
  exact law_tailI X (P := 185) dL_law_185 dL_law_186 dL_law_189 dL_law_191 dL_law_196 dL_law_198 dL_law_201 dL_law_202 dL_law_203 dL_law_204 dL_law_206 dL_law_207 dL_law_208 dL_law_213 (by decide) hI hC (rK_kSetStart _ _) (fun hK => iS_setStart hI hK) rfl hp hp2 ⟨by show cells + 2 + 0 ≤ room_1.cells; omega, by show slots + 12 + 0 ≤ room_1.slots; omega⟩ (by show cells + 2 + 0 ≤ cells + 10; omega) (by show slots + 12 + 0 ≤ slots + 100; omega) KK
set_option maxHeartbeats 4000000 in
set_option maxRecDepth 100000 in
theorem law_t_addEntry (hfl : l.stackTraces = false) (X : sw_C p s m args c cL_law 7 RL WG D k A) {ad : Nat → Nat} {b o n : Nat} {xs : Nat → Int32} {i N : Int} {st : ST} {f : Nat → Int64} {q : Int → Nat} {L : List Nat} {M : MM} {tl : Int → Int} {t x y h : Int} (hSc : SC b n xs s A) (hi : 0 ≤ i ∧ i + 4 ≤ (n : Int)) (hN : 0 ≤ N ∧ N < 512) (hI : I6 N st) (hC : CW st q L M) (hcs : cells + 10 ≤ room_1.cells ∧ slots + 100 ≤ room_1.slots)
    (KK : lawK p l e s m args below meth c D A Q k ad b (q 0) o i N (cells + 10) (slots + 100)) : SW p l e room_1 s m args below meth c 7 D A cells slots Q (lawW k ad st tl t x y h o f L M) 216 (lawB b (q 0) (ad 0) o i) [] := by
  refine sw_aload_n X dL_law_216 rfl 1 rfl ?_
  refine sw_aload_n X dL_law_217 rfl 0 rfl ?_
  refine sw_iload X dL_law_218 4 rfl ?_
  refine sw_iconst X dL_law_220 ?_
  refine sw_iadd X dL_law_221 ?_
  refine sw_sld X hSc (by omega) (by omega) dL_law_222 ?_
  refine sw_aload_n X dL_law_223 rfl 0 rfl ?_
  refine sw_iload X dL_law_224 4 rfl ?_
  refine sw_iconst X dL_law_226 ?_
  refine sw_iadd X dL_law_227 ?_
  refine sw_sld X hSc (by omega) (by omega) dL_law_228 ?_
  refine sw_aload_n X dL_law_229 rfl 3 rfl ?_
  refine sw_callHI (wr := mW k ad st tl t x y h) (As := [.ref (q 0), .int (J (sxs xs (i + 1))), .int (J (sxs xs (i + 2))), .ref o]) (rest := []) X (c_L_addEntry l hfl D k N st q L M o f (sxs xs (i + 1)) (sxs xs (i + 2)) hI hC (sxs_rng _ _) (sxs_rng _ _)) (vx_cwSW 4 (sw_ts X) (sw_goodH gw1_200 gw1_201 gw1_0 gw1_202) rfl rfl rfl (by decide +kernel) ⟨Nat.le_of_ble_eq_true rfl, Nat.le_of_ble_eq_true rfl⟩) dL_law_230 rfl rfl (Nat.le_of_ble_eq_true rfl) ⟨by show cells + 3 ≤ room_1.cells; omega, by show slots + 18 ≤ room_1.slots; omega⟩ (fun z w9 hp => ?_)
  refine sw_istore (lv' := (5, .int (J z)) :: lawB b (q 0) (ad 0) o i) X dL_law_233 (by decide) rfl ?_
  refine sw_swap ?_
  refine sw_aload_n X dL_law_235 rfl 3 rfl ?_
  refine sw_aload_n X dL_law_236 rfl 1 rfl ?_
  refine sw_iload X dL_law_237 5 rfl ?_
  refine sw_iconst X dL_law_239 ?_
  refine sw_iadd X dL_law_240 ?_
  refine sw_sld X hSc (by omega) (by omega) dL_law_241 ?_
  refine sw_aload_n X dL_law_242 rfl 1 rfl ?_
  refine sw_iload X dL_law_243 5 rfl ?_
  refine sw_iconst X dL_law_245 ?_
  refine sw_iadd X dL_law_246 ?_
  refine sw_sld X hSc (by omega) (by omega) dL_law_247 ?_
  refine sw_callVI (wr := w9) (As := [.int (J (sxs xs (i + 1))), .int (J (sxs xs (i + 2)))]) (rest := []) X (c_X6_addEntry l D k N ad st tl t x y h (sxs xs (i + 1)) (sxs xs (i + 2)) hI (sxs_rng _ _) (sxs_rng _ _)) (cwV 2 (sw_ts X) (sw_goodV gw4_62 gw4_63 gw4_64 gw1_3 gw4_65) rfl rfl rfl (by decide +kernel) ⟨Nat.le_of_ble_eq_true rfl, Nat.le_of_ble_eq_true rfl⟩) 0 (ci := 6) rfl rfl rfl dL_law_248 rfl rfl (Nat.le_of_ble_eq_true rfl) ⟨by show cells + 3 + 0 ≤ room_1.cells; omega, by show slots + 18 + 0 ≤ room_1.slots; omega⟩ (fun z2 w8 hp2 => ?_)
  refine sw_istore (lv' := (6, .int (J z2)) :: (5, .int (J z)) :: lawB b (q 0) (ad 0) o i) X dL_law_251 (by decide) rfl ?_
  exact law_tailI X (P := 253) dL_law_253 dL_law_254 dL_law_257 dL_law_259 dL_law_264 dL_law_266 dL_law_269 dL_law_270 dL_law_271 dL_law_272 dL_law_274 dL_law_275 dL_law_276 dL_law_281 (by decide) hI hC (rK_kAddEntry _ _ _) (fun hK => iS_addEntry hI hK) rfl hp hp2 ⟨by show cells + 3 + 0 ≤ room_1.cells; omega, by show slots + 18 + 0 ≤ room_1.slots; omega⟩ (by show cells + 3 + 0 ≤ cells + 10; omega) (by show slots + 18 + 0 ≤ slots + 100; omega) KK
set_option maxHeartbeats 4000000 in
set_option maxRecDepth 100000 in
theorem law_t_addGate (hfl : l.stackTraces = false) (X : sw_C p s m args c cL_law 7 RL WG D k A) {ad : Nat → Nat} {b o n : Nat} {xs : Nat → Int32} {i N : Int} {st : ST} {f : Nat → Int64} {q : Int → Nat} {L : List Nat} {M : MM} {tl : Int → Int} {t x y h : Int} (hSc : SC b n xs s A) (hi : 0 ≤ i ∧ i + 4 ≤ (n : Int)) (hN : 0 ≤ N ∧ N < 512) (hI : I6 N st) (hC : CW st q L M) (hcs : cells + 10 ≤ room_1.cells ∧ slots + 100 ≤ room_1.slots)
    (KK : lawK p l e s m args below meth c D A Q k ad b (q 0) o i N (cells + 10) (slots + 100)) : SW p l e room_1 s m args below meth c 7 D A cells slots Q (lawW k ad st tl t x y h o f L M) 284 (lawB b (q 0) (ad 0) o i) [] := by
  refine sw_aload_n X dL_law_284 rfl 1 rfl ?_
  refine sw_aload_n X dL_law_285 rfl 0 rfl ?_
  refine sw_iload X dL_law_286 4 rfl ?_
  refine sw_iconst X dL_law_288 ?_
  refine sw_iadd X dL_law_289 ?_
  refine sw_sld X hSc (by omega) (by omega) dL_law_290 ?_
  refine sw_aload_n X dL_law_291 rfl 0 rfl ?_
  refine sw_iload X dL_law_292 4 rfl ?_
  refine sw_iconst X dL_law_294 ?_
  refine sw_iadd X dL_law_295 ?_
  refine sw_sld X hSc (by omega) (by omega) dL_law_296 ?_
  refine sw_aload_n X dL_law_297 rfl 3 rfl ?_
  refine sw_callHI (wr := mW k ad st tl t x y h) (As := [.ref (q 0), .int (J (sxs xs (i + 1))), .int (J (sxs xs (i + 2))), .ref o]) (rest := []) X (c_L_addGate l hfl D k N st q L M o f (sxs xs (i + 1)) (sxs xs (i + 2)) hI hC (sxs_rng _ _) (sxs_rng _ _)) (vx_cwSW 4 (sw_ts X) (sw_goodH gw2_31 gw2_32 gw1_0 gw2_33) rfl rfl rfl (by decide +kernel) ⟨Nat.le_of_ble_eq_true rfl, Nat.le_of_ble_eq_true rfl⟩) dL_law_298 rfl rfl (Nat.le_of_ble_eq_true rfl) ⟨by show cells + 4 ≤ room_1.cells; omega, by show slots + 21 ≤ room_1.slots; omega⟩ (fun z w9 hp => ?_)
  refine sw_istore (lv' := (5, .int (J z)) :: lawB b (q 0) (ad 0) o i) X dL_law_301 (by decide) rfl ?_
  refine sw_swap ?_
  refine sw_aload_n X dL_law_303 rfl 3 rfl ?_
  refine sw_aload_n X dL_law_304 rfl 1 rfl ?_
  refine sw_iload X dL_law_305 5 rfl ?_
  refine sw_iconst X dL_law_307 ?_
  refine sw_iadd X dL_law_308 ?_
  refine sw_sld X hSc (by omega) (by omega) dL_law_309 ?_
  refine sw_aload_n X dL_law_310 rfl 1 rfl ?_
  refine sw_iload X dL_law_311 5 rfl ?_
  refine sw_iconst X dL_law_313 ?_
  refine sw_iadd X dL_law_314 ?_
  refine sw_sld X hSc (by omega) (by omega) dL_law_315 ?_
  refine sw_callVI (wr := w9) (As := [.int (J (sxs xs (i + 1))), .int (J (sxs xs (i + 2)))]) (rest := []) X (c_X6_addGate l D k N ad st tl t x y h (sxs xs (i + 1)) (sxs xs (i + 2)) hI (sxs_rng _ _) (sxs_rng _ _)) (cwV 2 (sw_ts X) (sw_goodV gw4_86 gw4_87 gw4_88 gw1_3 gw4_89) rfl rfl rfl (by decide +kernel) ⟨Nat.le_of_ble_eq_true rfl, Nat.le_of_ble_eq_true rfl⟩) 0 (ci := 6) rfl rfl rfl dL_law_316 rfl rfl (Nat.le_of_ble_eq_true rfl) ⟨by show cells + 4 + 0 ≤ room_1.cells; omega, by show slots + 21 + 0 ≤ room_1.slots; omega⟩ (fun z2 w8 hp2 => ?_)
  refine sw_istore (lv' := (6, .int (J z2)) :: (5, .int (J z)) :: lawB b (q 0) (ad 0) o i) X dL_law_319 (by decide) rfl ?_
  exact law_tailI X (P := 321) dL_law_321 dL_law_322 dL_law_325 dL_law_327 dL_law_332 dL_law_334 dL_law_337 dL_law_338 dL_law_339 dL_law_340 dL_law_342 dL_law_343 dL_law_344 dL_law_349 (by decide) hI hC (rK_kAddGate _ _ _) (fun hK => iS_addGate hI hK) rfl hp hp2 ⟨by show cells + 4 + 0 ≤ room_1.cells; omega, by show slots + 21 + 0 ≤ room_1.slots; omega⟩ (by show cells + 4 + 0 ≤ cells + 10; omega) (by show slots + 21 + 0 ≤ slots + 100; omega) KK
set_option maxHeartbeats 4000000 in
set_option maxRecDepth 100000 in
theorem law_t_cut (hfl : l.stackTraces = false) (X : sw_C p s m args c cL_law 7 RL WG D k A) {ad : Nat → Nat} {b o n : Nat} {xs : Nat → Int32} {i N : Int} {st : ST} {f : Nat → Int64} {q : Int → Nat} {L : List Nat} {M : MM} {tl : Int → Int} {t x y h : Int} (hSc : SC b n xs s A) (hi : 0 ≤ i ∧ i + 4 ≤ (n : Int)) (hN : 0 ≤ N ∧ N < 512) (hI : I6 N st) (hC : CW st q L M) (hcs : cells + 10 ≤ room_1.cells ∧ slots + 100 ≤ room_1.slots)
    (KK : lawK p l e s m args below meth c D A Q k ad b (q 0) o i N (cells + 10) (slots + 100)) : SW p l e room_1 s m args below meth c 7 D A cells slots Q (lawW k ad st tl t x y h o f L M) 352 (lawB b (q 0) (ad 0) o i) [] := by
  refine sw_aload_n X dL_law_352 rfl 1 rfl ?_
  refine sw_aload_n X dL_law_353 rfl 0 rfl ?_
  refine sw_iload X dL_law_354 4 rfl ?_
  refine sw_iconst X dL_law_356 ?_
  refine sw_iadd X dL_law_357 ?_
  refine sw_sld X hSc (by omega) (by omega) dL_law_358 ?_
  refine sw_aload_n X dL_law_359 rfl 3 rfl ?_
  refine sw_callHI (wr := mW k ad st tl t x y h) (As := [.ref (q 0), .int (J (sxs xs (i + 1))), .ref o]) (rest := []) X (c_L_cut l hfl D k N st q L M o f (sxs xs (i + 1)) hI hC (sxs_rng _ _)) (vx_cwSW 3 (sw_ts X) (sw_goodH gw2_92 gw2_93 gw1_0 gw2_94) rfl rfl rfl (by decide +kernel) ⟨Nat.le_of_ble_eq_true rfl, Nat.le_of_ble_eq_true rfl⟩) dL_law_360 rfl rfl (Nat.le_of_ble_eq_true rfl) ⟨by show cells + 1 ≤ room_1.cells; omega, by show slots + 6 ≤ room_1.slots; omega⟩ (fun z w9 hp => ?_)
  refine sw_istore (lv' := (5, .int (J z)) :: lawB b (q 0) (ad 0) o i) X dL_law_363 (by decide) rfl ?_
  refine sw_swap ?_
  refine sw_aload_n X dL_law_365 rfl 3 rfl ?_
  refine sw_aload_n X dL_law_366 rfl 1 rfl ?_
  refine sw_iload X dL_law_367 5 rfl ?_
  refine sw_iconst X dL_law_369 ?_
  refine sw_iadd X dL_law_370 ?_
  refine sw_sld X hSc (by omega) (by omega) dL_law_371 ?_
  refine sw_callVI (wr := w9) (As := [.int (J (sxs xs (i + 1)))]) (rest := []) X (c_X6_cut l D k N ad st tl t x y h (sxs xs (i + 1)) hI (sxs_rng _ _)) (cwV 1 (sw_ts X) (sw_goodV gw4_90 gw4_91 gw4_92 gw1_3 gw4_93) rfl rfl rfl (by decide +kernel) ⟨Nat.le_of_ble_eq_true rfl, Nat.le_of_ble_eq_true rfl⟩) 0 (ci := 6) rfl rfl rfl dL_law_372 rfl rfl (Nat.le_of_ble_eq_true rfl) ⟨by show cells + 1 + 0 ≤ room_1.cells; omega, by show slots + 6 + 0 ≤ room_1.slots; omega⟩ (fun z2 w8 hp2 => ?_)
  refine sw_istore (lv' := (6, .int (J z2)) :: (5, .int (J z)) :: lawB b (q 0) (ad 0) o i) X dL_law_375 (by decide) rfl ?_
  exact law_tailI X (P := 377) dL_law_377 dL_law_378 dL_law_381 dL_law_383 dL_law_388 dL_law_390 dL_law_393 dL_law_394 dL_law_395 dL_law_396 dL_law_398 dL_law_399 dL_law_400 dL_law_405 (by decide) hI hC (rK_kCut _) (fun hK => iS_cut hI hK) rfl hp hp2 ⟨by show cells + 1 + 0 ≤ room_1.cells; omega, by show slots + 6 + 0 ≤ room_1.slots; omega⟩ (by show cells + 1 + 0 ≤ cells + 10; omega) (by show slots + 6 + 0 ≤ slots + 100; omega) KK
set_option maxHeartbeats 4000000 in
set_option maxRecDepth 100000 in
theorem law_t_enter (hfl : l.stackTraces = false) (X : sw_C p s m args c cL_law 7 RL WG D k A) {ad : Nat → Nat} {b o n : Nat} {xs : Nat → Int32} {i N : Int} {st : ST} {f : Nat → Int64} {q : Int → Nat} {L : List Nat} {M : MM} {tl : Int → Int} {t x y h : Int} (hSc : SC b n xs s A) (hi : 0 ≤ i ∧ i + 4 ≤ (n : Int)) (hN : 0 ≤ N ∧ N < 512) (hI : I6 N st) (hC : CW st q L M) (hcs : cells + 10 ≤ room_1.cells ∧ slots + 100 ≤ room_1.slots)
    (KK : lawK p l e s m args below meth c D A Q k ad b (q 0) o i N (cells + 10) (slots + 100)) : SW p l e room_1 s m args below meth c 7 D A cells slots Q (lawW k ad st tl t x y h o f L M) 408 (lawB b (q 0) (ad 0) o i) [] := by
  refine sw_aload_n X dL_law_408 rfl 1 rfl ?_
  refine sw_aload_n X dL_law_409 rfl 3 rfl ?_
  refine sw_callHI (wr := mW k ad st tl t x y h) (As := [.ref (q 0), .ref o]) (rest := []) X (c_L_enter l hfl D k N st q L M o f hI hC) (vx_cwSW 2 (sw_ts X) (sw_goodH gw2_99 gw2_100 gw1_0 gw2_101) rfl rfl rfl (by decide +kernel) ⟨Nat.le_of_ble_eq_true rfl, Nat.le_of_ble_eq_true rfl⟩) dL_law_410 rfl rfl (Nat.le_of_ble_eq_true rfl) ⟨by show cells + 5 ≤ room_1.cells; omega, by show slots + 85 ≤ room_1.slots; omega⟩ (fun z w9 hp => ?_)
  refine sw_istore (lv' := (5, .int (J z)) :: lawB b (q 0) (ad 0) o i) X dL_law_413 (by decide) rfl ?_
  refine sw_swap ?_
  refine sw_aload_n X dL_law_415 rfl 3 rfl ?_
  refine sw_callVI (wr := w9) (As := []) (rest := []) X (c_X6_enter l D k N ad st tl t x y h hI) (cwV 0 (sw_ts X) (sw_goodV gw4_94 gw4_95 gw4_96 gw1_3 gw4_97) rfl rfl rfl (by decide +kernel) ⟨Nat.le_of_ble_eq_true rfl, Nat.le_of_ble_eq_true rfl⟩) 0 (ci := 6) rfl rfl rfl dL_law_416 rfl rfl (Nat.le_of_ble_eq_true rfl) ⟨by show cells + 5 + 0 ≤ room_1.cells; omega, by show slots + 85 + 0 ≤ room_1.slots; omega⟩ (fun z2 w8 hp2 => ?_)
  refine sw_istore (lv' := (6, .int (J z2)) :: (5, .int (J z)) :: lawB b (q 0) (ad 0) o i) X dL_law_419 (by decide) rfl ?_
  exact law_tailI X (P := 421) dL_law_421 dL_law_422 dL_law_425 dL_law_427 dL_law_432 dL_law_434 dL_law_437 dL_law_438 dL_law_439 dL_law_440 dL_law_442 dL_law_443 dL_law_444 dL_law_449 (by decide) hI hC (rK_kEnter _) (fun hK => iS_enter hI hK) rfl hp hp2 ⟨by show cells + 5 + 0 ≤ room_1.cells; omega, by show slots + 85 + 0 ≤ room_1.slots; omega⟩ (by show cells + 5 + 0 ≤ cells + 10; omega) (by show slots + 85 + 0 ≤ slots + 100; omega) KK
set_option maxHeartbeats 4000000 in
set_option maxRecDepth 100000 in
theorem law_t_drive (hfl : l.stackTraces = false) (X : sw_C p s m args c cL_law 7 RL WG D k A) {ad : Nat → Nat} {b o n : Nat} {xs : Nat → Int32} {i N : Int} {st : ST} {f : Nat → Int64} {q : Int → Nat} {L : List Nat} {M : MM} {tl : Int → Int} {t x y h : Int} (hSc : SC b n xs s A) (hi : 0 ≤ i ∧ i + 4 ≤ (n : Int)) (hN : 0 ≤ N ∧ N < 512) (hI : I6 N st) (hC : CW st q L M) (hcs : cells + 10 ≤ room_1.cells ∧ slots + 100 ≤ room_1.slots)
    (KK : lawK p l e s m args below meth c D A Q k ad b (q 0) o i N (cells + 10) (slots + 100)) : SW p l e room_1 s m args below meth c 7 D A cells slots Q (lawW k ad st tl t x y h o f L M) 452 (lawB b (q 0) (ad 0) o i) [] := by
  refine sw_aload_n X dL_law_452 rfl 1 rfl ?_
  refine sw_aload_n X dL_law_453 rfl 0 rfl ?_
  refine sw_iload X dL_law_454 4 rfl ?_
  refine sw_iconst X dL_law_456 ?_
  refine sw_iadd X dL_law_457 ?_
  refine sw_sld X hSc (by omega) (by omega) dL_law_458 ?_
  refine sw_aload_n X dL_law_459 rfl 0 rfl ?_
  refine sw_iload X dL_law_460 4 rfl ?_
  refine sw_iconst X dL_law_462 ?_
  refine sw_iadd X dL_law_463 ?_
  refine sw_sld X hSc (by omega) (by omega) dL_law_464 ?_
  refine sw_aload_n X dL_law_465 rfl 0 rfl ?_
  refine sw_iload X dL_law_466 4 rfl ?_
  refine sw_iconst X dL_law_468 ?_
  refine sw_iadd X dL_law_469 ?_
  refine sw_sld X hSc (by omega) (by omega) dL_law_470 ?_
  refine sw_aload_n X dL_law_471 rfl 3 rfl ?_
  refine sw_callHI (wr := mW k ad st tl t x y h) (As := [.ref (q 0), .int (J (sxs xs (i + 1))), .int (J (sxs xs (i + 2))), .int (J (sxs xs (i + 3))), .ref o]) (rest := []) X (c_L_drive l hfl D k N st q L M o f (sxs xs (i + 1)) (sxs xs (i + 2)) (sxs xs (i + 3)) hI hC (sxs_rng _ _) (sxs_rng _ _) (sxs_rng _ _)) (vx_cwSW 5 (sw_ts X) (sw_goodH gw2_129 gw2_130 gw1_0 gw2_131) rfl rfl rfl (by decide +kernel) ⟨Nat.le_of_ble_eq_true rfl, Nat.le_of_ble_eq_true rfl⟩) dL_law_472 rfl rfl (Nat.le_of_ble_eq_true rfl) ⟨by show cells + 4 ≤ room_1.cells; omega, by show slots + 24 ≤ room_1.slots; omega⟩ (fun z w9 hp => ?_)
  refine sw_istore (lv' := (5, .int (J z)) :: lawB b (q 0) (ad 0) o i) X dL_law_475 (by decide) rfl ?_
  refine sw_swap ?_
  refine sw_aload_n X dL_law_477 rfl 3 rfl ?_
  refine sw_aload_n X dL_law_478 rfl 1 rfl ?_
  refine sw_iload X dL_law_479 5 rfl ?_
  refine sw_iconst X dL_law_481 ?_
  refine sw_iadd X dL_law_482 ?_
  refine sw_sld X hSc (by omega) (by omega) dL_law_483 ?_
  refine sw_aload_n X dL_law_484 rfl 1 rfl ?_
  refine sw_iload X dL_law_485 5 rfl ?_
  refine sw_iconst X dL_law_487 ?_
  refine sw_iadd X dL_law_488 ?_
  refine sw_sld X hSc (by omega) (by omega) dL_law_489 ?_
  refine sw_aload_n X dL_law_490 rfl 1 rfl ?_
  refine sw_iload X dL_law_491 5 rfl ?_
  refine sw_iconst X dL_law_493 ?_
  refine sw_iadd X dL_law_494 ?_
  refine sw_sld X hSc (by omega) (by omega) dL_law_495 ?_
  refine sw_callVI (wr := w9) (As := [.int (J (sxs xs (i + 1))), .int (J (sxs xs (i + 2))), .int (J (sxs xs (i + 3)))]) (rest := []) X (c_X6_drive l D k N ad st tl t x y h (sxs xs (i + 1)) (sxs xs (i + 2)) (sxs xs (i + 3)) hI (sxs_rng _ _) (sxs_rng _ _) (sxs_rng _ _)) (cwV 3 (sw_ts X) (sw_goodV gw4_98 gw4_99 gw4_100 gw1_3 gw4_101) rfl rfl rfl (by decide +kernel) ⟨Nat.le_of_ble_eq_true rfl, Nat.le_of_ble_eq_true rfl⟩) 0 (ci := 6) rfl rfl rfl dL_law_496 rfl rfl (Nat.le_of_ble_eq_true rfl) ⟨by show cells + 4 + 0 ≤ room_1.cells; omega, by show slots + 24 + 0 ≤ room_1.slots; omega⟩ (fun z2 w8 hp2 => ?_)
  refine sw_istore (lv' := (6, .int (J z2)) :: (5, .int (J z)) :: lawB b (q 0) (ad 0) o i) X dL_law_499 (by decide) rfl ?_
  exact law_tailI X (P := 501) dL_law_501 dL_law_502 dL_law_505 dL_law_507 dL_law_512 dL_law_514 dL_law_517 dL_law_518 dL_law_519 dL_law_520 dL_law_522 dL_law_523 dL_law_524 dL_law_529 (by decide) hI hC (rK_kDrive _ _ _ _) (fun hK => iS_drive hI hK) rfl hp hp2 ⟨by show cells + 4 + 0 ≤ room_1.cells; omega, by show slots + 24 + 0 ≤ room_1.slots; omega⟩ (by show cells + 4 + 0 ≤ cells + 10; omega) (by show slots + 24 + 0 ≤ slots + 100; omega) KK
set_option maxHeartbeats 4000000 in
set_option maxRecDepth 100000 in
theorem law_t_stand (hfl : l.stackTraces = false) (X : sw_C p s m args c cL_law 7 RL WG D k A) {ad : Nat → Nat} {b o n : Nat} {xs : Nat → Int32} {i N : Int} {st : ST} {f : Nat → Int64} {q : Int → Nat} {L : List Nat} {M : MM} {tl : Int → Int} {t x y h : Int} (hSc : SC b n xs s A) (hi : 0 ≤ i ∧ i + 4 ≤ (n : Int)) (hN : 0 ≤ N ∧ N < 512) (hI : I6 N st) (hC : CW st q L M) (hcs : cells + 10 ≤ room_1.cells ∧ slots + 100 ≤ room_1.slots)
    (KK : lawK p l e s m args below meth c D A Q k ad b (q 0) o i N (cells + 10) (slots + 100)) : SW p l e room_1 s m args below meth c 7 D A cells slots Q (lawW k ad st tl t x y h o f L M) 532 (lawB b (q 0) (ad 0) o i) [] := by
  refine sw_aload_n X dL_law_532 rfl 1 rfl ?_
  refine sw_aload_n X dL_law_533 rfl 0 rfl ?_
  refine sw_iload X dL_law_534 4 rfl ?_
  refine sw_iconst X dL_law_536 ?_
  refine sw_iadd X dL_law_537 ?_
  refine sw_sld X hSc (by omega) (by omega) dL_law_538 ?_
  refine sw_aload_n X dL_law_539 rfl 0 rfl ?_
  refine sw_iload X dL_law_540 4 rfl ?_
  refine sw_iconst X dL_law_542 ?_
  refine sw_iadd X dL_law_543 ?_
  refine sw_sld X hSc (by omega) (by omega) dL_law_544 ?_
  refine sw_aload_n X dL_law_545 rfl 3 rfl ?_
  refine sw_callHI (wr := mW k ad st tl t x y h) (As := [.ref (q 0), .int (J (sxs xs (i + 1))), .int (J (sxs xs (i + 2))), .ref o]) (rest := []) X (c_L_stand l hfl D k N st q L M o f (sxs xs (i + 1)) (sxs xs (i + 2)) hI hC (sxs_rng _ _) (sxs_rng _ _)) (vx_cwSW 4 (sw_ts X) (sw_goodH gw2_149 gw2_150 gw1_0 gw2_151) rfl rfl rfl (by decide +kernel) ⟨Nat.le_of_ble_eq_true rfl, Nat.le_of_ble_eq_true rfl⟩) dL_law_546 rfl rfl (Nat.le_of_ble_eq_true rfl) ⟨by show cells + 4 ≤ room_1.cells; omega, by show slots + 24 ≤ room_1.slots; omega⟩ (fun z w9 hp => ?_)
  refine sw_istore (lv' := (5, .int (J z)) :: lawB b (q 0) (ad 0) o i) X dL_law_549 (by decide) rfl ?_
  refine sw_swap ?_
  refine sw_aload_n X dL_law_551 rfl 3 rfl ?_
  refine sw_aload_n X dL_law_552 rfl 1 rfl ?_
  refine sw_iload X dL_law_553 5 rfl ?_
  refine sw_iconst X dL_law_555 ?_
  refine sw_iadd X dL_law_556 ?_
  refine sw_sld X hSc (by omega) (by omega) dL_law_557 ?_
  refine sw_aload_n X dL_law_558 rfl 1 rfl ?_
  refine sw_iload X dL_law_559 5 rfl ?_
  refine sw_iconst X dL_law_561 ?_
  refine sw_iadd X dL_law_562 ?_
  refine sw_sld X hSc (by omega) (by omega) dL_law_563 ?_
  refine sw_callVI (wr := w9) (As := [.int (J (sxs xs (i + 1))), .int (J (sxs xs (i + 2)))]) (rest := []) X (c_X6_stand l D k N ad st tl t x y h (sxs xs (i + 1)) (sxs xs (i + 2)) hI (sxs_rng _ _) (sxs_rng _ _)) (cwV 2 (sw_ts X) (sw_goodV gw4_118 gw4_119 gw4_120 gw1_3 gw4_121) rfl rfl rfl (by decide +kernel) ⟨Nat.le_of_ble_eq_true rfl, Nat.le_of_ble_eq_true rfl⟩) 0 (ci := 6) rfl rfl rfl dL_law_564 rfl rfl (Nat.le_of_ble_eq_true rfl) ⟨by show cells + 4 + 0 ≤ room_1.cells; omega, by show slots + 24 + 0 ≤ room_1.slots; omega⟩ (fun z2 w8 hp2 => ?_)
  refine sw_istore (lv' := (6, .int (J z2)) :: (5, .int (J z)) :: lawB b (q 0) (ad 0) o i) X dL_law_567 (by decide) rfl ?_
  exact law_tailI X (P := 569) dL_law_569 dL_law_570 dL_law_573 dL_law_575 dL_law_580 dL_law_582 dL_law_585 dL_law_586 dL_law_587 dL_law_588 dL_law_590 dL_law_591 dL_law_592 dL_law_597 (by decide) hI hC (rK_kStand _ _ _) (fun hK => iS_stand hI hK) rfl hp hp2 ⟨by show cells + 4 + 0 ≤ room_1.cells; omega, by show slots + 24 + 0 ≤ room_1.slots; omega⟩ (by show cells + 4 + 0 ≤ cells + 10; omega) (by show slots + 24 + 0 ≤ slots + 100; omega) KK
set_option maxHeartbeats 4000000 in
set_option maxRecDepth 100000 in
theorem law_t_breakDown (hfl : l.stackTraces = false) (X : sw_C p s m args c cL_law 7 RL WG D k A) {ad : Nat → Nat} {b o n : Nat} {xs : Nat → Int32} {i N : Int} {st : ST} {f : Nat → Int64} {q : Int → Nat} {L : List Nat} {M : MM} {tl : Int → Int} {t x y h : Int} (hSc : SC b n xs s A) (hi : 0 ≤ i ∧ i + 4 ≤ (n : Int)) (hN : 0 ≤ N ∧ N < 512) (hI : I6 N st) (hC : CW st q L M) (hcs : cells + 10 ≤ room_1.cells ∧ slots + 100 ≤ room_1.slots)
    (KK : lawK p l e s m args below meth c D A Q k ad b (q 0) o i N (cells + 10) (slots + 100)) : SW p l e room_1 s m args below meth c 7 D A cells slots Q (lawW k ad st tl t x y h o f L M) 600 (lawB b (q 0) (ad 0) o i) [] := by
  refine sw_aload_n X dL_law_600 rfl 1 rfl ?_
  refine sw_aload_n X dL_law_601 rfl 0 rfl ?_
  refine sw_iload X dL_law_602 4 rfl ?_
  refine sw_iconst X dL_law_604 ?_
  refine sw_iadd X dL_law_605 ?_
  refine sw_sld X hSc (by omega) (by omega) dL_law_606 ?_
  refine sw_aload_n X dL_law_607 rfl 0 rfl ?_
  refine sw_iload X dL_law_608 4 rfl ?_
  refine sw_iconst X dL_law_610 ?_
  refine sw_iadd X dL_law_611 ?_
  refine sw_sld X hSc (by omega) (by omega) dL_law_612 ?_
  refine sw_callHI (wr := mW k ad st tl t x y h) (As := [.ref (q 0), .int (J (sxs xs (i + 1))), .int (J (sxs xs (i + 2)))]) (rest := []) X (c_L_breakDown l hfl D k N st q L M o f (sxs xs (i + 1)) (sxs xs (i + 2)) hI hC (sxs_rng _ _) (sxs_rng _ _)) (vx_cwSW 3 (sw_ts X) (sw_goodH gw2_160 gw2_161 gw1_0 gw2_162) rfl rfl rfl (by decide +kernel) ⟨Nat.le_of_ble_eq_true rfl, Nat.le_of_ble_eq_true rfl⟩) dL_law_613 rfl rfl (Nat.le_of_ble_eq_true rfl) ⟨by show cells + 3 ≤ room_1.cells; omega, by show slots + 18 ≤ room_1.slots; omega⟩ (fun z w9 hp => ?_)
  refine sw_istore (lv' := (5, .int (J z)) :: lawB b (q 0) (ad 0) o i) X dL_law_616 (by decide) rfl ?_
  refine sw_swap ?_
  refine sw_aload_n X dL_law_618 rfl 3 rfl ?_
  refine sw_aload_n X dL_law_619 rfl 1 rfl ?_
  refine sw_iload X dL_law_620 5 rfl ?_
  refine sw_iconst X dL_law_622 ?_
  refine sw_iadd X dL_law_623 ?_
  refine sw_sld X hSc (by omega) (by omega) dL_law_624 ?_
  refine sw_aload_n X dL_law_625 rfl 1 rfl ?_
  refine sw_iload X dL_law_626 5 rfl ?_
  refine sw_iconst X dL_law_628 ?_
  refine sw_iadd X dL_law_629 ?_
  refine sw_sld X hSc (by omega) (by omega) dL_law_630 ?_
  refine sw_callVV (wr := w9) (As := [.int (J (sxs xs (i + 1))), .int (J (sxs xs (i + 2)))]) (rest := []) X (c_X6_breakDown l D k N ad st tl t x y h (sxs xs (i + 1)) (sxs xs (i + 2)) hI (sxs_rng _ _) (sxs_rng _ _)) (cwV 2 (sw_ts X) (sw_goodV gw4_122 gw4_123 gw4_124 gw1_3 gw4_125) rfl rfl rfl (by decide +kernel) ⟨Nat.le_of_ble_eq_true rfl, Nat.le_of_ble_eq_true rfl⟩) 0 (ci := 6) rfl rfl rfl dL_law_631 rfl rfl (Nat.le_of_ble_eq_true rfl) ⟨by show cells + 3 + 0 ≤ room_1.cells; omega, by show slots + 18 + 0 ≤ room_1.slots; omega⟩ (fun w8 hp2 => ?_)
  exact law_tailV X (P := 634) dL_law_634 dL_law_635 dL_law_638 dL_law_640 dL_law_645 (by decide) hI hC (rK_kBreak _ _ _) (fun hK => iS_break hI hK) hp hp2 ⟨by show cells + 3 + 0 ≤ room_1.cells; omega, by show slots + 18 + 0 ≤ room_1.slots; omega⟩ (by show cells + 3 + 0 ≤ cells + 10; omega) (by show slots + 18 + 0 ≤ slots + 100; omega) KK
set_option maxHeartbeats 4000000 in
set_option maxRecDepth 100000 in
theorem law_t_mend (hfl : l.stackTraces = false) (X : sw_C p s m args c cL_law 7 RL WG D k A) {ad : Nat → Nat} {b o n : Nat} {xs : Nat → Int32} {i N : Int} {st : ST} {f : Nat → Int64} {q : Int → Nat} {L : List Nat} {M : MM} {tl : Int → Int} {t x y h : Int} (hSc : SC b n xs s A) (hi : 0 ≤ i ∧ i + 4 ≤ (n : Int)) (hN : 0 ≤ N ∧ N < 512) (hI : I6 N st) (hC : CW st q L M) (hcs : cells + 10 ≤ room_1.cells ∧ slots + 100 ≤ room_1.slots)
    (KK : lawK p l e s m args below meth c D A Q k ad b (q 0) o i N (cells + 10) (slots + 100)) : SW p l e room_1 s m args below meth c 7 D A cells slots Q (lawW k ad st tl t x y h o f L M) 648 (lawB b (q 0) (ad 0) o i) [] := by
  refine sw_aload_n X dL_law_648 rfl 1 rfl ?_
  refine sw_aload_n X dL_law_649 rfl 0 rfl ?_
  refine sw_iload X dL_law_650 4 rfl ?_
  refine sw_iconst X dL_law_652 ?_
  refine sw_iadd X dL_law_653 ?_
  refine sw_sld X hSc (by omega) (by omega) dL_law_654 ?_
  refine sw_aload_n X dL_law_655 rfl 3 rfl ?_
  refine sw_callHI (wr := mW k ad st tl t x y h) (As := [.ref (q 0), .int (J (sxs xs (i + 1))), .ref o]) (rest := []) X (c_L_mend l hfl D k N st q L M o f (sxs xs (i + 1)) hI hC (sxs_rng _ _)) (vx_cwSW 3 (sw_ts X) (sw_goodH gw2_171 gw2_172 gw1_0 gw2_173) rfl rfl rfl (by decide +kernel) ⟨Nat.le_of_ble_eq_true rfl, Nat.le_of_ble_eq_true rfl⟩) dL_law_656 rfl rfl (Nat.le_of_ble_eq_true rfl) ⟨by show cells + 3 ≤ room_1.cells; omega, by show slots + 18 ≤ room_1.slots; omega⟩ (fun z w9 hp => ?_)
  refine sw_istore (lv' := (5, .int (J z)) :: lawB b (q 0) (ad 0) o i) X dL_law_659 (by decide) rfl ?_
  refine sw_swap ?_
  refine sw_aload_n X dL_law_661 rfl 3 rfl ?_
  refine sw_aload_n X dL_law_662 rfl 1 rfl ?_
  refine sw_iload X dL_law_663 5 rfl ?_
  refine sw_iconst X dL_law_665 ?_
  refine sw_iadd X dL_law_666 ?_
  refine sw_sld X hSc (by omega) (by omega) dL_law_667 ?_
  refine sw_callVI (wr := w9) (As := [.int (J (sxs xs (i + 1)))]) (rest := []) X (c_X6_mend l D k N ad st tl t x y h (sxs xs (i + 1)) hI (sxs_rng _ _)) (cwV 1 (sw_ts X) (sw_goodV gw4_126 gw4_127 gw4_128 gw1_3 gw4_129) rfl rfl rfl (by decide +kernel) ⟨Nat.le_of_ble_eq_true rfl, Nat.le_of_ble_eq_true rfl⟩) 0 (ci := 6) rfl rfl rfl dL_law_668 rfl rfl (Nat.le_of_ble_eq_true rfl) ⟨by show cells + 3 + 0 ≤ room_1.cells; omega, by show slots + 18 + 0 ≤ room_1.slots; omega⟩ (fun z2 w8 hp2 => ?_)
  refine sw_istore (lv' := (6, .int (J z2)) :: (5, .int (J z)) :: lawB b (q 0) (ad 0) o i) X dL_law_671 (by decide) rfl ?_
  exact law_tailI X (P := 673) dL_law_673 dL_law_674 dL_law_677 dL_law_679 dL_law_684 dL_law_686 dL_law_689 dL_law_690 dL_law_691 dL_law_692 dL_law_694 dL_law_695 dL_law_696 dL_law_701 (by decide) hI hC (rK_kMend _ _) (fun hK => iS_mend hI hK) rfl hp hp2 ⟨by show cells + 3 + 0 ≤ room_1.cells; omega, by show slots + 18 + 0 ≤ room_1.slots; omega⟩ (by show cells + 3 + 0 ≤ cells + 10; omega) (by show slots + 18 + 0 ≤ slots + 100; omega) KK
set_option maxHeartbeats 4000000 in
set_option maxRecDepth 100000 in
theorem law_t_bring (hfl : l.stackTraces = false) (X : sw_C p s m args c cL_law 7 RL WG D k A) {ad : Nat → Nat} {b o n : Nat} {xs : Nat → Int32} {i N : Int} {st : ST} {f : Nat → Int64} {q : Int → Nat} {L : List Nat} {M : MM} {tl : Int → Int} {t x y h : Int} (hSc : SC b n xs s A) (hi : 0 ≤ i ∧ i + 4 ≤ (n : Int)) (hN : 0 ≤ N ∧ N < 512) (hI : I6 N st) (hC : CW st q L M) (hcs : cells + 10 ≤ room_1.cells ∧ slots + 100 ≤ room_1.slots)
    (KK : lawK p l e s m args below meth c D A Q k ad b (q 0) o i N (cells + 10) (slots + 100)) : SW p l e room_1 s m args below meth c 7 D A cells slots Q (lawW k ad st tl t x y h o f L M) 704 (lawB b (q 0) (ad 0) o i) [] := by
  refine sw_aload_n X dL_law_704 rfl 1 rfl ?_
  refine sw_aload_n X dL_law_705 rfl 0 rfl ?_
  refine sw_iload X dL_law_706 4 rfl ?_
  refine sw_iconst X dL_law_708 ?_
  refine sw_iadd X dL_law_709 ?_
  refine sw_sld X hSc (by omega) (by omega) dL_law_710 ?_
  refine sw_aload_n X dL_law_711 rfl 0 rfl ?_
  refine sw_iload X dL_law_712 4 rfl ?_
  refine sw_iconst X dL_law_714 ?_
  refine sw_iadd X dL_law_715 ?_
  refine sw_sld X hSc (by omega) (by omega) dL_law_716 ?_
  refine sw_aload_n X dL_law_717 rfl 3 rfl ?_
  refine sw_callHI (wr := mW k ad st tl t x y h) (As := [.ref (q 0), .int (J (sxs xs (i + 1))), .int (J (sxs xs (i + 2))), .ref o]) (rest := []) X (c_L_bring l hfl D k N st q L M o f (sxs xs (i + 1)) (sxs xs (i + 2)) hI hC (sxs_rng _ _) (sxs_rng _ _)) (vx_cwSW 4 (sw_ts X) (sw_goodH gw2_208 gw2_209 gw1_0 gw2_210) rfl rfl rfl (by decide +kernel) ⟨Nat.le_of_ble_eq_true rfl, Nat.le_of_ble_eq_true rfl⟩) dL_law_718 rfl rfl (Nat.le_of_ble_eq_true rfl) ⟨by show cells + 3 ≤ room_1.cells; omega, by show slots + 16 ≤ room_1.slots; omega⟩ (fun z w9 hp => ?_)
  refine sw_istore (lv' := (5, .int (J z)) :: lawB b (q 0) (ad 0) o i) X dL_law_721 (by decide) rfl ?_
  refine sw_swap ?_
  refine sw_aload_n X dL_law_723 rfl 3 rfl ?_
  refine sw_aload_n X dL_law_724 rfl 1 rfl ?_
  refine sw_iload X dL_law_725 5 rfl ?_
  refine sw_iconst X dL_law_727 ?_
  refine sw_iadd X dL_law_728 ?_
  refine sw_sld X hSc (by omega) (by omega) dL_law_729 ?_
  refine sw_aload_n X dL_law_730 rfl 1 rfl ?_
  refine sw_iload X dL_law_731 5 rfl ?_
  refine sw_iconst X dL_law_733 ?_
  refine sw_iadd X dL_law_734 ?_
  refine sw_sld X hSc (by omega) (by omega) dL_law_735 ?_
  refine sw_callVI (wr := w9) (As := [.int (J (sxs xs (i + 1))), .int (J (sxs xs (i + 2)))]) (rest := []) X (c_X6_bring l D k N ad st tl t x y h (sxs xs (i + 1)) (sxs xs (i + 2)) hI (sxs_rng _ _) (sxs_rng _ _)) (cwV 2 (sw_ts X) (sw_goodV gw4_130 gw4_131 gw4_132 gw1_3 gw4_133) rfl rfl rfl (by decide +kernel) ⟨Nat.le_of_ble_eq_true rfl, Nat.le_of_ble_eq_true rfl⟩) 0 (ci := 6) rfl rfl rfl dL_law_736 rfl rfl (Nat.le_of_ble_eq_true rfl) ⟨by show cells + 3 + 0 ≤ room_1.cells; omega, by show slots + 16 + 0 ≤ room_1.slots; omega⟩ (fun z2 w8 hp2 => ?_)
  refine sw_istore (lv' := (6, .int (J z2)) :: (5, .int (J z)) :: lawB b (q 0) (ad 0) o i) X dL_law_739 (by decide) rfl ?_
  exact law_tailI X (P := 741) dL_law_741 dL_law_742 dL_law_745 dL_law_747 dL_law_752 dL_law_754 dL_law_757 dL_law_758 dL_law_759 dL_law_760 dL_law_762 dL_law_763 dL_law_764 dL_law_769 (by decide) hI hC (rK_kBring _ _ _) (fun hK => iS_bring hI hK) rfl hp hp2 ⟨by show cells + 3 + 0 ≤ room_1.cells; omega, by show slots + 16 + 0 ≤ room_1.slots; omega⟩ (by show cells + 3 + 0 ≤ cells + 10; omega) (by show slots + 16 + 0 ≤ slots + 100; omega) KK
set_option maxHeartbeats 4000000 in
set_option maxRecDepth 100000 in
theorem law_t_hand (hfl : l.stackTraces = false) (X : sw_C p s m args c cL_law 7 RL WG D k A) {ad : Nat → Nat} {b o n : Nat} {xs : Nat → Int32} {i N : Int} {st : ST} {f : Nat → Int64} {q : Int → Nat} {L : List Nat} {M : MM} {tl : Int → Int} {t x y h : Int} (hSc : SC b n xs s A) (hi : 0 ≤ i ∧ i + 4 ≤ (n : Int)) (hN : 0 ≤ N ∧ N < 512) (hI : I6 N st) (hC : CW st q L M) (hcs : cells + 10 ≤ room_1.cells ∧ slots + 100 ≤ room_1.slots)
    (KK : lawK p l e s m args below meth c D A Q k ad b (q 0) o i N (cells + 10) (slots + 100)) : SW p l e room_1 s m args below meth c 7 D A cells slots Q (lawW k ad st tl t x y h o f L M) 772 (lawB b (q 0) (ad 0) o i) [] := by
  refine sw_aload_n X dL_law_772 rfl 1 rfl ?_
  refine sw_aload_n X dL_law_773 rfl 0 rfl ?_
  refine sw_iload X dL_law_774 4 rfl ?_
  refine sw_iconst X dL_law_776 ?_
  refine sw_iadd X dL_law_777 ?_
  refine sw_sld X hSc (by omega) (by omega) dL_law_778 ?_
  refine sw_aload_n X dL_law_779 rfl 0 rfl ?_
  refine sw_iload X dL_law_780 4 rfl ?_
  refine sw_iconst X dL_law_782 ?_
  refine sw_iadd X dL_law_783 ?_
  refine sw_sld X hSc (by omega) (by omega) dL_law_784 ?_
  refine sw_aload_n X dL_law_785 rfl 3 rfl ?_
  refine sw_callHI (wr := mW k ad st tl t x y h) (As := [.ref (q 0), .int (J (sxs xs (i + 1))), .int (J (sxs xs (i + 2))), .ref o]) (rest := []) X (c_L_hand l hfl D k N st q L M o f (sxs xs (i + 1)) (sxs xs (i + 2)) hI hC (sxs_rng _ _) (sxs_rng _ _)) (vx_cwSW 4 (sw_ts X) (sw_goodH gw2_239 gw3_0 gw1_0 gw3_1) rfl rfl rfl (by decide +kernel) ⟨Nat.le_of_ble_eq_true rfl, Nat.le_of_ble_eq_true rfl⟩) dL_law_786 rfl rfl (Nat.le_of_ble_eq_true rfl) ⟨by show cells + 3 ≤ room_1.cells; omega, by show slots + 18 ≤ room_1.slots; omega⟩ (fun z w9 hp => ?_)
  refine sw_istore (lv' := (5, .int (J z)) :: lawB b (q 0) (ad 0) o i) X dL_law_789 (by decide) rfl ?_
  refine sw_swap ?_
  refine sw_aload_n X dL_law_791 rfl 3 rfl ?_
  refine sw_aload_n X dL_law_792 rfl 1 rfl ?_
  refine sw_iload X dL_law_793 5 rfl ?_
  refine sw_iconst X dL_law_795 ?_
  refine sw_iadd X dL_law_796 ?_
  refine sw_sld X hSc (by omega) (by omega) dL_law_797 ?_
  refine sw_aload_n X dL_law_798 rfl 1 rfl ?_
  refine sw_iload X dL_law_799 5 rfl ?_
  refine sw_iconst X dL_law_801 ?_
  refine sw_iadd X dL_law_802 ?_
  refine sw_sld X hSc (by omega) (by omega) dL_law_803 ?_
  refine sw_callVI (wr := w9) (As := [.int (J (sxs xs (i + 1))), .int (J (sxs xs (i + 2)))]) (rest := []) X (c_X6_hand l D k N ad st tl t x y h (sxs xs (i + 1)) (sxs xs (i + 2)) hI (sxs_rng _ _) (sxs_rng _ _)) (cwV 2 (sw_ts X) (sw_goodV gw4_134 gw4_135 gw4_136 gw1_3 gw4_137) rfl rfl rfl (by decide +kernel) ⟨Nat.le_of_ble_eq_true rfl, Nat.le_of_ble_eq_true rfl⟩) 0 (ci := 6) rfl rfl rfl dL_law_804 rfl rfl (Nat.le_of_ble_eq_true rfl) ⟨by show cells + 3 + 0 ≤ room_1.cells; omega, by show slots + 18 + 0 ≤ room_1.slots; omega⟩ (fun z2 w8 hp2 => ?_)
  refine sw_istore (lv' := (6, .int (J z2)) :: (5, .int (J z)) :: lawB b (q 0) (ad 0) o i) X dL_law_807 (by decide) rfl ?_
  exact law_tailI X (P := 809) dL_law_809 dL_law_810 dL_law_813 dL_law_815 dL_law_820 dL_law_822 dL_law_825 dL_law_826 dL_law_827 dL_law_828 dL_law_830 dL_law_831 dL_law_832 dL_law_837 (by decide) hI hC (rK_kHand _ _ _) (fun hK => iS_hand hI hK) rfl hp hp2 ⟨by show cells + 3 + 0 ≤ room_1.cells; omega, by show slots + 18 + 0 ≤ room_1.slots; omega⟩ (by show cells + 3 + 0 ≤ cells + 10; omega) (by show slots + 18 + 0 ≤ slots + 100; omega) KK
set_option maxHeartbeats 4000000 in
set_option maxRecDepth 100000 in
theorem law_t_record (hfl : l.stackTraces = false) (X : sw_C p s m args c cL_law 7 RL WG D k A) {ad : Nat → Nat} {b o n : Nat} {xs : Nat → Int32} {i N : Int} {st : ST} {f : Nat → Int64} {q : Int → Nat} {L : List Nat} {M : MM} {tl : Int → Int} {t x y h : Int} (hSc : SC b n xs s A) (hi : 0 ≤ i ∧ i + 4 ≤ (n : Int)) (hN : 0 ≤ N ∧ N < 512) (hI : I6 N st) (hC : CW st q L M) (hcs : cells + 10 ≤ room_1.cells ∧ slots + 100 ≤ room_1.slots)
    (KK : lawK p l e s m args below meth c D A Q k ad b (q 0) o i N (cells + 10) (slots + 100)) : SW p l e room_1 s m args below meth c 7 D A cells slots Q (lawW k ad st tl t x y h o f L M) 840 (lawB b (q 0) (ad 0) o i) [] := by
  refine sw_aload_n X dL_law_840 rfl 1 rfl ?_
  refine sw_aload_n X dL_law_841 rfl 0 rfl ?_
  refine sw_iload X dL_law_842 4 rfl ?_
  refine sw_iconst X dL_law_844 ?_
  refine sw_iadd X dL_law_845 ?_
  refine sw_sld X hSc (by omega) (by omega) dL_law_846 ?_
  refine sw_aload_n X dL_law_847 rfl 0 rfl ?_
  refine sw_iload X dL_law_848 4 rfl ?_
  refine sw_iconst X dL_law_850 ?_
  refine sw_iadd X dL_law_851 ?_
  refine sw_sld X hSc (by omega) (by omega) dL_law_852 ?_
  refine sw_aload_n X dL_law_853 rfl 0 rfl ?_
  refine sw_iload X dL_law_854 4 rfl ?_
  refine sw_iconst X dL_law_856 ?_
  refine sw_iadd X dL_law_857 ?_
  refine sw_sld X hSc (by omega) (by omega) dL_law_858 ?_
  refine sw_aload_n X dL_law_859 rfl 3 rfl ?_
  refine sw_callHI (wr := mW k ad st tl t x y h) (As := [.ref (q 0), .int (J (sxs xs (i + 1))), .int (J (sxs xs (i + 2))), .int (J (sxs xs (i + 3))), .ref o]) (rest := []) X (c_L_record l hfl D k N st q L M o f (sxs xs (i + 1)) (sxs xs (i + 2)) (sxs xs (i + 3)) hI hC (sxs_rng _ _) (sxs_rng _ _) (sxs_rng _ _)) (vx_cwSW 5 (sw_ts X) (sw_goodH gw3_10 gw3_11 gw1_0 gw3_12) rfl rfl rfl (by decide +kernel) ⟨Nat.le_of_ble_eq_true rfl, Nat.le_of_ble_eq_true rfl⟩) dL_law_860 rfl rfl (Nat.le_of_ble_eq_true rfl) ⟨by show cells + 3 ≤ room_1.cells; omega, by show slots + 18 ≤ room_1.slots; omega⟩ (fun z w9 hp => ?_)
  refine sw_istore (lv' := (5, .int (J z)) :: lawB b (q 0) (ad 0) o i) X dL_law_863 (by decide) rfl ?_
  refine sw_swap ?_
  refine sw_aload_n X dL_law_865 rfl 3 rfl ?_
  refine sw_aload_n X dL_law_866 rfl 1 rfl ?_
  refine sw_iload X dL_law_867 5 rfl ?_
  refine sw_iconst X dL_law_869 ?_
  refine sw_iadd X dL_law_870 ?_
  refine sw_sld X hSc (by omega) (by omega) dL_law_871 ?_
  refine sw_aload_n X dL_law_872 rfl 1 rfl ?_
  refine sw_iload X dL_law_873 5 rfl ?_
  refine sw_iconst X dL_law_875 ?_
  refine sw_iadd X dL_law_876 ?_
  refine sw_sld X hSc (by omega) (by omega) dL_law_877 ?_
  refine sw_aload_n X dL_law_878 rfl 1 rfl ?_
  refine sw_iload X dL_law_879 5 rfl ?_
  refine sw_iconst X dL_law_881 ?_
  refine sw_iadd X dL_law_882 ?_
  refine sw_sld X hSc (by omega) (by omega) dL_law_883 ?_
  refine sw_callVI (wr := w9) (As := [.int (J (sxs xs (i + 1))), .int (J (sxs xs (i + 2))), .int (J (sxs xs (i + 3)))]) (rest := []) X (c_X6_record l D k N ad st tl t x y h (sxs xs (i + 1)) (sxs xs (i + 2)) (sxs xs (i + 3)) hI (sxs_rng _ _) (sxs_rng _ _) (sxs_rng _ _)) (cwV 3 (sw_ts X) (sw_goodV gw4_146 gw4_147 gw4_148 gw1_3 gw4_149) rfl rfl rfl (by decide +kernel) ⟨Nat.le_of_ble_eq_true rfl, Nat.le_of_ble_eq_true rfl⟩) 0 (ci := 6) rfl rfl rfl dL_law_884 rfl rfl (Nat.le_of_ble_eq_true rfl) ⟨by show cells + 3 + 0 ≤ room_1.cells; omega, by show slots + 18 + 0 ≤ room_1.slots; omega⟩ (fun z2 w8 hp2 => ?_)
  refine sw_istore (lv' := (6, .int (J z2)) :: (5, .int (J z)) :: lawB b (q 0) (ad 0) o i) X dL_law_887 (by decide) rfl ?_
  exact law_tailI X (P := 889) dL_law_889 dL_law_890 dL_law_893 dL_law_895 dL_law_900 dL_law_902 dL_law_905 dL_law_906 dL_law_907 dL_law_908 dL_law_910 dL_law_911 dL_law_912 dL_law_917 (by decide) hI hC (rK_kRecord _ _ _ _) (fun hK => iS_record hI hK) rfl hp hp2 ⟨by show cells + 3 + 0 ≤ room_1.cells; omega, by show slots + 18 + 0 ≤ room_1.slots; omega⟩ (by show cells + 3 + 0 ≤ cells + 10; omega) (by show slots + 18 + 0 ≤ slots + 100; omega) KK
set_option maxHeartbeats 4000000 in
set_option maxRecDepth 100000 in
theorem law_t_appeal (hfl : l.stackTraces = false) (X : sw_C p s m args c cL_law 7 RL WG D k A) {ad : Nat → Nat} {b o n : Nat} {xs : Nat → Int32} {i N : Int} {st : ST} {f : Nat → Int64} {q : Int → Nat} {L : List Nat} {M : MM} {tl : Int → Int} {t x y h : Int} (hSc : SC b n xs s A) (hi : 0 ≤ i ∧ i + 4 ≤ (n : Int)) (hN : 0 ≤ N ∧ N < 512) (hI : I6 N st) (hC : CW st q L M) (hcs : cells + 10 ≤ room_1.cells ∧ slots + 100 ≤ room_1.slots)
    (KK : lawK p l e s m args below meth c D A Q k ad b (q 0) o i N (cells + 10) (slots + 100)) : SW p l e room_1 s m args below meth c 7 D A cells slots Q (lawW k ad st tl t x y h o f L M) 920 (lawB b (q 0) (ad 0) o i) [] := by
  refine sw_aload_n X dL_law_920 rfl 1 rfl ?_
  refine sw_aload_n X dL_law_921 rfl 0 rfl ?_
  refine sw_iload X dL_law_922 4 rfl ?_
  refine sw_iconst X dL_law_924 ?_
  refine sw_iadd X dL_law_925 ?_
  refine sw_sld X hSc (by omega) (by omega) dL_law_926 ?_
  refine sw_aload_n X dL_law_927 rfl 0 rfl ?_
  refine sw_iload X dL_law_928 4 rfl ?_
  refine sw_iconst X dL_law_930 ?_
  refine sw_iadd X dL_law_931 ?_
  refine sw_sld X hSc (by omega) (by omega) dL_law_932 ?_
  refine sw_aload_n X dL_law_933 rfl 3 rfl ?_
  refine sw_callHI (wr := mW k ad st tl t x y h) (As := [.ref (q 0), .int (J (sxs xs (i + 1))), .int (J (sxs xs (i + 2))), .ref o]) (rest := []) X (c_L_appeal l hfl D k N st q L M o f (sxs xs (i + 1)) (sxs xs (i + 2)) hI hC (sxs_rng _ _) (sxs_rng _ _)) (vx_cwSW 4 (sw_ts X) (sw_goodH gw3_57 gw3_58 gw1_0 gw3_59) rfl rfl rfl (by decide +kernel) ⟨Nat.le_of_ble_eq_true rfl, Nat.le_of_ble_eq_true rfl⟩) dL_law_934 rfl rfl (Nat.le_of_ble_eq_true rfl) ⟨by show cells + 3 ≤ room_1.cells; omega, by show slots + 18 ≤ room_1.slots; omega⟩ (fun z w9 hp => ?_)
  refine sw_istore (lv' := (5, .int (J z)) :: lawB b (q 0) (ad 0) o i) X dL_law_937 (by decide) rfl ?_
  refine sw_swap ?_
  refine sw_aload_n X dL_law_939 rfl 3 rfl ?_
  refine sw_aload_n X dL_law_940 rfl 1 rfl ?_
  refine sw_iload X dL_law_941 5 rfl ?_
  refine sw_iconst X dL_law_943 ?_
  refine sw_iadd X dL_law_944 ?_
  refine sw_sld X hSc (by omega) (by omega) dL_law_945 ?_
  refine sw_aload_n X dL_law_946 rfl 1 rfl ?_
  refine sw_iload X dL_law_947 5 rfl ?_
  refine sw_iconst X dL_law_949 ?_
  refine sw_iadd X dL_law_950 ?_
  refine sw_sld X hSc (by omega) (by omega) dL_law_951 ?_
  refine sw_callVI (wr := w9) (As := [.int (J (sxs xs (i + 1))), .int (J (sxs xs (i + 2)))]) (rest := []) X (c_X6_appeal l D k N ad st tl t x y h (sxs xs (i + 1)) (sxs xs (i + 2)) hI (sxs_rng _ _) (sxs_rng _ _)) (cwV 2 (sw_ts X) (sw_goodV gw4_170 gw4_171 gw4_172 gw1_3 gw4_173) rfl rfl rfl (by decide +kernel) ⟨Nat.le_of_ble_eq_true rfl, Nat.le_of_ble_eq_true rfl⟩) 0 (ci := 6) rfl rfl rfl dL_law_952 rfl rfl (Nat.le_of_ble_eq_true rfl) ⟨by show cells + 3 + 0 ≤ room_1.cells; omega, by show slots + 18 + 0 ≤ room_1.slots; omega⟩ (fun z2 w8 hp2 => ?_)
  refine sw_istore (lv' := (6, .int (J z2)) :: (5, .int (J z)) :: lawB b (q 0) (ad 0) o i) X dL_law_955 (by decide) rfl ?_
  exact law_tailZ X (P := 957) dL_law_957 dL_law_958 dL_law_961 dL_law_963 dL_law_968 dL_law_970 dL_law_973 dL_law_974 dL_law_975 dL_law_976 dL_law_978 dL_law_981 dL_law_982 dL_law_985 dL_law_986 dL_law_987 dL_law_992 (by decide) hI hC (rK_kAppeal _ _ _) (fun hK => iS_appeal hI hK) rfl (rV_vAppeal _ _ _) hp hp2 ⟨by show cells + 3 + 0 ≤ room_1.cells; omega, by show slots + 18 + 0 ≤ room_1.slots; omega⟩ (by show cells + 3 + 0 ≤ cells + 10; omega) (by show slots + 18 + 0 ≤ slots + 100; omega) KK
set_option maxHeartbeats 4000000 in
set_option maxRecDepth 100000 in
theorem law_t_gates (hfl : l.stackTraces = false) (X : sw_C p s m args c cL_law 7 RL WG D k A) {ad : Nat → Nat} {b o n : Nat} {xs : Nat → Int32} {i N : Int} {st : ST} {f : Nat → Int64} {q : Int → Nat} {L : List Nat} {M : MM} {tl : Int → Int} {t x y h : Int} (hSc : SC b n xs s A) (hi : 0 ≤ i ∧ i + 4 ≤ (n : Int)) (hN : 0 ≤ N ∧ N < 512) (hI : I6 N st) (hC : CW st q L M) (hcs : cells + 10 ≤ room_1.cells ∧ slots + 100 ≤ room_1.slots)
    (KK : lawK p l e s m args below meth c D A Q k ad b (q 0) o i N (cells + 10) (slots + 100)) : SW p l e room_1 s m args below meth c 7 D A cells slots Q (lawW k ad st tl t x y h o f L M) 995 (lawB b (q 0) (ad 0) o i) [] := by
  refine sw_aload_n X dL_law_995 rfl 1 rfl ?_
  show SW p l e room_1 s m args below meth c 7 D A cells slots Q ((mW k ad st tl t x y h ++ [(o, oE k f)]) ++ pW k L M) 996 _ _
  refine px_hVI (wr := mW k ad st tl t x y h ++ [(o, oE k f)]) (C := RX5) (As := []) (rest := []) X (c_X5_gates l hfl D k N st q L M hI hC) (cwV 0 (sw_ts X) (sw_goodV gw1_89 gw1_90 gw1_91 gw1_1 gw1_92) rfl rfl rfl (by decide +kernel) ⟨Nat.le_of_ble_eq_true rfl, Nat.le_of_ble_eq_true rfl⟩) ⟨hC.1.1.1.1, hC.1.1.1.2.2⟩ (by decide) rfl rfl dL_law_996 rfl rfl (Nat.le_of_ble_eq_true rfl) ⟨by show cells + 0 ≤ room_1.cells; omega, by show slots + 0 ≤ room_1.slots; omega⟩ (fun E w9 hx => ?_) (fun z w9 hp => ?_)
  · obtain ⟨-, -, h0⟩ := hx
    exact absurd h0 (by decide)
  obtain ⟨-, rfl, q', L', M', rfl, hq0, hC'⟩ := hp
  show SW p l e room_1 s m args below meth c 7 D A _ _ Q (mW k ad st tl t x y h ++ ([(o, oE k f)] ++ pW k L' M')) _ _ _
  refine sw_swap ?_
  refine sw_aload_n X dL_law_999 rfl 2 rfl ?_
  refine sw_callVI (wr := [(o, oE k f)] ++ pW k L' M') (As := []) (rest := [.int (J (st 5 0))]) X (c_X6_gates l D k ad st tl t x y h) (cwV 0 (sw_ts X) (sw_goodV gw4_174 gw4_175 gw4_176 gw1_3 gw4_177) rfl rfl rfl (by decide +kernel) ⟨Nat.le_of_ble_eq_true rfl, Nat.le_of_ble_eq_true rfl⟩) 0 (ci := 6) rfl rfl rfl dL_law_1000 rfl rfl (Nat.le_of_ble_eq_true rfl) ⟨by show cells + 0 + 0 ≤ room_1.cells; omega, by show slots + 0 + 0 ≤ room_1.slots; omega⟩ (fun z2 w8 hp2 => ?_)
  obtain ⟨rfl, rfl⟩ := hp2
  refine sw_icmp_eqT X dL_law_1003 (tgt := 1791) (by decide) ?_
  refine sw_swap ?_
  refine sw_widen (by show cells + 0 + 0 ≤ cells + 10; omega) (by show slots + 0 + 0 ≤ slots + 100; omega) ?_
  exact KK f q' L' M' st tl 0 x y h (I_mono hI (by omega)) hC' hq0
set_option maxHeartbeats 4000000 in
set_option maxRecDepth 100000 in
theorem law_t_cellOf (hfl : l.stackTraces = false) (X : sw_C p s m args c cL_law 7 RL WG D k A) {ad : Nat → Nat} {b o n : Nat} {xs : Nat → Int32} {i N : Int} {st : ST} {f : Nat → Int64} {q : Int → Nat} {L : List Nat} {M : MM} {tl : Int → Int} {t x y h : Int} (hSc : SC b n xs s A) (hi : 0 ≤ i ∧ i + 4 ≤ (n : Int)) (hN : 0 ≤ N ∧ N < 512) (hI : I6 N st) (hC : CW st q L M) (hcs : cells + 10 ≤ room_1.cells ∧ slots + 100 ≤ room_1.slots)
    (KK : lawK p l e s m args below meth c D A Q k ad b (q 0) o i N (cells + 10) (slots + 100)) : SW p l e room_1 s m args below meth c 7 D A cells slots Q (lawW k ad st tl t x y h o f L M) 1008 (lawB b (q 0) (ad 0) o i) [] := by
  refine sw_aload_n X dL_law_1008 rfl 1 rfl ?_
  refine sw_aload_n X dL_law_1009 rfl 0 rfl ?_
  refine sw_iload X dL_law_1010 4 rfl ?_
  refine sw_iconst X dL_law_1012 ?_
  refine sw_iadd X dL_law_1013 ?_
  refine sw_sld X hSc (by omega) (by omega) dL_law_1014 ?_
  refine sw_aload_n X dL_law_1015 rfl 3 rfl ?_
  refine sw_callHI (wr := mW k ad st tl t x y h) (As := [.ref (q 0), .int (J (sxs xs (i + 1))), .ref o]) (rest := []) X (c_L_cellOf l hfl D k N st q L M o f (sxs xs (i + 1)) hI hC (sxs_rng _ _)) (vx_cwSW 3 (sw_ts X) (sw_goodH gw3_65 gw3_66 gw1_0 gw3_67) rfl rfl rfl (by decide +kernel) ⟨Nat.le_of_ble_eq_true rfl, Nat.le_of_ble_eq_true rfl⟩) dL_law_1016 rfl rfl (Nat.le_of_ble_eq_true rfl) ⟨by show cells + 1 ≤ room_1.cells; omega, by show slots + 6 ≤ room_1.slots; omega⟩ (fun z w9 hp => ?_)
  refine sw_istore (lv' := (5, .int (J z)) :: lawB b (q 0) (ad 0) o i) X dL_law_1019 (by decide) rfl ?_
  refine sw_swap ?_
  refine sw_aload_n X dL_law_1021 rfl 3 rfl ?_
  refine sw_aload_n X dL_law_1022 rfl 1 rfl ?_
  refine sw_iload X dL_law_1023 5 rfl ?_
  refine sw_iconst X dL_law_1025 ?_
  refine sw_iadd X dL_law_1026 ?_
  refine sw_sld X hSc (by omega) (by omega) dL_law_1027 ?_
  refine sw_callVI (wr := w9) (As := [.int (J (sxs xs (i + 1)))]) (rest := []) X (c_X6_cellOf l D k N ad st tl t x y h (sxs xs (i + 1)) hI (sxs_rng _ _)) (cwV 1 (sw_ts X) (sw_goodV gw4_178 gw4_179 gw4_180 gw1_3 gw4_181) rfl rfl rfl (by decide +kernel) ⟨Nat.le_of_ble_eq_true rfl, Nat.le_of_ble_eq_true rfl⟩) 0 (ci := 6) rfl rfl rfl dL_law_1028 rfl rfl (Nat.le_of_ble_eq_true rfl) ⟨by show cells + 1 + 0 ≤ room_1.cells; omega, by show slots + 6 + 0 ≤ room_1.slots; omega⟩ (fun z2 w8 hp2 => ?_)
  refine sw_istore (lv' := (6, .int (J z2)) :: (5, .int (J z)) :: lawB b (q 0) (ad 0) o i) X dL_law_1031 (by decide) rfl ?_
  exact law_tailI X (P := 1033) dL_law_1033 dL_law_1034 dL_law_1037 dL_law_1039 dL_law_1044 dL_law_1046 dL_law_1049 dL_law_1050 dL_law_1051 dL_law_1052 dL_law_1054 dL_law_1055 dL_law_1056 dL_law_1061 (by decide) hI hC (rK_kGate _ _) (fun _ => I_mono hI (by omega)) rfl hp hp2 ⟨by show cells + 1 + 0 ≤ room_1.cells; omega, by show slots + 6 + 0 ≤ room_1.slots; omega⟩ (by show cells + 1 + 0 ≤ cells + 10; omega) (by show slots + 6 + 0 ≤ slots + 100; omega) KK
set_option maxHeartbeats 4000000 in
set_option maxRecDepth 100000 in
theorem law_t_due (hfl : l.stackTraces = false) (X : sw_C p s m args c cL_law 7 RL WG D k A) {ad : Nat → Nat} {b o n : Nat} {xs : Nat → Int32} {i N : Int} {st : ST} {f : Nat → Int64} {q : Int → Nat} {L : List Nat} {M : MM} {tl : Int → Int} {t x y h : Int} (hSc : SC b n xs s A) (hi : 0 ≤ i ∧ i + 4 ≤ (n : Int)) (hN : 0 ≤ N ∧ N < 512) (hI : I6 N st) (hC : CW st q L M) (hcs : cells + 10 ≤ room_1.cells ∧ slots + 100 ≤ room_1.slots)
    (KK : lawK p l e s m args below meth c D A Q k ad b (q 0) o i N (cells + 10) (slots + 100)) : SW p l e room_1 s m args below meth c 7 D A cells slots Q (lawW k ad st tl t x y h o f L M) 1064 (lawB b (q 0) (ad 0) o i) [] := by
  refine sw_aload_n X dL_law_1064 rfl 1 rfl ?_
  refine sw_aload_n X dL_law_1065 rfl 0 rfl ?_
  refine sw_iload X dL_law_1066 4 rfl ?_
  refine sw_iconst X dL_law_1068 ?_
  refine sw_iadd X dL_law_1069 ?_
  refine sw_sld X hSc (by omega) (by omega) dL_law_1070 ?_
  refine sw_aload_n X dL_law_1071 rfl 3 rfl ?_
  refine sw_callHI (wr := mW k ad st tl t x y h) (As := [.ref (q 0), .int (J (sxs xs (i + 1))), .ref o]) (rest := []) X (c_L_due l hfl D k N st q L M o f (sxs xs (i + 1)) hI hC (sxs_rng _ _)) (vx_cwSW 3 (sw_ts X) (sw_goodH gw3_72 gw3_73 gw1_0 gw3_74) rfl rfl rfl (by decide +kernel) ⟨Nat.le_of_ble_eq_true rfl, Nat.le_of_ble_eq_true rfl⟩) dL_law_1072 rfl rfl (Nat.le_of_ble_eq_true rfl) ⟨by show cells + 1 ≤ room_1.cells; omega, by show slots + 6 ≤ room_1.slots; omega⟩ (fun z w9 hp => ?_)
  refine sw_istore (lv' := (5, .int (J z)) :: lawB b (q 0) (ad 0) o i) X dL_law_1075 (by decide) rfl ?_
  refine sw_swap ?_
  refine sw_aload_n X dL_law_1077 rfl 3 rfl ?_
  refine sw_aload_n X dL_law_1078 rfl 1 rfl ?_
  refine sw_iload X dL_law_1079 5 rfl ?_
  refine sw_iconst X dL_law_1081 ?_
  refine sw_iadd X dL_law_1082 ?_
  refine sw_sld X hSc (by omega) (by omega) dL_law_1083 ?_
  refine sw_callVI (wr := w9) (As := [.int (J (sxs xs (i + 1)))]) (rest := []) X (c_X6_due l D k N ad st tl t x y h (sxs xs (i + 1)) hI (sxs_rng _ _)) (cwV 1 (sw_ts X) (sw_goodV gw4_182 gw4_183 gw4_184 gw1_3 gw4_185) rfl rfl rfl (by decide +kernel) ⟨Nat.le_of_ble_eq_true rfl, Nat.le_of_ble_eq_true rfl⟩) 0 (ci := 6) rfl rfl rfl dL_law_1084 rfl rfl (Nat.le_of_ble_eq_true rfl) ⟨by show cells + 1 + 0 ≤ room_1.cells; omega, by show slots + 6 + 0 ≤ room_1.slots; omega⟩ (fun z2 w8 hp2 => ?_)
  refine sw_istore (lv' := (6, .int (J z2)) :: (5, .int (J z)) :: lawB b (q 0) (ad 0) o i) X dL_law_1087 (by decide) rfl ?_
  exact law_tailI X (P := 1089) dL_law_1089 dL_law_1090 dL_law_1093 dL_law_1095 dL_law_1100 dL_law_1102 dL_law_1105 dL_law_1106 dL_law_1107 dL_law_1108 dL_law_1110 dL_law_1111 dL_law_1112 dL_law_1117 (by decide) hI hC (rK_kGate _ _) (fun _ => I_mono hI (by omega)) rfl hp hp2 ⟨by show cells + 1 + 0 ≤ room_1.cells; omega, by show slots + 6 + 0 ≤ room_1.slots; omega⟩ (by show cells + 1 + 0 ≤ cells + 10; omega) (by show slots + 6 + 0 ≤ slots + 100; omega) KK
set_option maxHeartbeats 4000000 in
set_option maxRecDepth 100000 in
theorem law_t_followed (hfl : l.stackTraces = false) (X : sw_C p s m args c cL_law 7 RL WG D k A) {ad : Nat → Nat} {b o n : Nat} {xs : Nat → Int32} {i N : Int} {st : ST} {f : Nat → Int64} {q : Int → Nat} {L : List Nat} {M : MM} {tl : Int → Int} {t x y h : Int} (hSc : SC b n xs s A) (hi : 0 ≤ i ∧ i + 4 ≤ (n : Int)) (hN : 0 ≤ N ∧ N < 512) (hI : I6 N st) (hC : CW st q L M) (hcs : cells + 10 ≤ room_1.cells ∧ slots + 100 ≤ room_1.slots)
    (KK : lawK p l e s m args below meth c D A Q k ad b (q 0) o i N (cells + 10) (slots + 100)) : SW p l e room_1 s m args below meth c 7 D A cells slots Q (lawW k ad st tl t x y h o f L M) 1120 (lawB b (q 0) (ad 0) o i) [] := by
  refine sw_aload_n X dL_law_1120 rfl 1 rfl ?_
  refine sw_aload_n X dL_law_1121 rfl 0 rfl ?_
  refine sw_iload X dL_law_1122 4 rfl ?_
  refine sw_iconst X dL_law_1124 ?_
  refine sw_iadd X dL_law_1125 ?_
  refine sw_sld X hSc (by omega) (by omega) dL_law_1126 ?_
  refine sw_aload_n X dL_law_1127 rfl 3 rfl ?_
  refine sw_callHI (wr := mW k ad st tl t x y h) (As := [.ref (q 0), .int (J (sxs xs (i + 1))), .ref o]) (rest := []) X (c_L_followed l hfl D k N st q L M o f (sxs xs (i + 1)) hI hC (sxs_rng _ _)) (vx_cwSW 3 (sw_ts X) (sw_goodH gw3_79 gw3_80 gw1_0 gw3_81) rfl rfl rfl (by decide +kernel) ⟨Nat.le_of_ble_eq_true rfl, Nat.le_of_ble_eq_true rfl⟩) dL_law_1128 rfl rfl (Nat.le_of_ble_eq_true rfl) ⟨by show cells + 1 ≤ room_1.cells; omega, by show slots + 6 ≤ room_1.slots; omega⟩ (fun z w9 hp => ?_)
  refine sw_istore (lv' := (5, .int (J z)) :: lawB b (q 0) (ad 0) o i) X dL_law_1131 (by decide) rfl ?_
  refine sw_swap ?_
  refine sw_aload_n X dL_law_1133 rfl 3 rfl ?_
  refine sw_aload_n X dL_law_1134 rfl 1 rfl ?_
  refine sw_iload X dL_law_1135 5 rfl ?_
  refine sw_iconst X dL_law_1137 ?_
  refine sw_iadd X dL_law_1138 ?_
  refine sw_sld X hSc (by omega) (by omega) dL_law_1139 ?_
  refine sw_callVI (wr := w9) (As := [.int (J (sxs xs (i + 1)))]) (rest := []) X (c_X6_followed l D k N ad st tl t x y h (sxs xs (i + 1)) hI (sxs_rng _ _)) (cwV 1 (sw_ts X) (sw_goodV gw4_190 gw4_191 gw4_192 gw1_3 gw4_193) rfl rfl rfl (by decide +kernel) ⟨Nat.le_of_ble_eq_true rfl, Nat.le_of_ble_eq_true rfl⟩) 0 (ci := 6) rfl rfl rfl dL_law_1140 rfl rfl (Nat.le_of_ble_eq_true rfl) ⟨by show cells + 1 + 0 ≤ room_1.cells; omega, by show slots + 6 + 0 ≤ room_1.slots; omega⟩ (fun z2 w8 hp2 => ?_)
  refine sw_istore (lv' := (6, .int (J z2)) :: (5, .int (J z)) :: lawB b (q 0) (ad 0) o i) X dL_law_1143 (by decide) rfl ?_
  exact law_tailI X (P := 1145) dL_law_1145 dL_law_1146 dL_law_1149 dL_law_1151 dL_law_1156 dL_law_1158 dL_law_1161 dL_law_1162 dL_law_1163 dL_law_1164 dL_law_1166 dL_law_1167 dL_law_1168 dL_law_1173 (by decide) hI hC (rK_kCar _ _) (fun _ => I_mono hI (by omega)) rfl hp hp2 ⟨by show cells + 1 + 0 ≤ room_1.cells; omega, by show slots + 6 + 0 ≤ room_1.slots; omega⟩ (by show cells + 1 + 0 ≤ cells + 10; omega) (by show slots + 6 + 0 ≤ slots + 100; omega) KK
set_option maxHeartbeats 4000000 in
set_option maxRecDepth 100000 in
theorem law_t_cellAt (hfl : l.stackTraces = false) (X : sw_C p s m args c cL_law 7 RL WG D k A) {ad : Nat → Nat} {b o n : Nat} {xs : Nat → Int32} {i N : Int} {st : ST} {f : Nat → Int64} {q : Int → Nat} {L : List Nat} {M : MM} {tl : Int → Int} {t x y h : Int} (hSc : SC b n xs s A) (hi : 0 ≤ i ∧ i + 4 ≤ (n : Int)) (hN : 0 ≤ N ∧ N < 512) (hI : I6 N st) (hC : CW st q L M) (hcs : cells + 10 ≤ room_1.cells ∧ slots + 100 ≤ room_1.slots)
    (KK : lawK p l e s m args below meth c D A Q k ad b (q 0) o i N (cells + 10) (slots + 100)) : SW p l e room_1 s m args below meth c 7 D A cells slots Q (lawW k ad st tl t x y h o f L M) 1176 (lawB b (q 0) (ad 0) o i) [] := by
  refine sw_aload_n X dL_law_1176 rfl 1 rfl ?_
  refine sw_aload_n X dL_law_1177 rfl 0 rfl ?_
  refine sw_iload X dL_law_1178 4 rfl ?_
  refine sw_iconst X dL_law_1180 ?_
  refine sw_iadd X dL_law_1181 ?_
  refine sw_sld X hSc (by omega) (by omega) dL_law_1182 ?_
  refine sw_aload_n X dL_law_1183 rfl 0 rfl ?_
  refine sw_iload X dL_law_1184 4 rfl ?_
  refine sw_iconst X dL_law_1186 ?_
  refine sw_iadd X dL_law_1187 ?_
  refine sw_sld X hSc (by omega) (by omega) dL_law_1188 ?_
  refine sw_aload_n X dL_law_1189 rfl 3 rfl ?_
  refine sw_callHI (wr := mW k ad st tl t x y h) (As := [.ref (q 0), .int (J (sxs xs (i + 1))), .int (J (sxs xs (i + 2))), .ref o]) (rest := []) X (c_L_cellAt l hfl D k N st q L M o f (sxs xs (i + 1)) (sxs xs (i + 2)) hI hC (sxs_rng _ _) (sxs_rng _ _)) (vx_cwSW 4 (sw_ts X) (sw_goodH gw3_94 gw3_95 gw1_0 gw3_96) rfl rfl rfl (by decide +kernel) ⟨Nat.le_of_ble_eq_true rfl, Nat.le_of_ble_eq_true rfl⟩) dL_law_1190 rfl rfl (Nat.le_of_ble_eq_true rfl) ⟨by show cells + 2 ≤ room_1.cells; omega, by show slots + 12 ≤ room_1.slots; omega⟩ (fun z w9 hp => ?_)
  refine sw_istore (lv' := (5, .int (J z)) :: lawB b (q 0) (ad 0) o i) X dL_law_1193 (by decide) rfl ?_
  refine sw_swap ?_
  refine sw_aload_n X dL_law_1195 rfl 3 rfl ?_
  refine sw_aload_n X dL_law_1196 rfl 1 rfl ?_
  refine sw_iload X dL_law_1197 5 rfl ?_
  refine sw_iconst X dL_law_1199 ?_
  refine sw_iadd X dL_law_1200 ?_
  refine sw_sld X hSc (by omega) (by omega) dL_law_1201 ?_
  refine sw_aload_n X dL_law_1202 rfl 1 rfl ?_
  refine sw_iload X dL_law_1203 5 rfl ?_
  refine sw_iconst X dL_law_1205 ?_
  refine sw_iadd X dL_law_1206 ?_
  refine sw_sld X hSc (by omega) (by omega) dL_law_1207 ?_
  refine sw_callVI (wr := w9) (As := [.int (J (sxs xs (i + 1))), .int (J (sxs xs (i + 2)))]) (rest := []) X (c_X6_cellAt l D k N ad st tl t x y h (sxs xs (i + 1)) (sxs xs (i + 2)) hI (sxs_rng _ _) (sxs_rng _ _)) (cwV 2 (sw_ts X) (sw_goodV gw4_194 gw4_195 gw4_196 gw1_3 gw4_197) rfl rfl rfl (by decide +kernel) ⟨Nat.le_of_ble_eq_true rfl, Nat.le_of_ble_eq_true rfl⟩) 0 (ci := 6) rfl rfl rfl dL_law_1208 rfl rfl (Nat.le_of_ble_eq_true rfl) ⟨by show cells + 2 + 0 ≤ room_1.cells; omega, by show slots + 12 + 0 ≤ room_1.slots; omega⟩ (fun z2 w8 hp2 => ?_)
  refine sw_istore (lv' := (6, .int (J z2)) :: (5, .int (J z)) :: lawB b (q 0) (ad 0) o i) X dL_law_1211 (by decide) rfl ?_
  exact law_tailI X (P := 1213) dL_law_1213 dL_law_1214 dL_law_1217 dL_law_1219 dL_law_1224 dL_law_1226 dL_law_1229 dL_law_1230 dL_law_1231 dL_law_1232 dL_law_1234 dL_law_1235 dL_law_1236 dL_law_1241 (by decide) hI hC (rK_kCellAt _ _ _) (fun _ => I_mono hI (by omega)) rfl hp hp2 ⟨by show cells + 2 + 0 ≤ room_1.cells; omega, by show slots + 12 + 0 ≤ room_1.slots; omega⟩ (by show cells + 2 + 0 ≤ cells + 10; omega) (by show slots + 12 + 0 ≤ slots + 100; omega) KK
set_option maxHeartbeats 4000000 in
set_option maxRecDepth 100000 in
theorem law_t_clock (hfl : l.stackTraces = false) (X : sw_C p s m args c cL_law 7 RL WG D k A) {ad : Nat → Nat} {b o n : Nat} {xs : Nat → Int32} {i N : Int} {st : ST} {f : Nat → Int64} {q : Int → Nat} {L : List Nat} {M : MM} {tl : Int → Int} {t x y h : Int} (hSc : SC b n xs s A) (hi : 0 ≤ i ∧ i + 4 ≤ (n : Int)) (hN : 0 ≤ N ∧ N < 512) (hI : I6 N st) (hC : CW st q L M) (hcs : cells + 10 ≤ room_1.cells ∧ slots + 100 ≤ room_1.slots)
    (KK : lawK p l e s m args below meth c D A Q k ad b (q 0) o i N (cells + 10) (slots + 100)) : SW p l e room_1 s m args below meth c 7 D A cells slots Q (lawW k ad st tl t x y h o f L M) 1244 (lawB b (q 0) (ad 0) o i) [] := by
  refine sw_aload_n X dL_law_1244 rfl 1 rfl ?_
  refine sw_aload_n X dL_law_1245 rfl 0 rfl ?_
  refine sw_iload X dL_law_1246 4 rfl ?_
  refine sw_iconst X dL_law_1248 ?_
  refine sw_iadd X dL_law_1249 ?_
  refine sw_sld X hSc (by omega) (by omega) dL_law_1250 ?_
  refine sw_aload_n X dL_law_1251 rfl 3 rfl ?_
  refine sw_callHI (wr := mW k ad st tl t x y h) (As := [.ref (q 0), .int (J (sxs xs (i + 1))), .ref o]) (rest := []) X (c_L_clock l hfl D k N st q L M o f (sxs xs (i + 1)) hI hC (sxs_rng _ _)) (vx_cwSW 3 (sw_ts X) (sw_goodH gw3_114 gw3_115 gw1_0 gw3_116) rfl rfl rfl (by decide +kernel) ⟨Nat.le_of_ble_eq_true rfl, Nat.le_of_ble_eq_true rfl⟩) dL_law_1252 rfl rfl (Nat.le_of_ble_eq_true rfl) ⟨by show cells + 1 ≤ room_1.cells; omega, by show slots + 6 ≤ room_1.slots; omega⟩ (fun z w9 hp => ?_)
  refine sw_istore (lv' := (5, .int (J z)) :: lawB b (q 0) (ad 0) o i) X dL_law_1255 (by decide) rfl ?_
  refine sw_swap ?_
  refine sw_aload_n X dL_law_1257 rfl 3 rfl ?_
  refine sw_aload_n X dL_law_1258 rfl 1 rfl ?_
  refine sw_iload X dL_law_1259 5 rfl ?_
  refine sw_iconst X dL_law_1261 ?_
  refine sw_iadd X dL_law_1262 ?_
  refine sw_sld X hSc (by omega) (by omega) dL_law_1263 ?_
  refine sw_callVI (wr := w9) (As := [.int (J (sxs xs (i + 1)))]) (rest := []) X (c_X6_clock l D k N ad st tl t x y h (sxs xs (i + 1)) hI (sxs_rng _ _)) (cwV 1 (sw_ts X) (sw_goodV gw4_198 gw4_199 gw4_200 gw1_3 gw4_201) rfl rfl rfl (by decide +kernel) ⟨Nat.le_of_ble_eq_true rfl, Nat.le_of_ble_eq_true rfl⟩) 0 (ci := 6) rfl rfl rfl dL_law_1264 rfl rfl (Nat.le_of_ble_eq_true rfl) ⟨by show cells + 1 + 0 ≤ room_1.cells; omega, by show slots + 6 + 0 ≤ room_1.slots; omega⟩ (fun z2 w8 hp2 => ?_)
  refine sw_istore (lv' := (6, .int (J z2)) :: (5, .int (J z)) :: lawB b (q 0) (ad 0) o i) X dL_law_1267 (by decide) rfl ?_
  exact law_tailI X (P := 1269) dL_law_1269 dL_law_1270 dL_law_1273 dL_law_1275 dL_law_1280 dL_law_1282 dL_law_1285 dL_law_1286 dL_law_1287 dL_law_1288 dL_law_1290 dL_law_1291 dL_law_1292 dL_law_1297 (by decide) hI hC (rK_kCar _ _) (fun _ => I_mono hI (by omega)) rfl hp hp2 ⟨by show cells + 1 + 0 ≤ room_1.cells; omega, by show slots + 6 + 0 ≤ room_1.slots; omega⟩ (by show cells + 1 + 0 ≤ cells + 10; omega) (by show slots + 6 + 0 ≤ slots + 100; omega) KK
set_option maxHeartbeats 4000000 in
set_option maxRecDepth 100000 in
theorem law_t_byTrack (hfl : l.stackTraces = false) (X : sw_C p s m args c cL_law 7 RL WG D k A) {ad : Nat → Nat} {b o n : Nat} {xs : Nat → Int32} {i N : Int} {st : ST} {f : Nat → Int64} {q : Int → Nat} {L : List Nat} {M : MM} {tl : Int → Int} {t x y h : Int} (hSc : SC b n xs s A) (hi : 0 ≤ i ∧ i + 4 ≤ (n : Int)) (hN : 0 ≤ N ∧ N < 512) (hI : I6 N st) (hC : CW st q L M) (hcs : cells + 10 ≤ room_1.cells ∧ slots + 100 ≤ room_1.slots)
    (KK : lawK p l e s m args below meth c D A Q k ad b (q 0) o i N (cells + 10) (slots + 100)) : SW p l e room_1 s m args below meth c 7 D A cells slots Q (lawW k ad st tl t x y h o f L M) 1300 (lawB b (q 0) (ad 0) o i) [] := by
  refine sw_aload_n X dL_law_1300 rfl 1 rfl ?_
  refine sw_aload_n X dL_law_1301 rfl 0 rfl ?_
  refine sw_iload X dL_law_1302 4 rfl ?_
  refine sw_iconst X dL_law_1304 ?_
  refine sw_iadd X dL_law_1305 ?_
  refine sw_sld X hSc (by omega) (by omega) dL_law_1306 ?_
  refine sw_aload_n X dL_law_1307 rfl 0 rfl ?_
  refine sw_iload X dL_law_1308 4 rfl ?_
  refine sw_iconst X dL_law_1310 ?_
  refine sw_iadd X dL_law_1311 ?_
  refine sw_sld X hSc (by omega) (by omega) dL_law_1312 ?_
  refine sw_aload_n X dL_law_1313 rfl 3 rfl ?_
  refine sw_callHI (wr := mW k ad st tl t x y h) (As := [.ref (q 0), .int (J (sxs xs (i + 1))), .int (J (sxs xs (i + 2))), .ref o]) (rest := []) X (c_L_byTrack l hfl D k N st q L M o f (sxs xs (i + 1)) (sxs xs (i + 2)) hI hC (sxs_rng _ _) (sxs_rng _ _)) (vx_cwSW 4 (sw_ts X) (sw_goodH gw3_121 gw3_122 gw1_0 gw3_123) rfl rfl rfl (by decide +kernel) ⟨Nat.le_of_ble_eq_true rfl, Nat.le_of_ble_eq_true rfl⟩) dL_law_1314 rfl rfl (Nat.le_of_ble_eq_true rfl) ⟨by show cells + 2 ≤ room_1.cells; omega, by show slots + 12 ≤ room_1.slots; omega⟩ (fun z w9 hp => ?_)
  refine sw_istore (lv' := (5, .int (J z)) :: lawB b (q 0) (ad 0) o i) X dL_law_1317 (by decide) rfl ?_
  refine sw_swap ?_
  refine sw_aload_n X dL_law_1319 rfl 3 rfl ?_
  refine sw_aload_n X dL_law_1320 rfl 1 rfl ?_
  refine sw_iload X dL_law_1321 5 rfl ?_
  refine sw_iconst X dL_law_1323 ?_
  refine sw_iadd X dL_law_1324 ?_
  refine sw_sld X hSc (by omega) (by omega) dL_law_1325 ?_
  refine sw_aload_n X dL_law_1326 rfl 1 rfl ?_
  refine sw_iload X dL_law_1327 5 rfl ?_
  refine sw_iconst X dL_law_1329 ?_
  refine sw_iadd X dL_law_1330 ?_
  refine sw_sld X hSc (by omega) (by omega) dL_law_1331 ?_
  refine sw_callVI (wr := w9) (As := [.int (J (sxs xs (i + 1))), .int (J (sxs xs (i + 2)))]) (rest := []) X (c_X6_byTrack l D k N ad st tl t x y h (sxs xs (i + 1)) (sxs xs (i + 2)) hI (sxs_rng _ _) (sxs_rng _ _)) (cwV 2 (sw_ts X) (sw_goodV gw4_202 gw4_203 gw4_204 gw1_3 gw4_205) rfl rfl rfl (by decide +kernel) ⟨Nat.le_of_ble_eq_true rfl, Nat.le_of_ble_eq_true rfl⟩) 0 (ci := 6) rfl rfl rfl dL_law_1332 rfl rfl (Nat.le_of_ble_eq_true rfl) ⟨by show cells + 2 + 0 ≤ room_1.cells; omega, by show slots + 12 + 0 ≤ room_1.slots; omega⟩ (fun z2 w8 hp2 => ?_)
  refine sw_istore (lv' := (6, .int (J z2)) :: (5, .int (J z)) :: lawB b (q 0) (ad 0) o i) X dL_law_1335 (by decide) rfl ?_
  exact law_tailI X (P := 1337) dL_law_1337 dL_law_1338 dL_law_1341 dL_law_1343 dL_law_1348 dL_law_1350 dL_law_1353 dL_law_1354 dL_law_1355 dL_law_1356 dL_law_1358 dL_law_1359 dL_law_1360 dL_law_1365 (by decide) hI hC (rK_kCG _ _ _) (fun _ => I_mono hI (by omega)) rfl hp hp2 ⟨by show cells + 2 + 0 ≤ room_1.cells; omega, by show slots + 12 + 0 ≤ room_1.slots; omega⟩ (by show cells + 2 + 0 ≤ cells + 10; omega) (by show slots + 12 + 0 ≤ slots + 100; omega) KK
set_option maxHeartbeats 4000000 in
set_option maxRecDepth 100000 in
theorem law_t_byMinutes (hfl : l.stackTraces = false) (X : sw_C p s m args c cL_law 7 RL WG D k A) {ad : Nat → Nat} {b o n : Nat} {xs : Nat → Int32} {i N : Int} {st : ST} {f : Nat → Int64} {q : Int → Nat} {L : List Nat} {M : MM} {tl : Int → Int} {t x y h : Int} (hSc : SC b n xs s A) (hi : 0 ≤ i ∧ i + 4 ≤ (n : Int)) (hN : 0 ≤ N ∧ N < 512) (hI : I6 N st) (hC : CW st q L M) (hcs : cells + 10 ≤ room_1.cells ∧ slots + 100 ≤ room_1.slots)
    (KK : lawK p l e s m args below meth c D A Q k ad b (q 0) o i N (cells + 10) (slots + 100)) : SW p l e room_1 s m args below meth c 7 D A cells slots Q (lawW k ad st tl t x y h o f L M) 1368 (lawB b (q 0) (ad 0) o i) [] := by
  refine sw_aload_n X dL_law_1368 rfl 1 rfl ?_
  refine sw_aload_n X dL_law_1369 rfl 0 rfl ?_
  refine sw_iload X dL_law_1370 4 rfl ?_
  refine sw_iconst X dL_law_1372 ?_
  refine sw_iadd X dL_law_1373 ?_
  refine sw_sld X hSc (by omega) (by omega) dL_law_1374 ?_
  refine sw_aload_n X dL_law_1375 rfl 0 rfl ?_
  refine sw_iload X dL_law_1376 4 rfl ?_
  refine sw_iconst X dL_law_1378 ?_
  refine sw_iadd X dL_law_1379 ?_
  refine sw_sld X hSc (by omega) (by omega) dL_law_1380 ?_
  refine sw_aload_n X dL_law_1381 rfl 3 rfl ?_
  refine sw_callHI (wr := mW k ad st tl t x y h) (As := [.ref (q 0), .int (J (sxs xs (i + 1))), .int (J (sxs xs (i + 2))), .ref o]) (rest := []) X (c_L_byMinutes l hfl D k N st q L M o f (sxs xs (i + 1)) (sxs xs (i + 2)) hI hC (sxs_rng _ _) (sxs_rng _ _)) (vx_cwSW 4 (sw_ts X) (sw_goodH gw3_128 gw3_129 gw1_0 gw3_130) rfl rfl rfl (by decide +kernel) ⟨Nat.le_of_ble_eq_true rfl, Nat.le_of_ble_eq_true rfl⟩) dL_law_1382 rfl rfl (Nat.le_of_ble_eq_true rfl) ⟨by show cells + 2 ≤ room_1.cells; omega, by show slots + 12 ≤ room_1.slots; omega⟩ (fun z w9 hp => ?_)
  refine sw_istore (lv' := (5, .int (J z)) :: lawB b (q 0) (ad 0) o i) X dL_law_1385 (by decide) rfl ?_
  refine sw_swap ?_
  refine sw_aload_n X dL_law_1387 rfl 3 rfl ?_
  refine sw_aload_n X dL_law_1388 rfl 1 rfl ?_
  refine sw_iload X dL_law_1389 5 rfl ?_
  refine sw_iconst X dL_law_1391 ?_
  refine sw_iadd X dL_law_1392 ?_
  refine sw_sld X hSc (by omega) (by omega) dL_law_1393 ?_
  refine sw_aload_n X dL_law_1394 rfl 1 rfl ?_
  refine sw_iload X dL_law_1395 5 rfl ?_
  refine sw_iconst X dL_law_1397 ?_
  refine sw_iadd X dL_law_1398 ?_
  refine sw_sld X hSc (by omega) (by omega) dL_law_1399 ?_
  refine sw_callVI (wr := w9) (As := [.int (J (sxs xs (i + 1))), .int (J (sxs xs (i + 2)))]) (rest := []) X (c_X6_byMinutes l D k N ad st tl t x y h (sxs xs (i + 1)) (sxs xs (i + 2)) hI (sxs_rng _ _) (sxs_rng _ _)) (cwV 2 (sw_ts X) (sw_goodV gw4_210 gw4_207 gw4_208 gw1_3 gw4_209) rfl rfl rfl (by decide +kernel) ⟨Nat.le_of_ble_eq_true rfl, Nat.le_of_ble_eq_true rfl⟩) 0 (ci := 6) rfl rfl rfl dL_law_1400 rfl rfl (Nat.le_of_ble_eq_true rfl) ⟨by show cells + 2 + 0 ≤ room_1.cells; omega, by show slots + 12 + 0 ≤ room_1.slots; omega⟩ (fun z2 w8 hp2 => ?_)
  refine sw_istore (lv' := (6, .int (J z2)) :: (5, .int (J z)) :: lawB b (q 0) (ad 0) o i) X dL_law_1403 (by decide) rfl ?_
  exact law_tailI X (P := 1405) dL_law_1405 dL_law_1406 dL_law_1409 dL_law_1411 dL_law_1416 dL_law_1418 dL_law_1421 dL_law_1422 dL_law_1423 dL_law_1424 dL_law_1426 dL_law_1427 dL_law_1428 dL_law_1433 (by decide) hI hC (rK_kCG _ _ _) (fun _ => I_mono hI (by omega)) rfl hp hp2 ⟨by show cells + 2 + 0 ≤ room_1.cells; omega, by show slots + 12 + 0 ≤ room_1.slots; omega⟩ (by show cells + 2 + 0 ≤ cells + 10; omega) (by show slots + 12 + 0 ≤ slots + 100; omega) KK
set_option maxHeartbeats 4000000 in
set_option maxRecDepth 100000 in
theorem law_t_time (hfl : l.stackTraces = false) (X : sw_C p s m args c cL_law 7 RL WG D k A) {ad : Nat → Nat} {b o n : Nat} {xs : Nat → Int32} {i N : Int} {st : ST} {f : Nat → Int64} {q : Int → Nat} {L : List Nat} {M : MM} {tl : Int → Int} {t x y h : Int} (hSc : SC b n xs s A) (hi : 0 ≤ i ∧ i + 4 ≤ (n : Int)) (hN : 0 ≤ N ∧ N < 512) (hI : I6 N st) (hC : CW st q L M) (hcs : cells + 10 ≤ room_1.cells ∧ slots + 100 ≤ room_1.slots)
    (KK : lawK p l e s m args below meth c D A Q k ad b (q 0) o i N (cells + 10) (slots + 100)) : SW p l e room_1 s m args below meth c 7 D A cells slots Q (lawW k ad st tl t x y h o f L M) 1436 (lawB b (q 0) (ad 0) o i) [] := by
  refine sw_aload_n X dL_law_1436 rfl 1 rfl ?_
  refine sw_aload_n X dL_law_1437 rfl 0 rfl ?_
  refine sw_iload X dL_law_1438 4 rfl ?_
  refine sw_iconst X dL_law_1440 ?_
  refine sw_iadd X dL_law_1441 ?_
  refine sw_sld X hSc (by omega) (by omega) dL_law_1442 ?_
  refine sw_aload_n X dL_law_1443 rfl 0 rfl ?_
  refine sw_iload X dL_law_1444 4 rfl ?_
  refine sw_iconst X dL_law_1446 ?_
  refine sw_iadd X dL_law_1447 ?_
  refine sw_sld X hSc (by omega) (by omega) dL_law_1448 ?_
  refine sw_aload_n X dL_law_1449 rfl 3 rfl ?_
  refine sw_callHI (wr := mW k ad st tl t x y h) (As := [.ref (q 0), .int (J (sxs xs (i + 1))), .int (J (sxs xs (i + 2))), .ref o]) (rest := []) X (c_L_time l hfl D k N st q L M o f (sxs xs (i + 1)) (sxs xs (i + 2)) hI hC (sxs_rng _ _) (sxs_rng _ _)) (vx_cwSW 4 (sw_ts X) (sw_goodH gw3_141 gw3_142 gw1_0 gw3_143) rfl rfl rfl (by decide +kernel) ⟨Nat.le_of_ble_eq_true rfl, Nat.le_of_ble_eq_true rfl⟩) dL_law_1450 rfl rfl (Nat.le_of_ble_eq_true rfl) ⟨by show cells + 2 ≤ room_1.cells; omega, by show slots + 12 ≤ room_1.slots; omega⟩ (fun z w9 hp => ?_)
  refine sw_istore (lv' := (5, .int (J z)) :: lawB b (q 0) (ad 0) o i) X dL_law_1453 (by decide) rfl ?_
  refine sw_swap ?_
  refine sw_aload_n X dL_law_1455 rfl 3 rfl ?_
  refine sw_aload_n X dL_law_1456 rfl 1 rfl ?_
  refine sw_iload X dL_law_1457 5 rfl ?_
  refine sw_iconst X dL_law_1459 ?_
  refine sw_iadd X dL_law_1460 ?_
  refine sw_sld X hSc (by omega) (by omega) dL_law_1461 ?_
  refine sw_aload_n X dL_law_1462 rfl 1 rfl ?_
  refine sw_iload X dL_law_1463 5 rfl ?_
  refine sw_iconst X dL_law_1465 ?_
  refine sw_iadd X dL_law_1466 ?_
  refine sw_sld X hSc (by omega) (by omega) dL_law_1467 ?_
  refine sw_callVI (wr := w9) (As := [.int (J (sxs xs (i + 1))), .int (J (sxs xs (i + 2)))]) (rest := []) X (c_X6_time l D k N ad st tl t x y h (sxs xs (i + 1)) (sxs xs (i + 2)) hI (sxs_rng _ _) (sxs_rng _ _)) (cwV 2 (sw_ts X) (sw_goodV gw4_211 gw4_212 gw4_213 gw1_3 gw4_214) rfl rfl rfl (by decide +kernel) ⟨Nat.le_of_ble_eq_true rfl, Nat.le_of_ble_eq_true rfl⟩) 0 (ci := 6) rfl rfl rfl dL_law_1468 rfl rfl (Nat.le_of_ble_eq_true rfl) ⟨by show cells + 2 + 0 ≤ room_1.cells; omega, by show slots + 12 + 0 ≤ room_1.slots; omega⟩ (fun z2 w8 hp2 => ?_)
  refine sw_istore (lv' := (6, .int (J z2)) :: (5, .int (J z)) :: lawB b (q 0) (ad 0) o i) X dL_law_1471 (by decide) rfl ?_
  exact law_tailI X (P := 1473) dL_law_1473 dL_law_1474 dL_law_1477 dL_law_1479 dL_law_1484 dL_law_1486 dL_law_1489 dL_law_1490 dL_law_1491 dL_law_1492 dL_law_1494 dL_law_1495 dL_law_1496 dL_law_1501 (by decide) hI hC (rK_kCG _ _ _) (fun _ => I_mono hI (by omega)) rfl hp hp2 ⟨by show cells + 2 + 0 ≤ room_1.cells; omega, by show slots + 12 + 0 ≤ room_1.slots; omega⟩ (by show cells + 2 + 0 ≤ cells + 10; omega) (by show slots + 12 + 0 ≤ slots + 100; omega) KK
set_option maxHeartbeats 4000000 in
set_option maxRecDepth 100000 in
theorem law_t_points (hfl : l.stackTraces = false) (X : sw_C p s m args c cL_law 7 RL WG D k A) {ad : Nat → Nat} {b o n : Nat} {xs : Nat → Int32} {i N : Int} {st : ST} {f : Nat → Int64} {q : Int → Nat} {L : List Nat} {M : MM} {tl : Int → Int} {t x y h : Int} (hSc : SC b n xs s A) (hi : 0 ≤ i ∧ i + 4 ≤ (n : Int)) (hN : 0 ≤ N ∧ N < 512) (hI : I6 N st) (hC : CW st q L M) (hcs : cells + 10 ≤ room_1.cells ∧ slots + 100 ≤ room_1.slots)
    (KK : lawK p l e s m args below meth c D A Q k ad b (q 0) o i N (cells + 10) (slots + 100)) : SW p l e room_1 s m args below meth c 7 D A cells slots Q (lawW k ad st tl t x y h o f L M) 1504 (lawB b (q 0) (ad 0) o i) [] := by
  refine sw_aload_n X dL_law_1504 rfl 1 rfl ?_
  refine sw_aload_n X dL_law_1505 rfl 0 rfl ?_
  refine sw_iload X dL_law_1506 4 rfl ?_
  refine sw_iconst X dL_law_1508 ?_
  refine sw_iadd X dL_law_1509 ?_
  refine sw_sld X hSc (by omega) (by omega) dL_law_1510 ?_
  refine sw_aload_n X dL_law_1511 rfl 3 rfl ?_
  refine sw_callHI (wr := mW k ad st tl t x y h) (As := [.ref (q 0), .int (J (sxs xs (i + 1))), .ref o]) (rest := []) X (c_L_points l hfl D k N st q L M o f (sxs xs (i + 1)) hI hC (sxs_rng _ _) (by omega)) (vx_cwSW 3 (sw_ts X) (sw_goodH gw3_148 gw3_149 gw1_0 gw3_150) rfl rfl rfl (by decide +kernel) ⟨Nat.le_of_ble_eq_true rfl, Nat.le_of_ble_eq_true rfl⟩) dL_law_1512 rfl rfl (Nat.le_of_ble_eq_true rfl) ⟨by show cells + 1 ≤ room_1.cells; omega, by show slots + 6 ≤ room_1.slots; omega⟩ (fun z w9 hp => ?_)
  refine sw_istore (lv' := (5, .int (J z)) :: lawB b (q 0) (ad 0) o i) X dL_law_1515 (by decide) rfl ?_
  refine sw_swap ?_
  refine sw_aload_n X dL_law_1517 rfl 3 rfl ?_
  refine sw_aload_n X dL_law_1518 rfl 1 rfl ?_
  refine sw_iload X dL_law_1519 5 rfl ?_
  refine sw_iconst X dL_law_1521 ?_
  refine sw_iadd X dL_law_1522 ?_
  refine sw_sld X hSc (by omega) (by omega) dL_law_1523 ?_
  refine sw_callVI (wr := w9) (As := [.int (J (sxs xs (i + 1)))]) (rest := []) X (c_X6_points l D k N ad st tl t x y h (sxs xs (i + 1)) hI (sxs_rng _ _)) (cwV 1 (sw_ts X) (sw_goodV gw4_215 gw4_216 gw4_217 gw1_3 gw4_218) rfl rfl rfl (by decide +kernel) ⟨Nat.le_of_ble_eq_true rfl, Nat.le_of_ble_eq_true rfl⟩) 0 (ci := 6) rfl rfl rfl dL_law_1524 rfl rfl (Nat.le_of_ble_eq_true rfl) ⟨by show cells + 1 + 0 ≤ room_1.cells; omega, by show slots + 6 + 0 ≤ room_1.slots; omega⟩ (fun z2 w8 hp2 => ?_)
  refine sw_istore (lv' := (6, .int (J z2)) :: (5, .int (J z)) :: lawB b (q 0) (ad 0) o i) X dL_law_1527 (by decide) rfl ?_
  exact law_tailI X (P := 1529) dL_law_1529 dL_law_1530 dL_law_1533 dL_law_1535 dL_law_1540 dL_law_1542 dL_law_1545 dL_law_1546 dL_law_1547 dL_law_1548 dL_law_1550 dL_law_1551 dL_law_1552 dL_law_1557 (by decide) hI hC (rK_kCar _ _) (fun _ => I_mono hI (by omega)) rfl hp hp2 ⟨by show cells + 1 + 0 ≤ room_1.cells; omega, by show slots + 6 + 0 ≤ room_1.slots; omega⟩ (by show cells + 1 + 0 ≤ cells + 10; omega) (by show slots + 6 + 0 ≤ slots + 100; omega) KK
set_option maxHeartbeats 4000000 in
set_option maxRecDepth 100000 in
theorem law_t_table (hfl : l.stackTraces = false) (X : sw_C p s m args c cL_law 7 RL WG D k A) {ad : Nat → Nat} {b o n : Nat} {xs : Nat → Int32} {i N : Int} {st : ST} {f : Nat → Int64} {q : Int → Nat} {L : List Nat} {M : MM} {tl : Int → Int} {t x y h : Int} (hSc : SC b n xs s A) (hi : 0 ≤ i ∧ i + 4 ≤ (n : Int)) (hN : 0 ≤ N ∧ N < 512) (hI : I6 N st) (hC : CW st q L M) (hcs : cells + 10 ≤ room_1.cells ∧ slots + 100 ≤ room_1.slots)
    (KK : lawK p l e s m args below meth c D A Q k ad b (q 0) o i N (cells + 10) (slots + 100)) : SW p l e room_1 s m args below meth c 7 D A cells slots Q (lawW k ad st tl t x y h o f L M) 1560 (lawB b (q 0) (ad 0) o i) [] := by
  refine sw_aload_n X dL_law_1560 rfl 1 rfl ?_
  refine sw_aload_n X dL_law_1561 rfl 0 rfl ?_
  refine sw_iload X dL_law_1562 4 rfl ?_
  refine sw_iconst X dL_law_1564 ?_
  refine sw_iadd X dL_law_1565 ?_
  refine sw_sld X hSc (by omega) (by omega) dL_law_1566 ?_
  refine sw_aload_n X dL_law_1567 rfl 3 rfl ?_
  refine sw_callHI (wr := mW k ad st tl t x y h) (As := [.ref (q 0), .int (J (sxs xs (i + 1))), .ref o]) (rest := []) X (c_L_table l hfl D k N st q L M o f (sxs xs (i + 1)) hI hC (sxs_rng _ _) (by omega)) (vx_cwSW 3 (sw_ts X) (sw_goodH gw3_166 gw3_167 gw1_0 gw3_168) rfl rfl rfl (by decide +kernel) ⟨Nat.le_of_ble_eq_true rfl, Nat.le_of_ble_eq_true rfl⟩) dL_law_1568 rfl rfl (Nat.le_of_ble_eq_true rfl) ⟨by show cells + 1 ≤ room_1.cells; omega, by show slots + 6 ≤ room_1.slots; omega⟩ (fun z w9 hp => ?_)
  refine sw_istore (lv' := (5, .int (J z)) :: lawB b (q 0) (ad 0) o i) X dL_law_1571 (by decide) rfl ?_
  refine sw_swap ?_
  refine sw_aload_n X dL_law_1573 rfl 3 rfl ?_
  refine sw_aload_n X dL_law_1574 rfl 1 rfl ?_
  refine sw_iload X dL_law_1575 5 rfl ?_
  refine sw_iconst X dL_law_1577 ?_
  refine sw_iadd X dL_law_1578 ?_
  refine sw_sld X hSc (by omega) (by omega) dL_law_1579 ?_
  refine sw_callVI (wr := w9) (As := [.int (J (sxs xs (i + 1)))]) (rest := []) X (c_X6_table l D k N ad st tl t x y h (sxs xs (i + 1)) (by omega) hI (sxs_rng _ _)) (cwV 1 (sw_ts X) (sw_goodV gw4_223 gw4_224 gw4_225 gw1_3 gw4_226) rfl rfl rfl (by decide +kernel) ⟨Nat.le_of_ble_eq_true rfl, Nat.le_of_ble_eq_true rfl⟩) 0 (ci := 6) rfl rfl rfl dL_law_1580 rfl rfl (Nat.le_of_ble_eq_true rfl) ⟨by show cells + 1 + 0 ≤ room_1.cells; omega, by show slots + 6 + 0 ≤ room_1.slots; omega⟩ (fun z2 w8 hp2 => ?_)
  refine sw_istore (lv' := (6, .int (J z2)) :: (5, .int (J z)) :: lawB b (q 0) (ad 0) o i) X dL_law_1583 (by decide) rfl ?_
  exact law_tailI X (P := 1585) dL_law_1585 dL_law_1586 dL_law_1589 dL_law_1591 dL_law_1596 dL_law_1598 dL_law_1601 dL_law_1602 dL_law_1603 dL_law_1604 dL_law_1606 dL_law_1607 dL_law_1608 dL_law_1613 (by decide) hI hC (rK_kTab _ _) (fun _ => I_mono hI (by omega)) rfl hp hp2 ⟨by show cells + 1 + 0 ≤ room_1.cells; omega, by show slots + 6 + 0 ≤ room_1.slots; omega⟩ (by show cells + 1 + 0 ≤ cells + 10; omega) (by show slots + 6 + 0 ≤ slots + 100; omega) KK
set_option maxHeartbeats 4000000 in
set_option maxRecDepth 100000 in
theorem law_t_where (hfl : l.stackTraces = false) (X : sw_C p s m args c cL_law 7 RL WG D k A) {ad : Nat → Nat} {b o n : Nat} {xs : Nat → Int32} {i N : Int} {st : ST} {f : Nat → Int64} {q : Int → Nat} {L : List Nat} {M : MM} {tl : Int → Int} {t x y h : Int} (hSc : SC b n xs s A) (hi : 0 ≤ i ∧ i + 4 ≤ (n : Int)) (hN : 0 ≤ N ∧ N < 512) (hI : I6 N st) (hC : CW st q L M) (hcs : cells + 10 ≤ room_1.cells ∧ slots + 100 ≤ room_1.slots)
    (KK : lawK p l e s m args below meth c D A Q k ad b (q 0) o i N (cells + 10) (slots + 100)) : SW p l e room_1 s m args below meth c 7 D A cells slots Q (lawW k ad st tl t x y h o f L M) 1616 (lawB b (q 0) (ad 0) o i) [] := by
  refine sw_aload_n X dL_law_1616 rfl 1 rfl ?_
  refine sw_aload_n X dL_law_1617 rfl 0 rfl ?_
  refine sw_iload X dL_law_1618 4 rfl ?_
  refine sw_iconst X dL_law_1620 ?_
  refine sw_iadd X dL_law_1621 ?_
  refine sw_sld X hSc (by omega) (by omega) dL_law_1622 ?_
  refine sw_aload_n X dL_law_1623 rfl 3 rfl ?_
  refine sw_callHI (wr := mW k ad st tl t x y h) (As := [.ref (q 0), .int (J (sxs xs (i + 1))), .ref o]) (rest := []) X (c_L_where l hfl D k N st q L M o f (sxs xs (i + 1)) hI hC (sxs_rng _ _)) (vx_cwSW 3 (sw_ts X) (sw_goodH gw3_177 gw3_178 gw1_0 gw3_179) rfl rfl rfl (by decide +kernel) ⟨Nat.le_of_ble_eq_true rfl, Nat.le_of_ble_eq_true rfl⟩) dL_law_1624 rfl rfl (Nat.le_of_ble_eq_true rfl) ⟨by show cells + 1 ≤ room_1.cells; omega, by show slots + 6 ≤ room_1.slots; omega⟩ (fun z w9 hp => ?_)
  refine sw_istore (lv' := (5, .int (J z)) :: lawB b (q 0) (ad 0) o i) X dL_law_1627 (by decide) rfl ?_
  refine sw_swap ?_
  refine sw_aload_n X dL_law_1629 rfl 3 rfl ?_
  refine sw_aload_n X dL_law_1630 rfl 1 rfl ?_
  refine sw_iload X dL_law_1631 5 rfl ?_
  refine sw_iconst X dL_law_1633 ?_
  refine sw_iadd X dL_law_1634 ?_
  refine sw_sld X hSc (by omega) (by omega) dL_law_1635 ?_
  refine sw_callVI (wr := w9) (As := [.int (J (sxs xs (i + 1)))]) (rest := []) X (c_X6_where l D k N ad st tl t x y h (sxs xs (i + 1)) hI (sxs_rng _ _)) (cwV 1 (sw_ts X) (sw_goodV gw4_227 gw4_228 gw4_229 gw1_3 gw4_230) rfl rfl rfl (by decide +kernel) ⟨Nat.le_of_ble_eq_true rfl, Nat.le_of_ble_eq_true rfl⟩) 0 (ci := 6) rfl rfl rfl dL_law_1636 rfl rfl (Nat.le_of_ble_eq_true rfl) ⟨by show cells + 1 + 0 ≤ room_1.cells; omega, by show slots + 6 + 0 ≤ room_1.slots; omega⟩ (fun z2 w8 hp2 => ?_)
  refine sw_istore (lv' := (6, .int (J z2)) :: (5, .int (J z)) :: lawB b (q 0) (ad 0) o i) X dL_law_1639 (by decide) rfl ?_
  exact law_tailI X (P := 1641) dL_law_1641 dL_law_1642 dL_law_1645 dL_law_1647 dL_law_1652 dL_law_1654 dL_law_1657 dL_law_1658 dL_law_1659 dL_law_1660 dL_law_1662 dL_law_1663 dL_law_1664 dL_law_1669 (by decide) hI hC (rK_kPart _ _) (fun _ => I_mono hI (by omega)) rfl hp hp2 ⟨by show cells + 1 + 0 ≤ room_1.cells; omega, by show slots + 6 + 0 ≤ room_1.slots; omega⟩ (by show cells + 1 + 0 ≤ cells + 10; omega) (by show slots + 6 + 0 ≤ slots + 100; omega) KK
set_option maxHeartbeats 4000000 in
set_option maxRecDepth 100000 in
theorem law_t_lent (hfl : l.stackTraces = false) (X : sw_C p s m args c cL_law 7 RL WG D k A) {ad : Nat → Nat} {b o n : Nat} {xs : Nat → Int32} {i N : Int} {st : ST} {f : Nat → Int64} {q : Int → Nat} {L : List Nat} {M : MM} {tl : Int → Int} {t x y h : Int} (hSc : SC b n xs s A) (hi : 0 ≤ i ∧ i + 4 ≤ (n : Int)) (hN : 0 ≤ N ∧ N < 512) (hI : I6 N st) (hC : CW st q L M) (hcs : cells + 10 ≤ room_1.cells ∧ slots + 100 ≤ room_1.slots)
    (KK : lawK p l e s m args below meth c D A Q k ad b (q 0) o i N (cells + 10) (slots + 100)) : SW p l e room_1 s m args below meth c 7 D A cells slots Q (lawW k ad st tl t x y h o f L M) 1672 (lawB b (q 0) (ad 0) o i) [] := by
  refine sw_aload_n X dL_law_1672 rfl 1 rfl ?_
  refine sw_aload_n X dL_law_1673 rfl 0 rfl ?_
  refine sw_iload X dL_law_1674 4 rfl ?_
  refine sw_iconst X dL_law_1676 ?_
  refine sw_iadd X dL_law_1677 ?_
  refine sw_sld X hSc (by omega) (by omega) dL_law_1678 ?_
  refine sw_aload_n X dL_law_1679 rfl 3 rfl ?_
  refine sw_callHI (wr := mW k ad st tl t x y h) (As := [.ref (q 0), .int (J (sxs xs (i + 1))), .ref o]) (rest := []) X (c_L_lent l hfl D k N st q L M o f (sxs xs (i + 1)) hI hC (sxs_rng _ _)) (vx_cwSW 3 (sw_ts X) (sw_goodH gw3_184 gw3_185 gw1_0 gw3_186) rfl rfl rfl (by decide +kernel) ⟨Nat.le_of_ble_eq_true rfl, Nat.le_of_ble_eq_true rfl⟩) dL_law_1680 rfl rfl (Nat.le_of_ble_eq_true rfl) ⟨by show cells + 1 ≤ room_1.cells; omega, by show slots + 6 ≤ room_1.slots; omega⟩ (fun z w9 hp => ?_)
  refine sw_istore (lv' := (5, .int (J z)) :: lawB b (q 0) (ad 0) o i) X dL_law_1683 (by decide) rfl ?_
  refine sw_swap ?_
  refine sw_aload_n X dL_law_1685 rfl 3 rfl ?_
  refine sw_aload_n X dL_law_1686 rfl 1 rfl ?_
  refine sw_iload X dL_law_1687 5 rfl ?_
  refine sw_iconst X dL_law_1689 ?_
  refine sw_iadd X dL_law_1690 ?_
  refine sw_sld X hSc (by omega) (by omega) dL_law_1691 ?_
  refine sw_callVI (wr := w9) (As := [.int (J (sxs xs (i + 1)))]) (rest := []) X (c_X6_lent l D k N ad st tl t x y h (sxs xs (i + 1)) hI (sxs_rng _ _)) (cwV 1 (sw_ts X) (sw_goodV gw4_235 gw4_236 gw4_237 gw1_3 gw4_238) rfl rfl rfl (by decide +kernel) ⟨Nat.le_of_ble_eq_true rfl, Nat.le_of_ble_eq_true rfl⟩) 0 (ci := 6) rfl rfl rfl dL_law_1692 rfl rfl (Nat.le_of_ble_eq_true rfl) ⟨by show cells + 1 + 0 ≤ room_1.cells; omega, by show slots + 6 + 0 ≤ room_1.slots; omega⟩ (fun z2 w8 hp2 => ?_)
  refine sw_istore (lv' := (6, .int (J z2)) :: (5, .int (J z)) :: lawB b (q 0) (ad 0) o i) X dL_law_1695 (by decide) rfl ?_
  exact law_tailI X (P := 1697) dL_law_1697 dL_law_1698 dL_law_1701 dL_law_1703 dL_law_1708 dL_law_1710 dL_law_1713 dL_law_1714 dL_law_1715 dL_law_1716 dL_law_1718 dL_law_1719 dL_law_1720 dL_law_1725 (by decide) hI hC (rK_kCar _ _) (fun _ => I_mono hI (by omega)) rfl hp hp2 ⟨by show cells + 1 + 0 ≤ room_1.cells; omega, by show slots + 6 + 0 ≤ room_1.slots; omega⟩ (by show cells + 1 + 0 ≤ cells + 10; omega) (by show slots + 6 + 0 ≤ slots + 100; omega) KK
set_option maxHeartbeats 4000000 in
set_option maxRecDepth 100000 in
theorem law_t_isBroken (hfl : l.stackTraces = false) (X : sw_C p s m args c cL_law 7 RL WG D k A) {ad : Nat → Nat} {b o n : Nat} {xs : Nat → Int32} {i N : Int} {st : ST} {f : Nat → Int64} {q : Int → Nat} {L : List Nat} {M : MM} {tl : Int → Int} {t x y h : Int} (hSc : SC b n xs s A) (hi : 0 ≤ i ∧ i + 4 ≤ (n : Int)) (hN : 0 ≤ N ∧ N < 512) (hI : I6 N st) (hC : CW st q L M) (hcs : cells + 10 ≤ room_1.cells ∧ slots + 100 ≤ room_1.slots)
    (KK : lawK p l e s m args below meth c D A Q k ad b (q 0) o i N (cells + 10) (slots + 100)) : SW p l e room_1 s m args below meth c 7 D A cells slots Q (lawW k ad st tl t x y h o f L M) 1728 (lawB b (q 0) (ad 0) o i) [] := by
  refine sw_aload_n X dL_law_1728 rfl 1 rfl ?_
  refine sw_aload_n X dL_law_1729 rfl 0 rfl ?_
  refine sw_iload X dL_law_1730 4 rfl ?_
  refine sw_iconst X dL_law_1732 ?_
  refine sw_iadd X dL_law_1733 ?_
  refine sw_sld X hSc (by omega) (by omega) dL_law_1734 ?_
  refine sw_aload_n X dL_law_1735 rfl 3 rfl ?_
  refine sw_callHI (wr := mW k ad st tl t x y h) (As := [.ref (q 0), .int (J (sxs xs (i + 1))), .ref o]) (rest := []) X (c_L_isBroken l hfl D k N st q L M o f (sxs xs (i + 1)) hI hC (sxs_rng _ _)) (vx_cwSW 3 (sw_ts X) (sw_goodH gw3_195 gw3_196 gw1_0 gw3_197) rfl rfl rfl (by decide +kernel) ⟨Nat.le_of_ble_eq_true rfl, Nat.le_of_ble_eq_true rfl⟩) dL_law_1736 rfl rfl (Nat.le_of_ble_eq_true rfl) ⟨by show cells + 1 ≤ room_1.cells; omega, by show slots + 6 ≤ room_1.slots; omega⟩ (fun z w9 hp => ?_)
  refine sw_istore (lv' := (5, .int (J z)) :: lawB b (q 0) (ad 0) o i) X dL_law_1739 (by decide) rfl ?_
  refine sw_swap ?_
  refine sw_aload_n X dL_law_1741 rfl 3 rfl ?_
  refine sw_aload_n X dL_law_1742 rfl 1 rfl ?_
  refine sw_iload X dL_law_1743 5 rfl ?_
  refine sw_iconst X dL_law_1745 ?_
  refine sw_iadd X dL_law_1746 ?_
  refine sw_sld X hSc (by omega) (by omega) dL_law_1747 ?_
  refine sw_callVI (wr := w9) (As := [.int (J (sxs xs (i + 1)))]) (rest := []) X (c_X6_isBroken l D k N ad st tl t x y h (sxs xs (i + 1)) hI (sxs_rng _ _)) (cwV 1 (sw_ts X) (sw_goodV gw4_239 gw5_0 gw5_1 gw1_3 gw5_2) rfl rfl rfl (by decide +kernel) ⟨Nat.le_of_ble_eq_true rfl, Nat.le_of_ble_eq_true rfl⟩) 0 (ci := 6) rfl rfl rfl dL_law_1748 rfl rfl (Nat.le_of_ble_eq_true rfl) ⟨by show cells + 1 + 0 ≤ room_1.cells; omega, by show slots + 6 + 0 ≤ room_1.slots; omega⟩ (fun z2 w8 hp2 => ?_)
  refine sw_istore (lv' := (6, .int (J z2)) :: (5, .int (J z)) :: lawB b (q 0) (ad 0) o i) X dL_law_1751 (by decide) rfl ?_
  exact law_tailZ X (P := 1753) dL_law_1753 dL_law_1754 dL_law_1757 dL_law_1759 dL_law_1764 dL_law_1766 dL_law_1769 dL_law_1770 dL_law_1771 dL_law_1772 dL_law_1774 dL_law_1777 dL_law_1778 dL_law_1781 dL_law_1782 dL_law_1783 dL_law_1788 (by decide) hI hC (rK_kCar _ _) (fun _ => I_mono hI (by omega)) rfl (rV_vBroken _ _) hp hp2 ⟨by show cells + 1 + 0 ≤ room_1.cells; omega, by show slots + 6 + 0 ≤ room_1.slots; omega⟩ (by show cells + 1 + 0 ≤ cells + 10; omega) (by show slots + 6 + 0 ≤ slots + 100; omega) KK
end LC
