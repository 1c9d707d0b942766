section
-- ===== PART A: goes FIRST, ahead of the names: the tables' words, and 'selects' of the private methods out of them =====
/-- a private method of a class that the tables say can be made, by its rows of tables_1 -/
def lw_okq (q : MethodName × Nat) : Prop := (q.1.cls ≠ "java/lang/invoke/MethodHandle" ∧ q.1.cls ≠ "java/lang/invoke/VarHandle") ∧ Cond.instantiable q.1.cls q.2 ∈ tables_1 ∧ Cond.privateMethod q.1 ∈ tables_1 ∧ Cond.instanceMethod q.1 ∈ tables_1
theorem lw_p0 : lw_okq (⟨"java/lang/Throwable", "fillInStackTrace", "(I)Ljava/lang/Throwable;"⟩, 6) := ⟨⟨by decide +kernel, by decide +kernel⟩, List.mem_of_getElem? (i := 148) (by decide +kernel), List.mem_of_getElem? (i := 146) (by decide +kernel), List.mem_of_getElem? (i := 147) (by decide +kernel)⟩
theorem lw_p1 : lw_okq (⟨"OriginRally$Way", "append", "(LOriginRally$Piece;)V"⟩, 5) := ⟨⟨by decide +kernel, by decide +kernel⟩, List.mem_of_getElem? (i := 25) (by decide +kernel), List.mem_of_getElem? (i := 253) (by decide +kernel), List.mem_of_getElem? (i := 254) (by decide +kernel)⟩
theorem lw_p2 : lw_okq (⟨"OriginRally", "entryAt", "(I)LOriginRally$Piece;"⟩, 10) := ⟨⟨by decide +kernel, by decide +kernel⟩, List.mem_of_getElem? (i := 17) (by decide +kernel), List.mem_of_getElem? (i := 280) (by decide +kernel), List.mem_of_getElem? (i := 281) (by decide +kernel)⟩
theorem lw_p3 : lw_okq (⟨"OriginRally", "lastGateEntry", "()I"⟩, 10) := ⟨⟨by decide +kernel, by decide +kernel⟩, List.mem_of_getElem? (i := 17) (by decide +kernel), List.mem_of_getElem? (i := 304) (by decide +kernel), List.mem_of_getElem? (i := 305) (by decide +kernel)⟩
theorem lw_p4 : lw_okq (⟨"OriginRally", "gateAt", "(I)LOriginRally$Gate;"⟩, 10) := ⟨⟨by decide +kernel, by decide +kernel⟩, List.mem_of_getElem? (i := 17) (by decide +kernel), List.mem_of_getElem? (i := 308) (by decide +kernel), List.mem_of_getElem? (i := 309) (by decide +kernel)⟩
theorem lw_p5 : lw_okq (⟨"OriginRally", "carAt", "(I)LOriginRally$Car;"⟩, 10) := ⟨⟨by decide +kernel, by decide +kernel⟩, List.mem_of_getElem? (i := 17) (by decide +kernel), List.mem_of_getElem? (i := 377) (by decide +kernel), List.mem_of_getElem? (i := 378) (by decide +kernel)⟩
theorem lw_p6 : lw_okq (⟨"OriginRally", "isCar", "(I)Z"⟩, 10) := ⟨⟨by decide +kernel, by decide +kernel⟩, List.mem_of_getElem? (i := 17) (by decide +kernel), List.mem_of_getElem? (i := 381) (by decide +kernel), List.mem_of_getElem? (i := 382) (by decide +kernel)⟩
theorem lw_p7 : lw_okq (⟨"OriginRally", "firstPartIn", "(II)I"⟩, 10) := ⟨⟨by decide +kernel, by decide +kernel⟩, List.mem_of_getElem? (i := 17) (by decide +kernel), List.mem_of_getElem? (i := 420) (by decide +kernel), List.mem_of_getElem? (i := 421) (by decide +kernel)⟩
theorem lw_p8 : lw_okq (⟨"OriginRally", "partAt", "(I)LOriginRally$Part;"⟩, 10) := ⟨⟨by decide +kernel, by decide +kernel⟩, List.mem_of_getElem? (i := 17) (by decide +kernel), List.mem_of_getElem? (i := 424) (by decide +kernel), List.mem_of_getElem? (i := 425) (by decide +kernel)⟩
theorem lw_p9 : lw_okq (⟨"OriginRally", "isPlace", "(I)Z"⟩, 10) := ⟨⟨by decide +kernel, by decide +kernel⟩, List.mem_of_getElem? (i := 17) (by decide +kernel), List.mem_of_getElem? (i := 456) (by decide +kernel), List.mem_of_getElem? (i := 457) (by decide +kernel)⟩
theorem lw_p10 : lw_okq (⟨"OriginRally", "cellOfPlace", "(I)I"⟩, 10) := ⟨⟨by decide +kernel, by decide +kernel⟩, List.mem_of_getElem? (i := 17) (by decide +kernel), List.mem_of_getElem? (i := 487) (by decide +kernel), List.mem_of_getElem? (i := 488) (by decide +kernel)⟩
theorem lw_p11 : lw_okq (⟨"OriginRally", "checkGate", "(I)V"⟩, 10) := ⟨⟨by decide +kernel, by decide +kernel⟩, List.mem_of_getElem? (i := 17) (by decide +kernel), List.mem_of_getElem? (i := 498) (by decide +kernel), List.mem_of_getElem? (i := 499) (by decide +kernel)⟩
theorem lw_p12 : lw_okq (⟨"OriginRally", "passMinute", "(LOriginRally$Car;I)I"⟩, 10) := ⟨⟨by decide +kernel, by decide +kernel⟩, List.mem_of_getElem? (i := 17) (by decide +kernel), List.mem_of_getElem? (i := 502) (by decide +kernel), List.mem_of_getElem? (i := 503) (by decide +kernel)⟩
theorem lw_p13 : lw_okq (⟨"OriginRally$Piece", "cellsOnTo", "(I)I"⟩, 6) := ⟨⟨by decide +kernel, by decide +kernel⟩, List.mem_of_getElem? (i := 224) (by decide +kernel), List.mem_of_getElem? (i := 519) (by decide +kernel), List.mem_of_getElem? (i := 520) (by decide +kernel)⟩
theorem lw_p14 : lw_okq (⟨"OriginRally$Way", "endsAhead", "(II)Z"⟩, 5) := ⟨⟨by decide +kernel, by decide +kernel⟩, List.mem_of_getElem? (i := 25) (by decide +kernel), List.mem_of_getElem? (i := 586) (by decide +kernel), List.mem_of_getElem? (i := 587) (by decide +kernel)⟩
theorem lw_p15 : lw_okq (⟨"OriginRally", "pointsOf", "(LOriginRally$Car;)I"⟩, 10) := ⟨⟨by decide +kernel, by decide +kernel⟩, List.mem_of_getElem? (i := 17) (by decide +kernel), List.mem_of_getElem? (i := 636) (by decide +kernel), List.mem_of_getElem? (i := 637) (by decide +kernel)⟩
def lw_privs_1 : List (MethodName × Nat) := [(⟨"java/lang/Throwable", "fillInStackTrace", "(I)Ljava/lang/Throwable;"⟩, 6), (⟨"OriginRally$Way", "append", "(LOriginRally$Piece;)V"⟩, 5), (⟨"OriginRally", "entryAt", "(I)LOriginRally$Piece;"⟩, 10), (⟨"OriginRally", "lastGateEntry", "()I"⟩, 10), (⟨"OriginRally", "gateAt", "(I)LOriginRally$Gate;"⟩, 10), (⟨"OriginRally", "carAt", "(I)LOriginRally$Car;"⟩, 10), (⟨"OriginRally", "isCar", "(I)Z"⟩, 10), (⟨"OriginRally", "firstPartIn", "(II)I"⟩, 10), (⟨"OriginRally", "partAt", "(I)LOriginRally$Part;"⟩, 10), (⟨"OriginRally", "isPlace", "(I)Z"⟩, 10), (⟨"OriginRally", "cellOfPlace", "(I)I"⟩, 10), (⟨"OriginRally", "checkGate", "(I)V"⟩, 10), (⟨"OriginRally", "passMinute", "(LOriginRally$Car;I)I"⟩, 10), (⟨"OriginRally$Piece", "cellsOnTo", "(I)I"⟩, 6), (⟨"OriginRally$Way", "endsAhead", "(II)Z"⟩, 5), (⟨"OriginRally", "pointsOf", "(LOriginRally$Car;)I"⟩, 10)]
theorem lw_r1 : ∀ q ∈ lw_privs_1, lw_okq q := List.forall_mem_cons.mpr ⟨lw_p0, List.forall_mem_cons.mpr ⟨lw_p1, List.forall_mem_cons.mpr ⟨lw_p2, List.forall_mem_cons.mpr ⟨lw_p3, List.forall_mem_cons.mpr ⟨lw_p4, List.forall_mem_cons.mpr ⟨lw_p5, List.forall_mem_cons.mpr ⟨lw_p6, List.forall_mem_cons.mpr ⟨lw_p7, List.forall_mem_cons.mpr ⟨lw_p8, List.forall_mem_cons.mpr ⟨lw_p9, List.forall_mem_cons.mpr ⟨lw_p10, List.forall_mem_cons.mpr ⟨lw_p11, List.forall_mem_cons.mpr ⟨lw_p12, List.forall_mem_cons.mpr ⟨lw_p13, List.forall_mem_cons.mpr ⟨lw_p14, List.forall_mem_cons.mpr ⟨lw_p15, fun _ h => absurd h List.not_mem_nil⟩⟩⟩⟩⟩⟩⟩⟩⟩⟩⟩⟩⟩⟩⟩⟩
theorem lw_p16 : lw_okq (⟨"OriginRally", "placeOf", "(I)I"⟩, 10) := ⟨⟨by decide +kernel, by decide +kernel⟩, List.mem_of_getElem? (i := 17) (by decide +kernel), List.mem_of_getElem? (i := 654) (by decide +kernel), List.mem_of_getElem? (i := 655) (by decide +kernel)⟩
theorem lw_p17 : lw_okq (⟨"OriginRallyModel", "goesWell", "(I)Z"⟩, 26) := ⟨⟨by decide +kernel, by decide +kernel⟩, List.mem_of_getElem? (i := 683) (by decide +kernel), List.mem_of_getElem? (i := 779) (by decide +kernel), List.mem_of_getElem? (i := 780) (by decide +kernel)⟩
theorem lw_p18 : lw_okq (⟨"OriginRallyModel", "followBook", "(I)V"⟩, 26) := ⟨⟨by decide +kernel, by decide +kernel⟩, List.mem_of_getElem? (i := 683) (by decide +kernel), List.mem_of_getElem? (i := 787) (by decide +kernel), List.mem_of_getElem? (i := 788) (by decide +kernel)⟩
theorem lw_p19 : lw_okq (⟨"OriginRallyModel", "begin", "()V"⟩, 26) := ⟨⟨by decide +kernel, by decide +kernel⟩, List.mem_of_getElem? (i := 683) (by decide +kernel), List.mem_of_getElem? (i := 791) (by decide +kernel), List.mem_of_getElem? (i := 792) (by decide +kernel)⟩
theorem lw_p20 : lw_okq (⟨"OriginRallyModel", "goOn", "(I)V"⟩, 26) := ⟨⟨by decide +kernel, by decide +kernel⟩, List.mem_of_getElem? (i := 683) (by decide +kernel), List.mem_of_getElem? (i := 795) (by decide +kernel), List.mem_of_getElem? (i := 796) (by decide +kernel)⟩
theorem lw_p21 : lw_okq (⟨"OriginRallyModel", "isOnGround", "()Z"⟩, 26) := ⟨⟨by decide +kernel, by decide +kernel⟩, List.mem_of_getElem? (i := 683) (by decide +kernel), List.mem_of_getElem? (i := 799) (by decide +kernel), List.mem_of_getElem? (i := 800) (by decide +kernel)⟩
theorem lw_p22 : lw_okq (⟨"OriginRallyModel", "cell", "()I"⟩, 26) := ⟨⟨by decide +kernel, by decide +kernel⟩, List.mem_of_getElem? (i := 683) (by decide +kernel), List.mem_of_getElem? (i := 803) (by decide +kernel), List.mem_of_getElem? (i := 804) (by decide +kernel)⟩
theorem lw_p23 : lw_okq (⟨"OriginRallyModel", "isCar", "(I)Z"⟩, 26) := ⟨⟨by decide +kernel, by decide +kernel⟩, List.mem_of_getElem? (i := 683) (by decide +kernel), List.mem_of_getElem? (i := 823) (by decide +kernel), List.mem_of_getElem? (i := 824) (by decide +kernel)⟩
theorem lw_p24 : lw_okq (⟨"OriginRallyModel", "clockOf", "(I)I"⟩, 26) := ⟨⟨by decide +kernel, by decide +kernel⟩, List.mem_of_getElem? (i := 683) (by decide +kernel), List.mem_of_getElem? (i := 827) (by decide +kernel), List.mem_of_getElem? (i := 828) (by decide +kernel)⟩
theorem lw_p25 : lw_okq (⟨"OriginRallyModel", "followTrack", "(II)V"⟩, 26) := ⟨⟨by decide +kernel, by decide +kernel⟩, List.mem_of_getElem? (i := 683) (by decide +kernel), List.mem_of_getElem? (i := 831) (by decide +kernel), List.mem_of_getElem? (i := 832) (by decide +kernel)⟩
theorem lw_p26 : lw_okq (⟨"OriginRallyModel", "addPiece", "(IIII)I"⟩, 26) := ⟨⟨by decide +kernel, by decide +kernel⟩, List.mem_of_getElem? (i := 683) (by decide +kernel), List.mem_of_getElem? (i := 835) (by decide +kernel), List.mem_of_getElem? (i := 836) (by decide +kernel)⟩
theorem lw_p27 : lw_okq (⟨"OriginRallyModel", "cellOfPlace", "(I)I"⟩, 26) := ⟨⟨by decide +kernel, by decide +kernel⟩, List.mem_of_getElem? (i := 683) (by decide +kernel), List.mem_of_getElem? (i := 859) (by decide +kernel), List.mem_of_getElem? (i := 860) (by decide +kernel)⟩
theorem lw_p28 : lw_okq (⟨"OriginRallyModel", "cellNow", "(I)I"⟩, 26) := ⟨⟨by decide +kernel, by decide +kernel⟩, List.mem_of_getElem? (i := 683) (by decide +kernel), List.mem_of_getElem? (i := 863) (by decide +kernel), List.mem_of_getElem? (i := 864) (by decide +kernel)⟩
theorem lw_p29 : lw_okq (⟨"OriginRallyModel", "isGate", "(I)Z"⟩, 26) := ⟨⟨by decide +kernel, by decide +kernel⟩, List.mem_of_getElem? (i := 683) (by decide +kernel), List.mem_of_getElem? (i := 871) (by decide +kernel), List.mem_of_getElem? (i := 872) (by decide +kernel)⟩
theorem lw_p30 : lw_okq (⟨"OriginRallyModel", "timeOf", "(II)I"⟩, 26) := ⟨⟨by decide +kernel, by decide +kernel⟩, List.mem_of_getElem? (i := 683) (by decide +kernel), List.mem_of_getElem? (i := 875) (by decide +kernel), List.mem_of_getElem? (i := 876) (by decide +kernel)⟩
theorem lw_p31 : lw_okq (⟨"OriginRallyModel", "passedAt", "(II)I"⟩, 26) := ⟨⟨by decide +kernel, by decide +kernel⟩, List.mem_of_getElem? (i := 683) (by decide +kernel), List.mem_of_getElem? (i := 879) (by decide +kernel), List.mem_of_getElem? (i := 880) (by decide +kernel)⟩
def lw_privs_2 : List (MethodName × Nat) := [(⟨"OriginRally", "placeOf", "(I)I"⟩, 10), (⟨"OriginRallyModel", "goesWell", "(I)Z"⟩, 26), (⟨"OriginRallyModel", "followBook", "(I)V"⟩, 26), (⟨"OriginRallyModel", "begin", "()V"⟩, 26), (⟨"OriginRallyModel", "goOn", "(I)V"⟩, 26), (⟨"OriginRallyModel", "isOnGround", "()Z"⟩, 26), (⟨"OriginRallyModel", "cell", "()I"⟩, 26), (⟨"OriginRallyModel", "isCar", "(I)Z"⟩, 26), (⟨"OriginRallyModel", "clockOf", "(I)I"⟩, 26), (⟨"OriginRallyModel", "followTrack", "(II)V"⟩, 26), (⟨"OriginRallyModel", "addPiece", "(IIII)I"⟩, 26), (⟨"OriginRallyModel", "cellOfPlace", "(I)I"⟩, 26), (⟨"OriginRallyModel", "cellNow", "(I)I"⟩, 26), (⟨"OriginRallyModel", "isGate", "(I)Z"⟩, 26), (⟨"OriginRallyModel", "timeOf", "(II)I"⟩, 26), (⟨"OriginRallyModel", "passedAt", "(II)I"⟩, 26)]
theorem lw_r2 : ∀ q ∈ lw_privs_2, lw_okq q := List.forall_mem_cons.mpr ⟨lw_p16, List.forall_mem_cons.mpr ⟨lw_p17, List.forall_mem_cons.mpr ⟨lw_p18, List.forall_mem_cons.mpr ⟨lw_p19, List.forall_mem_cons.mpr ⟨lw_p20, List.forall_mem_cons.mpr ⟨lw_p21, List.forall_mem_cons.mpr ⟨lw_p22, List.forall_mem_cons.mpr ⟨lw_p23, List.forall_mem_cons.mpr ⟨lw_p24, List.forall_mem_cons.mpr ⟨lw_p25, List.forall_mem_cons.mpr ⟨lw_p26, List.forall_mem_cons.mpr ⟨lw_p27, List.forall_mem_cons.mpr ⟨lw_p28, List.forall_mem_cons.mpr ⟨lw_p29, List.forall_mem_cons.mpr ⟨lw_p30, List.forall_mem_cons.mpr ⟨lw_p31, fun _ h => absurd h List.not_mem_nil⟩⟩⟩⟩⟩⟩⟩⟩⟩⟩⟩⟩⟩⟩⟩⟩
theorem lw_p32 : lw_okq (⟨"OriginRallyModel", "cellOfGate", "(I)I"⟩, 26) := ⟨⟨by decide +kernel, by decide +kernel⟩, List.mem_of_getElem? (i := 683) (by decide +kernel), List.mem_of_getElem? (i := 883) (by decide +kernel), List.mem_of_getElem? (i := 884) (by decide +kernel)⟩
theorem lw_p33 : lw_okq (⟨"OriginRallyModel", "firstIn", "(III)I"⟩, 26) := ⟨⟨by decide +kernel, by decide +kernel⟩, List.mem_of_getElem? (i := 683) (by decide +kernel), List.mem_of_getElem? (i := 887) (by decide +kernel), List.mem_of_getElem? (i := 888) (by decide +kernel)⟩
theorem lw_p34 : lw_okq (⟨"OriginRallyModel", "dueAt", "(I)I"⟩, 26) := ⟨⟨by decide +kernel, by decide +kernel⟩, List.mem_of_getElem? (i := 683) (by decide +kernel), List.mem_of_getElem? (i := 907) (by decide +kernel), List.mem_of_getElem? (i := 908) (by decide +kernel)⟩
theorem lw_p35 : lw_okq (⟨"OriginRallyModel", "pointsOf", "(I)I"⟩, 26) := ⟨⟨by decide +kernel, by decide +kernel⟩, List.mem_of_getElem? (i := 683) (by decide +kernel), List.mem_of_getElem? (i := 940) (by decide +kernel), List.mem_of_getElem? (i := 941) (by decide +kernel)⟩
theorem lw_p36 : lw_okq (⟨"OriginRallyModel", "isPart", "(I)Z"⟩, 26) := ⟨⟨by decide +kernel, by decide +kernel⟩, List.mem_of_getElem? (i := 683) (by decide +kernel), List.mem_of_getElem? (i := 952) (by decide +kernel), List.mem_of_getElem? (i := 953) (by decide +kernel)⟩
def lw_privs_3 : List (MethodName × Nat) := [(⟨"OriginRallyModel", "cellOfGate", "(I)I"⟩, 26), (⟨"OriginRallyModel", "firstIn", "(III)I"⟩, 26), (⟨"OriginRallyModel", "dueAt", "(I)I"⟩, 26), (⟨"OriginRallyModel", "pointsOf", "(I)I"⟩, 26), (⟨"OriginRallyModel", "isPart", "(I)Z"⟩, 26)]
theorem lw_r3 : ∀ q ∈ lw_privs_3, lw_okq q := List.forall_mem_cons.mpr ⟨lw_p32, List.forall_mem_cons.mpr ⟨lw_p33, List.forall_mem_cons.mpr ⟨lw_p34, List.forall_mem_cons.mpr ⟨lw_p35, List.forall_mem_cons.mpr ⟨lw_p36, fun _ h => absurd h List.not_mem_nil⟩⟩⟩⟩⟩
def lw_privs : List (MethodName × Nat) := lw_privs_1 ++ (lw_privs_2 ++ (lw_privs_3))
def lw_tbl : List Cond := k2_sels lw_privs ++ tables_1
theorem lw_privs_ok : ∀ q ∈ lw_privs, lw_okq q := by
  show ∀ q ∈ lw_privs_1 ++ (lw_privs_2 ++ (lw_privs_3)), lw_okq q
  exact List.forall_mem_append.mpr ⟨lw_r1, List.forall_mem_append.mpr ⟨lw_r2, lw_r3⟩⟩
-- ===== end of PART A; then your names; then what follows =====
end
section
/-! ===== BEGIN words of one list among another's, by their places ===== -/
theorem goodIn_r {big : List Cond} (ws : List Cond) (ps : List Nat) (hp : ws = ps.filterMap (fun i => big[i]?)) (h : ws.all goodWord = true) : GoodIn big ws := by
  intro w hw
  have h1 := List.all_eq_true.mp h w hw
  rw [hp] at hw
  obtain ⟨i, -, hi⟩ := List.mem_filterMap.mp hw
  have hm : w ∈ big := by first | exact List.mem_of_getElem? hi | exact List.getElem?_mem hi
  exact ⟨hm, good_of_word h1⟩
theorem goodIn_app {big a b : List Cond} (ha : GoodIn big a) (hb : GoodIn big b) : GoodIn big (a ++ b) := fun w h => (List.mem_append.mp h).elim (ha w) (hb w)
theorem goodIn_ca {big a b : List Cond} {c : Cond} (ha : GoodIn big (c :: a)) (hb : GoodIn big b) : GoodIn big (c :: (a ++ b)) := fun w h => (List.mem_cons.mp h).elim (fun e => ha w (List.mem_cons.mpr (Or.inl e))) (fun h => (List.mem_append.mp h).elim (fun h => ha w (List.mem_cons.mpr (Or.inr h))) (hb w))
theorem goodIn_sub {big ws : List Cond} (hm : ∀ w ∈ ws, w ∈ big) (h : ws.all goodWord = true) : GoodIn big ws := fun w hw => ⟨hm w hw, good_of_word (List.all_eq_true.mp h w hw)⟩
/-! ===== END ===== -/

/-! ===== BEGIN exceptions that leave a method, and their catching by the caller (launches without stack traces) ===== -/
section VXA
/-! The laws vx_back, vx_callV, vx_callS, vx_callSW, vx_throw0, vx_throwS follow proofs of the library, with one case more: JvmDerived/Free/Laws.lean (Back.of_free), Shelf42/LK1.lean (callV, callS), Shelf/KitTraced.lean (throwNew0V, throwNewS). -/
/-- where a method has thrown q: the class by its name, the cell, what was written, the world -/
def vx_T (XC : String → State → State → Prop) (st : State) (q : Addr) (t : State) (mc ms : Nat) (free : Addr → Prop) : Prop :=
  ∃ (E : String) (ce : Cell) (L : List Loc), XC E st t ∧ t.heap[q]? = some ce ∧ ce.vm = .none ∧ st.vm.findClass E = some ce.cls ∧ st.WarmedH t.vm ∧ st.sameButNew ({ t with vm := st.vm } : State) L mc ms ∧ ∀ z ∈ L, free z.base
def vx_Q (Qc : Array Value → State → Outcome → State → Prop) (XC : String → State → State → Prop) (mc ms : Nat) (free : Addr → Prop) : Array Value → State → Outcome → State → Prop := fun a st o t =>
  (Qc a st o t ∧ ∃ L, FrameEnd st o t L mc ms ∧ ∀ q ∈ L, free q.base) ∨ ∃ q, o = .threw q ∧ vx_T XC st q t mc ms free
/-- a callee that returns or throws -/
def vx_Met (l : Launch) (y : MethodName) (ws : List Cond) (rm : Room) (Pc : Array Value → State → Prop) (Qc : Array Value → State → Outcome → State → Prop) (XC : String → State → State → Prop) (mc ms : Nat) (free : Addr → Prop) : Prop :=
  MetFree l y (headSpec ws rm) Pc (fun _ _ _ _ _ => True) (vx_Q Qc XC mc ms free)
def vx_Post (XC : String → State → State → Prop) (mc ms : Nat) (free : Addr → Prop) : Pt → Array Value → Addr → Pt → Prop := fun A a q B =>
  ∃ (g : JFrame) (mk : MethodId) (t : State) (L : List Loc) (E : String) (ce : Cell), B.U.heap = t.heap ∧ B.U.vm = t.vm ∧ XC E (A.U.calling g mk a) t ∧ t.heap[q]? = some ce ∧ ce.vm = .none ∧ A.U.vm.findClass E = some ce.cls ∧ B.locs = A.locs ++ L ∧ (∀ z ∈ L, free z.base) ∧ B.cells = A.cells + mc ∧ B.slots = A.slots + ms
def vx_Back (l : Launch) (R : Room) (p : Program) (e : Env) (below : List Frame) (s : State) (sargs : Array Value) (y : MethodName) (len W9 : Nat)
    (Pre : Pt → Array Value → Prop) (Post : Pt → Array Value → Option Value → Pt → Prop) (PostX : Pt → Array Value → Addr → Pt → Prop) : Prop :=
  ∀ (m : MethodId) (meth : Method) (c : Code) (A : Pt) (g : JFrame) (ig : Instr) (mk : MethodId) (a : Array Value),
    Stand p l e R s m sargs below meth c A.U A.locs A.cells A.slots → g.method = m → g.locals.size = c.maxLocals → decode c.code g.pc = .ok (ig, len) →
    2 * g.monitorRoom + (g.stack.map fun v => v.category).sum ≤ W9 → A.U.methodNamed? y = some mk → Pre A a →
    (∃ (v : Option Value) (B : Pt), Stand p l e R s m sargs below meth c B.U B.locs B.cells B.slots ∧ Post A a v B ∧
      Steps p.tables e below (doInvoke e (A.U.setTop g) [] mk a).1 (B.U.setTop { g with pc := g.pc + len, stack := v.toList ++ g.stack })) ∨
    (∃ (q : Addr) (B : Pt), Stand p l e R s m sargs below meth c B.U B.locs B.cells B.slots ∧ PostX A a q B ∧
      Steps p.tables e below (doInvoke e (A.U.setTop g) [] mk a).1 ((B.U.setTop g).pushFrame (.throwing q)))
section Payer
variable {l : Launch} {R : Room} {p : Program} {e : Env} {below : List Frame} {s : State} {sargs : Array Value} {y : MethodName} {len W9 : Nat}
theorem vx_back {ws : List Cond} {rm : Room} {Pc : Array Value → State → Prop} {Qc : Array Value → State → Outcome → State → Prop} {XC : String → State → State → Prop} {mc ms : Nat} {free : Addr → Prop} {bytes : ByteArray} {maxL : Nat} {ret : Option FieldType}
    (hM : vx_Met l y ws rm Pc Qc XC mc ms free) (hblind : FrameBlind Pc) (hrc : rm.cells = mc) (hrs : rm.slots = ms)
    (hframes : rm.frames + 1 ≤ R.frames) (hlocals : W9 + (maxL + 11) + rm.locals ≤ R.locals)
    (hws : ∀ w ∈ ws, ∀ a' U, s.WarmedH U.vm → w.before a' U = true) (hcode : Cond.code y bytes maxL ret ∈ ws) (hinit : ∀ a' U, s.WarmedH U.vm → (Cond.initialized y.cls).before a' U = true) :
    vx_Back l R p e below s sargs y len W9 (PreOf R mc ms Pc) (PostOf Qc mc ms free) (vx_Post XC mc ms free) := by
  intro m meth c A g ig mk a X hg hsize hdg hW hn hp
  have h1 : (headSpec ws rm).pre.before a A.U = true := atoms_intro fun w hw => hws w hw _ _ X.warmed
  have h2 : (Cond.code y bytes maxL ret).before a A.U = true := hws _ hcode _ _ X.warmed
  have h3 : (Cond.initialized y.cls).before a A.U = true := hinit _ _ X.warmed
  have h4 : A.cells + (headSpec ws rm).room.cells ≤ R.cells := by rw [show (headSpec ws rm).room.cells = mc from hrc]; exact hp.1
  have h5 : A.slots + (headSpec ws rm).room.slots ≤ R.slots := by rw [show (headSpec ws rm).room.slots = ms from hrs]; exact hp.2.1
  have hPc : Pc a (A.U.calling g mk a) := hblind _ _ _ _ hp.2.2
  obtain ⟨U, Ls, c0, s0⟩ := A
  dsimp only [Pt.U, Pt.locs, Pt.cells, Pt.slots] at h1 h2 h3 h4 h5 X hn hPc ⊢
  obtain ⟨methY, cY, hmY, hcY, -, hlY, -, -, -, -⟩ := Cond.code_spec hn h2
  obtain ⟨kY, hkY, -⟩ := className_of_methodNamed hn
  have hinitY : kY.init = .initialized := Cond.initialized_spec (findClass_of_methodNamed hn) hkY h3
  have h : At U g.method c below := by rw [hg]; exact X.here
  have hlocals9 : W9 + (maxL + 11) + (headSpec ws rm).room.locals ≤ R.locals := hlocals
  have happ : (headSpec ws rm).appliesLoose y e.platform (U.calling g mk a) = true :=
    Spec.appliesLoose_calling (g := g) h hdg hn hkY hinitY
      (X.room_calling (g := g) (R' := (headSpec ws rm).room) hsize hmY hcY hframes (by rw [hlY]; omega) h4 h5) h1
  obtain ⟨mid, hmid⟩ := h.above
  have hfr : (U.setTop g).frames = (.java g :: mid) ++ below := by rw [State.frames_setTop' g h.top, hmid]; rfl
  obtain ⟨o, s₂, hsteps, -, hend, hq⟩ := Steps.callFree hM p X.admits X.cas X.clock (acts := []) hfr happ hPc trivial
  have hq' : vx_Q Qc XC mc ms free a (U.calling g mk a) o s₂ := hq
  rw [State.frames_setTop' g h.top] at hend
  obtain ⟨g₀, hg0⟩ := Option.isSome_iff_exists.mp h.top
  obtain ⟨r, hr⟩ := State.topJava?_eq_some.mp hg0
  have hr' : (({ U with heap := s₂.heap, slotsUsed := s₂.slotsUsed } : State).setVm s₂.vm).frames = .java g₀ :: r := hr
  rcases hq' with ⟨hqc, L, hfe, hL⟩ | ⟨q, rfl, E, ce, L, hx, hce, hcv, hcl, hW₂, hsm, hL⟩
  · obtain ⟨⟨v, rfl⟩, hW₂, e2, q2, q3, q4, q5, q6⟩ := id hfe
    have e3 : s₂ = ({ (U.calling g mk a).setFrames s₂.frames with heap := s₂.heap, slotsUsed := s₂.slotsUsed } : State).setVm s₂.vm := by
      have : s₂ = ({ s₂ with vm := (U.calling g mk a).vm } : State).setVm s₂.vm := rfl
      rw [e2] at this
      exact this
    obtain ⟨c₂, i₂, len₂, hc₂, hd₂, hf₂⟩ := hend
    have hW' : U.WarmedH s₂.vm := hW₂
    have hcc : c₂ = c := by
      have h1 : s₂.code? g.method = U.code? g.method := by
        rw [State.code?_eq, State.code?_eq, hW'.alike.method?]
      exact Option.some.inj (hc₂.symm.trans (h1.trans h.code))
    subst hcc
    have hlen : len₂ = len := by rw [hdg] at hd₂; cases hd₂; rfl
    subst hlen
    have hs₂ : s₂ = (({ U with heap := s₂.heap, slotsUsed := s₂.slotsUsed } : State).setVm s₂.vm).setTop { g with pc := g.pc + len₂, stack := v.toList ++ g.stack } := by
      refine e3.trans ?_
      rw [hf₂, State.calling_eq h.top, State.setFrames_setFrames, State.setTop_of_frames _ hr', hr]
      rfl
    have hsame : U.sameButNew ({ U with heap := s₂.heap, slotsUsed := s₂.slotsUsed } : State) L mc ms := by
      refine ⟨?_, q2, q3, q4, q5, q6⟩
      obtain ⟨t, ht, -⟩ := State.frames_cons hr
      show ({ U with heap := s₂.heap, slotsUsed := s₂.slotsUsed } : State) = { U.setFrames U.frames with heap := s₂.heap, slotsUsed := s₂.slotsUsed }
      rw [State.setFrames_self ht]
    subst hg
    refine Or.inl ⟨v, ⟨(({ U with heap := s₂.heap, slotsUsed := s₂.slotsUsed } : State).setVm s₂.vm), Ls ++ L, c0 + mc, s0 + ms⟩,
      ⟨X.admits, X.cas, X.clock, X.frames, X.room, X.hears, X.method, X.code, (X.here.setHeapUsed s₂.heap s₂.slotsUsed).setVm hW'.alike, X.tail, State.WarmedH.trans X.warmed hW', X.limits, X.bytes, X.same.trans (hsame.setVm s.vm)⟩,
      ⟨g, mk, s₂, L, rfl, rfl, hqc, rfl, hL, rfl, rfl⟩, ?_⟩
    show Steps p.tables e below _ ((({ U with heap := s₂.heap, slotsUsed := s₂.slotsUsed } : State).setVm s₂.vm).setTop { g with pc := g.pc + len₂, stack := v.toList ++ g.stack })
    rw [← hs₂]
    exact hsteps
  · obtain ⟨e2, q2, q3, q4, q5, q6⟩ := id hsm
    have e3 : s₂ = ({ (U.calling g mk a).setFrames s₂.frames with heap := s₂.heap, slotsUsed := s₂.slotsUsed } : State).setVm s₂.vm := by
      have : s₂ = ({ s₂ with vm := (U.calling g mk a).vm } : State).setVm s₂.vm := rfl
      rw [e2] at this
      exact this
    have hf₂ : s₂.frames = .throwing q :: .java g :: U.frames.tail := hend
    have hW' : U.WarmedH s₂.vm := hW₂
    have hs₂ : s₂ = ((({ U with heap := s₂.heap, slotsUsed := s₂.slotsUsed } : State).setVm s₂.vm).setTop g).pushFrame (.throwing q) := by
      refine e3.trans ?_
      rw [hf₂, State.calling_eq h.top, State.setFrames_setFrames, State.pushFrame, State.frames_setTop _ hr', State.setTop_of_frames _ hr', State.setFrames_setFrames, hr]
      rfl
    have hsame : U.sameButNew ({ U with heap := s₂.heap, slotsUsed := s₂.slotsUsed } : State) L mc ms := by
      refine ⟨?_, q2, q3, q4, q5, q6⟩
      obtain ⟨t, ht, -⟩ := State.frames_cons hr
      show ({ U with heap := s₂.heap, slotsUsed := s₂.slotsUsed } : State) = { U.setFrames U.frames with heap := s₂.heap, slotsUsed := s₂.slotsUsed }
      rw [State.setFrames_self ht]
    subst hg
    refine Or.inr ⟨q, ⟨(({ U with heap := s₂.heap, slotsUsed := s₂.slotsUsed } : State).setVm s₂.vm), Ls ++ L, c0 + mc, s0 + ms⟩,
      ⟨X.admits, X.cas, X.clock, X.frames, X.room, X.hears, X.method, X.code, (X.here.setHeapUsed s₂.heap s₂.slotsUsed).setVm hW'.alike, X.tail, State.WarmedH.trans X.warmed hW', X.limits, X.bytes, X.same.trans (hsame.setVm s.vm)⟩,
      ⟨g, mk, s₂, L, E, ce, rfl, rfl, hx, hce, hcv, hcl, rfl, hL, rfl, rfl⟩, ?_⟩
    show Steps p.tables e below _ (((({ U with heap := s₂.heap, slotsUsed := s₂.slotsUsed } : State).setVm s₂.vm).setTop g).pushFrame (.throwing q))
    rw [← hs₂]
    exact hsteps
end Payer
section Calls
variable {p : Program} {l : Launch} {e : Env} {R : Room} {s : State} {m : MethodId} {args : Array Value} {below : List Frame} {meth : Method} {c : Code} {T : State} {locs : List Loc} {cells slots : Nat}
theorem vx_callV (X : Stand p l e R s m args below meth c T locs cells slots) (hexec : p.tables.exec = Jvm.exec) {own C : String} {index : Nat} {y : MethodName} {bytes : ByteArray} {maxL : Nat} {ret : Option FieldType}
    (hown : s.vm.findClass own = some m.cls) (hlink : (Cond.methodLink own index y).before args s = true) (hinst : (Cond.instanceMethod y).before args s = true) (hsel : (Cond.selects C y y).before args s = true)
    (hcode : (Cond.code y bytes maxL ret).before args s = true) (hy : y.cls ≠ "java/lang/invoke/MethodHandle" ∧ y.cls ≠ "java/lang/invoke/VarHandle")
    {W9 : Nat} {Pre : Pt → Array Value → Prop} {Post : Pt → Array Value → Option Value → Pt → Prop} {PostX : Pt → Array Value → Addr → Pt → Prop} (hK : vx_Back l R p e below s args y 3 W9 Pre Post PostX)
    {b : Addr} {cellB : Cell} (hcell : T.heap[b]? = some cellB) (hobj : cellB.vm.isStatics = false) (hcls : s.vm.findClass C = some cellB.cls)
    {g : JFrame} (hg : g.method = m) (hsize : g.locals.size = c.maxLocals) {argsL rest : List Value} (hlen : ∀ sig, parseMethodDescriptor y.desc = some sig → argsL.length = sig.parameters.length)
    (hstack : g.stack = argsL.reverse ++ .ref b :: rest) (hW : 2 * g.monitorRoom + (rest.map fun v => v.category).sum ≤ W9) (hdg : decode c.code g.pc = .ok (.invokevirtual index, 3))
    (hpre : ∀ vm₁, s.WarmedH vm₁ → Pre ⟨T.setVm vm₁, locs, cells, slots⟩ (Value.ref b :: argsL).toArray) :
    (∃ (v : Option Value) (vm₁ : Vm) (B : Pt), s.WarmedH vm₁ ∧ Stand p l e R s m args below meth c B.U B.locs B.cells B.slots ∧ Post ⟨T.setVm vm₁, locs, cells, slots⟩ (Value.ref b :: argsL).toArray v B ∧
      ∀ target, Steps p.tables e below (B.U.setTop { g with pc := g.pc + 3, stack := v.toList ++ rest }) target → Steps p.tables e below (T.setTop g) target) ∨
    (∃ (q : Addr) (vm₁ : Vm) (B : Pt), s.WarmedH vm₁ ∧ Stand p l e R s m args below meth c B.U B.locs B.cells B.slots ∧ PostX ⟨T.setVm vm₁, locs, cells, slots⟩ (Value.ref b :: argsL).toArray q B ∧
      Steps p.tables e below (T.setTop g) ((B.U.setTop { g with stack := rest }).pushFrame (.throwing q))) := by
  obtain ⟨mk, methM, hnamed, hmethM, hstM, habM⟩ := Cond.instanceMethod_spec hinst
  obtain ⟨methM', cM, hmethM', -, -, -, -, -, -, hsigM⟩ := Cond.code_spec hnamed hcode
  cases hmethM.symm.trans hmethM'
  obtain ⟨c2, r2, m2, q1, q2, q3, q4, kP, hkP, hkPi⟩ := Cond.selects_spec hsel
  cases hcls.symm.trans q1
  cases (State.methodFound?_of_named hnamed hy).symm.trans q2
  cases hnamed.symm.trans q3
  have hselP : selectMethod e.platform s.vm cellB.cls mk = .method mk := by rw [Launch.admits_selectMethod X.admits]; exact q4
  obtain ⟨vm₁, X₁, hstep₁⟩ := X.invokevirtual hexec hown hlink hnamed hmethM hstM hkP hkPi hy (a := b) (cell := cellB) hcell
    (fun z h => by rw [h] at hobj; cases hobj) hselP hmethM habM hkP hkPi (g := g) hg (argsL := argsL) (rest := rest) (hlen _ hsigM) hstack hdg
  rcases hK m meth c ⟨T.setVm vm₁, locs, cells, slots⟩ { g with stack := rest } (.invokevirtual index) mk (Value.ref b :: argsL).toArray X₁ hg hsize hdg hW (X₁.named hnamed) (hpre vm₁ X₁.warmed) with ⟨v, B, X', hpost, hsteps⟩ | ⟨q, B, X', hpost, hsteps⟩
  · exact Or.inl ⟨v, vm₁, B, X₁.warmed, X', hpost, fun target h => hstep₁ _ fun acts => by rw [doInvoke_state]; exact hsteps.trans h⟩
  · exact Or.inr ⟨q, vm₁, B, X₁.warmed, X', hpost, hstep₁ _ fun acts => by rw [doInvoke_state]; exact hsteps⟩
theorem vx_callS (X : Stand p l e R s m args below meth c T locs cells slots) (hexec : p.tables.exec = Jvm.exec) {own : String} {index : Nat} {y : MethodName} {bytes : ByteArray} {maxL : Nat} {ret : Option FieldType}
    (hown : s.vm.findClass own = some m.cls) (hlink : (Cond.methodLink own index y).before args s = true) (hstat : (Cond.static y).before args s = true) (hinit : (Cond.initialized y.cls).before args s = true)
    (hcode : (Cond.code y bytes maxL ret).before args s = true) (hy : y.cls ≠ "java/lang/invoke/MethodHandle" ∧ y.cls ≠ "java/lang/invoke/VarHandle")
    {W9 : Nat} {Pre : Pt → Array Value → Prop} {Post : Pt → Array Value → Option Value → Pt → Prop} {PostX : Pt → Array Value → Addr → Pt → Prop} (hK : vx_Back l R p e below s args y 3 W9 Pre Post PostX)
    {g : JFrame} (hg : g.method = m) (hsize : g.locals.size = c.maxLocals) {argsL rest : List Value} (hlen : ∀ sig, parseMethodDescriptor y.desc = some sig → argsL.length = sig.parameters.length)
    (hstack : g.stack = argsL.reverse ++ rest) (hW : 2 * g.monitorRoom + (rest.map fun v => v.category).sum ≤ W9) (hdg : decode c.code g.pc = .ok (.invokestatic index, 3))
    (hpre : ∀ vm₁, s.WarmedH vm₁ → Pre ⟨T.setVm vm₁, locs, cells, slots⟩ argsL.toArray) :
    (∃ (v : Option Value) (vm₁ : Vm) (B : Pt), s.WarmedH vm₁ ∧ Stand p l e R s m args below meth c B.U B.locs B.cells B.slots ∧ Post ⟨T.setVm vm₁, locs, cells, slots⟩ argsL.toArray v B ∧
      ∀ target, Steps p.tables e below (B.U.setTop { g with pc := g.pc + 3, stack := v.toList ++ rest }) target → Steps p.tables e below (T.setTop g) target) ∨
    (∃ (q : Addr) (vm₁ : Vm) (B : Pt), s.WarmedH vm₁ ∧ Stand p l e R s m args below meth c B.U B.locs B.cells B.slots ∧ PostX ⟨T.setVm vm₁, locs, cells, slots⟩ argsL.toArray q B ∧
      Steps p.tables e below (T.setTop g) ((B.U.setTop { g with stack := rest }).pushFrame (.throwing q))) := by
  obtain ⟨mk, hnamed⟩ := Cond.code_named hcode
  obtain ⟨methM, cM, hmethM, -, -, -, -, -, -, hsigM⟩ := Cond.code_spec hnamed hcode
  have hstatic : methM.isStatic = true := Cond.static_spec hnamed hmethM hstat
  obtain ⟨kP, hkP, -⟩ := className_of_methodNamed hnamed
  have hinitP : kP.init = .initialized := Cond.initialized_spec (findClass_of_methodNamed hnamed) hkP hinit
  obtain ⟨vm₁, X₁, hstep₁⟩ := X.invokestatic hexec hown hlink hnamed hmethM hstatic hkP hinitP hy (g := g) hg (argsL := argsL) (rest := rest) (hlen _ hsigM) hstack hdg
  rcases hK m meth c ⟨T.setVm vm₁, locs, cells, slots⟩ { g with stack := rest } (.invokestatic index) mk argsL.toArray X₁ hg hsize hdg hW (X₁.named hnamed) (hpre vm₁ X₁.warmed) with ⟨v, B, X', hpost, hsteps⟩ | ⟨q, B, X', hpost, hsteps⟩
  · exact Or.inl ⟨v, vm₁, B, X₁.warmed, X', hpost, fun target h => hstep₁ _ fun acts => by rw [doInvoke_state]; exact hsteps.trans h⟩
  · exact Or.inr ⟨q, vm₁, B, X₁.warmed, X', hpost, hstep₁ _ fun acts => by rw [doInvoke_state]; exact hsteps⟩
end Calls
theorem vx_cls {s : State} {T : State} {vm₁ : Vm} {E : String} {k : ClassId} (hW : s.WarmedH vm₁) (h : (T.setVm vm₁).vm.findClass E = some k) : s.vm.findClass E = some k := by
  have h1 : vm₁.findClass E = some k := h
  rw [hW.alike.findClass] at h1
  exact h1
/-- the method's frame g, with q thrown over it -/
def vx_W (p : Program) (l : Launch) (e : Env) (R : Room) (s : State) (m : MethodId) (args : Array Value) (below : List Frame) (meth : Method) (c : Code) (H : Heap) (locs : List Loc) (cells slots : Nat) (Q : State → Prop) (g : JFrame) (q : Addr) : Prop :=
  ∀ T : State, T.heap = H → Stand p l e R s m args below meth c T locs cells slots → ∃ t, Steps p.tables e below ((T.setTop g).pushFrame (.throwing q)) t ∧ Q t
def vx_Run (p : Program) (l : Launch) (e : Env) (R : Room) (s : State) (m : MethodId) (args : Array Value) (below : List Frame) (meth : Method) (c : Code) (H : Heap) (locs : List Loc) (cells slots mc ms : Nat) (g : JFrame) (rest : List Value) (Qa : State → Outcome → State → Prop) (XC : String → State → State → Prop) (free : Addr → Prop) : Prop :=
  ∀ T : State, T.heap = H → Stand p l e R s m args below meth c T locs cells slots →
    (∃ (v : Option Value) (st₀ t T' : State) (L : List Loc), st₀.heap = H ∧ Stand p l e R s m args below meth c T' (locs ++ L) (cells + mc) (slots + ms) ∧ (∀ q ∈ L, free q.base) ∧ T'.heap = t.heap ∧ T'.vm = t.vm ∧ Qa st₀ (.returned v) t ∧
      Goes p e below T g T' { g with pc := g.pc + 3, stack := v.toList ++ rest }) ∨
    (∃ (q : Addr) (st₀ t T' : State) (L : List Loc) (E : String) (ce : Cell), st₀.heap = H ∧ Stand p l e R s m args below meth c T' (locs ++ L) (cells + mc) (slots + ms) ∧ (∀ z ∈ L, free z.base) ∧ T'.heap = t.heap ∧ T'.vm = t.vm ∧ XC E st₀ t ∧ t.heap[q]? = some ce ∧ ce.vm = .none ∧ s.vm.findClass E = some ce.cls ∧
      Steps p.tables e below (T.setTop g) ((T'.setTop { g with stack := rest }).pushFrame (.throwing q)))
def vx_X {S : Type} (px : S → Prop) (B : String → S → State → Prop) (A : Nat → Prop) : String → State → State → Prop := fun E st t => ∃ u : S, px u ∧ B E u t ∧ va_F A st t
section Runs
variable {p : Program} {l : Launch} {e : Env} {R : Room} {s : State} {m : MethodId} {args : Array Value} {below : List Frame} {meth : Method} {c : Code} {H : Heap} {locs : List Loc} {cells slots : Nat}
variable {y : MethodName} {bytes cc : ByteArray} {maxL nL mc ms n index : Nat} {ret : Option FieldType} {ws : List Cond} {rm : Room} {Pc : Array Value → State → Prop} {Qc : Array Value → State → Outcome → State → Prop} {XC : String → State → State → Prop} {free : Addr → Prop} {Ts : List Cond} {own C : String} {b : Addr} {As rest : List Value} {g : JFrame}
theorem vx_callBack (cb : CallB R s args own index y bytes maxL ret ws rm mc ms n) (hM : vx_Met l y ws rm Pc Qc XC mc ms free) (hbl : FrameBlind Pc) : vx_Back l R p e below s args y 3 8 (PreOf R mc ms Pc) (PostOf Qc mc ms free) (vx_Post XC mc ms free) := by
  obtain ⟨hrc, hrs, hfr, hlo, hws, hcw, -, hini, -⟩ := cb
  exact vx_back (bytes := bytes) (maxL := maxL) (ret := ret) hM hbl hrc hrs hfr hlo hws hcw (fun a' U hW => word_at hW (Or.inl (by first | rfl | simp [Cond.onTables, Cond.keeps, Cond.steady])) hini)
theorem vx_runV (S : CallFix p m c cc nL s args Ts own) (hM : vx_Met l y ws rm Pc Qc XC mc ms free) (cw : CallW R s args own C index y bytes maxL ret ws rm mc ms n) (hp : PreV s H C b Pc As)
    (hg : g.method = m) (hn : As.length = n) (hsize : g.locals.size = nL) (hstack : g.stack = As.reverse ++ .ref b :: rest) (hW : 2 * g.monitorRoom + (rest.map fun v => v.category).sum ≤ 8) (hdg : decode cc g.pc = .ok (.invokevirtual index, 3)) (hf : cells + mc ≤ R.cells ∧ slots + ms ≤ R.slots) :
    vx_Run p l e R s m args below meth c H locs cells slots mc ms g rest (Qc (Value.ref b :: As).toArray) XC free := by
  have hK : vx_Back l R p e below s args y 3 8 (PreOf R mc ms Pc) (PostOf Qc mc ms free) (vx_Post XC mc ms free) := vx_callBack cw.1 hM hp.1
  obtain ⟨⟨-, -, -, -, -, -, hcode, -, hy, hlen, hl⟩, hin, hse⟩ := cw
  obtain ⟨hx, hb, hml, ho, -⟩ := S
  obtain ⟨-, ⟨cellB, hcB, hoB, hclB⟩, hPc⟩ := hp
  intro T hT X
  rcases vx_callV X hx (C := C) (bytes := bytes) (maxL := maxL) (ret := ret) ho hl hin hse hcode hy hK (by rw [hT]; exact hcB) hoB hclB hg (hsize.trans hml.symm) (argsL := As) (rest := rest) (fun sig h => hn.trans (hlen sig h)) hstack hW (by rw [hb]; exact hdg)
    (fun vm₁ hW₁ => ⟨hf.1, hf.2, hPc (T.setVm vm₁) hT hW₁⟩) with ⟨v, vm₁, ⟨U', l2, c2, s2⟩, hW₁, X', ⟨g', mk, t, L, e1, e2, hq, h1, hL, h2, h3⟩, st⟩ | ⟨q, vm₁, ⟨U', l2, c2, s2⟩, hW₁, X', ⟨g', mk, t, L, E, ce, e1, e2, hq, hce, hcv, hcl, h1, hL, h2, h3⟩, st⟩
  · dsimp only [Pt.U, Pt.locs, Pt.cells, Pt.slots] at X' e1 e2 h1 h2 h3 st
    subst h1; subst h2; subst h3
    exact Or.inl ⟨v, (T.setVm vm₁).calling g' mk (Value.ref b :: As).toArray, t, U', L, hT, X', hL, e1, e2, hq, st⟩
  · dsimp only [Pt.U, Pt.locs, Pt.cells, Pt.slots] at X' e1 e2 h1 h2 h3 st hcl
    subst h1; subst h2; subst h3
    exact Or.inr ⟨q, (T.setVm vm₁).calling g' mk (Value.ref b :: As).toArray, t, U', L, E, ce, hT, X', hL, e1, e2, hq, hce, hcv, vx_cls hW₁ hcl, st⟩
theorem vx_runS (S : CallFix p m c cc nL s args Ts own) (hM : vx_Met l y ws rm Pc Qc XC mc ms free) (cw : CallB R s args own index y bytes maxL ret ws rm mc ms n ∧ (Cond.static y).before args s = true) (hp : PreS s H Pc As)
    (hg : g.method = m) (hn : As.length = n) (hsize : g.locals.size = nL) (hstack : g.stack = As.reverse ++ rest) (hW : 2 * g.monitorRoom + (rest.map fun v => v.category).sum ≤ 8) (hdg : decode cc g.pc = .ok (.invokestatic index, 3)) (hf : cells + mc ≤ R.cells ∧ slots + ms ≤ R.slots) :
    vx_Run p l e R s m args below meth c H locs cells slots mc ms g rest (Qc As.toArray) XC free := by
  have hK : vx_Back l R p e below s args y 3 8 (PreOf R mc ms Pc) (PostOf Qc mc ms free) (vx_Post XC mc ms free) := vx_callBack cw.1 hM hp.1
  obtain ⟨⟨-, -, -, -, -, -, hcode, hini, hy, hlen, hl⟩, hstt⟩ := cw
  obtain ⟨hx, hb, hml, ho, -⟩ := S
  intro T hT X
  rcases vx_callS X hx (bytes := bytes) (maxL := maxL) (ret := ret) ho hl hstt hini hcode hy hK hg (hsize.trans hml.symm) (argsL := As) (rest := rest) (fun sig h => hn.trans (hlen sig h)) hstack hW (by rw [hb]; exact hdg)
    (fun vm₁ hW₁ => ⟨hf.1, hf.2, hp.2 (T.setVm vm₁) hT hW₁⟩) with ⟨v, vm₁, ⟨U', l2, c2, s2⟩, hW₁, X', ⟨g', mk, t, L, e1, e2, hq, h1, hL, h2, h3⟩, st⟩ | ⟨q, vm₁, ⟨U', l2, c2, s2⟩, hW₁, X', ⟨g', mk, t, L, E, ce, e1, e2, hq, hce, hcv, hcl, h1, hL, h2, h3⟩, st⟩
  · dsimp only [Pt.U, Pt.locs, Pt.cells, Pt.slots] at X' e1 e2 h1 h2 h3 st
    subst h1; subst h2; subst h3
    exact Or.inl ⟨v, (T.setVm vm₁).calling g' mk As.toArray, t, U', L, hT, X', hL, e1, e2, hq, st⟩
  · dsimp only [Pt.U, Pt.locs, Pt.cells, Pt.slots] at X' e1 e2 h1 h2 h3 st hcl
    subst h1; subst h2; subst h3
    exact Or.inr ⟨q, (T.setVm vm₁).calling g' mk As.toArray, t, U', L, E, ce, hT, X', hL, e1, e2, hq, hce, hcv, vx_cls hW₁ hcl, st⟩
end Runs
section Rows
variable {p : Program} {l : Launch} {e : Env} {R : Room} {s : State} {m : MethodId} {args : Array Value} {below : List Frame} {meth : Method} {c : Code} {H : Heap} {locs : List Loc} {cells slots : Nat} {Q : State → Prop}
variable {mc ms : Nat} {free : Addr → Prop} {A0 A1 : Nat → Prop} {H0 : Heap} {a : Array Value} {pc : Nat} {ls : Array Slot} {st0 rest : List Value}
theorem vx_keep {st₀ t T' : State} {L : List Loc} (h0 : st₀.heap = H) (e1 : T'.heap = t.heap) (hS : va_S A0 H0 H locs) (hA : ∀ q, q < H.size → A1 q → A0 q) (hf : ∀ q, free q → A0 q) (hL : ∀ q ∈ L, free q.base) (hF : va_F A1 st₀ t) :
    H.size ≤ T'.heap.size ∧ (∀ q : Nat, q < H.size → ¬ A1 q → T'.heap[q]? = H[q]?) ∧ va_S A0 H0 T'.heap (locs ++ L) := by
  obtain ⟨hz, hk⟩ := hF
  rw [h0] at hz hk
  exact ⟨by rw [e1]; exact hz, fun q h1 h2 => by rw [e1]; exact hk q h1 h2,
    ⟨Nat.le_trans hS.1 (by rw [e1]; exact hz), fun q h1 h2 => by rw [e1, hk q (Nat.lt_of_lt_of_le h1 hS.1) (fun z => h2 (hA q (Nat.lt_of_lt_of_le h1 hS.1) z))]; exact hS.2.1 q h1 h2, fun q hq => by
      rcases List.mem_append.mp hq with h | h
      · exact hS.2.2 q h
      · exact hf _ (hL q h)⟩⟩
theorem vx_calli {S SX : Type} {post : Int32 → S → Prop} {px : SX → Prop} {B : S → State → Prop} {BX : String → SX → State → Prop} {AX : Nat → Prop} (hr : vx_Run p l e R s m args below meth c H locs cells slots mc ms (F0 m pc ls st0) rest (va_Qi post B A1 a) (vx_X px BX AX) free) (hS : va_S A0 H0 H locs) (hA : ∀ q, q < H.size → A1 q → A0 q) (hf : ∀ q, free q → A0 q) (hAX : ∀ q, q < H.size → AX q → A0 q)
    (kx : ∀ (E : String) (ce : Cell) (q9 : Addr) (u : SX) (t : State) (H1 : Heap) (locs1 : List Loc), t.heap = H1 → s.vm.Alike t.vm → px u → BX E u t → H.size ≤ H1.size → (∀ q : Nat, q < H.size → ¬ AX q → H1[q]? = H[q]?) → va_S A0 H0 H1 locs1 → H1[q9]? = some ce → ce.vm = .none → s.vm.findClass E = some ce.cls → vx_W p l e R s m args below meth c H1 locs1 (cells + mc) (slots + ms) Q (F0 m pc ls rest) q9)
    (kk : ∀ (r : Int32) (u : S) (t : State) (H1 : Heap) (locs1 : List Loc), t.heap = H1 → s.vm.Alike t.vm → post r u → B u t → H.size ≤ H1.size → (∀ q : Nat, q < H.size → ¬ A1 q → H1[q]? = H[q]?) → va_S A0 H0 H1 locs1 → W p l e R s m args below meth c H1 locs1 (cells + mc) (slots + ms) Q (F0 m (pc + 3) ls (.int r :: rest))) : W p l e R s m args below meth c H locs cells slots Q (F0 m pc ls st0) := by
  intro T hT X
  rcases hr T hT X with ⟨v, st₀, t, T', L, h0, X', hL, e1, e2, ⟨⟨r, u, hv, hp, hb⟩, hF⟩, st⟩ | ⟨q, st₀, t, T', L, E, ce, h0, X', hL, e1, e2, ⟨u, hp, hb, hF⟩, hce, hcv, hcl, st⟩
  · cases hv
    obtain ⟨k1, k2, k3⟩ := vx_keep h0 e1 hS hA hf hL hF
    obtain ⟨t2, a1, b1⟩ := kk r u t T'.heap (locs ++ L) e1.symm (by rw [← e2]; exact X'.warmed.alike) hp hb k1 k2 k3 T' rfl X'
    exact ⟨t2, st t2 a1, b1⟩
  · obtain ⟨k1, k2, k3⟩ := vx_keep h0 e1 hS hAX hf hL hF
    obtain ⟨t2, a1, b1⟩ := kx E ce q u t T'.heap (locs ++ L) e1.symm (by rw [← e2]; exact X'.warmed.alike) hp hb k1 k2 k3 (by rw [e1]; exact hce) hcv hcl T' rfl X'
    exact ⟨t2, st.trans a1, b1⟩
theorem vx_calll {S SX : Type} {post : Int64 → S → Prop} {px : SX → Prop} {B : S → State → Prop} {BX : String → SX → State → Prop} {AX : Nat → Prop} (hr : vx_Run p l e R s m args below meth c H locs cells slots mc ms (F0 m pc ls st0) rest (va_Ql post B A1 a) (vx_X px BX AX) free) (hS : va_S A0 H0 H locs) (hA : ∀ q, q < H.size → A1 q → A0 q) (hf : ∀ q, free q → A0 q) (hAX : ∀ q, q < H.size → AX q → A0 q)
    (kx : ∀ (E : String) (ce : Cell) (q9 : Addr) (u : SX) (t : State) (H1 : Heap) (locs1 : List Loc), t.heap = H1 → s.vm.Alike t.vm → px u → BX E u t → H.size ≤ H1.size → (∀ q : Nat, q < H.size → ¬ AX q → H1[q]? = H[q]?) → va_S A0 H0 H1 locs1 → H1[q9]? = some ce → ce.vm = .none → s.vm.findClass E = some ce.cls → vx_W p l e R s m args below meth c H1 locs1 (cells + mc) (slots + ms) Q (F0 m pc ls rest) q9)
    (kk : ∀ (r : Int64) (u : S) (t : State) (H1 : Heap) (locs1 : List Loc), t.heap = H1 → s.vm.Alike t.vm → post r u → B u t → H.size ≤ H1.size → (∀ q : Nat, q < H.size → ¬ A1 q → H1[q]? = H[q]?) → va_S A0 H0 H1 locs1 → W p l e R s m args below meth c H1 locs1 (cells + mc) (slots + ms) Q (F0 m (pc + 3) ls (.long r :: rest))) : W p l e R s m args below meth c H locs cells slots Q (F0 m pc ls st0) := by
  intro T hT X
  rcases hr T hT X with ⟨v, st₀, t, T', L, h0, X', hL, e1, e2, ⟨⟨r, u, hv, hp, hb⟩, hF⟩, st⟩ | ⟨q, st₀, t, T', L, E, ce, h0, X', hL, e1, e2, ⟨u, hp, hb, hF⟩, hce, hcv, hcl, st⟩
  · cases hv
    obtain ⟨k1, k2, k3⟩ := vx_keep h0 e1 hS hA hf hL hF
    obtain ⟨t2, a1, b1⟩ := kk r u t T'.heap (locs ++ L) e1.symm (by rw [← e2]; exact X'.warmed.alike) hp hb k1 k2 k3 T' rfl X'
    exact ⟨t2, st t2 a1, b1⟩
  · obtain ⟨k1, k2, k3⟩ := vx_keep h0 e1 hS hAX hf hL hF
    obtain ⟨t2, a1, b1⟩ := kx E ce q u t T'.heap (locs ++ L) e1.symm (by rw [← e2]; exact X'.warmed.alike) hp hb k1 k2 k3 (by rw [e1]; exact hce) hcv hcl T' rfl X'
    exact ⟨t2, st.trans a1, b1⟩
theorem vx_callf {S SX : Type} {post : UInt32 → S → Prop} {px : SX → Prop} {B : S → State → Prop} {BX : String → SX → State → Prop} {AX : Nat → Prop} (hr : vx_Run p l e R s m args below meth c H locs cells slots mc ms (F0 m pc ls st0) rest (va_Qf post B A1 a) (vx_X px BX AX) free) (hS : va_S A0 H0 H locs) (hA : ∀ q, q < H.size → A1 q → A0 q) (hf : ∀ q, free q → A0 q) (hAX : ∀ q, q < H.size → AX q → A0 q)
    (kx : ∀ (E : String) (ce : Cell) (q9 : Addr) (u : SX) (t : State) (H1 : Heap) (locs1 : List Loc), t.heap = H1 → s.vm.Alike t.vm → px u → BX E u t → H.size ≤ H1.size → (∀ q : Nat, q < H.size → ¬ AX q → H1[q]? = H[q]?) → va_S A0 H0 H1 locs1 → H1[q9]? = some ce → ce.vm = .none → s.vm.findClass E = some ce.cls → vx_W p l e R s m args below meth c H1 locs1 (cells + mc) (slots + ms) Q (F0 m pc ls rest) q9)
    (kk : ∀ (r : UInt32) (u : S) (t : State) (H1 : Heap) (locs1 : List Loc), t.heap = H1 → s.vm.Alike t.vm → post r u → B u t → H.size ≤ H1.size → (∀ q : Nat, q < H.size → ¬ A1 q → H1[q]? = H[q]?) → va_S A0 H0 H1 locs1 → W p l e R s m args below meth c H1 locs1 (cells + mc) (slots + ms) Q (F0 m (pc + 3) ls (.float r :: rest))) : W p l e R s m args below meth c H locs cells slots Q (F0 m pc ls st0) := by
  intro T hT X
  rcases hr T hT X with ⟨v, st₀, t, T', L, h0, X', hL, e1, e2, ⟨⟨r, u, hv, hp, hb⟩, hF⟩, st⟩ | ⟨q, st₀, t, T', L, E, ce, h0, X', hL, e1, e2, ⟨u, hp, hb, hF⟩, hce, hcv, hcl, st⟩
  · cases hv
    obtain ⟨k1, k2, k3⟩ := vx_keep h0 e1 hS hA hf hL hF
    obtain ⟨t2, a1, b1⟩ := kk r u t T'.heap (locs ++ L) e1.symm (by rw [← e2]; exact X'.warmed.alike) hp hb k1 k2 k3 T' rfl X'
    exact ⟨t2, st t2 a1, b1⟩
  · obtain ⟨k1, k2, k3⟩ := vx_keep h0 e1 hS hAX hf hL hF
    obtain ⟨t2, a1, b1⟩ := kx E ce q u t T'.heap (locs ++ L) e1.symm (by rw [← e2]; exact X'.warmed.alike) hp hb k1 k2 k3 (by rw [e1]; exact hce) hcv hcl T' rfl X'
    exact ⟨t2, st.trans a1, b1⟩
theorem vx_calld {S SX : Type} {post : UInt64 → S → Prop} {px : SX → Prop} {B : S → State → Prop} {BX : String → SX → State → Prop} {AX : Nat → Prop} (hr : vx_Run p l e R s m args below meth c H locs cells slots mc ms (F0 m pc ls st0) rest (va_Qd post B A1 a) (vx_X px BX AX) free) (hS : va_S A0 H0 H locs) (hA : ∀ q, q < H.size → A1 q → A0 q) (hf : ∀ q, free q → A0 q) (hAX : ∀ q, q < H.size → AX q → A0 q)
    (kx : ∀ (E : String) (ce : Cell) (q9 : Addr) (u : SX) (t : State) (H1 : Heap) (locs1 : List Loc), t.heap = H1 → s.vm.Alike t.vm → px u → BX E u t → H.size ≤ H1.size → (∀ q : Nat, q < H.size → ¬ AX q → H1[q]? = H[q]?) → va_S A0 H0 H1 locs1 → H1[q9]? = some ce → ce.vm = .none → s.vm.findClass E = some ce.cls → vx_W p l e R s m args below meth c H1 locs1 (cells + mc) (slots + ms) Q (F0 m pc ls rest) q9)
    (kk : ∀ (r : UInt64) (u : S) (t : State) (H1 : Heap) (locs1 : List Loc), t.heap = H1 → s.vm.Alike t.vm → post r u → B u t → H.size ≤ H1.size → (∀ q : Nat, q < H.size → ¬ A1 q → H1[q]? = H[q]?) → va_S A0 H0 H1 locs1 → W p l e R s m args below meth c H1 locs1 (cells + mc) (slots + ms) Q (F0 m (pc + 3) ls (.double r :: rest))) : W p l e R s m args below meth c H locs cells slots Q (F0 m pc ls st0) := by
  intro T hT X
  rcases hr T hT X with ⟨v, st₀, t, T', L, h0, X', hL, e1, e2, ⟨⟨r, u, hv, hp, hb⟩, hF⟩, st⟩ | ⟨q, st₀, t, T', L, E, ce, h0, X', hL, e1, e2, ⟨u, hp, hb, hF⟩, hce, hcv, hcl, st⟩
  · cases hv
    obtain ⟨k1, k2, k3⟩ := vx_keep h0 e1 hS hA hf hL hF
    obtain ⟨t2, a1, b1⟩ := kk r u t T'.heap (locs ++ L) e1.symm (by rw [← e2]; exact X'.warmed.alike) hp hb k1 k2 k3 T' rfl X'
    exact ⟨t2, st t2 a1, b1⟩
  · obtain ⟨k1, k2, k3⟩ := vx_keep h0 e1 hS hAX hf hL hF
    obtain ⟨t2, a1, b1⟩ := kx E ce q u t T'.heap (locs ++ L) e1.symm (by rw [← e2]; exact X'.warmed.alike) hp hb k1 k2 k3 (by rw [e1]; exact hce) hcv hcl T' rfl X'
    exact ⟨t2, st.trans a1, b1⟩
theorem vx_callv {S SX : Type} {post : S → Prop} {px : SX → Prop} {B : S → State → Prop} {BX : String → SX → State → Prop} {AX : Nat → Prop} (hr : vx_Run p l e R s m args below meth c H locs cells slots mc ms (F0 m pc ls st0) rest (va_Qv post B A1 a) (vx_X px BX AX) free) (hS : va_S A0 H0 H locs) (hA : ∀ q, q < H.size → A1 q → A0 q) (hf : ∀ q, free q → A0 q) (hAX : ∀ q, q < H.size → AX q → A0 q)
    (kx : ∀ (E : String) (ce : Cell) (q9 : Addr) (u : SX) (t : State) (H1 : Heap) (locs1 : List Loc), t.heap = H1 → s.vm.Alike t.vm → px u → BX E u t → H.size ≤ H1.size → (∀ q : Nat, q < H.size → ¬ AX q → H1[q]? = H[q]?) → va_S A0 H0 H1 locs1 → H1[q9]? = some ce → ce.vm = .none → s.vm.findClass E = some ce.cls → vx_W p l e R s m args below meth c H1 locs1 (cells + mc) (slots + ms) Q (F0 m pc ls rest) q9)
    (kk : ∀ (u : S) (t : State) (H1 : Heap) (locs1 : List Loc), t.heap = H1 → s.vm.Alike t.vm → post u → B u t → H.size ≤ H1.size → (∀ q : Nat, q < H.size → ¬ A1 q → H1[q]? = H[q]?) → va_S A0 H0 H1 locs1 → W p l e R s m args below meth c H1 locs1 (cells + mc) (slots + ms) Q (F0 m (pc + 3) ls (rest))) : W p l e R s m args below meth c H locs cells slots Q (F0 m pc ls st0) := by
  intro T hT X
  rcases hr T hT X with ⟨v, st₀, t, T', L, h0, X', hL, e1, e2, ⟨⟨u, hv, hp, hb⟩, hF⟩, st⟩ | ⟨q, st₀, t, T', L, E, ce, h0, X', hL, e1, e2, ⟨u, hp, hb, hF⟩, hce, hcv, hcl, st⟩
  · cases hv
    obtain ⟨k1, k2, k3⟩ := vx_keep h0 e1 hS hA hf hL hF
    obtain ⟨t2, a1, b1⟩ := kk u t T'.heap (locs ++ L) e1.symm (by rw [← e2]; exact X'.warmed.alike) hp hb k1 k2 k3 T' rfl X'
    exact ⟨t2, st t2 a1, b1⟩
  · obtain ⟨k1, k2, k3⟩ := vx_keep h0 e1 hS hAX hf hL hF
    obtain ⟨t2, a1, b1⟩ := kx E ce q u t T'.heap (locs ++ L) e1.symm (by rw [← e2]; exact X'.warmed.alike) hp hb k1 k2 k3 (by rw [e1]; exact hce) hcv hcl T' rfl X'
    exact ⟨t2, st.trans a1, b1⟩
/-- caught by the row x of this method's table; the rows ahead don't take it -/
theorem vx_catch {own name : String} {E : String} {ce : Cell} {q : Addr} (hown : s.vm.findClass own = some m.cls) (pre : List ExceptionTableEntry) (x : ExceptionTableEntry) (suf : List ExceptionTableEntry) (hsplit : c.exceptionTable.toList = pre ++ x :: suf)
    (hpass : ∀ z ∈ pre, covers z pc = false ∨ (z.catchType ≠ 0 ∧ ∃ nm : String, (Cond.classLink own z.catchType nm).before args s = true ∧ va_Nc E nm s)) (hx : covers x pc = true) (h0 : x.catchType ≠ 0)
    (hlink : (Cond.classLink own x.catchType name).before args s = true) (hcast : (Cond.castable E name).before args s = true) (hcell : H[q]? = some ce) (hv : ce.vm = .none) (hcl : s.vm.findClass E = some ce.cls)
    (kk : W p l e R s m args below meth c H locs cells slots Q (F0 m x.handlerPc ls [.ref q])) : vx_W p l e R s m args below meth c H locs cells slots Q (F0 m pc ls rest) q := by
  intro T hT X
  have hpl : e.platform.magicAccessors = ({} : Platform).magicAccessors := by rw [X.admits.platform]
  obtain ⟨c3, c4, hc3, hc4, hasg⟩ := Cond.castable_spec hcast
  cases Option.some.inj (hc3.symm.trans hcl)
  obtain ⟨c5, hc5, hcl5⟩ := Cond.classLink_spec hown hlink e.platform hpl
  cases Option.some.inj (hc4.symm.trans hc5)
  obtain ⟨vm', X', st⟩ := X.thenCaughtThrough q (g := F0 m pc ls rest) rfl (Steps.refl _) (by rw [hT]; exact hcell) (by rw [hv]; rfl) (by obtain ⟨k9, h9, -⟩ := Vm.findClass_spec hcl; exact ⟨k9, h9⟩) pre x suf hsplit
    (fun z hz => by
      rcases hpass z hz with h | ⟨hz0, nm, hl1, hn1⟩
      · exact Or.inl h
      · obtain ⟨c6, hc6, hcl6⟩ := Cond.classLink_spec hown hl1 e.platform hpl
        obtain ⟨a8, b8, h1, h2, h3⟩ := hn1
        cases Option.some.inj (h1.symm.trans hcl)
        cases Option.some.inj (h2.symm.trans hc6)
        exact Or.inr ⟨hz0, _, hcl6, h3⟩) hx (Or.inr ⟨h0, c4, hcl5, hasg⟩)
  obtain ⟨t, a1, b1⟩ := kk (T.setVm vm') hT X'
  exact ⟨t, st.trans a1, b1⟩
end Rows
section Ends
variable {p : Program} {l : Launch} {e : Env} {R : Room} {s : State} {m : MethodId} {args : Array Value} {below : List Frame} {meth : Method} {c : Code} {H : Heap} {locs : List Loc} {cells slots : Nat} {Q : State → Prop}
variable {mc ms : Nat} {free : Addr → Prop} {A0 A1 : Nat → Prop} {H0 : Heap} {a : Array Value} {ls : Array Slot} {st0 rest : List Value}
variable {Qc : Array Value → State → Outcome → State → Prop} {XC : String → State → State → Prop}
/-- what a body that may throw owes at its end -/
def vx_MQ (below : List Frame) (Qc : Array Value → State → Outcome → State → Prop) (XC : String → State → State → Prop) (a : Array Value) (s : State) (mc ms : Nat) (free : Addr → Prop) : State → Prop := fun t =>
  ∃ o, t.status = .running ∧ Ended t below o ∧ vx_Q Qc XC mc ms free a s o t
theorem vx_ret {g : JFrame} {mc ms : Nat} (k : W p l e R s m args below meth c H locs cells slots (MQ below Qc args s mc ms free) g) : W p l e R s m args below meth c H locs cells slots (vx_MQ below Qc XC args s mc ms free) g := by
  intro T hT X
  obtain ⟨t, a1, o, b1, b2, b3, b4⟩ := k T hT X
  exact ⟨t, a1, o, b1, b2, Or.inl ⟨b3, b4⟩⟩
/-- not caught here: it goes on to the caller -/
theorem vx_widen {g : JFrame} {q : Addr} {k n : Nat} (h1 : cells ≤ k) (h2 : slots ≤ n) (kk : vx_W p l e R s m args below meth c H locs k n Q g q) : vx_W p l e R s m args below meth c H locs cells slots Q g q := fun T hT X => kk T hT (stand_widen X h1 h2)
theorem vx_out {pc : Nat} {E : String} {ce : Cell} {q : Addr} {mc ms : Nat} (hout : ∀ x ∈ c.exceptionTable.toList, covers x pc = false) (hlocks : meth.locks = false) (hcell : H[q]? = some ce) (hv : ce.vm = .none) (hcl : s.vm.findClass E = some ce.cls)
    (hx : ∀ t : State, t.heap = H → s.vm.Alike t.vm → XC E s t) (hf : ∀ z ∈ locs, free z.base) (hc : cells ≤ mc) (hs : slots ≤ ms) :
    vx_W p l e R s m args below meth c H locs cells slots (vx_MQ below Qc XC args s mc ms free) (F0 m pc ls rest) q := by
  intro T hT X
  obtain ⟨st1, hrun, hend, hW, hsm⟩ := X.leaveThrown q (g := F0 m pc ls rest) rfl rfl rfl hout hlocks
  have hcell9 : (T.setFrames (.throwing q :: below)).heap[q]? = some ce := by
    show T.heap[q]? = some ce
    rw [hT]; exact hcell
  exact ⟨_, st1, .threw q, hrun, hend, Or.inr ⟨q, rfl, E, ce, locs, hx _ hT hW.alike, hcell9, hv, hcl, hW, hsm.mono hc hs, hf⟩⟩
theorem vx_frame {U : State} {k n : Nat} (h : s.sameButNew ({ U with vm := s.vm } : State) locs k n) : s.heap.size ≤ U.heap.size ∧ ∀ q : Nat, q < s.heap.size → (∀ z ∈ locs, z.base ≠ q) → U.heap[q]? = s.heap[q]? := by
  obtain ⟨-, h2, -, -, -, h6⟩ := h
  refine ⟨h2, fun q hq hz => ?_⟩
  obtain ⟨c9, e1, e2, e3, e4⟩ := h6 q _ (Array.getElem?_eq_getElem hq)
  have hs : c9.slots = (s.heap[q]).slots := Array.ext_getElem? fun i => e4 i fun hm => hz _ hm rfl
  have h9 : c9 = s.heap[q] := by
    rw [hs] at e2
    exact e2
  have e5 : U.heap[q]? = some c9 := e1
  rw [e5, h9, Array.getElem?_eq_getElem hq]
/-- the words of a throw but the four that speak of the heap -/
def vx_no (w : Cond) : Bool := decide (w ≠ .isRef (.static Bundle.tN "UNASSIGNED_STACK" Bundle.steD)) && decide (w ≠ .isRef (.static Bundle.tN "SUPPRESSED_SENTINEL" Bundle.listD)) && decide (w ≠ .laysStatic Bundle.tN "UNASSIGNED_STACK" Bundle.steD) && decide (w ≠ .laysStatic Bundle.tN "SUPPRESSED_SENTINEL" Bundle.listD)
def vx_at0 (own : String) (ic : Nat) (X : String) (names : List String) : List Cond := (Bundle.ownAtoms0 own ic X names).filter vx_no
def vx_atS (own : String) (ic : Nat) (X : String) (names : List String) : List Cond := (Bundle.ownAtoms own ic X names).filter vx_no
/-- a word that the tables alone decide, or a good one -/
def vx_ot (w : Cond) : Bool := w.onTables || goodWord w
theorem vx_ot_at {args a' : Array Value} {s U : State} {w : Cond} (hW : s.WarmedH U.vm) (hvm : s.vm = U.vm) (hg : vx_ot w = true) (h : w.before args s = true) : w.before a' U = true := by
  simp only [vx_ot, Bool.or_eq_true] at hg
  rcases hg with hg | hg
  · exact va_tabs hg hvm h
  · exact word_at hW (good_of_word hg) h
/-- a list's words: the good ones out of the method's own list, the others by premises of their own -/
theorem vx_hat {args : Array Value} {s : State} {L B : List Cond} (h1 : ∀ w ∈ L.filter goodWord, w.before args s = true) (h2 : ∀ w ∈ L.filter (fun w => !goodWord w), w ∈ B) (h3 : ∀ w ∈ B, w.before args s = true) : ∀ w ∈ L, w.before args s = true := by
  intro w hw
  by_cases g : goodWord w = true
  · exact h1 w (List.mem_filter.mpr ⟨hw, g⟩)
  · refine h3 w (h2 w (List.mem_filter.mpr ⟨hw, ?_⟩))
    show (!goodWord w) = true
    cases hgw : goodWord w
    · rfl
    · exact absurd hgw g
theorem vx_c {args : Array Value} {s : State} {w : Cond} {B : List Cond} (h : w.before args s = true) (t : ∀ w ∈ B, w.before args s = true) : ∀ w' ∈ w :: B, w'.before args s = true := fun w' h' => (List.mem_cons.mp h').elim (fun e => by rw [e]; exact h) (t w')
theorem vx_n {args : Array Value} {s : State} : ∀ w ∈ ([] : List Cond), w.before args s = true := fun _ h => nomatch h
theorem vx_own {args : Array Value} {s : State} {L : List Cond} (h1 : ∀ w ∈ L.filter vx_no, w.before args s = true)
    (hU : (Cond.isRef (.static Bundle.tN "UNASSIGNED_STACK" Bundle.steD)).before args s = true) (hN : (Cond.isRef (.static Bundle.tN "SUPPRESSED_SENTINEL" Bundle.listD)).before args s = true)
    (lU : (Cond.laysStatic Bundle.tN "UNASSIGNED_STACK" Bundle.steD).before args s = true) (lN : (Cond.laysStatic Bundle.tN "SUPPRESSED_SENTINEL" Bundle.listD).before args s = true) : ∀ w ∈ L, w.before args s = true := by
  intro w hw
  by_cases e1 : w = .isRef (.static Bundle.tN "UNASSIGNED_STACK" Bundle.steD)
  · rw [e1]; exact hU
  · by_cases e2 : w = .isRef (.static Bundle.tN "SUPPRESSED_SENTINEL" Bundle.listD)
    · rw [e2]; exact hN
    · by_cases e3 : w = .laysStatic Bundle.tN "UNASSIGNED_STACK" Bundle.steD
      · rw [e3]; exact lU
      · by_cases e4 : w = .laysStatic Bundle.tN "SUPPRESSED_SENTINEL" Bundle.listD
        · rw [e4]; exact lN
        · exact h1 w (List.mem_filter.mpr ⟨hw, by unfold vx_no; rw [decide_eq_true e1, decide_eq_true e2, decide_eq_true e3, decide_eq_true e4]; rfl⟩)
/-- where a static field lies, its class's statics cell in H -/
def vx_L (C n d : String) (A : Nat → Prop) (U : State) (H : Heap) : Prop := ∃ (c : ClassId) (k : Class) (i : Nat) (f : Field) (a : Nat) (cell : Cell), U.vm.findClass C = some c ∧ U.fieldFound? C n d = some (c, k, i, f) ∧ f.isStatic = true ∧ k.statics = some a ∧ H[a]? = some cell ∧ cell.vm.isStatics = true ∧ cell.cls = c ∧ f.slot < cell.slots.size ∧ k.staticTypes[f.slot]? = some f.type ∧ ¬ A a
theorem vx_L.moved {C n d : String} {A : Nat → Prop} {u U : State} {H : Heap} (hvm : u.vm.Alike U.vm) (h : vx_L C n d A u H) : vx_L C n d A U H := by
  obtain ⟨c, k, i, f, a, cell, h1, h2, h3, h4, h5, h6, h7, h8, h9, h10⟩ := h
  obtain ⟨k', hi', he⟩ := State.fieldFound?_setVm hvm h2
  exact ⟨c, k', i, f, a, cell, by rw [hvm.findClass]; exact h1, hi', h3, by rw [he]; exact h4, h5, h6, h7, h8, by rw [he]; exact h9, h10⟩
theorem vx_L.kept {C n d : String} {A : Nat → Prop} {U : State} {H H1 : Heap} (h : vx_L C n d A U H) (hq : ∀ a : Nat, a < H.size → ¬ A a → H1[a]? = H[a]?) : vx_L C n d A U H1 := by
  obtain ⟨c, k, i, f, a, cell, h1, h2, h3, h4, h5, h6, h7, h8, h9, h10⟩ := h
  exact ⟨c, k, i, f, a, cell, h1, h2, h3, h4, by rw [hq a (Array.getElem?_eq_some_iff.mp h5).1 h10]; exact h5, h6, h7, h8, h9, h10⟩
theorem vx_L.narrow {C n d : String} {A B : Nat → Prop} {U : State} {H : Heap} (h : vx_L C n d A U H) (hAB : ∀ q, B q → A q) : vx_L C n d B U H := by
  obtain ⟨c, k, i, f, a, cell, h1, h2, h3, h4, h5, h6, h7, h8, h9, h10⟩ := h
  exact ⟨c, k, i, f, a, cell, h1, h2, h3, h4, h5, h6, h7, h8, h9, fun z => h10 (hAB _ z)⟩
theorem vx_L.word {C n d : String} {A : Nat → Prop} {s : State} {args : Array Value} (h : vx_L C n d A s s.heap) : (Cond.laysStatic C n d).before args s = true := by
  obtain ⟨c, k, i, f, a, cell, h1, h2, h3, h4, h5, h6, h7, h8, h9, -⟩ := h
  show (Cond.laysStatic C n d).holds args s none s [] = true
  exact Cond.laysStatic_of h1 h2 h3 h4 h5 h6 h7 h8 h9
/-- .. and what it holds: null or some reference -/
def vx_Zq (C n d : String) (A : Nat → Prop) (U : State) (H : Heap) : Prop := va_Zq C n d A U H ∧ vx_L C n d A U H
theorem vx_Zq.moved {C n d : String} {A : Nat → Prop} {u U : State} {H : Heap} (hvm : u.vm.Alike U.vm) (h : vx_Zq C n d A u H) : vx_Zq C n d A U H := ⟨va_Zq.moved hvm h.1, vx_L.moved hvm h.2⟩
theorem vx_Zq.kept {C n d : String} {A : Nat → Prop} {U : State} {H H1 : Heap} (h : vx_Zq C n d A U H) (hq : ∀ a : Nat, a < H.size → ¬ A a → H1[a]? = H[a]?) : vx_Zq C n d A U H1 := ⟨va_Zq.kept h.1 hq, vx_L.kept h.2 hq⟩
theorem vx_Zq.narrow {C n d : String} {A B : Nat → Prop} {U : State} {H : Heap} (h : vx_Zq C n d A U H) (hAB : ∀ q, B q → A q) : vx_Zq C n d B U H := ⟨va_Zq.narrow h.1 hAB, vx_L.narrow h.2 hAB⟩
theorem vx_Zqof {args : Array Value} {s : State} {C n d : String} {A : Nat → Prop} (hl : (Cond.laysStatic C n d).before args s = true) (hini : (Cond.initialized C).before args s = true) (h : (Cond.isRef (.static C n d)).before args s = true) (hA : ∀ a : Nat, a < s.heap.size → ¬ A a) : vx_Zq C n d A s s.heap := by
  refine ⟨va_Zqof hl hini h hA, ?_⟩
  obtain ⟨c, k, i, f, a, cell, h1, h2, h3, h4, h5, h6, h7, h8, h9⟩ := Cond.laysStatic_spec hl
  exact ⟨c, k, i, f, a, cell, h1, h2, h3, h4, h5, h6, h7, h8, h9, hA a (Array.getElem?_eq_some_iff.mp h5).1⟩
theorem vx_isRef {C n d : String} {v : Value} {A : Nat → Prop} {s : State} {args : Array Value} (h : va_Z C n d v A s s.heap) (hv : v.isRef = true) : (Cond.isRef (.static C n d)).before args s = true := by
  obtain ⟨cf, kf, fi, f, a, cell, h1, h2, h3, h4, h5, h6, h7, -⟩ := h
  have he : (Term.static C n d).eval args s none [] s = some v := by
    simp [Term.eval, State.fieldNamed?, h1, h2, h4, h5, h6, h7]
  simp only [Cond.before, Cond.holds, Cond.value, he]
  cases v <;> simp_all [Value.isRef]
theorem vx_isRefq {C n d : String} {A : Nat → Prop} {s : State} {args : Array Value} (h : va_Zq C n d A s s.heap) : (Cond.isRef (.static C n d)).before args s = true := by
  rcases h with h | ⟨t, h⟩
  · exact vx_isRef h rfl
  · exact vx_isRef h rfl
/-- the same frame, seen from here: as if the method were called anew in this heap -/
theorem vx_rebase {T : State} (X : Stand p l e R s m args below meth c T locs cells slots) {R' : Room} (hf : R'.frames ≤ R.frames) (hl : R'.locals ≤ R.locals) (hc : cells + R'.cells ≤ R.cells) (hs : slots + R'.slots ≤ R.slots) :
    Stand p l e R' ((T.setVm s.vm).setFrames (.invoking m args :: below)) m args below meth c T [] 0 0 := by
  have htop : (T.setVm s.vm).topJava?.isSome := X.here.top
  have hF : ((T.setVm s.vm).setFrames (.invoking m args :: below)).frames = .invoking m args :: below := State.frames_setFrames _ (State.cur_lt_of_top htop)
  obtain ⟨g₀, hg0⟩ := Option.isSome_iff_exists.mp htop
  obtain ⟨r, hr⟩ := State.topJava?_eq_some.mp hg0
  have hl9 : e.platform.stackLimits (T.setVm s.vm).me = e.platform.stackLimits s.me := X.limits
  have hb9 : (T.setVm s.vm).me.stackBytes = s.me.stackBytes := X.bytes
  refine ⟨X.admits, X.cas, X.clock, hF, ?_, X.hears, X.method, X.code, X.here, X.tail, X.warmed, ?_, ?_, ?_⟩
  · have h := X.room
    have hU : ((T.setVm s.vm).setFrames (.invoking m args :: below)).localsInUse = s.localsInUse := by
      rw [State.localsInUse_invoking hF (meth := meth) (c := c) X.method X.code, State.localsInUse_invoking X.frames X.method X.code]
    simp only [State.hasRoom, Bool.and_eq_true, decide_eq_true_eq] at h ⊢
    obtain ⟨⟨⟨⟨h1, h2, h3, h4, h5, h6⟩, h7⟩, h8⟩, h9⟩ := h
    rw [X.frames, List.length_cons] at h2 h3
    have q1 := X.heapSize
    have q2 := X.used
    simp only [hF, hU, List.length_cons, State.stackLimits_setFrames, State.stackBytes_setFrames, hl9, hb9]
    refine ⟨⟨⟨⟨by omega, by omega, by omega, by omega, by omega, h6⟩, ?_⟩, ?_⟩, X.book⟩
    · show T.heap.size + R'.cells ≤ e.platform.maxCells
      omega
    · show T.slotsUsed + R'.slots ≤ e.platform.maxSlots
      omega
  · rw [State.stackLimits_setFrames]; rfl
  · rw [State.stackBytes_setFrames]; rfl
  · refine ⟨?_, Nat.le_refl _, Nat.le_refl _, ?_, ?_, fun a c9 h9 => ⟨c9, h9, rfl, rfl, fun _ _ => rfl⟩⟩
    · obtain ⟨t, ht, -⟩ := State.frames_cons hr
      show T.setVm s.vm = { ((T.setVm s.vm).setFrames (.invoking m args :: below)).setFrames (T.setVm s.vm).frames with heap := T.heap, slotsUsed := T.slotsUsed }
      rw [State.setFrames_setFrames, State.setFrames_self ht]
      rfl
    · show T.slotsUsed = T.slotsUsed + ((T.heap.toList.drop T.heap.size).map (·.slots.size)).sum
      rw [List.drop_eq_nil_of_le (Nat.le_of_eq Array.length_toList)]
      rfl
    · show ((T.heap.toList.drop T.heap.size).map (·.slots.size)).sum ≤ 0
      rw [List.drop_eq_nil_of_le (Nat.le_of_eq Array.length_toList)]
      exact Nat.le_refl _
/-- 'throw new E()': new; dup; invokespecial; athrow -/
theorem vx_throw0 {cc : ByteArray} {pc : Nat} (hexec : p.tables.exec = Jvm.exec) (hb : c.code = cc) (hl : l.stackTraces = false) {own cls : String} {names : List String} {ik ic mc ms : Nat} {A : Nat → Prop}
    (hown : s.vm.findClass own = some m.cls) (hcls : Bundle.fit cls = true) (hnames : ∀ n ∈ names, Bundle.fit n = true)
    (hk : (Cond.classLink own ik cls).before args s = true) (hini : (Cond.initialized cls).before args s = true) (hat : ∀ w ∈ vx_at0 own ic cls names, w.before args s = true)
    (hgood : ∀ w ∈ Cond.classLink own ik cls :: Cond.initialized cls :: vx_at0 own ic cls names, vx_ot w = true)
    (hU : vx_Zq Bundle.tN "UNASSIGNED_STACK" Bundle.steD A s s.heap) (hN : vx_Zq Bundle.tN "SUPPRESSED_SENTINEL" Bundle.listD A s s.heap) (hS : va_S A s.heap H locs) (hsize : ls.size = c.maxLocals)
    (d0 : decode cc pc = .ok (.new ik, 3)) (d3 : decode cc (pc + 3) = .ok (.dup, 1)) (d4 : decode cc (pc + 4) = .ok (.invokespecial ic, 3)) (d7 : decode cc (pc + 7) = .ok (.athrow, 1))
    (hout : ∀ x ∈ c.exceptionTable.toList, covers x (pc + 7) = false)
    (hRframes : names.length + 3 < R.frames) (hRlocals : (rest.map fun v => v.category).sum + (13 * (names.length + 1) + 42) ≤ R.locals) (hRcells : cells + 1 ≤ R.cells) (hRslots : slots + 6 ≤ R.slots) (hlocks : meth.locks = false)
    (hx : ∀ t : State, s.vm.Alike t.vm → H.size ≤ t.heap.size → (∀ q : Nat, q < H.size → t.heap[q]? = H[q]?) → XC cls s t)
    (hf : ∀ z ∈ locs, free z.base) (hc : cells + 1 ≤ mc) (hs : slots + 6 ≤ ms) :
    W p l e R s m args below meth c H locs cells slots (vx_MQ below Qc XC args s mc ms free) (F0 m pc ls rest) := by
  intro T hT X
  have htr : e.platform.stackTraces = false := (show e.platform.stackTraces = l.stackTraces by rw [X.admits.platform]).trans hl
  have Y := vx_rebase X (R' := { frames := R.frames, locals := R.locals, cells := 1, slots := 6 }) (Nat.le_refl _) (Nat.le_refl _) hRcells hRslots
  obtain ⟨s', hA⟩ : ∃ z, z = (T.setVm s.vm).setFrames (.invoking m args :: below) := ⟨_, rfl⟩
  rw [← hA] at Y
  have hvm : s'.vm = s.vm := by rw [hA]; rfl
  have hhp : s'.heap = H := by rw [hA]; exact hT
  have hW0 : s.WarmedH s'.vm := by rw [hvm]; exact State.WarmedH.refl s
  have hat' : ∀ w ∈ vx_at0 own ic cls names, w.before args s' = true := fun w hw => vx_ot_at hW0 hvm.symm (hgood w (List.mem_cons_of_mem _ (List.mem_cons_of_mem _ hw))) (hat w hw)
  have hk' : (Cond.classLink own ik cls).before args s' = true := vx_ot_at hW0 hvm.symm (hgood _ List.mem_cons_self) hk
  have hini' : (Cond.initialized cls).before args s' = true := vx_ot_at hW0 hvm.symm (hgood _ (List.mem_cons_of_mem _ List.mem_cons_self)) hini
  have hU' : vx_Zq Bundle.tN "UNASSIGNED_STACK" Bundle.steD A s' s'.heap := by rw [hhp]; exact vx_Zq.moved hW0.alike (hU.kept hS.2.1)
  have hN' : vx_Zq Bundle.tN "SUPPRESSED_SENTINEL" Bundle.listD A s' s'.heap := by rw [hhp]; exact vx_Zq.moved hW0.alike (hN.kept hS.2.1)
  have h : ∀ w ∈ Bundle.ownAtoms0 own ic cls names, w.before args s' = true := vx_own hat' (vx_isRefq hU'.1) (vx_isRefq hN'.1) hU'.2.word hN'.2.word
  have hown' : s'.vm.findClass own = some m.cls := by rw [hvm]; exact hown
  have hins : (Cond.instantiable cls 6).before args s' = true := h _ (by simp [Bundle.ownAtoms0])
  obtain ⟨vm₁, cX, kX, hfX, hkX, -, -, X₁, st1⟩ := Y.newCold hexec (own := own) (C := cls) (index := ik) (n := 6) hown' hk' hins hini'
    (g := F0 m pc ls rest) rfl (by rw [hb]; exact d0) (Nat.le_refl _) (Nat.le_refl _)
  generalize hT1 : (T.setVm vm₁).pushCell { cls := cX, slots := kX.instanceTypes.map defaultValue, vm := .none } = T1 at X₁ st1
  have hcat : (Value.ref T.heap.size).category = 1 := rfl
  have hcellA : T1.heap[T.heap.size]? = some (freshCell cX kX) := by rw [← hT1]; exact State.heap_pushCell_size _ _
  have d3' : decode c.code (pc + 3) = .ok (.dup, 1) := by rw [hb]; exact d3
  obtain ⟨U, hsteps, hrun, hend, hW, hsame, ce, hce, hO⟩ := X₁.ctorThrow0 hexec htr (own := own) (cls := cls) (names := names) (ic := ic) hown' hcls hnames h (fun x hx => nomatch hx) hfX hkX hcellA (by rw [hhp, hT]; exact Nat.le_refl _)
    (g := { method := m, pc := pc + 4, locals := ls, stack := .ref T.heap.size :: .ref T.heap.size :: rest, locked := none }) rfl hsize rfl rfl (rest := rest) rfl
    (by rw [hb]; exact d4) (by rw [hb]; exact d7) hout hRframes (by simp only [List.map_cons, List.sum_cons, hcat]; omega) hlocks
  obtain ⟨f1, f2⟩ := vx_frame hsame
  rw [hhp] at f1 f2
  have hWs : s.WarmedH U.vm := State.WarmedH.trans hW0 hW
  have hcl : s.vm.findClass cls = some ce.cls := by
    have h9 := hO.cls
    rw [hvm] at h9
    exact h9
  have hall : s.sameButNew ({ U with vm := s.vm } : State) locs mc ms := by
    subst hA
    obtain ⟨e1, e2⟩ := hsame
    rw [State.setFrames_setFrames] at e1
    have h2 : (T.setVm s.vm).sameButNew ({ U with vm := s.vm } : State) [] (0 + 1) (0 + 6) := ⟨e1, e2⟩
    have h3 := X.same.trans h2
    rw [List.append_nil] at h3
    exact h3.mono hc hs
  refine ⟨U, ?_, .threw T.heap.size, hrun, hend, Or.inr ⟨T.heap.size, rfl, cls, ce, locs, hx U hWs.alike f1 (fun q hq => f2 q hq (fun z hz => nomatch hz)), hce, hO.vm, hcl, hWs, hall, hf⟩⟩
  refine st1 _ ?_
  show Steps p.tables e below (T1.setTop { method := m, pc := pc + 3, locals := ls, stack := .ref T.heap.size :: rest, locked := none }) _
  jvm_step X₁.here [X₁.here.top, hexec, d3', Value.category]
  exact hsteps
/-- 'throw new E("text")': new; dup; ldc; invokespecial; athrow -/
theorem vx_throwS {cc : ByteArray} {pc : Nat} (hexec : p.tables.exec = Jvm.exec) (hb : c.code = cc) (hl : l.stackTraces = false) {own cls text : String} {names : List String} {ik is ic mc ms sa : Nat} {A : Nat → Prop}
    (hown : s.vm.findClass own = some m.cls) (hcls : Bundle.fit cls = true) (hnames : ∀ n ∈ names, Bundle.fit n = true)
    (hk : (Cond.classLink own ik cls).before args s = true) (hini : (Cond.initialized cls).before args s = true) (hstr : vk_R own is text sa s) (hat : ∀ w ∈ vx_atS own ic cls names, w.before args s = true)
    (hgood : ∀ w ∈ Cond.classLink own ik cls :: Cond.initialized cls :: vx_atS own ic cls names, vx_ot w = true)
    (hU : vx_Zq Bundle.tN "UNASSIGNED_STACK" Bundle.steD A s s.heap) (hN : vx_Zq Bundle.tN "SUPPRESSED_SENTINEL" Bundle.listD A s s.heap) (hS : va_S A s.heap H locs) (hsize : ls.size = c.maxLocals)
    (d0 : decode cc pc = .ok (.new ik, 3)) (d3 : decode cc (pc + 3) = .ok (.dup, 1)) (d4 : decode cc (pc + 4) = .ok (.ldc is, 2)) (d6 : decode cc (pc + 6) = .ok (.invokespecial ic, 3)) (d9 : decode cc (pc + 9) = .ok (.athrow, 1))
    (hout : ∀ x ∈ c.exceptionTable.toList, covers x (pc + 9) = false)
    (hRframes : names.length + 3 < R.frames) (hRlocals : (rest.map fun v => v.category).sum + (13 * (names.length + 1) + 43) ≤ R.locals) (hRcells : cells + 1 ≤ R.cells) (hRslots : slots + 6 ≤ R.slots) (hlocks : meth.locks = false)
    (hx : ∀ t : State, s.vm.Alike t.vm → H.size ≤ t.heap.size → (∀ q : Nat, q < H.size → t.heap[q]? = H[q]?) → XC cls s t)
    (hf : ∀ z ∈ locs, free z.base) (hc : cells + 1 ≤ mc) (hs : slots + 6 ≤ ms) :
    W p l e R s m args below meth c H locs cells slots (vx_MQ below Qc XC args s mc ms free) (F0 m pc ls rest) := by
  intro T hT X
  have htr : e.platform.stackTraces = false := (show e.platform.stackTraces = l.stackTraces by rw [X.admits.platform]).trans hl
  have Y := vx_rebase X (R' := { frames := R.frames, locals := R.locals, cells := 1, slots := 6 }) (Nat.le_refl _) (Nat.le_refl _) hRcells hRslots
  obtain ⟨s', hA⟩ : ∃ z, z = (T.setVm s.vm).setFrames (.invoking m args :: below) := ⟨_, rfl⟩
  rw [← hA] at Y
  have hvm : s'.vm = s.vm := by rw [hA]; rfl
  have hhp : s'.heap = H := by rw [hA]; exact hT
  have hW0 : s.WarmedH s'.vm := by rw [hvm]; exact State.WarmedH.refl s
  have hat' : ∀ w ∈ vx_atS own ic cls names, w.before args s' = true := fun w hw => vx_ot_at hW0 hvm.symm (hgood w (List.mem_cons_of_mem _ (List.mem_cons_of_mem _ hw))) (hat w hw)
  have hk' : (Cond.classLink own ik cls).before args s' = true := vx_ot_at hW0 hvm.symm (hgood _ List.mem_cons_self) hk
  have hini' : (Cond.initialized cls).before args s' = true := vx_ot_at hW0 hvm.symm (hgood _ (List.mem_cons_of_mem _ List.mem_cons_self)) hini
  have hU' : vx_Zq Bundle.tN "UNASSIGNED_STACK" Bundle.steD A s' s'.heap := by rw [hhp]; exact vx_Zq.moved hW0.alike (hU.kept hS.2.1)
  have hN' : vx_Zq Bundle.tN "SUPPRESSED_SENTINEL" Bundle.listD A s' s'.heap := by rw [hhp]; exact vx_Zq.moved hW0.alike (hN.kept hS.2.1)
  have h : ∀ w ∈ Bundle.ownAtoms own ic cls names, w.before args s' = true := vx_own hat' (vx_isRefq hU'.1) (vx_isRefq hN'.1) hU'.2.word hN'.2.word
  have hown' : s'.vm.findClass own = some m.cls := by rw [hvm]; exact hown
  have hins : (Cond.instantiable cls 6).before args s' = true := h _ (by simp [Bundle.ownAtoms])
  obtain ⟨vm₁, cX, kX, hfX, hkX, -, -, X₁, st1⟩ := Y.newCold hexec (own := own) (C := cls) (index := ik) (n := 6) hown' hk' hins hini'
    (g := F0 m pc ls rest) rfl (by rw [hb]; exact d0) (Nat.le_refl _) (Nat.le_refl _)
  generalize hT1 : (T.setVm vm₁).pushCell { cls := cX, slots := kX.instanceTypes.map defaultValue, vm := .none } = T1 at X₁ st1
  have hcat : (Value.ref T.heap.size).category = 1 := rfl
  have hcellA : T1.heap[T.heap.size]? = some (freshCell cX kX) := by rw [← hT1]; exact State.heap_pushCell_size _ _
  have d3' : decode c.code (pc + 3) = .ok (.dup, 1) := by rw [hb]; exact d3
  have d4' : decode c.code (pc + 4) = .ok (.ldc is, 2) := by rw [hb]; exact d4
  have hstr' : vk_R own is text sa s' := vk_R.warm hW0 hstr
  obtain ⟨U, hsteps, hrun, hend, hW, hsame, ce, hce, hO⟩ := X₁.ctorThrowS hexec htr (own := own) (cls := cls) (names := names) (ic := ic) hown' hcls hnames h (fun x hx => nomatch hx) hfX hkX hcellA (by rw [hhp, hT]; exact Nat.le_refl _) (msg := .ref sa) rfl
    (g := { method := m, pc := pc + 6, locals := ls, stack := .ref sa :: .ref T.heap.size :: .ref T.heap.size :: rest, locked := none }) rfl hsize rfl rfl (rest := rest) rfl
    (by rw [hb]; exact d6) (by rw [hb]; exact d9) hout hRframes (by simp only [List.map_cons, List.sum_cons, hcat]; omega) hlocks
  obtain ⟨f1, f2⟩ := vx_frame hsame
  rw [hhp] at f1 f2
  have hWs : s.WarmedH U.vm := State.WarmedH.trans hW0 hW
  have hcl : s.vm.findClass cls = some ce.cls := by
    have h9 := hO.cls
    rw [hvm] at h9
    exact h9
  have hall : s.sameButNew ({ U with vm := s.vm } : State) locs mc ms := by
    subst hA
    obtain ⟨e1, e2⟩ := hsame
    rw [State.setFrames_setFrames] at e1
    have h2 : (T.setVm s.vm).sameButNew ({ U with vm := s.vm } : State) [] (0 + 1) (0 + 6) := ⟨e1, e2⟩
    have h3 := X.same.trans h2
    rw [List.append_nil] at h3
    exact h3.mono hc hs
  refine ⟨U, ?_, .threw T.heap.size, hrun, hend, Or.inr ⟨T.heap.size, rfl, cls, ce, locs, hx U hWs.alike f1 (fun q hq => f2 q hq (fun z hz => nomatch hz)), hce, hO.vm, hcl, hWs, hall, hf⟩⟩
  refine st1 _ ?_
  show Steps p.tables e below (T1.setTop { method := m, pc := pc + 3, locals := ls, stack := .ref T.heap.size :: rest, locked := none }) _
  jvm_step X₁.here [X₁.here.top, hexec, d3', Value.category]
  exact X₁.ldcString hexec (own := own) (text := text) (index := is) (a := sa) hown' hstr'.1 hstr'.2
    (g := { method := m, pc := pc + 4, locals := ls, stack := .ref T.heap.size :: .ref T.heap.size :: rest, locked := none }) rfl d4' _ hsteps
/-- 'throw new E("text")', the text by a wide index -/
theorem vx_throwSW {cc : ByteArray} {pc : Nat} (hexec : p.tables.exec = Jvm.exec) (hb : c.code = cc) (hl : l.stackTraces = false) {own cls text : String} {names : List String} {ik is ic mc ms sa : Nat} {A : Nat → Prop}
    (hown : s.vm.findClass own = some m.cls) (hcls : Bundle.fit cls = true) (hnames : ∀ n ∈ names, Bundle.fit n = true)
    (hk : (Cond.classLink own ik cls).before args s = true) (hini : (Cond.initialized cls).before args s = true) (hstr : vk_R own is text sa s) (hat : ∀ w ∈ vx_atS own ic cls names, w.before args s = true)
    (hgood : ∀ w ∈ Cond.classLink own ik cls :: Cond.initialized cls :: vx_atS own ic cls names, vx_ot w = true)
    (hU : vx_Zq Bundle.tN "UNASSIGNED_STACK" Bundle.steD A s s.heap) (hN : vx_Zq Bundle.tN "SUPPRESSED_SENTINEL" Bundle.listD A s s.heap) (hS : va_S A s.heap H locs) (hsize : ls.size = c.maxLocals)
    (d0 : decode cc pc = .ok (.new ik, 3)) (d3 : decode cc (pc + 3) = .ok (.dup, 1)) (d4 : decode cc (pc + 4) = .ok (.ldc_w is, 3)) (d7 : decode cc (pc + 7) = .ok (.invokespecial ic, 3)) (d10 : decode cc (pc + 10) = .ok (.athrow, 1))
    (hout : ∀ x ∈ c.exceptionTable.toList, covers x (pc + 10) = false)
    (hRframes : names.length + 3 < R.frames) (hRlocals : (rest.map fun v => v.category).sum + (13 * (names.length + 1) + 43) ≤ R.locals) (hRcells : cells + 1 ≤ R.cells) (hRslots : slots + 6 ≤ R.slots) (hlocks : meth.locks = false)
    (hx : ∀ t : State, s.vm.Alike t.vm → H.size ≤ t.heap.size → (∀ q : Nat, q < H.size → t.heap[q]? = H[q]?) → XC cls s t)
    (hf : ∀ z ∈ locs, free z.base) (hc : cells + 1 ≤ mc) (hs : slots + 6 ≤ ms) :
    W p l e R s m args below meth c H locs cells slots (vx_MQ below Qc XC args s mc ms free) (F0 m pc ls rest) := by
  intro T hT X
  have htr : e.platform.stackTraces = false := (show e.platform.stackTraces = l.stackTraces by rw [X.admits.platform]).trans hl
  have Y := vx_rebase X (R' := { frames := R.frames, locals := R.locals, cells := 1, slots := 6 }) (Nat.le_refl _) (Nat.le_refl _) hRcells hRslots
  obtain ⟨s', hA⟩ : ∃ z, z = (T.setVm s.vm).setFrames (.invoking m args :: below) := ⟨_, rfl⟩
  rw [← hA] at Y
  have hvm : s'.vm = s.vm := by rw [hA]; rfl
  have hhp : s'.heap = H := by rw [hA]; exact hT
  have hW0 : s.WarmedH s'.vm := by rw [hvm]; exact State.WarmedH.refl s
  have hat' : ∀ w ∈ vx_atS own ic cls names, w.before args s' = true := fun w hw => vx_ot_at hW0 hvm.symm (hgood w (List.mem_cons_of_mem _ (List.mem_cons_of_mem _ hw))) (hat w hw)
  have hk' : (Cond.classLink own ik cls).before args s' = true := vx_ot_at hW0 hvm.symm (hgood _ List.mem_cons_self) hk
  have hini' : (Cond.initialized cls).before args s' = true := vx_ot_at hW0 hvm.symm (hgood _ (List.mem_cons_of_mem _ List.mem_cons_self)) hini
  have hU' : vx_Zq Bundle.tN "UNASSIGNED_STACK" Bundle.steD A s' s'.heap := by rw [hhp]; exact vx_Zq.moved hW0.alike (hU.kept hS.2.1)
  have hN' : vx_Zq Bundle.tN "SUPPRESSED_SENTINEL" Bundle.listD A s' s'.heap := by rw [hhp]; exact vx_Zq.moved hW0.alike (hN.kept hS.2.1)
  have h : ∀ w ∈ Bundle.ownAtoms own ic cls names, w.before args s' = true := vx_own hat' (vx_isRefq hU'.1) (vx_isRefq hN'.1) hU'.2.word hN'.2.word
  have hown' : s'.vm.findClass own = some m.cls := by rw [hvm]; exact hown
  have hins : (Cond.instantiable cls 6).before args s' = true := h _ (by simp [Bundle.ownAtoms])
  obtain ⟨vm₁, cX, kX, hfX, hkX, -, -, X₁, st1⟩ := Y.newCold hexec (own := own) (C := cls) (index := ik) (n := 6) hown' hk' hins hini'
    (g := F0 m pc ls rest) rfl (by rw [hb]; exact d0) (Nat.le_refl _) (Nat.le_refl _)
  generalize hT1 : (T.setVm vm₁).pushCell { cls := cX, slots := kX.instanceTypes.map defaultValue, vm := .none } = T1 at X₁ st1
  have hcat : (Value.ref T.heap.size).category = 1 := rfl
  have hcellA : T1.heap[T.heap.size]? = some (freshCell cX kX) := by rw [← hT1]; exact State.heap_pushCell_size _ _
  have d3' : decode c.code (pc + 3) = .ok (.dup, 1) := by rw [hb]; exact d3
  have d4' : decode c.code (pc + 4) = .ok (.ldc_w is, 3) := by rw [hb]; exact d4
  have hstr' : vk_R own is text sa s' := vk_R.warm hW0 hstr
  obtain ⟨U, hsteps, hrun, hend, hW, hsame, ce, hce, hO⟩ := X₁.ctorThrowS hexec htr (own := own) (cls := cls) (names := names) (ic := ic) hown' hcls hnames h (fun x hx => nomatch hx) hfX hkX hcellA (by rw [hhp, hT]; exact Nat.le_refl _) (msg := .ref sa) rfl
    (g := { method := m, pc := pc + 7, locals := ls, stack := .ref sa :: .ref T.heap.size :: .ref T.heap.size :: rest, locked := none }) rfl hsize rfl rfl (rest := rest) rfl
    (by rw [hb]; exact d7) (by rw [hb]; exact d10) hout hRframes (by simp only [List.map_cons, List.sum_cons, hcat]; omega) hlocks
  obtain ⟨f1, f2⟩ := vx_frame hsame
  rw [hhp] at f1 f2
  have hWs : s.WarmedH U.vm := State.WarmedH.trans hW0 hW
  have hcl : s.vm.findClass cls = some ce.cls := by
    have h9 := hO.cls
    rw [hvm] at h9
    exact h9
  have hall : s.sameButNew ({ U with vm := s.vm } : State) locs mc ms := by
    subst hA
    obtain ⟨e1, e2⟩ := hsame
    rw [State.setFrames_setFrames] at e1
    have h2 : (T.setVm s.vm).sameButNew ({ U with vm := s.vm } : State) [] (0 + 1) (0 + 6) := ⟨e1, e2⟩
    have h3 := X.same.trans h2
    rw [List.append_nil] at h3
    exact h3.mono hc hs
  refine ⟨U, ?_, .threw T.heap.size, hrun, hend, Or.inr ⟨T.heap.size, rfl, cls, ce, locs, hx U hWs.alike f1 (fun q hq => f2 q hq (fun z hz => nomatch hz)), hce, hO.vm, hcl, hWs, hall, hf⟩⟩
  refine st1 _ ?_
  show Steps p.tables e below (T1.setTop { method := m, pc := pc + 3, locals := ls, stack := .ref T.heap.size :: rest, locked := none }) _
  jvm_step X₁.here [X₁.here.top, hexec, d3', Value.category]
  exact X₁.ldcStringW hexec (own := own) (text := text) (index := is) (a := sa) hown' hstr'.1 hstr'.2
    (g := { method := m, pc := pc + 4, locals := ls, stack := .ref T.heap.size :: .ref T.heap.size :: rest, locked := none }) rfl d4' _ hsteps
end Ends
section Bodies
variable {l : Launch}
theorem vx_ofW {y : MethodName} {ws ws' : List Cond} {rm : Room} {Pc : Array Value → State → Prop} {Qc : Array Value → State → Outcome → State → Prop} {XC : String → State → State → Prop} {mc ms : Nat} {free : Addr → Prop} {cc : ByteArray} {maxL : Nat} {ret : Option FieldType}
    (hy : plainName y.cls = true) (hw : ws = Cond.code y cc maxL ret :: ws')
    (body : ∀ p e s m args below meth c s₁, BodyLoose p l y (headSpec ws rm) cc maxL ret e s m args below meth c s₁ → c.maxLocals = maxL → (∀ x ∈ c.exceptionTable.toList, False) → Pc args s →
      W p l e (headSpec ws rm).room s m args below meth c s.heap [] 0 0 (vx_MQ below Qc XC args s mc ms free) (entryFrame m args maxL)) : vx_Met l y ws rm Pc Qc XC mc ms free := by
  refine MetFree.of_bodyS (code := cc) (maxLocals := maxL) (ret := ret) hy ?_ ?_
  · intro args s m h hn
    obtain ⟨meth, c, h1, h2, h3, h4, h5, h6, -, -⟩ := Cond.code_spec hn (atoms_spec (ws := ws) h _ (by rw [hw]; exact List.mem_cons_self))
    exact ⟨meth, c, h1, h2, h3, h4, h5, h6⟩
  · intro p e s m args below meth c s₁ B hml hP _
    have hh0 : s₁.heap = s.heap := by rw [B.state]; rfl
    have ht : ∀ x ∈ c.exceptionTable.toList, False := by
      obtain ⟨meth9, c9, h1, h2, -, -, -, -, h7, -⟩ := Cond.code_spec B.named (atoms_spec (ws := ws) B.pre _ (by rw [hw]; exact List.mem_cons_self))
      cases Option.some.inj (h1.symm.trans B.method)
      cases Option.some.inj (h2.symm.trans (Stand.of_body B).code)
      intro x hx
      rw [Array.isEmpty_iff.mp h7] at hx
      cases hx
    obtain ⟨t, a1, o, b1, b2, b3⟩ := body p e s m args below meth c s₁ B hml ht hP s₁ hh0 (Stand.of_body B)
    exact ⟨t, o, a1, b1, b2, b3⟩
/-- the table of a body with handlers -/
theorem vx_table {p : Program} {x y : MethodName} {S : Spec} {cc bytes : ByteArray} {maxL maxL' : Nat} {ret ret' : Option FieldType} {e : Env} {s s₁ : State} {m : MethodId} {args : Array Value} {below : List Frame} {meth : Method} {c : Code} {hh : List (Nat × Nat × Nat × Nat)}
    (B : BodyLoose p l y S cc maxL ret e s m args below meth c s₁) (h : (Cond.codeWith y bytes maxL' ret' hh).before args s = true) : c.exceptionTable.toList = tableOf hh := by
  obtain ⟨m9, meth9, c9, hn9, h1, h2, -, -, h6, -⟩ := Cond.codeWith_spec h
  cases Option.some.inj (hn9.symm.trans B.named)
  cases Option.some.inj (h1.symm.trans B.method)
  cases Option.some.inj (h2.symm.trans (Stand.of_body B).code)
  rw [← h6, table_eq]
end Bodies
end VXA
/-! ===== END ===== -/
/-! ===== BEGIN a static call of a method with an exception table ===== -/
section VXS
variable {p : Program} {l : Launch} {e : Env} {R : Room} {s : State} {m : MethodId} {args : Array Value} {below : List Frame} {meth : Method} {c : Code} {T : State} {H : Heap} {locs : List Loc} {cells slots : Nat}
abbrev vx_CSW (R : Room) (s : State) (args : Array Value) (own : String) (index : Nat) (y : MethodName) (bytes : ByteArray) (maxL : Nat) (ret : Option FieldType) (hh : List (Nat × Nat × Nat × Nat)) (ws : List Cond) (rm : Room) (mc ms n : Nat) : Prop :=
  (rm.cells = mc ∧ rm.slots = ms ∧ rm.frames + 1 ≤ R.frames ∧ 8 + (maxL + 11) + rm.locals ≤ R.locals ∧ (∀ w ∈ ws, ∀ (a' : Array Value) (U : State), s.WarmedH U.vm → w.before a' U = true) ∧ Cond.codeWith y bytes maxL ret hh ∈ ws) ∧
  (Cond.codeWith y bytes maxL ret hh).before args s = true ∧ (Cond.initialized y.cls).before args s = true ∧ (y.cls ≠ "java/lang/invoke/MethodHandle" ∧ y.cls ≠ "java/lang/invoke/VarHandle") ∧
  (∀ sig, parseMethodDescriptor y.desc = some sig → n = sig.parameters.length) ∧ (Cond.methodLink own index y).before args s = true ∧ (Cond.static y).before args s = true
theorem vx_cwSW {own : String} {index maxL mc ms : Nat} {y : MethodName} {bytes : ByteArray} {ret : Option FieldType} {hh : List (Nat × Nat × Nat × Nat)} {Ts ws ws' : List Cond} {rm : Room} (n : Nat) (ht : ∀ w ∈ Ts, w.before args s = true) (hT : GoodIn Ts (va_wsS own index y ws)) (hw : ws = Cond.codeWith y bytes maxL ret hh :: ws') (hrc : rm.cells = mc) (hrs : rm.slots = ms)
    (hd : y.cls ≠ "java/lang/invoke/MethodHandle" ∧ y.cls ≠ "java/lang/invoke/VarHandle" ∧ (parseMethodDescriptor y.desc).map (fun d => d.parameters.length) = some n) (hR : rm.frames + 1 ≤ R.frames ∧ 8 + (maxL + 11) + rm.locals ≤ R.locals) :
    vx_CSW R s args own index y bytes maxL ret hh ws rm mc ms n := by
  have ok : ∀ w ∈ va_wsS own index y ws, w.before args s = true := fun w h => ht w (hT w h).1
  have hG : GoodIn Ts ws := fun w h => hT w (by unfold va_wsS; exact List.mem_append_right _ h)
  have hc : Cond.codeWith y bytes maxL ret hh ∈ ws := by rw [hw]; exact List.mem_cons_self
  refine ⟨⟨hrc, hrs, hR.1, hR.2, pay_in ht hG, hc⟩, ht _ (hG _ hc).1, ok _ (by simp [va_wsS]), ⟨hd.1, hd.2.1⟩, fun sig h => ?_, ok _ (by simp [va_wsS]), ok _ (by simp [va_wsS])⟩
  have h2 := hd.2.2
  rw [h] at h2
  exact (Option.some.inj h2).symm
theorem vx_callSW (X : Stand p l e R s m args below meth c T locs cells slots) (hexec : p.tables.exec = Jvm.exec) {own : String} {index : Nat} {y : MethodName} {bytes : ByteArray} {maxL : Nat} {ret : Option FieldType} {hh : List (Nat × Nat × Nat × Nat)}
    (hown : s.vm.findClass own = some m.cls) (hlink : (Cond.methodLink own index y).before args s = true) (hstat : (Cond.static y).before args s = true) (hinit : (Cond.initialized y.cls).before args s = true)
    (hcode : (Cond.codeWith y bytes maxL ret hh).before args s = true) (hy : y.cls ≠ "java/lang/invoke/MethodHandle" ∧ y.cls ≠ "java/lang/invoke/VarHandle")
    {W9 : Nat} {Pre : Pt → Array Value → Prop} {Post : Pt → Array Value → Option Value → Pt → Prop} (hK : Back l R p e below s args y 3 W9 Pre Post)
    {g : JFrame} (hg : g.method = m) (hsize : g.locals.size = c.maxLocals) {argsL rest : List Value} (hlen : ∀ sig, parseMethodDescriptor y.desc = some sig → argsL.length = sig.parameters.length)
    (hstack : g.stack = argsL.reverse ++ rest) (hW : 2 * g.monitorRoom + (rest.map fun v => v.category).sum ≤ W9) (hdg : decode c.code g.pc = .ok (.invokestatic index, 3))
    (hpre : ∀ vm₁, s.WarmedH vm₁ → Pre ⟨T.setVm vm₁, locs, cells, slots⟩ argsL.toArray) :
    ∃ (v : Option Value) (vm₁ : Vm) (B : Pt), s.WarmedH vm₁ ∧ Stand p l e R s m args below meth c B.U B.locs B.cells B.slots ∧ Post ⟨T.setVm vm₁, locs, cells, slots⟩ argsL.toArray v B ∧
      ∀ target, Steps p.tables e below (B.U.setTop { g with pc := g.pc + 3, stack := v.toList ++ rest }) target → Steps p.tables e below (T.setTop g) target := by
  obtain ⟨mk, methM, cM, hnamed, hmethM, -, -, -, -, -, -, hsigM⟩ := Cond.codeWith_spec hcode
  have hstatic : methM.isStatic = true := Cond.static_spec hnamed hmethM hstat
  obtain ⟨kP, hkP, -⟩ := className_of_methodNamed hnamed
  have hinitP : kP.init = .initialized := Cond.initialized_spec (findClass_of_methodNamed hnamed) hkP hinit
  obtain ⟨vm₁, X₁, hstep₁⟩ := X.invokestatic hexec hown hlink hnamed hmethM hstatic hkP hinitP hy (g := g) hg (argsL := argsL) (rest := rest) (hlen _ hsigM) hstack hdg
  obtain ⟨v, B, X', hpost, hsteps⟩ := hK m meth c ⟨T.setVm vm₁, locs, cells, slots⟩ { g with stack := rest } (.invokestatic index) mk argsL.toArray X₁ hg hsize hdg hW (X₁.named hnamed) (hpre vm₁ X₁.warmed)
  exact ⟨v, vm₁, B, X₁.warmed, X', hpost, fun target h => hstep₁ _ fun acts => by rw [doInvoke_state]; exact hsteps.trans h⟩
theorem vx_runSW {y : MethodName} {bytes cc : ByteArray} {maxL nL mc ms n index : Nat} {ret : Option FieldType} {hh : List (Nat × Nat × Nat × Nat)} {ws : List Cond} {rm : Room} {Pc : Array Value → State → Prop} {Qc : Array Value → State → Outcome → State → Prop} {free : Addr → Prop} {Ts : List Cond} {own : String} {As rest : List Value} {g : JFrame}
    (S : CallFix p m c cc nL s args Ts own) (hM : Met l y ws rm Pc Qc mc ms free) (cw : vx_CSW R s args own index y bytes maxL ret hh ws rm mc ms n) (hp : PreS s H Pc As)
    (hg : g.method = m) (hn : As.length = n) (hsize : g.locals.size = nL) (hstack : g.stack = As.reverse ++ rest) (hW : 2 * g.monitorRoom + (rest.map fun v => v.category).sum ≤ 8) (hdg : decode cc g.pc = .ok (.invokestatic index, 3)) (hf : cells + mc ≤ R.cells ∧ slots + ms ≤ R.slots) :
    va_Run p l e R s m args below meth c H locs cells slots mc ms g rest (Qc As.toArray) (free) := by
  obtain ⟨⟨hrc, hrs, hfr, hlo, hws, hcw⟩, hcode, hini, hy, hlen, hl, hstt⟩ := cw
  have hK : Back l R p e below s args y 3 8 (PreOf R mc ms Pc) (PostOf Qc mc ms free) := va_backW (hh := hh) (bytes := bytes) (maxL := maxL) (ret := ret) hM hp.1 hrc hrs hfr hlo hws hcw (fun a' U hW => word_at hW (Or.inl (by first | rfl | simp [Cond.onTables, Cond.keeps, Cond.steady])) hini)
  obtain ⟨hx, hb, hml, ho, -⟩ := S
  intro T hT X
  obtain ⟨v, vm₁, ⟨U', l2, c2, s2⟩, hW₁, X', ⟨g', mk, t, L, e1, e2, hq, h1, hL, h2, h3⟩, st⟩ := vx_callSW X hx (hh := hh) (bytes := bytes) (maxL := maxL) (ret := ret) ho hl hstt hini hcode hy hK hg (hsize.trans hml.symm) (argsL := As) (rest := rest) (fun sig h => hn.trans (hlen sig h)) hstack hW (by rw [hb]; exact hdg)
    (fun vm₁ hW₁ => ⟨hf.1, hf.2, hp.2 (T.setVm vm₁) hT hW₁⟩)
  dsimp only [Pt.U, Pt.locs, Pt.cells, Pt.slots] at X' e1 e2 h1 h2 h3 st
  subst h1; subst h2; subst h3
  exact ⟨v, (T.setVm vm₁).calling g' mk As.toArray, t, U', L, hT, X', hL, e1, e2, hq, st⟩
/-- not caught here, past rows that name other classes: it goes on to the caller -/
theorem vx_outP {p : Program} {l : Launch} {e : Env} {R : Room} {s : State} {m : MethodId} {args : Array Value} {below : List Frame} {meth : Method} {c : Code} {H : Heap} {locs : List Loc} {cells slots : Nat} {free : Addr → Prop} {ls : Array Slot} {rest : List Value} {Qc : Array Value → State → Outcome → State → Prop} {XC : String → State → State → Prop}
    {pc : Nat} {own E : String} {ce : Cell} {q : Addr} {mc ms : Nat} (hown : s.vm.findClass own = some m.cls) (hlocks : meth.locks = false)
    (hpass : ∀ z ∈ c.exceptionTable.toList, covers z pc = false ∨ (z.catchType ≠ 0 ∧ ∃ nm : String, (Cond.classLink own z.catchType nm).before args s = true ∧ va_Nc E nm s)) (hcell : H[q]? = some ce) (hv : ce.vm = .none) (hcl : s.vm.findClass E = some ce.cls)
    (hx : ∀ t : State, t.heap = H → s.vm.Alike t.vm → XC E s t) (hf : ∀ z ∈ locs, free z.base) (hc : cells ≤ mc) (hs : slots ≤ ms) :
    vx_W p l e R s m args below meth c H locs cells slots (vx_MQ below Qc XC args s mc ms free) (F0 m pc ls rest) q := by
  intro T hT X
  have hpl : e.platform.magicAccessors = ({} : Platform).magicAccessors := by rw [X.admits.platform]
  obtain ⟨vm', hW', X', st⟩ := X.outThrough hlocks q (g := F0 m pc ls rest) rfl rfl rfl (cell := ce) (by rw [hT]; exact hcell) (by rw [hv]; rfl)
    (by obtain ⟨k9, h9, -⟩ := Vm.findClass_spec hcl; exact ⟨k9, h9⟩) (fun z hz => by
      rcases hpass z hz with h | ⟨hz0, nm, hl1, hn1⟩
      · exact Or.inl h
      · obtain ⟨c6, hc6, hcl6⟩ := Cond.classLink_spec hown hl1 e.platform hpl
        obtain ⟨a8, b8, h1, h2, h3⟩ := hn1
        cases Option.some.inj (h1.symm.trans hcl)
        cases Option.some.inj (h2.symm.trans hc6)
        exact Or.inr ⟨hz0, _, hcl6, h3⟩)
  obtain ⟨g₀, hfr⟩ := X'.frames_eq
  have hcell9 : ((T.setVm vm').setFrames (.throwing q :: below)).heap[q]? = some ce := by
    show T.heap[q]? = some ce
    rw [hT]; exact hcell
  have hend : Ended ((T.setVm vm').setFrames (.throwing q :: below)) below (.threw q) := State.frames_setFrames _ (State.cur_lt_of_frames hfr)
  refine ⟨(T.setVm vm').setFrames (.throwing q :: below), ?_, .threw q, X'.here.running, hend, Or.inr ⟨q, rfl, E, ce, locs, hx _ hT (X'.ends _).1.alike, hcell9, hv, hcl, (X'.ends _).1, (X'.ends _).2.mono hc hs, hf⟩⟩
  rw [X.pushThrowing_eq]
  exact st
/-- a thing of a world lies in the heap -/
theorem vx_lt {D : va_G} {cl : List vw_C} {ws : va_W} {H1 : Heap} (h : va_P D cl ws H1) {k : Nat} {q : Nat × va_E} (hk : ws[k]? = some q) : q.1 < H1.size := (h k q hk).lt
end VXS
/-! ===== END ===== -/
/-! ===== BEGIN methods with a table of their own: called by a name, returning or throwing ===== -/
section VXH
/-! vx_backW, vx_callVX, vx_callSX, vx_callVW, vx_runVW, vx_runVX, vx_runSX, vx_ofWH follow the same proofs as their sisters above (Free/Laws.lean, Shelf42/LK1.lean); vx_outP calls Shelf42/NT130.lean (outThrough). -/
section
variable {l : Launch} {R : Room} {p : Program} {e : Env} {below : List Frame} {s : State} {sargs : Array Value} {y : MethodName} {len W9 : Nat}
theorem vx_backW {ws : List Cond} {rm : Room} {Pc : Array Value → State → Prop} {Qc : Array Value → State → Outcome → State → Prop} {XC : String → State → State → Prop} {mc ms : Nat} {free : Addr → Prop} {bytes : ByteArray} {maxL : Nat} {ret : Option FieldType} {hh : List (Nat × Nat × Nat × Nat)}
    (hM : vx_Met l y ws rm Pc Qc XC mc ms free) (hblind : FrameBlind Pc) (hrc : rm.cells = mc) (hrs : rm.slots = ms)
    (hframes : rm.frames + 1 ≤ R.frames) (hlocals : W9 + (maxL + 11) + rm.locals ≤ R.locals)
    (hws : ∀ w ∈ ws, ∀ a' U, s.WarmedH U.vm → w.before a' U = true) (hcode : Cond.codeWith y bytes maxL ret hh ∈ ws) (hinit : ∀ a' U, s.WarmedH U.vm → (Cond.initialized y.cls).before a' U = true) :
    vx_Back l R p e below s sargs y len W9 (PreOf R mc ms Pc) (PostOf Qc mc ms free) (vx_Post XC mc ms free) := by
  intro m meth c A g ig mk a X hg hsize hdg hW hn hp
  have h1 : (headSpec ws rm).pre.before a A.U = true := atoms_intro fun w hw => hws w hw _ _ X.warmed
  have h2 : (Cond.codeWith y bytes maxL ret hh).before a A.U = true := hws _ hcode _ _ X.warmed
  have h3 : (Cond.initialized y.cls).before a A.U = true := hinit _ _ X.warmed
  have h4 : A.cells + (headSpec ws rm).room.cells ≤ R.cells := by rw [show (headSpec ws rm).room.cells = mc from hrc]; exact hp.1
  have h5 : A.slots + (headSpec ws rm).room.slots ≤ R.slots := by rw [show (headSpec ws rm).room.slots = ms from hrs]; exact hp.2.1
  have hPc : Pc a (A.U.calling g mk a) := hblind _ _ _ _ hp.2.2
  obtain ⟨U, Ls, c0, s0⟩ := A
  dsimp only [Pt.U, Pt.locs, Pt.cells, Pt.slots] at h1 h2 h3 h4 h5 X hn hPc ⊢
  obtain ⟨m9, methY, cY, hn9, hmY, hcY, -, hlY, -⟩ := Cond.codeWith_spec h2
  cases Option.some.inj (hn9.symm.trans hn)
  obtain ⟨kY, hkY, -⟩ := className_of_methodNamed hn
  have hinitY : kY.init = .initialized := Cond.initialized_spec (findClass_of_methodNamed hn) hkY h3
  have h : At U g.method c below := by rw [hg]; exact X.here
  have hlocals9 : W9 + (maxL + 11) + (headSpec ws rm).room.locals ≤ R.locals := hlocals
  have happ : (headSpec ws rm).appliesLoose y e.platform (U.calling g mk a) = true :=
    Spec.appliesLoose_calling (g := g) h hdg hn hkY hinitY
      (X.room_calling (g := g) (R' := (headSpec ws rm).room) hsize hmY hcY hframes (by rw [hlY]; omega) h4 h5) h1
  obtain ⟨mid, hmid⟩ := h.above
  have hfr : (U.setTop g).frames = (.java g :: mid) ++ below := by rw [State.frames_setTop' g h.top, hmid]; rfl
  obtain ⟨o, s₂, hsteps, -, hend, hq⟩ := Steps.callFree hM p X.admits X.cas X.clock (acts := []) hfr happ hPc trivial
  have hq' : vx_Q Qc XC mc ms free a (U.calling g mk a) o s₂ := hq
  rw [State.frames_setTop' g h.top] at hend
  obtain ⟨g₀, hg0⟩ := Option.isSome_iff_exists.mp h.top
  obtain ⟨r, hr⟩ := State.topJava?_eq_some.mp hg0
  have hr' : (({ U with heap := s₂.heap, slotsUsed := s₂.slotsUsed } : State).setVm s₂.vm).frames = .java g₀ :: r := hr
  rcases hq' with ⟨hqc, L, hfe, hL⟩ | ⟨q, rfl, E, ce, L, hx, hce, hcv, hcl, hW₂, hsm, hL⟩
  · obtain ⟨⟨v, rfl⟩, hW₂, e2, q2, q3, q4, q5, q6⟩ := id hfe
    have e3 : s₂ = ({ (U.calling g mk a).setFrames s₂.frames with heap := s₂.heap, slotsUsed := s₂.slotsUsed } : State).setVm s₂.vm := by
      have : s₂ = ({ s₂ with vm := (U.calling g mk a).vm } : State).setVm s₂.vm := rfl
      rw [e2] at this
      exact this
    obtain ⟨c₂, i₂, len₂, hc₂, hd₂, hf₂⟩ := hend
    have hW' : U.WarmedH s₂.vm := hW₂
    have hcc : c₂ = c := by
      have h1 : s₂.code? g.method = U.code? g.method := by
        rw [State.code?_eq, State.code?_eq, hW'.alike.method?]
      exact Option.some.inj (hc₂.symm.trans (h1.trans h.code))
    subst hcc
    have hlen : len₂ = len := by rw [hdg] at hd₂; cases hd₂; rfl
    subst hlen
    have hs₂ : s₂ = (({ U with heap := s₂.heap, slotsUsed := s₂.slotsUsed } : State).setVm s₂.vm).setTop { g with pc := g.pc + len₂, stack := v.toList ++ g.stack } := by
      refine e3.trans ?_
      rw [hf₂, State.calling_eq h.top, State.setFrames_setFrames, State.setTop_of_frames _ hr', hr]
      rfl
    have hsame : U.sameButNew ({ U with heap := s₂.heap, slotsUsed := s₂.slotsUsed } : State) L mc ms := by
      refine ⟨?_, q2, q3, q4, q5, q6⟩
      obtain ⟨t, ht, -⟩ := State.frames_cons hr
      show ({ U with heap := s₂.heap, slotsUsed := s₂.slotsUsed } : State) = { U.setFrames U.frames with heap := s₂.heap, slotsUsed := s₂.slotsUsed }
      rw [State.setFrames_self ht]
    subst hg
    refine Or.inl ⟨v, ⟨(({ U with heap := s₂.heap, slotsUsed := s₂.slotsUsed } : State).setVm s₂.vm), Ls ++ L, c0 + mc, s0 + ms⟩,
      ⟨X.admits, X.cas, X.clock, X.frames, X.room, X.hears, X.method, X.code, (X.here.setHeapUsed s₂.heap s₂.slotsUsed).setVm hW'.alike, X.tail, State.WarmedH.trans X.warmed hW', X.limits, X.bytes, X.same.trans (hsame.setVm s.vm)⟩,
      ⟨g, mk, s₂, L, rfl, rfl, hqc, rfl, hL, rfl, rfl⟩, ?_⟩
    show Steps p.tables e below _ ((({ U with heap := s₂.heap, slotsUsed := s₂.slotsUsed } : State).setVm s₂.vm).setTop { g with pc := g.pc + len₂, stack := v.toList ++ g.stack })
    rw [← hs₂]
    exact hsteps
  · obtain ⟨e2, q2, q3, q4, q5, q6⟩ := id hsm
    have e3 : s₂ = ({ (U.calling g mk a).setFrames s₂.frames with heap := s₂.heap, slotsUsed := s₂.slotsUsed } : State).setVm s₂.vm := by
      have : s₂ = ({ s₂ with vm := (U.calling g mk a).vm } : State).setVm s₂.vm := rfl
      rw [e2] at this
      exact this
    have hf₂ : s₂.frames = .throwing q :: .java g :: U.frames.tail := hend
    have hW' : U.WarmedH s₂.vm := hW₂
    have hs₂ : s₂ = ((({ U with heap := s₂.heap, slotsUsed := s₂.slotsUsed } : State).setVm s₂.vm).setTop g).pushFrame (.throwing q) := by
      refine e3.trans ?_
      rw [hf₂, State.calling_eq h.top, State.setFrames_setFrames, State.pushFrame, State.frames_setTop _ hr', State.setTop_of_frames _ hr', State.setFrames_setFrames, hr]
      rfl
    have hsame : U.sameButNew ({ U with heap := s₂.heap, slotsUsed := s₂.slotsUsed } : State) L mc ms := by
      refine ⟨?_, q2, q3, q4, q5, q6⟩
      obtain ⟨t, ht, -⟩ := State.frames_cons hr
      show ({ U with heap := s₂.heap, slotsUsed := s₂.slotsUsed } : State) = { U.setFrames U.frames with heap := s₂.heap, slotsUsed := s₂.slotsUsed }
      rw [State.setFrames_self ht]
    subst hg
    refine Or.inr ⟨q, ⟨(({ U with heap := s₂.heap, slotsUsed := s₂.slotsUsed } : State).setVm s₂.vm), Ls ++ L, c0 + mc, s0 + ms⟩,
      ⟨X.admits, X.cas, X.clock, X.frames, X.room, X.hears, X.method, X.code, (X.here.setHeapUsed s₂.heap s₂.slotsUsed).setVm hW'.alike, X.tail, State.WarmedH.trans X.warmed hW', X.limits, X.bytes, X.same.trans (hsame.setVm s.vm)⟩,
      ⟨g, mk, s₂, L, E, ce, rfl, rfl, hx, hce, hcv, hcl, rfl, hL, rfl, rfl⟩, ?_⟩
    show Steps p.tables e below _ (((({ U with heap := s₂.heap, slotsUsed := s₂.slotsUsed } : State).setVm s₂.vm).setTop g).pushFrame (.throwing q))
    rw [← hs₂]
    exact hsteps
end
variable {p : Program} {l : Launch} {e : Env} {R : Room} {s : State} {m : MethodId} {args : Array Value} {below : List Frame} {meth : Method} {c : Code} {T : State} {H : Heap} {locs : List Loc} {cells slots : Nat}
theorem vx_callVX (X : Stand p l e R s m args below meth c T locs cells slots) (hexec : p.tables.exec = Jvm.exec) {own C : String} {index : Nat} {y : MethodName} {bytes : ByteArray} {maxL : Nat} {ret : Option FieldType} {hh : List (Nat × Nat × Nat × Nat)}
    (hown : s.vm.findClass own = some m.cls) (hlink : (Cond.methodLink own index y).before args s = true) (hinst : (Cond.instanceMethod y).before args s = true) (hsel : (Cond.selects C y y).before args s = true)
    (hcode : (Cond.codeWith y bytes maxL ret hh).before args s = true) (hy : y.cls ≠ "java/lang/invoke/MethodHandle" ∧ y.cls ≠ "java/lang/invoke/VarHandle")
    {W9 : Nat} {Pre : Pt → Array Value → Prop} {Post : Pt → Array Value → Option Value → Pt → Prop} {PostX : Pt → Array Value → Addr → Pt → Prop} (hK : vx_Back l R p e below s args y 3 W9 Pre Post PostX)
    {b : Addr} {cellB : Cell} (hcell : T.heap[b]? = some cellB) (hobj : cellB.vm.isStatics = false) (hcls : s.vm.findClass C = some cellB.cls)
    {g : JFrame} (hg : g.method = m) (hsize : g.locals.size = c.maxLocals) {argsL rest : List Value} (hlen : ∀ sig, parseMethodDescriptor y.desc = some sig → argsL.length = sig.parameters.length)
    (hstack : g.stack = argsL.reverse ++ .ref b :: rest) (hW : 2 * g.monitorRoom + (rest.map fun v => v.category).sum ≤ W9) (hdg : decode c.code g.pc = .ok (.invokevirtual index, 3))
    (hpre : ∀ vm₁, s.WarmedH vm₁ → Pre ⟨T.setVm vm₁, locs, cells, slots⟩ (Value.ref b :: argsL).toArray) :
    (∃ (v : Option Value) (vm₁ : Vm) (B : Pt), s.WarmedH vm₁ ∧ Stand p l e R s m args below meth c B.U B.locs B.cells B.slots ∧ Post ⟨T.setVm vm₁, locs, cells, slots⟩ (Value.ref b :: argsL).toArray v B ∧
      ∀ target, Steps p.tables e below (B.U.setTop { g with pc := g.pc + 3, stack := v.toList ++ rest }) target → Steps p.tables e below (T.setTop g) target) ∨
    (∃ (q : Addr) (vm₁ : Vm) (B : Pt), s.WarmedH vm₁ ∧ Stand p l e R s m args below meth c B.U B.locs B.cells B.slots ∧ PostX ⟨T.setVm vm₁, locs, cells, slots⟩ (Value.ref b :: argsL).toArray q B ∧
      Steps p.tables e below (T.setTop g) ((B.U.setTop { g with stack := rest }).pushFrame (.throwing q))) := by
  obtain ⟨mk, methM, hnamed, hmethM, hstM, habM⟩ := Cond.instanceMethod_spec hinst
  obtain ⟨m8, methM', cM, hn8, hmethM', -, -, -, -, -, -, hsigM⟩ := Cond.codeWith_spec hcode
  cases Option.some.inj (hn8.symm.trans hnamed)
  cases hmethM.symm.trans hmethM'
  obtain ⟨c2, r2, m2, q1, q2, q3, q4, kP, hkP, hkPi⟩ := Cond.selects_spec hsel
  cases hcls.symm.trans q1
  cases (State.methodFound?_of_named hnamed hy).symm.trans q2
  cases hnamed.symm.trans q3
  have hselP : selectMethod e.platform s.vm cellB.cls mk = .method mk := by rw [Launch.admits_selectMethod X.admits]; exact q4
  obtain ⟨vm₁, X₁, hstep₁⟩ := X.invokevirtual hexec hown hlink hnamed hmethM hstM hkP hkPi hy (a := b) (cell := cellB) hcell
    (fun z h => by rw [h] at hobj; cases hobj) hselP hmethM habM hkP hkPi (g := g) hg (argsL := argsL) (rest := rest) (hlen _ hsigM) hstack hdg
  rcases hK m meth c ⟨T.setVm vm₁, locs, cells, slots⟩ { g with stack := rest } (.invokevirtual index) mk (Value.ref b :: argsL).toArray X₁ hg hsize hdg hW (X₁.named hnamed) (hpre vm₁ X₁.warmed) with ⟨v, B, X', hpost, hsteps⟩ | ⟨q, B, X', hpost, hsteps⟩
  · exact Or.inl ⟨v, vm₁, B, X₁.warmed, X', hpost, fun target h => hstep₁ _ fun acts => by rw [doInvoke_state]; exact hsteps.trans h⟩
  · exact Or.inr ⟨q, vm₁, B, X₁.warmed, X', hpost, hstep₁ _ fun acts => by rw [doInvoke_state]; exact hsteps⟩
theorem vx_callSX (X : Stand p l e R s m args below meth c T locs cells slots) (hexec : p.tables.exec = Jvm.exec) {own : String} {index : Nat} {y : MethodName} {bytes : ByteArray} {maxL : Nat} {ret : Option FieldType} {hh : List (Nat × Nat × Nat × Nat)}
    (hown : s.vm.findClass own = some m.cls) (hlink : (Cond.methodLink own index y).before args s = true) (hstat : (Cond.static y).before args s = true) (hinit : (Cond.initialized y.cls).before args s = true)
    (hcode : (Cond.codeWith y bytes maxL ret hh).before args s = true) (hy : y.cls ≠ "java/lang/invoke/MethodHandle" ∧ y.cls ≠ "java/lang/invoke/VarHandle")
    {W9 : Nat} {Pre : Pt → Array Value → Prop} {Post : Pt → Array Value → Option Value → Pt → Prop} {PostX : Pt → Array Value → Addr → Pt → Prop} (hK : vx_Back l R p e below s args y 3 W9 Pre Post PostX)
    {g : JFrame} (hg : g.method = m) (hsize : g.locals.size = c.maxLocals) {argsL rest : List Value} (hlen : ∀ sig, parseMethodDescriptor y.desc = some sig → argsL.length = sig.parameters.length)
    (hstack : g.stack = argsL.reverse ++ rest) (hW : 2 * g.monitorRoom + (rest.map fun v => v.category).sum ≤ W9) (hdg : decode c.code g.pc = .ok (.invokestatic index, 3))
    (hpre : ∀ vm₁, s.WarmedH vm₁ → Pre ⟨T.setVm vm₁, locs, cells, slots⟩ argsL.toArray) :
    (∃ (v : Option Value) (vm₁ : Vm) (B : Pt), s.WarmedH vm₁ ∧ Stand p l e R s m args below meth c B.U B.locs B.cells B.slots ∧ Post ⟨T.setVm vm₁, locs, cells, slots⟩ argsL.toArray v B ∧
      ∀ target, Steps p.tables e below (B.U.setTop { g with pc := g.pc + 3, stack := v.toList ++ rest }) target → Steps p.tables e below (T.setTop g) target) ∨
    (∃ (q : Addr) (vm₁ : Vm) (B : Pt), s.WarmedH vm₁ ∧ Stand p l e R s m args below meth c B.U B.locs B.cells B.slots ∧ PostX ⟨T.setVm vm₁, locs, cells, slots⟩ argsL.toArray q B ∧
      Steps p.tables e below (T.setTop g) ((B.U.setTop { g with stack := rest }).pushFrame (.throwing q))) := by
  obtain ⟨mk, methM, cM, hnamed, hmethM, -, -, -, -, -, -, hsigM⟩ := Cond.codeWith_spec hcode
  have hstatic : methM.isStatic = true := Cond.static_spec hnamed hmethM hstat
  obtain ⟨kP, hkP, -⟩ := className_of_methodNamed hnamed
  have hinitP : kP.init = .initialized := Cond.initialized_spec (findClass_of_methodNamed hnamed) hkP hinit
  obtain ⟨vm₁, X₁, hstep₁⟩ := X.invokestatic hexec hown hlink hnamed hmethM hstatic hkP hinitP hy (g := g) hg (argsL := argsL) (rest := rest) (hlen _ hsigM) hstack hdg
  rcases hK m meth c ⟨T.setVm vm₁, locs, cells, slots⟩ { g with stack := rest } (.invokestatic index) mk argsL.toArray X₁ hg hsize hdg hW (X₁.named hnamed) (hpre vm₁ X₁.warmed) with ⟨v, B, X', hpost, hsteps⟩ | ⟨q, B, X', hpost, hsteps⟩
  · exact Or.inl ⟨v, vm₁, B, X₁.warmed, X', hpost, fun target h => hstep₁ _ fun acts => by rw [doInvoke_state]; exact hsteps.trans h⟩
  · exact Or.inr ⟨q, vm₁, B, X₁.warmed, X', hpost, hstep₁ _ fun acts => by rw [doInvoke_state]; exact hsteps⟩
theorem vx_callVW (X : Stand p l e R s m args below meth c T locs cells slots) (hexec : p.tables.exec = Jvm.exec) {own C : String} {index : Nat} {y : MethodName} {bytes : ByteArray} {maxL : Nat} {ret : Option FieldType} {hh : List (Nat × Nat × Nat × Nat)}
    (hown : s.vm.findClass own = some m.cls) (hlink : (Cond.methodLink own index y).before args s = true) (hinst : (Cond.instanceMethod y).before args s = true) (hsel : (Cond.selects C y y).before args s = true)
    (hcode : (Cond.codeWith y bytes maxL ret hh).before args s = true) (hy : y.cls ≠ "java/lang/invoke/MethodHandle" ∧ y.cls ≠ "java/lang/invoke/VarHandle")
    {W9 : Nat} {Pre : Pt → Array Value → Prop} {Post : Pt → Array Value → Option Value → Pt → Prop} (hK : Back l R p e below s args y 3 W9 Pre Post)
    {b : Addr} {cellB : Cell} (hcell : T.heap[b]? = some cellB) (hobj : cellB.vm.isStatics = false) (hcls : s.vm.findClass C = some cellB.cls)
    {g : JFrame} (hg : g.method = m) (hsize : g.locals.size = c.maxLocals) {argsL rest : List Value} (hlen : ∀ sig, parseMethodDescriptor y.desc = some sig → argsL.length = sig.parameters.length)
    (hstack : g.stack = argsL.reverse ++ .ref b :: rest) (hW : 2 * g.monitorRoom + (rest.map fun v => v.category).sum ≤ W9) (hdg : decode c.code g.pc = .ok (.invokevirtual index, 3))
    (hpre : ∀ vm₁, s.WarmedH vm₁ → Pre ⟨T.setVm vm₁, locs, cells, slots⟩ (Value.ref b :: argsL).toArray) :
    ∃ (v : Option Value) (vm₁ : Vm) (B : Pt), s.WarmedH vm₁ ∧ Stand p l e R s m args below meth c B.U B.locs B.cells B.slots ∧ Post ⟨T.setVm vm₁, locs, cells, slots⟩ (Value.ref b :: argsL).toArray v B ∧
      ∀ target, Steps p.tables e below (B.U.setTop { g with pc := g.pc + 3, stack := v.toList ++ rest }) target → Steps p.tables e below (T.setTop g) target := by
  obtain ⟨mk, methM, hnamed, hmethM, hstM, habM⟩ := Cond.instanceMethod_spec hinst
  obtain ⟨m8, methM', cM, hn8, hmethM', -, -, -, -, -, -, hsigM⟩ := Cond.codeWith_spec hcode
  cases Option.some.inj (hn8.symm.trans hnamed)
  cases hmethM.symm.trans hmethM'
  obtain ⟨c2, r2, m2, q1, q2, q3, q4, kP, hkP, hkPi⟩ := Cond.selects_spec hsel
  cases hcls.symm.trans q1
  cases (State.methodFound?_of_named hnamed hy).symm.trans q2
  cases hnamed.symm.trans q3
  have hselP : selectMethod e.platform s.vm cellB.cls mk = .method mk := by rw [Launch.admits_selectMethod X.admits]; exact q4
  obtain ⟨vm₁, X₁, hstep₁⟩ := X.invokevirtual hexec hown hlink hnamed hmethM hstM hkP hkPi hy (a := b) (cell := cellB) hcell
    (fun z h => by rw [h] at hobj; cases hobj) hselP hmethM habM hkP hkPi (g := g) hg (argsL := argsL) (rest := rest) (hlen _ hsigM) hstack hdg
  obtain ⟨v, B, X', hpost, hsteps⟩ := hK m meth c ⟨T.setVm vm₁, locs, cells, slots⟩ { g with stack := rest } (.invokevirtual index) mk (Value.ref b :: argsL).toArray X₁ hg hsize hdg hW (X₁.named hnamed) (hpre vm₁ X₁.warmed)
  exact ⟨v, vm₁, B, X₁.warmed, X', hpost, fun target h => hstep₁ _ fun acts => by rw [doInvoke_state]; exact hsteps.trans h⟩
abbrev vx_CVW (R : Room) (s : State) (args : Array Value) (own C : String) (index : Nat) (y : MethodName) (bytes : ByteArray) (maxL : Nat) (ret : Option FieldType) (hh : List (Nat × Nat × Nat × Nat)) (ws : List Cond) (rm : Room) (mc ms n : Nat) : Prop :=
  (rm.cells = mc ∧ rm.slots = ms ∧ rm.frames + 1 ≤ R.frames ∧ 8 + (maxL + 11) + rm.locals ≤ R.locals ∧ (∀ w ∈ ws, ∀ (a' : Array Value) (U : State), s.WarmedH U.vm → w.before a' U = true) ∧ Cond.codeWith y bytes maxL ret hh ∈ ws) ∧
  (Cond.codeWith y bytes maxL ret hh).before args s = true ∧ (Cond.initialized y.cls).before args s = true ∧ (y.cls ≠ "java/lang/invoke/MethodHandle" ∧ y.cls ≠ "java/lang/invoke/VarHandle") ∧
  (∀ sig, parseMethodDescriptor y.desc = some sig → n = sig.parameters.length) ∧ (Cond.methodLink own index y).before args s = true ∧ (Cond.instanceMethod y).before args s = true ∧ (Cond.selects C y y).before args s = true
theorem vx_cwVW {own C : String} {index maxL mc ms : Nat} {y : MethodName} {bytes : ByteArray} {ret : Option FieldType} {hh : List (Nat × Nat × Nat × Nat)} {Ts ws ws' : List Cond} {rm : Room} (n : Nat) (ht : ∀ w ∈ Ts, w.before args s = true) (hT : GoodIn Ts (wsV own index C y ws)) (hw : ws = Cond.codeWith y bytes maxL ret hh :: ws') (hrc : rm.cells = mc) (hrs : rm.slots = ms)
    (hd : y.cls = C ∧ y.cls ≠ "java/lang/invoke/MethodHandle" ∧ y.cls ≠ "java/lang/invoke/VarHandle" ∧ (parseMethodDescriptor y.desc).map (fun d => d.parameters.length) = some n) (hR : rm.frames + 1 ≤ R.frames ∧ 8 + (maxL + 11) + rm.locals ≤ R.locals) :
    vx_CVW R s args own C index y bytes maxL ret hh ws rm mc ms n := by
  obtain ⟨hC, hd⟩ := hd
  subst hC
  have ok : ∀ w ∈ wsV own index y.cls y ws, w.before args s = true := fun w h => ht w (hT w h).1
  have hG : GoodIn Ts ws := fun w h => hT w (by unfold wsV; exact List.mem_append_right _ h)
  have hc : Cond.codeWith y bytes maxL ret hh ∈ ws := by rw [hw]; exact List.mem_cons_self
  refine ⟨⟨hrc, hrs, hR.1, hR.2, pay_in ht hG, hc⟩, ht _ (hG _ hc).1, ok _ (by simp [wsV]), ⟨hd.1, hd.2.1⟩, fun sig h => ?_, ok _ (by simp [wsV]), ok _ (by simp [wsV]), ok _ (by simp [wsV])⟩
  have h2 := hd.2.2
  rw [h] at h2
  exact (Option.some.inj h2).symm
theorem vx_runVW {y : MethodName} {bytes cc : ByteArray} {maxL nL mc ms n index : Nat} {ret : Option FieldType} {hh : List (Nat × Nat × Nat × Nat)} {ws : List Cond} {rm : Room} {Pc : Array Value → State → Prop} {Qc : Array Value → State → Outcome → State → Prop} {free : Addr → Prop} {Ts : List Cond} {own C : String} {b : Addr} {As rest : List Value} {g : JFrame}
    (S : CallFix p m c cc nL s args Ts own) (hM : Met l y ws rm Pc Qc mc ms free) (cw : vx_CVW R s args own C index y bytes maxL ret hh ws rm mc ms n) (hp : PreV s H C b Pc As)
    (hg : g.method = m) (hn : As.length = n) (hsize : g.locals.size = nL) (hstack : g.stack = As.reverse ++ .ref b :: rest) (hW : 2 * g.monitorRoom + (rest.map fun v => v.category).sum ≤ 8) (hdg : decode cc g.pc = .ok (.invokevirtual index, 3)) (hf : cells + mc ≤ R.cells ∧ slots + ms ≤ R.slots) :
    va_Run p l e R s m args below meth c H locs cells slots mc ms g rest (Qc (Value.ref b :: As).toArray) free := by
  obtain ⟨⟨hrc, hrs, hfr, hlo, hws, hcw⟩, hcode, hini, hy, hlen, hl, hin, hse⟩ := cw
  have hK : Back l R p e below s args y 3 8 (PreOf R mc ms Pc) (PostOf Qc mc ms free) := va_backW (hh := hh) (bytes := bytes) (maxL := maxL) (ret := ret) hM hp.1 hrc hrs hfr hlo hws hcw (fun a' U hW => word_at hW (Or.inl (by first | rfl | simp [Cond.onTables, Cond.keeps, Cond.steady])) hini)
  obtain ⟨hx, hb, hml, ho, -⟩ := S
  obtain ⟨-, ⟨cellB, hcB, hoB, hclB⟩, hPc⟩ := hp
  intro T hT X
  obtain ⟨v, vm₁, ⟨U', l2, c2, s2⟩, hW₁, X', ⟨g', mk, t, L, e1, e2, hq, h1, hL, h2, h3⟩, st⟩ := vx_callVW X hx (C := C) (hh := hh) (bytes := bytes) (maxL := maxL) (ret := ret) ho hl hin hse hcode hy hK (by rw [hT]; exact hcB) hoB hclB hg (hsize.trans hml.symm) (argsL := As) (rest := rest) (fun sig h => hn.trans (hlen sig h)) hstack hW (by rw [hb]; exact hdg)
    (fun vm₁ hW₁ => ⟨hf.1, hf.2, hPc (T.setVm vm₁) hT hW₁⟩)
  dsimp only [Pt.U, Pt.locs, Pt.cells, Pt.slots] at X' e1 e2 h1 h2 h3 st
  subst h1; subst h2; subst h3
  exact ⟨v, (T.setVm vm₁).calling g' mk (Value.ref b :: As).toArray, t, U', L, hT, X', hL, e1, e2, hq, st⟩
section
variable {y : MethodName} {bytes cc : ByteArray} {maxL nL mc ms n index : Nat} {ret : Option FieldType} {ws : List Cond} {rm : Room} {Pc : Array Value → State → Prop} {Qc : Array Value → State → Outcome → State → Prop} {XC : String → State → State → Prop} {free : Addr → Prop} {Ts : List Cond} {own C : String} {b : Addr} {As rest : List Value} {g : JFrame}
theorem vx_runVX {hh : List (Nat × Nat × Nat × Nat)} (S : CallFix p m c cc nL s args Ts own) (hM : vx_Met l y ws rm Pc Qc XC mc ms free) (cw : vx_CVW R s args own C index y bytes maxL ret hh ws rm mc ms n) (hp : PreV s H C b Pc As)
    (hg : g.method = m) (hn : As.length = n) (hsize : g.locals.size = nL) (hstack : g.stack = As.reverse ++ .ref b :: rest) (hW : 2 * g.monitorRoom + (rest.map fun v => v.category).sum ≤ 8) (hdg : decode cc g.pc = .ok (.invokevirtual index, 3)) (hf : cells + mc ≤ R.cells ∧ slots + ms ≤ R.slots) :
    vx_Run p l e R s m args below meth c H locs cells slots mc ms g rest (Qc (Value.ref b :: As).toArray) XC free := by
  obtain ⟨⟨hrc, hrs, hfr, hlo, hws, hcw⟩, hcode, hini, hy, hlen, hl, hin, hse⟩ := cw
  have hK : vx_Back l R p e below s args y 3 8 (PreOf R mc ms Pc) (PostOf Qc mc ms free) (vx_Post XC mc ms free) := vx_backW (hh := hh) (bytes := bytes) (maxL := maxL) (ret := ret) hM hp.1 hrc hrs hfr hlo hws hcw (fun a' U hW => word_at hW (Or.inl (by first | rfl | simp [Cond.onTables, Cond.keeps, Cond.steady])) hini)
  obtain ⟨hx, hb, hml, ho, -⟩ := S
  obtain ⟨-, ⟨cellB, hcB, hoB, hclB⟩, hPc⟩ := hp
  intro T hT X
  rcases vx_callVX X hx (C := C) (hh := hh) (bytes := bytes) (maxL := maxL) (ret := ret) ho hl hin hse hcode hy hK (by rw [hT]; exact hcB) hoB hclB hg (hsize.trans hml.symm) (argsL := As) (rest := rest) (fun sig h => hn.trans (hlen sig h)) hstack hW (by rw [hb]; exact hdg)
    (fun vm₁ hW₁ => ⟨hf.1, hf.2, hPc (T.setVm vm₁) hT hW₁⟩) with ⟨v, vm₁, ⟨U', l2, c2, s2⟩, hW₁, X', ⟨g', mk, t, L, e1, e2, hq, h1, hL, h2, h3⟩, st⟩ | ⟨q, vm₁, ⟨U', l2, c2, s2⟩, hW₁, X', ⟨g', mk, t, L, E, ce, e1, e2, hq, hce, hcv, hcl, h1, hL, h2, h3⟩, st⟩
  · dsimp only [Pt.U, Pt.locs, Pt.cells, Pt.slots] at X' e1 e2 h1 h2 h3 st
    subst h1; subst h2; subst h3
    exact Or.inl ⟨v, (T.setVm vm₁).calling g' mk (Value.ref b :: As).toArray, t, U', L, hT, X', hL, e1, e2, hq, st⟩
  · dsimp only [Pt.U, Pt.locs, Pt.cells, Pt.slots] at X' e1 e2 h1 h2 h3 st hcl
    subst h1; subst h2; subst h3
    exact Or.inr ⟨q, (T.setVm vm₁).calling g' mk (Value.ref b :: As).toArray, t, U', L, E, ce, hT, X', hL, e1, e2, hq, hce, hcv, vx_cls hW₁ hcl, st⟩
theorem vx_runSX {hh : List (Nat × Nat × Nat × Nat)} (S : CallFix p m c cc nL s args Ts own) (hM : vx_Met l y ws rm Pc Qc XC mc ms free) (cw : vx_CSW R s args own index y bytes maxL ret hh ws rm mc ms n) (hp : PreS s H Pc As)
    (hg : g.method = m) (hn : As.length = n) (hsize : g.locals.size = nL) (hstack : g.stack = As.reverse ++ rest) (hW : 2 * g.monitorRoom + (rest.map fun v => v.category).sum ≤ 8) (hdg : decode cc g.pc = .ok (.invokestatic index, 3)) (hf : cells + mc ≤ R.cells ∧ slots + ms ≤ R.slots) :
    vx_Run p l e R s m args below meth c H locs cells slots mc ms g rest (Qc As.toArray) XC free := by
  obtain ⟨⟨hrc, hrs, hfr, hlo, hws, hcw⟩, hcode, hini, hy, hlen, hl, hstt⟩ := cw
  have hK : vx_Back l R p e below s args y 3 8 (PreOf R mc ms Pc) (PostOf Qc mc ms free) (vx_Post XC mc ms free) := vx_backW (hh := hh) (bytes := bytes) (maxL := maxL) (ret := ret) hM hp.1 hrc hrs hfr hlo hws hcw (fun a' U hW => word_at hW (Or.inl (by first | rfl | simp [Cond.onTables, Cond.keeps, Cond.steady])) hini)
  obtain ⟨hx, hb, hml, ho, -⟩ := S
  intro T hT X
  rcases vx_callSX X hx (hh := hh) (bytes := bytes) (maxL := maxL) (ret := ret) ho hl hstt hini hcode hy hK hg (hsize.trans hml.symm) (argsL := As) (rest := rest) (fun sig h => hn.trans (hlen sig h)) hstack hW (by rw [hb]; exact hdg)
    (fun vm₁ hW₁ => ⟨hf.1, hf.2, hp.2 (T.setVm vm₁) hT hW₁⟩) with ⟨v, vm₁, ⟨U', l2, c2, s2⟩, hW₁, X', ⟨g', mk, t, L, e1, e2, hq, h1, hL, h2, h3⟩, st⟩ | ⟨q, vm₁, ⟨U', l2, c2, s2⟩, hW₁, X', ⟨g', mk, t, L, E, ce, e1, e2, hq, hce, hcv, hcl, h1, hL, h2, h3⟩, st⟩
  · dsimp only [Pt.U, Pt.locs, Pt.cells, Pt.slots] at X' e1 e2 h1 h2 h3 st
    subst h1; subst h2; subst h3
    exact Or.inl ⟨v, (T.setVm vm₁).calling g' mk As.toArray, t, U', L, hT, X', hL, e1, e2, hq, st⟩
  · dsimp only [Pt.U, Pt.locs, Pt.cells, Pt.slots] at X' e1 e2 h1 h2 h3 st hcl
    subst h1; subst h2; subst h3
    exact Or.inr ⟨q, (T.setVm vm₁).calling g' mk As.toArray, t, U', L, E, ce, hT, X', hL, e1, e2, hq, hce, hcv, vx_cls hW₁ hcl, st⟩
end
end VXH
theorem vx_ofWH {l : Launch} {y : MethodName} {ws ws' : List Cond} {rm : Room} {Pc : Array Value → State → Prop} {Qc : Array Value → State → Outcome → State → Prop} {XC : String → State → State → Prop} {mc ms : Nat} {free : Addr → Prop} {cc : ByteArray} {maxL : Nat} {ret : Option FieldType} {hh : List (Nat × Nat × Nat × Nat)}
    (hy : plainName y.cls = true) (hw : ws = Cond.codeWith y cc maxL ret hh :: ws')
    (body : ∀ p e s m args below meth c s₁, BodyLoose p l y (headSpec ws rm) cc maxL ret e s m args below meth c s₁ → c.maxLocals = maxL → Pc args s →
      W p l e (headSpec ws rm).room s m args below meth c s.heap [] 0 0 (vx_MQ below Qc XC args s mc ms free) (entryFrame m args maxL)) : vx_Met l y ws rm Pc Qc XC mc ms free := by
  refine MetFree.of_bodyS (code := cc) (maxLocals := maxL) (ret := ret) hy ?_ ?_
  · intro args s m h hn
    obtain ⟨m9, meth, c, hn9, h1, h2, h3, h4, -, h5, h6, -⟩ := Cond.codeWith_spec (atoms_spec (ws := ws) h _ (by rw [hw]; exact List.mem_cons_self))
    cases hn.symm.trans hn9
    exact ⟨meth, c, h1, h2, h3, h4, h5, h6⟩
  · intro p e s m args below meth c s₁ B hml hP _
    have hh0 : s₁.heap = s.heap := by rw [B.state]; rfl
    obtain ⟨t, a1, o, b1, b2, b3⟩ := body p e s m args below meth c s₁ B hml hP s₁ hh0 (Stand.of_body B)
    exact ⟨t, o, a1, b1, b2, b3⟩
/-! ===== END ===== -/
end
section
/-! names of classes, fields, methods: out of the printed names -/
def RX0 : String := "OriginRally$Car"
def TX0 : u_T := fun k => match k with
  | 0 => ("OriginRally$Car", "track", "LOriginRally$Way;", true)
  | 1 => ("OriginRally$Car", "recorded", "[I", true)
  | 2 => ("OriginRally$Car", "downBy", "I", false)
  | _ => ("OriginRally$Car", "lostAppeals", "I", false)
def tyX0 : Nat → FieldType := fun k => match k with
  | 0 => .object "OriginRally$Way"
  | 1 => .array .int
  | 2 => .int
  | _ => .int
abbrev wsX00 : List Cond := u_ws RX0 TX0 4
theorem nmX0 : ∀ a, a < 4 → ∀ b, b < 4 → a ≠ b → (TX0 a).2.1 ≠ (TX0 b).2.1 := by decide +kernel
theorem tyX0_ok : ∀ k, k < 4 → parseFieldDescriptor (TX0 k).2.2.1 = some (tyX0 k) := by decide +kernel
abbrev cX0_init : ByteArray := prog_2_method_1_code
def yX0_init : MethodName := ⟨RX0, "<init>", "(I)V"⟩
abbrev cX0_isDown : ByteArray := prog_2_method_2_code
def yX0_isDown : MethodName := ⟨RX0, "isDown", "()Z"⟩
abbrev cX0_recordAt : ByteArray := prog_2_method_3_code
def yX0_recordAt : MethodName := ⟨RX0, "recordAt", "(I)I"⟩
abbrev cX0_setRecord : ByteArray := prog_2_method_4_code
def yX0_setRecord : MethodName := ⟨RX0, "setRecord", "(II)V"⟩
abbrev cX0_timeAt : ByteArray := prog_2_method_5_code
def yX0_timeAt : MethodName := ⟨RX0, "timeAt", "(II)I"⟩
def RX1 : String := "OriginRally$Gate"
def TX1 : u_T := fun k => match k with
  | 0 => ("OriginRally$Gate", "entry", "I", true)
  | 1 => ("OriginRally$Gate", "cell", "I", true)
  | _ => ("OriginRally$Gate", "dueMinute", "I", true)
def tyX1 : Nat → FieldType := fun k => match k with
  | 0 => .int
  | 1 => .int
  | _ => .int
abbrev wsX10 : List Cond := u_ws RX1 TX1 3
theorem nmX1 : ∀ a, a < 3 → ∀ b, b < 3 → a ≠ b → (TX1 a).2.1 ≠ (TX1 b).2.1 := by decide +kernel
theorem tyX1_ok : ∀ k, k < 3 → parseFieldDescriptor (TX1 k).2.2.1 = some (tyX1 k) := by decide +kernel
abbrev cX1_init : ByteArray := prog_3_method_1_code
def yX1_init : MethodName := ⟨RX1, "<init>", "(III)V"⟩
abbrev cX1_pointsFor : ByteArray := prog_3_method_2_code
def yX1_pointsFor : MethodName := ⟨RX1, "pointsFor", "(I)I"⟩
def RX2 : String := "OriginRally$Part"
def TX2 : u_T := fun k => match k with
  | 0 => ("OriginRally$Part", "kind", "I", true)
  | 1 => ("OriginRally$Part", "owner", "I", true)
  | 2 => ("OriginRally$Part", "place", "I", false)
  | _ => ("OriginRally$Part", "user", "I", false)
def tyX2 : Nat → FieldType := fun k => match k with
  | 0 => .int
  | 1 => .int
  | 2 => .int
  | _ => .int
abbrev wsX20 : List Cond := u_ws RX2 TX2 4
theorem nmX2 : ∀ a, a < 4 → ∀ b, b < 4 → a ≠ b → (TX2 a).2.1 ≠ (TX2 b).2.1 := by decide +kernel
theorem tyX2_ok : ∀ k, k < 4 → parseFieldDescriptor (TX2 k).2.2.1 = some (tyX2 k) := by decide +kernel
abbrev cX2_init : ByteArray := prog_4_method_1_code
def yX2_init : MethodName := ⟨RX2, "<init>", "(II)V"⟩
abbrev cX2_useUp : ByteArray := prog_4_method_2_code
def yX2_useUp : MethodName := ⟨RX2, "useUp", "(I)V"⟩
abbrev cX2_isLentBy : ByteArray := prog_4_method_3_code
def yX2_isLentBy : MethodName := ⟨RX2, "isLentBy", "(I)Z"⟩
def RX3 : String := "OriginRally$Piece"
def TX3 : u_T := fun k => match k with
  | 0 => ("OriginRally$Piece", "begin", "I", true)
  | 1 => ("OriginRally$Piece", "minutes", "I", true)
  | 2 => ("OriginRally$Piece", "cell", "I", true)
  | 3 => ("OriginRally$Piece", "heading", "I", true)
  | 4 => ("OriginRally$Piece", "turn", "I", true)
  | _ => ("OriginRally$Piece", "isDriven", "Z", true)
def tyX3 : Nat → FieldType := fun k => match k with
  | 0 => .int
  | 1 => .int
  | 2 => .int
  | 3 => .int
  | 4 => .int
  | _ => .boolean
abbrev wsX30 : List Cond := u_ws RX3 TX3 6
theorem nmX3 : ∀ a, a < 6 → ∀ b, b < 6 → a ≠ b → (TX3 a).2.1 ≠ (TX3 b).2.1 := by decide +kernel
theorem tyX3_ok : ∀ k, k < 6 → parseFieldDescriptor (TX3 k).2.2.1 = some (tyX3 k) := by decide +kernel
abbrev cX3_init : ByteArray := prog_5_method_1_code
def yX3_init : MethodName := ⟨RX3, "<init>", "(IIIIIZ)V"⟩
abbrev cX3_end : ByteArray := prog_5_method_2_code
def yX3_end : MethodName := ⟨RX3, "end", "()I"⟩
abbrev cX3_lastCell : ByteArray := prog_5_method_3_code
def yX3_lastCell : MethodName := ⟨RX3, "lastCell", "()I"⟩
abbrev cX3_cellAfter : ByteArray := prog_5_method_4_code
def yX3_cellAfter : MethodName := ⟨RX3, "cellAfter", "(I)I"⟩
abbrev cX3_firstMinuteIn : ByteArray := prog_5_method_5_code
def yX3_firstMinuteIn : MethodName := ⟨RX3, "firstMinuteIn", "(II)I"⟩
abbrev cX3_cellsOnTo : ByteArray := prog_5_method_6_code
def yX3_cellsOnTo : MethodName := ⟨RX3, "cellsOnTo", "(I)I"⟩
abbrev cX3_isDrivenLike : ByteArray := prog_5_method_7_code
def yX3_isDrivenLike : MethodName := ⟨RX3, "isDrivenLike", "(LOriginRally$Piece;)Z"⟩
def RX4 : String := "OriginRally$Way"
def TX4 : u_T := fun k => match k with
  | 0 => ("OriginRally$Way", "pieces", "[LOriginRally$Piece;", true)
  | 1 => ("OriginRally$Way", "size", "I", false)
  | 2 => ("OriginRally$Way", "cell", "I", false)
  | 3 => ("OriginRally$Way", "heading", "I", false)
  | _ => ("OriginRally$Way", "minute", "I", false)
def tyX4 : Nat → FieldType := fun k => match k with
  | 0 => .array (.object "OriginRally$Piece")
  | 1 => .int
  | 2 => .int
  | 3 => .int
  | _ => .int
abbrev wsX40 : List Cond := u_ws RX4 TX4 5
theorem nmX4 : ∀ a, a < 5 → ∀ b, b < 5 → a ≠ b → (TX4 a).2.1 ≠ (TX4 b).2.1 := by decide +kernel
theorem tyX4_ok : ∀ k, k < 5 → parseFieldDescriptor (TX4 k).2.2.1 = some (tyX4 k) := by decide +kernel
abbrev cX4_init : ByteArray := prog_6_method_1_code
def yX4_init : MethodName := ⟨RX4, "<init>", "(II)V"⟩
abbrev cX4_beginIn : ByteArray := prog_6_method_2_code
def yX4_beginIn : MethodName := ⟨RX4, "beginIn", "(I)V"⟩
abbrev cX4_isFull : ByteArray := prog_6_method_3_code
def yX4_isFull : MethodName := ⟨RX4, "isFull", "()Z"⟩
abbrev cX4_staysOnGround : ByteArray := prog_6_method_4_code
def yX4_staysOnGround : MethodName := ⟨RX4, "staysOnGround", "(I)Z"⟩
abbrev cX4_goOn : ByteArray := prog_6_method_5_code
def yX4_goOn : MethodName := ⟨RX4, "goOn", "(II)V"⟩
abbrev cX4_stay : ByteArray := prog_6_method_6_code
def yX4_stay : MethodName := ⟨RX4, "stay", "(I)V"⟩
abbrev cX4_append : ByteArray := prog_6_method_7_code
def yX4_append : MethodName := ⟨RX4, "append", "(LOriginRally$Piece;)V"⟩
abbrev cX4_pieceAt : ByteArray := prog_6_method_8_code
def yX4_pieceAt : MethodName := ⟨RX4, "pieceAt", "(I)LOriginRally$Piece;"⟩
abbrev cX4_firstMinuteIn : ByteArray := prog_6_method_9_code
def yX4_firstMinuteIn : MethodName := ⟨RX4, "firstMinuteIn", "(II)I"⟩
abbrev cX4_firstOfAllMinutes : ByteArray := prog_6_method_10_code
def yX4_firstOfAllMinutes : MethodName := ⟨RX4, "firstOfAllMinutes", "(II)I"⟩
abbrev cX4_pieceAtMinute : ByteArray := prog_6_method_11_code
def yX4_pieceAtMinute : MethodName := ⟨RX4, "pieceAtMinute", "(II)I"⟩
abbrev cX4_endsAhead : ByteArray := prog_6_method_12_code
def yX4_endsAhead : MethodName := ⟨RX4, "endsAhead", "(II)Z"⟩
abbrev cX4_cellAtMinute : ByteArray := prog_6_method_13_code
def yX4_cellAtMinute : MethodName := ⟨RX4, "cellAtMinute", "(II)I"⟩
abbrev cX4_followedOf : ByteArray := prog_6_method_14_code
def yX4_followedOf : MethodName := ⟨RX4, "followedOf", "(LOriginRally$Way;)I"⟩
def RX5 : String := "OriginRally"
def TX5 : u_T := fun k => match k with
  | 0 => ("OriginRally", "start", "I", false)
  | 1 => ("OriginRally", "book", "LOriginRally$Way;", true)
  | 2 => ("OriginRally", "gateRow", "[LOriginRally$Gate;", true)
  | 3 => ("OriginRally", "gateCount", "I", false)
  | 4 => ("OriginRally", "counting", "I", false)
  | 5 => ("OriginRally", "carRow", "[LOriginRally$Car;", true)
  | 6 => ("OriginRally", "carCount", "I", false)
  | 7 => ("OriginRally", "partRow", "[LOriginRally$Part;", true)
  | 8 => ("OriginRally", "partCount", "I", false)
  | _ => ("OriginRally", "totals", "[I", true)
def tyX5 : Nat → FieldType := fun k => match k with
  | 0 => .int
  | 1 => .object "OriginRally$Way"
  | 2 => .array (.object "OriginRally$Gate")
  | 3 => .int
  | 4 => .int
  | 5 => .array (.object "OriginRally$Car")
  | 6 => .int
  | 7 => .array (.object "OriginRally$Part")
  | 8 => .int
  | _ => .array .int
abbrev wsX50 : List Cond := u_ws RX5 TX5 10
theorem nmX5 : ∀ a, a < 10 → ∀ b, b < 10 → a ≠ b → (TX5 a).2.1 ≠ (TX5 b).2.1 := by decide +kernel
theorem tyX5_ok : ∀ k, k < 10 → parseFieldDescriptor (TX5 k).2.2.1 = some (tyX5 k) := by decide +kernel
abbrev cX5_init : ByteArray := prog_1_method_1_code
def yX5_init : MethodName := ⟨RX5, "<init>", "()V"⟩
abbrev cX5_setStart : ByteArray := prog_1_method_2_code
def yX5_setStart : MethodName := ⟨RX5, "setStart", "(I)I"⟩
abbrev cX5_addEntry : ByteArray := prog_1_method_3_code
def yX5_addEntry : MethodName := ⟨RX5, "addEntry", "(II)I"⟩
abbrev cX5_addGate : ByteArray := prog_1_method_4_code
def yX5_addGate : MethodName := ⟨RX5, "addGate", "(II)I"⟩
abbrev cX5_cut : ByteArray := prog_1_method_5_code
def yX5_cut : MethodName := ⟨RX5, "cut", "(I)I"⟩
abbrev cX5_enter : ByteArray := prog_1_method_6_code
def yX5_enter : MethodName := ⟨RX5, "enter", "()I"⟩
abbrev cX5_drive : ByteArray := prog_1_method_7_code
def yX5_drive : MethodName := ⟨RX5, "drive", "(III)I"⟩
abbrev cX5_stand : ByteArray := prog_1_method_8_code
def yX5_stand : MethodName := ⟨RX5, "stand", "(II)I"⟩
abbrev cX5_breakDown : ByteArray := prog_1_method_9_code
def yX5_breakDown : MethodName := ⟨RX5, "breakDown", "(II)V"⟩
abbrev cX5_mend : ByteArray := prog_1_method_10_code
def yX5_mend : MethodName := ⟨RX5, "mend", "(I)I"⟩
abbrev cX5_bring : ByteArray := prog_1_method_11_code
def yX5_bring : MethodName := ⟨RX5, "bring", "(II)I"⟩
abbrev cX5_hand : ByteArray := prog_1_method_12_code
def yX5_hand : MethodName := ⟨RX5, "hand", "(II)I"⟩
abbrev cX5_record : ByteArray := prog_1_method_13_code
def yX5_record : MethodName := ⟨RX5, "record", "(III)I"⟩
abbrev cX5_appeal : ByteArray := prog_1_method_14_code
def yX5_appeal : MethodName := ⟨RX5, "appeal", "(II)Z"⟩
abbrev cX5_gates : ByteArray := prog_1_method_15_code
def yX5_gates : MethodName := ⟨RX5, "gates", "()I"⟩
abbrev cX5_cellOf : ByteArray := prog_1_method_16_code
def yX5_cellOf : MethodName := ⟨RX5, "cellOf", "(I)I"⟩
abbrev cX5_due : ByteArray := prog_1_method_17_code
def yX5_due : MethodName := ⟨RX5, "due", "(I)I"⟩
abbrev cX5_followed : ByteArray := prog_1_method_18_code
def yX5_followed : MethodName := ⟨RX5, "followed", "(I)I"⟩
abbrev cX5_cellAt : ByteArray := prog_1_method_19_code
def yX5_cellAt : MethodName := ⟨RX5, "cellAt", "(II)I"⟩
abbrev cX5_clock : ByteArray := prog_1_method_20_code
def yX5_clock : MethodName := ⟨RX5, "clock", "(I)I"⟩
abbrev cX5_byTrack : ByteArray := prog_1_method_21_code
def yX5_byTrack : MethodName := ⟨RX5, "byTrack", "(II)I"⟩
abbrev cX5_byMinutes : ByteArray := prog_1_method_22_code
def yX5_byMinutes : MethodName := ⟨RX5, "byMinutes", "(II)I"⟩
abbrev cX5_time : ByteArray := prog_1_method_23_code
def yX5_time : MethodName := ⟨RX5, "time", "(II)I"⟩
abbrev cX5_points : ByteArray := prog_1_method_24_code
def yX5_points : MethodName := ⟨RX5, "points", "(I)I"⟩
abbrev cX5_table : ByteArray := prog_1_method_25_code
def yX5_table : MethodName := ⟨RX5, "table", "(I)I"⟩
abbrev cX5_where : ByteArray := prog_1_method_26_code
def yX5_where : MethodName := ⟨RX5, "where", "(I)I"⟩
abbrev cX5_lent : ByteArray := prog_1_method_27_code
def yX5_lent : MethodName := ⟨RX5, "lent", "(I)I"⟩
abbrev cX5_isBroken : ByteArray := prog_1_method_28_code
def yX5_isBroken : MethodName := ⟨RX5, "isBroken", "(I)Z"⟩
abbrev cX5_isWithin : ByteArray := prog_1_method_29_code
def yX5_isWithin : MethodName := ⟨RX5, "isWithin", "(III)Z"⟩
abbrev cX5_checkIndex : ByteArray := prog_1_method_30_code
def yX5_checkIndex : MethodName := ⟨RX5, "checkIndex", "(Z)V"⟩
abbrev cX5_checkArgument : ByteArray := prog_1_method_31_code
def yX5_checkArgument : MethodName := ⟨RX5, "checkArgument", "(Z)V"⟩
abbrev cX5_checkState : ByteArray := prog_1_method_32_code
def yX5_checkState : MethodName := ⟨RX5, "checkState", "(Z)V"⟩
abbrev cX5_isCar : ByteArray := prog_1_method_33_code
def yX5_isCar : MethodName := ⟨RX5, "isCar", "(I)Z"⟩
abbrev cX5_isPlace : ByteArray := prog_1_method_34_code
def yX5_isPlace : MethodName := ⟨RX5, "isPlace", "(I)Z"⟩
abbrev cX5_checkGate : ByteArray := prog_1_method_35_code
def yX5_checkGate : MethodName := ⟨RX5, "checkGate", "(I)V"⟩
abbrev cX5_entryAt : ByteArray := prog_1_method_36_code
def yX5_entryAt : MethodName := ⟨RX5, "entryAt", "(I)LOriginRally$Piece;"⟩
abbrev cX5_gateAt : ByteArray := prog_1_method_37_code
def yX5_gateAt : MethodName := ⟨RX5, "gateAt", "(I)LOriginRally$Gate;"⟩
abbrev cX5_carAt : ByteArray := prog_1_method_38_code
def yX5_carAt : MethodName := ⟨RX5, "carAt", "(I)LOriginRally$Car;"⟩
abbrev cX5_partAt : ByteArray := prog_1_method_39_code
def yX5_partAt : MethodName := ⟨RX5, "partAt", "(I)LOriginRally$Part;"⟩
abbrev cX5_lastGateEntry : ByteArray := prog_1_method_40_code
def yX5_lastGateEntry : MethodName := ⟨RX5, "lastGateEntry", "()I"⟩
abbrev cX5_cellOfPlace : ByteArray := prog_1_method_41_code
def yX5_cellOfPlace : MethodName := ⟨RX5, "cellOfPlace", "(I)I"⟩
abbrev cX5_firstPartIn : ByteArray := prog_1_method_42_code
def yX5_firstPartIn : MethodName := ⟨RX5, "firstPartIn", "(II)I"⟩
abbrev cX5_passMinute : ByteArray := prog_1_method_43_code
def yX5_passMinute : MethodName := ⟨RX5, "passMinute", "(LOriginRally$Car;I)I"⟩
abbrev cX5_pointsOf : ByteArray := prog_1_method_44_code
def yX5_pointsOf : MethodName := ⟨RX5, "pointsOf", "(LOriginRally$Car;)I"⟩
abbrev cX5_placeOf : ByteArray := prog_1_method_45_code
def yX5_placeOf : MethodName := ⟨RX5, "placeOf", "(I)I"⟩
def RX6 : String := "OriginRallyModel"
def TX6 : u_T := fun k => match k with
  | 0 => ("OriginRallyModel", "thrown", "I", false)
  | 1 => ("OriginRallyModel", "start", "I", false)
  | 2 => ("OriginRallyModel", "entries", "I", false)
  | 3 => ("OriginRallyModel", "entryCells", "[I", true)
  | 4 => ("OriginRallyModel", "entryTurns", "[I", true)
  | 5 => ("OriginRallyModel", "gates", "I", false)
  | 6 => ("OriginRallyModel", "gateEntries", "[I", true)
  | 7 => ("OriginRallyModel", "allowed", "[I", true)
  | 8 => ("OriginRallyModel", "counting", "I", false)
  | 9 => ("OriginRallyModel", "cars", "I", false)
  | 10 => ("OriginRallyModel", "pieces", "[I", true)
  | 11 => ("OriginRallyModel", "drives", "[I", true)
  | 12 => ("OriginRallyModel", "minutes", "[I", true)
  | 13 => ("OriginRallyModel", "turns", "[I", true)
  | 14 => ("OriginRallyModel", "broken", "[I", true)
  | 15 => ("OriginRallyModel", "lost", "[I", true)
  | 16 => ("OriginRallyModel", "recorded", "[I", true)
  | 17 => ("OriginRallyModel", "parts", "I", false)
  | 18 => ("OriginRallyModel", "kinds", "[I", true)
  | 19 => ("OriginRallyModel", "owners", "[I", true)
  | 20 => ("OriginRallyModel", "wheres", "[I", true)
  | 21 => ("OriginRallyModel", "users", "[I", true)
  | 22 => ("OriginRallyModel", "tallies", "[I", true)
  | 23 => ("OriginRallyModel", "x", "I", false)
  | 24 => ("OriginRallyModel", "y", "I", false)
  | _ => ("OriginRallyModel", "heading", "I", false)
def tyX6 : Nat → FieldType := fun k => match k with
  | 0 => .int
  | 1 => .int
  | 2 => .int
  | 3 => .array .int
  | 4 => .array .int
  | 5 => .int
  | 6 => .array .int
  | 7 => .array .int
  | 8 => .int
  | 9 => .int
  | 10 => .array .int
  | 11 => .array .int
  | 12 => .array .int
  | 13 => .array .int
  | 14 => .array .int
  | 15 => .array .int
  | 16 => .array .int
  | 17 => .int
  | 18 => .array .int
  | 19 => .array .int
  | 20 => .array .int
  | 21 => .array .int
  | 22 => .array .int
  | 23 => .int
  | 24 => .int
  | _ => .int
abbrev wsX60 : List Cond := u_ws RX6 TX6 26
theorem nmX6 : ∀ a, a < 26 → ∀ b, b < 26 → a ≠ b → (TX6 a).2.1 ≠ (TX6 b).2.1 := by decide +kernel
theorem tyX6_ok : ∀ k, k < 26 → parseFieldDescriptor (TX6 k).2.2.1 = some (tyX6 k) := by decide +kernel
abbrev cX6_init : ByteArray := prog_8_method_1_code
def yX6_init : MethodName := ⟨RX6, "<init>", "()V"⟩
abbrev cX6_thrown : ByteArray := prog_8_method_2_code
def yX6_thrown : MethodName := ⟨RX6, "thrown", "()I"⟩
abbrev cX6_goesWell : ByteArray := prog_8_method_3_code
def yX6_goesWell : MethodName := ⟨RX6, "goesWell", "(I)Z"⟩
abbrev cX6_in : ByteArray := prog_8_method_4_code
def yX6_in : MethodName := ⟨RX6, "in", "(III)Z"⟩
abbrev cX6_isCar : ByteArray := prog_8_method_5_code
def yX6_isCar : MethodName := ⟨RX6, "isCar", "(I)Z"⟩
abbrev cX6_isGate : ByteArray := prog_8_method_6_code
def yX6_isGate : MethodName := ⟨RX6, "isGate", "(I)Z"⟩
abbrev cX6_begin : ByteArray := prog_8_method_7_code
def yX6_begin : MethodName := ⟨RX6, "begin", "()V"⟩
abbrev cX6_goOn : ByteArray := prog_8_method_8_code
def yX6_goOn : MethodName := ⟨RX6, "goOn", "(I)V"⟩
abbrev cX6_cell : ByteArray := prog_8_method_9_code
def yX6_cell : MethodName := ⟨RX6, "cell", "()I"⟩
abbrev cX6_isOnGround : ByteArray := prog_8_method_10_code
def yX6_isOnGround : MethodName := ⟨RX6, "isOnGround", "()Z"⟩
abbrev cX6_followBook : ByteArray := prog_8_method_11_code
def yX6_followBook : MethodName := ⟨RX6, "followBook", "(I)V"⟩
abbrev cX6_followTrack : ByteArray := prog_8_method_12_code
def yX6_followTrack : MethodName := ⟨RX6, "followTrack", "(II)V"⟩
abbrev cX6_clockOf : ByteArray := prog_8_method_13_code
def yX6_clockOf : MethodName := ⟨RX6, "clockOf", "(I)I"⟩
abbrev cX6_cellNow : ByteArray := prog_8_method_14_code
def yX6_cellNow : MethodName := ⟨RX6, "cellNow", "(I)I"⟩
abbrev cX6_cellOfGate : ByteArray := prog_8_method_15_code
def yX6_cellOfGate : MethodName := ⟨RX6, "cellOfGate", "(I)I"⟩
abbrev cX6_firstIn : ByteArray := prog_8_method_16_code
def yX6_firstIn : MethodName := ⟨RX6, "firstIn", "(III)I"⟩
abbrev cX6_passedAt : ByteArray := prog_8_method_17_code
def yX6_passedAt : MethodName := ⟨RX6, "passedAt", "(II)I"⟩
abbrev cX6_setStart : ByteArray := prog_8_method_18_code
def yX6_setStart : MethodName := ⟨RX6, "setStart", "(I)I"⟩
abbrev cX6_addEntry : ByteArray := prog_8_method_19_code
def yX6_addEntry : MethodName := ⟨RX6, "addEntry", "(II)I"⟩
abbrev cX6_addGate : ByteArray := prog_8_method_20_code
def yX6_addGate : MethodName := ⟨RX6, "addGate", "(II)I"⟩
abbrev cX6_cut : ByteArray := prog_8_method_21_code
def yX6_cut : MethodName := ⟨RX6, "cut", "(I)I"⟩
abbrev cX6_enter : ByteArray := prog_8_method_22_code
def yX6_enter : MethodName := ⟨RX6, "enter", "()I"⟩
abbrev cX6_addPiece : ByteArray := prog_8_method_23_code
def yX6_addPiece : MethodName := ⟨RX6, "addPiece", "(IIII)I"⟩
abbrev cX6_drive : ByteArray := prog_8_method_24_code
def yX6_drive : MethodName := ⟨RX6, "drive", "(III)I"⟩
abbrev cX6_stand : ByteArray := prog_8_method_25_code
def yX6_stand : MethodName := ⟨RX6, "stand", "(II)I"⟩
abbrev cX6_breakDown : ByteArray := prog_8_method_26_code
def yX6_breakDown : MethodName := ⟨RX6, "breakDown", "(II)V"⟩
abbrev cX6_mend : ByteArray := prog_8_method_27_code
def yX6_mend : MethodName := ⟨RX6, "mend", "(I)I"⟩
abbrev cX6_bring : ByteArray := prog_8_method_28_code
def yX6_bring : MethodName := ⟨RX6, "bring", "(II)I"⟩
abbrev cX6_cellOfPlace : ByteArray := prog_8_method_29_code
def yX6_cellOfPlace : MethodName := ⟨RX6, "cellOfPlace", "(I)I"⟩
abbrev cX6_hand : ByteArray := prog_8_method_30_code
def yX6_hand : MethodName := ⟨RX6, "hand", "(II)I"⟩
abbrev cX6_timeOf : ByteArray := prog_8_method_31_code
def yX6_timeOf : MethodName := ⟨RX6, "timeOf", "(II)I"⟩
abbrev cX6_record : ByteArray := prog_8_method_32_code
def yX6_record : MethodName := ⟨RX6, "record", "(III)I"⟩
abbrev cX6_appeal : ByteArray := prog_8_method_33_code
def yX6_appeal : MethodName := ⟨RX6, "appeal", "(II)Z"⟩
abbrev cX6_gates : ByteArray := prog_8_method_34_code
def yX6_gates : MethodName := ⟨RX6, "gates", "()I"⟩
abbrev cX6_cellOf : ByteArray := prog_8_method_35_code
def yX6_cellOf : MethodName := ⟨RX6, "cellOf", "(I)I"⟩
abbrev cX6_dueAt : ByteArray := prog_8_method_36_code
def yX6_dueAt : MethodName := ⟨RX6, "dueAt", "(I)I"⟩
abbrev cX6_due : ByteArray := prog_8_method_37_code
def yX6_due : MethodName := ⟨RX6, "due", "(I)I"⟩
abbrev cX6_followed : ByteArray := prog_8_method_38_code
def yX6_followed : MethodName := ⟨RX6, "followed", "(I)I"⟩
abbrev cX6_cellAt : ByteArray := prog_8_method_39_code
def yX6_cellAt : MethodName := ⟨RX6, "cellAt", "(II)I"⟩
abbrev cX6_clock : ByteArray := prog_8_method_40_code
def yX6_clock : MethodName := ⟨RX6, "clock", "(I)I"⟩
abbrev cX6_byTrack : ByteArray := prog_8_method_41_code
def yX6_byTrack : MethodName := ⟨RX6, "byTrack", "(II)I"⟩
abbrev cX6_byMinutes : ByteArray := prog_8_method_42_code
def yX6_byMinutes : MethodName := ⟨RX6, "byMinutes", "(II)I"⟩
abbrev cX6_time : ByteArray := prog_8_method_43_code
def yX6_time : MethodName := ⟨RX6, "time", "(II)I"⟩
abbrev cX6_pointsOf : ByteArray := prog_8_method_44_code
def yX6_pointsOf : MethodName := ⟨RX6, "pointsOf", "(I)I"⟩
abbrev cX6_points : ByteArray := prog_8_method_45_code
def yX6_points : MethodName := ⟨RX6, "points", "(I)I"⟩
abbrev cX6_table : ByteArray := prog_8_method_46_code
def yX6_table : MethodName := ⟨RX6, "table", "(I)I"⟩
abbrev cX6_isPart : ByteArray := prog_8_method_47_code
def yX6_isPart : MethodName := ⟨RX6, "isPart", "(I)Z"⟩
abbrev cX6_where : ByteArray := prog_8_method_48_code
def yX6_where : MethodName := ⟨RX6, "where", "(I)I"⟩
abbrev cX6_lent : ByteArray := prog_8_method_49_code
def yX6_lent : MethodName := ⟨RX6, "lent", "(I)I"⟩
abbrev cX6_isBroken : ByteArray := prog_8_method_50_code
def yX6_isBroken : MethodName := ⟨RX6, "isBroken", "(I)Z"⟩
def RL : String := "OriginRallyLaw"
abbrev cL_setStart : ByteArray := method_3_code
def yL_setStart : MethodName := ⟨RL, "setStart", "(LOriginRally;I[J)I"⟩
abbrev cL_addEntry : ByteArray := method_4_code
def yL_addEntry : MethodName := ⟨RL, "addEntry", "(LOriginRally;II[J)I"⟩
abbrev cL_addGate : ByteArray := method_5_code
def yL_addGate : MethodName := ⟨RL, "addGate", "(LOriginRally;II[J)I"⟩
abbrev cL_cut : ByteArray := method_6_code
def yL_cut : MethodName := ⟨RL, "cut", "(LOriginRally;I[J)I"⟩
abbrev cL_enter : ByteArray := method_7_code
def yL_enter : MethodName := ⟨RL, "enter", "(LOriginRally;[J)I"⟩
abbrev cL_drive : ByteArray := method_8_code
def yL_drive : MethodName := ⟨RL, "drive", "(LOriginRally;III[J)I"⟩
abbrev cL_stand : ByteArray := method_9_code
def yL_stand : MethodName := ⟨RL, "stand", "(LOriginRally;II[J)I"⟩
abbrev cL_breakDown : ByteArray := method_10_code
def yL_breakDown : MethodName := ⟨RL, "breakDown", "(LOriginRally;II)I"⟩
abbrev cL_mend : ByteArray := method_11_code
def yL_mend : MethodName := ⟨RL, "mend", "(LOriginRally;I[J)I"⟩
abbrev cL_bring : ByteArray := method_12_code
def yL_bring : MethodName := ⟨RL, "bring", "(LOriginRally;II[J)I"⟩
abbrev cL_hand : ByteArray := method_13_code
def yL_hand : MethodName := ⟨RL, "hand", "(LOriginRally;II[J)I"⟩
abbrev cL_record : ByteArray := method_14_code
def yL_record : MethodName := ⟨RL, "record", "(LOriginRally;III[J)I"⟩
abbrev cL_appeal : ByteArray := method_15_code
def yL_appeal : MethodName := ⟨RL, "appeal", "(LOriginRally;II[J)I"⟩
abbrev cL_cellOf : ByteArray := method_16_code
def yL_cellOf : MethodName := ⟨RL, "cellOf", "(LOriginRally;I[J)I"⟩
abbrev cL_due : ByteArray := method_17_code
def yL_due : MethodName := ⟨RL, "due", "(LOriginRally;I[J)I"⟩
abbrev cL_followed : ByteArray := method_18_code
def yL_followed : MethodName := ⟨RL, "followed", "(LOriginRally;I[J)I"⟩
abbrev cL_cellAt : ByteArray := method_19_code
def yL_cellAt : MethodName := ⟨RL, "cellAt", "(LOriginRally;II[J)I"⟩
abbrev cL_clock : ByteArray := method_20_code
def yL_clock : MethodName := ⟨RL, "clock", "(LOriginRally;I[J)I"⟩
abbrev cL_byTrack : ByteArray := method_21_code
def yL_byTrack : MethodName := ⟨RL, "byTrack", "(LOriginRally;II[J)I"⟩
abbrev cL_byMinutes : ByteArray := method_22_code
def yL_byMinutes : MethodName := ⟨RL, "byMinutes", "(LOriginRally;II[J)I"⟩
abbrev cL_time : ByteArray := method_23_code
def yL_time : MethodName := ⟨RL, "time", "(LOriginRally;II[J)I"⟩
abbrev cL_points : ByteArray := method_24_code
def yL_points : MethodName := ⟨RL, "points", "(LOriginRally;I[J)I"⟩
abbrev cL_table : ByteArray := method_25_code
def yL_table : MethodName := ⟨RL, "table", "(LOriginRally;I[J)I"⟩
abbrev cL_where : ByteArray := method_26_code
def yL_where : MethodName := ⟨RL, "where", "(LOriginRally;I[J)I"⟩
abbrev cL_lent : ByteArray := method_27_code
def yL_lent : MethodName := ⟨RL, "lent", "(LOriginRally;I[J)I"⟩
abbrev cL_isBroken : ByteArray := method_28_code
def yL_isBroken : MethodName := ⟨RL, "isBroken", "(LOriginRally;I[J)I"⟩
abbrev cL_law : ByteArray := code
def yL_law : MethodName := ⟨RL, "law", "([I)Z"⟩
abbrev vwCl : List vw_C := [(RX0, TX0, 4), (RX1, TX1, 3), (RX2, TX2, 4), (RX3, TX3, 6), (RX4, TX4, 5), (RX5, TX5, 10), (RX6, TX6, 26)]
end
section
/-! the good words of the tables, one by one -/
def WG : List Cond := lw_tbl.filter goodWord
theorem WG_good : ∀ w ∈ WG, goodWord w = true := fun _ h => (List.mem_filter.mp h).2
theorem WG_tbl : ∀ w ∈ WG, w ∈ lw_tbl := fun _ h => (List.mem_filter.mp h).1
theorem WG_in : GoodIn lw_tbl WG := fun w h => ⟨WG_tbl w h, good_of_word (WG_good w h)⟩
theorem WG_1 {w : Cond} (h : w ∈ tables_1_1) (g : goodWord w = true) : w ∈ WG := List.mem_filter.mpr ⟨List.mem_append_right _ (List.mem_append_left _ h), g⟩
theorem WG_2 {w : Cond} (h : w ∈ tables_1_2) (g : goodWord w = true) : w ∈ WG := List.mem_filter.mpr ⟨List.mem_append_right _ (List.mem_append_right _ (List.mem_append_left _ h)), g⟩
theorem WG_3 {w : Cond} (h : w ∈ tables_1_3) (g : goodWord w = true) : w ∈ WG := List.mem_filter.mpr ⟨List.mem_append_right _ (List.mem_append_right _ (List.mem_append_right _ (List.mem_append_left _ h))), g⟩
theorem WG_4 {w : Cond} (h : w ∈ tables_1_4) (g : goodWord w = true) : w ∈ WG := List.mem_filter.mpr ⟨List.mem_append_right _ (List.mem_append_right _ (List.mem_append_right _ (List.mem_append_right _ (List.mem_append_left _ h)))), g⟩
theorem WG_5 {w : Cond} (h : w ∈ tables_1_5) (g : goodWord w = true) : w ∈ WG := List.mem_filter.mpr ⟨List.mem_append_right _ (List.mem_append_right _ (List.mem_append_right _ (List.mem_append_right _ (List.mem_append_right _ h)))), g⟩
theorem WG_s {w : Cond} (h : w ∈ k2_sels lw_privs) (g : goodWord w = true) : w ∈ WG := List.mem_filter.mpr ⟨List.mem_append_left _ h, g⟩
theorem gw1_0 : (Jvm.Cond.initialized "OriginRallyLaw") ∈ WG := WG_1 (List.mem_of_getElem? (i := 0) rfl) rfl
theorem gw1_1 : (Jvm.Cond.initialized "OriginRally") ∈ WG := WG_1 (List.mem_of_getElem? (i := 1) rfl) rfl
theorem gw1_2 : (Jvm.Cond.initialized "OriginRally$Way") ∈ WG := WG_1 (List.mem_of_getElem? (i := 2) rfl) rfl
theorem gw1_3 : (Jvm.Cond.initialized "OriginRallyModel") ∈ WG := WG_1 (List.mem_of_getElem? (i := 3) rfl) rfl
theorem gw1_4 : (Jvm.Cond.initialized "java/lang/Throwable") ∈ WG := WG_1 (List.mem_of_getElem? (i := 4) rfl) rfl
theorem gw1_5 : (Jvm.Cond.initialized "java/lang/Exception") ∈ WG := WG_1 (List.mem_of_getElem? (i := 5) rfl) rfl
theorem gw1_6 : (Jvm.Cond.initialized "java/lang/RuntimeException") ∈ WG := WG_1 (List.mem_of_getElem? (i := 6) rfl) rfl
theorem gw1_7 : (Jvm.Cond.initialized "java/lang/IllegalArgumentException") ∈ WG := WG_1 (List.mem_of_getElem? (i := 7) rfl) rfl
theorem gw1_8 : (Jvm.Cond.initialized "java/lang/IllegalStateException") ∈ WG := WG_1 (List.mem_of_getElem? (i := 8) rfl) rfl
theorem gw1_9 : (Jvm.Cond.initialized "OriginRally$Piece") ∈ WG := WG_1 (List.mem_of_getElem? (i := 9) rfl) rfl
theorem gw1_10 : (Jvm.Cond.initialized "java/lang/IndexOutOfBoundsException") ∈ WG := WG_1 (List.mem_of_getElem? (i := 10) rfl) rfl
theorem gw1_11 : (Jvm.Cond.initialized "OriginRally$Gate") ∈ WG := WG_1 (List.mem_of_getElem? (i := 11) rfl) rfl
theorem gw1_12 : (Jvm.Cond.initialized "OriginRally$Car") ∈ WG := WG_1 (List.mem_of_getElem? (i := 12) rfl) rfl
theorem gw1_13 : (Jvm.Cond.initialized "java/util/NoSuchElementException") ∈ WG := WG_1 (List.mem_of_getElem? (i := 13) rfl) rfl
theorem gw1_14 : (Jvm.Cond.initialized "OriginRally$Part") ∈ WG := WG_1 (List.mem_of_getElem? (i := 14) rfl) rfl
theorem gw1_15 : (Jvm.Cond.initialized "java/lang/Math") ∈ WG := WG_1 (List.mem_of_getElem? (i := 15) rfl) rfl
theorem gw1_16 : (Jvm.Cond.classLink "OriginRallyLaw" 8 "OriginRally") ∈ WG := WG_1 (List.mem_of_getElem? (i := 16) rfl) rfl
theorem gw1_17 : (Jvm.Cond.instantiable "OriginRally" 10) ∈ WG := WG_1 (List.mem_of_getElem? (i := 17) rfl) rfl
theorem gw1_18 : (Jvm.Cond.methodLink "OriginRallyLaw" 102 ⟨"OriginRally", "<init>", "()V"⟩) ∈ WG := WG_1 (List.mem_of_getElem? (i := 18) rfl) rfl
theorem gw1_19 : (Jvm.Cond.instanceMethod ⟨"OriginRally", "<init>", "()V"⟩) ∈ WG := WG_1 (List.mem_of_getElem? (i := 19) rfl) rfl
theorem gw1_20 : (Jvm.Cond.code ⟨"OriginRally", "<init>", "()V"⟩ prog_1_method_1_code 1 (Option.none : Option Jvm.ClassFile.FieldType)) ∈ WG := WG_1 (List.mem_of_getElem? (i := 20) rfl) rfl
theorem gw1_21 : (Jvm.Cond.methodLink "OriginRally" 1 ⟨"java/lang/Object", "<init>", "()V"⟩) ∈ WG := WG_1 (List.mem_of_getElem? (i := 21) rfl) rfl
theorem gw1_22 : (Jvm.Cond.instanceMethod ⟨"java/lang/Object", "<init>", "()V"⟩) ∈ WG := WG_1 (List.mem_of_getElem? (i := 22) rfl) rfl
theorem gw1_23 : (Jvm.Cond.code ⟨"java/lang/Object", "<init>", "()V"⟩ object_method_1_code 1 (Option.none : Option Jvm.ClassFile.FieldType)) ∈ WG := WG_1 (List.mem_of_getElem? (i := 23) rfl) rfl
theorem gw1_24 : (Jvm.Cond.classLink "OriginRally" 13 "OriginRally$Way") ∈ WG := WG_1 (List.mem_of_getElem? (i := 24) rfl) rfl
theorem gw1_25 : (Jvm.Cond.instantiable "OriginRally$Way" 5) ∈ WG := WG_1 (List.mem_of_getElem? (i := 25) rfl) rfl
theorem gw1_26 : (Jvm.Cond.methodLink "OriginRally" 15 ⟨"OriginRally$Way", "<init>", "(II)V"⟩) ∈ WG := WG_1 (List.mem_of_getElem? (i := 26) rfl) rfl
theorem gw1_27 : (Jvm.Cond.instanceMethod ⟨"OriginRally$Way", "<init>", "(II)V"⟩) ∈ WG := WG_1 (List.mem_of_getElem? (i := 27) rfl) rfl
theorem gw1_28 : (Jvm.Cond.code ⟨"OriginRally$Way", "<init>", "(II)V"⟩ prog_6_method_1_code 3 (Option.none : Option Jvm.ClassFile.FieldType)) ∈ WG := WG_1 (List.mem_of_getElem? (i := 28) rfl) rfl
theorem gw1_29 : (Jvm.Cond.methodLink "OriginRally$Way" 3 ⟨"java/lang/Object", "<init>", "()V"⟩) ∈ WG := WG_1 (List.mem_of_getElem? (i := 29) rfl) rfl
theorem gw1_30 : (Jvm.Cond.classLink "OriginRally$Way" 9 "OriginRally$Piece") ∈ WG := WG_1 (List.mem_of_getElem? (i := 30) rfl) rfl
theorem gw1_32 : (Jvm.Cond.fieldLink "OriginRally$Way" 11 "OriginRally$Way" "pieces" "[LOriginRally$Piece;") ∈ WG := WG_1 (List.mem_of_getElem? (i := 32) rfl) rfl
theorem gw1_33 : (Jvm.Cond.fieldLink "OriginRally$Way" 17 "OriginRally$Way" "size" "I") ∈ WG := WG_1 (List.mem_of_getElem? (i := 33) rfl) rfl
theorem gw1_35 : (Jvm.Cond.fieldLink "OriginRally$Way" 21 "OriginRally$Way" "cell" "I") ∈ WG := WG_1 (List.mem_of_getElem? (i := 35) rfl) rfl
theorem gw1_37 : (Jvm.Cond.fieldLink "OriginRally$Way" 24 "OriginRally$Way" "heading" "I") ∈ WG := WG_1 (List.mem_of_getElem? (i := 37) rfl) rfl
theorem gw1_38 : (Jvm.Cond.fieldLink "OriginRally$Way" 27 "OriginRally$Way" "minute" "I") ∈ WG := WG_1 (List.mem_of_getElem? (i := 38) rfl) rfl
theorem gw1_40 : (Jvm.Cond.laysFinal "OriginRally$Way" "OriginRally$Way" "pieces" "[LOriginRally$Piece;") ∈ WG := WG_1 (List.mem_of_getElem? (i := 40) rfl) rfl
theorem gw1_42 : (Jvm.Cond.lays "OriginRally$Way" "OriginRally$Way" "size" "I") ∈ WG := WG_1 (List.mem_of_getElem? (i := 42) rfl) rfl
theorem gw1_44 : (Jvm.Cond.lays "OriginRally$Way" "OriginRally$Way" "cell" "I") ∈ WG := WG_1 (List.mem_of_getElem? (i := 44) rfl) rfl
theorem gw1_46 : (Jvm.Cond.lays "OriginRally$Way" "OriginRally$Way" "heading" "I") ∈ WG := WG_1 (List.mem_of_getElem? (i := 46) rfl) rfl
theorem gw1_48 : (Jvm.Cond.lays "OriginRally$Way" "OriginRally$Way" "minute" "I") ∈ WG := WG_1 (List.mem_of_getElem? (i := 48) rfl) rfl
theorem gw1_51 : (Jvm.Cond.classLink "OriginRally" 22 "OriginRally$Gate") ∈ WG := WG_1 (List.mem_of_getElem? (i := 51) rfl) rfl
theorem gw1_53 : (Jvm.Cond.classLink "OriginRally" 34 "OriginRally$Car") ∈ WG := WG_1 (List.mem_of_getElem? (i := 53) rfl) rfl
theorem gw1_55 : (Jvm.Cond.classLink "OriginRally" 43 "OriginRally$Part") ∈ WG := WG_1 (List.mem_of_getElem? (i := 55) rfl) rfl
theorem gw1_57 : (Jvm.Cond.fieldLink "OriginRally" 7 "OriginRally" "start" "I") ∈ WG := WG_1 (List.mem_of_getElem? (i := 57) rfl) rfl
theorem gw1_58 : (Jvm.Cond.fieldLink "OriginRally" 18 "OriginRally" "book" "LOriginRally$Way;") ∈ WG := WG_1 (List.mem_of_getElem? (i := 58) rfl) rfl
theorem gw1_59 : (Jvm.Cond.fieldLink "OriginRally" 24 "OriginRally" "gateRow" "[LOriginRally$Gate;") ∈ WG := WG_1 (List.mem_of_getElem? (i := 59) rfl) rfl
theorem gw1_60 : (Jvm.Cond.fieldLink "OriginRally" 28 "OriginRally" "gateCount" "I") ∈ WG := WG_1 (List.mem_of_getElem? (i := 60) rfl) rfl
theorem gw1_61 : (Jvm.Cond.fieldLink "OriginRally" 31 "OriginRally" "counting" "I") ∈ WG := WG_1 (List.mem_of_getElem? (i := 61) rfl) rfl
theorem gw1_62 : (Jvm.Cond.fieldLink "OriginRally" 36 "OriginRally" "carRow" "[LOriginRally$Car;") ∈ WG := WG_1 (List.mem_of_getElem? (i := 62) rfl) rfl
theorem gw1_63 : (Jvm.Cond.fieldLink "OriginRally" 40 "OriginRally" "carCount" "I") ∈ WG := WG_1 (List.mem_of_getElem? (i := 63) rfl) rfl
theorem gw1_64 : (Jvm.Cond.fieldLink "OriginRally" 45 "OriginRally" "partRow" "[LOriginRally$Part;") ∈ WG := WG_1 (List.mem_of_getElem? (i := 64) rfl) rfl
theorem gw1_65 : (Jvm.Cond.fieldLink "OriginRally" 49 "OriginRally" "partCount" "I") ∈ WG := WG_1 (List.mem_of_getElem? (i := 65) rfl) rfl
theorem gw1_66 : (Jvm.Cond.fieldLink "OriginRally" 52 "OriginRally" "totals" "[I") ∈ WG := WG_1 (List.mem_of_getElem? (i := 66) rfl) rfl
theorem gw1_67 : (Jvm.Cond.lays "OriginRally" "OriginRally" "start" "I") ∈ WG := WG_1 (List.mem_of_getElem? (i := 67) rfl) rfl
theorem gw1_69 : (Jvm.Cond.laysFinal "OriginRally" "OriginRally" "book" "LOriginRally$Way;") ∈ WG := WG_1 (List.mem_of_getElem? (i := 69) rfl) rfl
theorem gw1_71 : (Jvm.Cond.laysFinal "OriginRally" "OriginRally" "gateRow" "[LOriginRally$Gate;") ∈ WG := WG_1 (List.mem_of_getElem? (i := 71) rfl) rfl
theorem gw1_73 : (Jvm.Cond.lays "OriginRally" "OriginRally" "gateCount" "I") ∈ WG := WG_1 (List.mem_of_getElem? (i := 73) rfl) rfl
theorem gw1_75 : (Jvm.Cond.lays "OriginRally" "OriginRally" "counting" "I") ∈ WG := WG_1 (List.mem_of_getElem? (i := 75) rfl) rfl
theorem gw1_77 : (Jvm.Cond.laysFinal "OriginRally" "OriginRally" "carRow" "[LOriginRally$Car;") ∈ WG := WG_1 (List.mem_of_getElem? (i := 77) rfl) rfl
theorem gw1_79 : (Jvm.Cond.lays "OriginRally" "OriginRally" "carCount" "I") ∈ WG := WG_1 (List.mem_of_getElem? (i := 79) rfl) rfl
theorem gw1_81 : (Jvm.Cond.laysFinal "OriginRally" "OriginRally" "partRow" "[LOriginRally$Part;") ∈ WG := WG_1 (List.mem_of_getElem? (i := 81) rfl) rfl
theorem gw1_83 : (Jvm.Cond.lays "OriginRally" "OriginRally" "partCount" "I") ∈ WG := WG_1 (List.mem_of_getElem? (i := 83) rfl) rfl
theorem gw1_85 : (Jvm.Cond.laysFinal "OriginRally" "OriginRally" "totals" "[I") ∈ WG := WG_1 (List.mem_of_getElem? (i := 85) rfl) rfl
theorem gw1_88 : (Jvm.Cond.arrayClass Jvm.ClassFile.FieldType.int) ∈ WG := WG_1 (List.mem_of_getElem? (i := 88) rfl) rfl
theorem gw1_89 : (Jvm.Cond.methodLink "OriginRallyLaw" 155 ⟨"OriginRally", "gates", "()I"⟩) ∈ WG := WG_1 (List.mem_of_getElem? (i := 89) rfl) rfl
theorem gw1_90 : (Jvm.Cond.instanceMethod ⟨"OriginRally", "gates", "()I"⟩) ∈ WG := WG_1 (List.mem_of_getElem? (i := 90) rfl) rfl
theorem gw1_91 : (Jvm.Cond.selects "OriginRally" ⟨"OriginRally", "gates", "()I"⟩ ⟨"OriginRally", "gates", "()I"⟩) ∈ WG := WG_1 (List.mem_of_getElem? (i := 91) rfl) rfl
theorem gw1_92 : (Jvm.Cond.code ⟨"OriginRally", "gates", "()I"⟩ prog_1_method_15_code 1 (Option.some Jvm.ClassFile.FieldType.int)) ∈ WG := WG_1 (List.mem_of_getElem? (i := 92) rfl) rfl
theorem gw1_93 : (Jvm.Cond.methodLink "OriginRallyLaw" 106 ⟨"OriginRallyLaw", "setStart", "(LOriginRally;I[J)I"⟩) ∈ WG := WG_1 (List.mem_of_getElem? (i := 93) rfl) rfl
theorem gw1_94 : (Jvm.Cond.static ⟨"OriginRallyLaw", "setStart", "(LOriginRally;I[J)I"⟩) ∈ WG := WG_1 (List.mem_of_getElem? (i := 94) rfl) rfl
theorem gw1_95 : (Jvm.Cond.codeWith ⟨"OriginRallyLaw", "setStart", "(LOriginRally;I[J)I"⟩ method_3_code 4 (Option.some Jvm.ClassFile.FieldType.int) [(0, 9, 12, 13), (0, 9, 15, 15)]) ∈ WG := WG_1 (List.mem_of_getElem? (i := 95) rfl) rfl
theorem gw1_96 : (Jvm.Cond.classLink "OriginRallyLaw" 13 "java/lang/IllegalArgumentException") ∈ WG := WG_1 (List.mem_of_getElem? (i := 96) rfl) rfl
theorem gw1_97 : (Jvm.Cond.classLink "OriginRallyLaw" 15 "java/lang/IllegalStateException") ∈ WG := WG_1 (List.mem_of_getElem? (i := 97) rfl) rfl
theorem gw1_98 : (Jvm.Cond.methodLink "OriginRallyLaw" 7 ⟨"OriginRally", "setStart", "(I)I"⟩) ∈ WG := WG_1 (List.mem_of_getElem? (i := 98) rfl) rfl
theorem gw1_99 : (Jvm.Cond.instanceMethod ⟨"OriginRally", "setStart", "(I)I"⟩) ∈ WG := WG_1 (List.mem_of_getElem? (i := 99) rfl) rfl
theorem gw1_100 : (Jvm.Cond.selects "OriginRally" ⟨"OriginRally", "setStart", "(I)I"⟩ ⟨"OriginRally", "setStart", "(I)I"⟩) ∈ WG := WG_1 (List.mem_of_getElem? (i := 100) rfl) rfl
theorem gw1_101 : (Jvm.Cond.code ⟨"OriginRally", "setStart", "(I)I"⟩ prog_1_method_2_code 3 (Option.some Jvm.ClassFile.FieldType.int)) ∈ WG := WG_1 (List.mem_of_getElem? (i := 101) rfl) rfl
theorem gw1_102 : (Jvm.Cond.methodLink "OriginRally" 56 ⟨"OriginRally", "isWithin", "(III)Z"⟩) ∈ WG := WG_1 (List.mem_of_getElem? (i := 102) rfl) rfl
theorem gw1_103 : (Jvm.Cond.static ⟨"OriginRally", "isWithin", "(III)Z"⟩) ∈ WG := WG_1 (List.mem_of_getElem? (i := 103) rfl) rfl
theorem gw1_104 : (Jvm.Cond.code ⟨"OriginRally", "isWithin", "(III)Z"⟩ prog_1_method_29_code 3 (Option.some Jvm.ClassFile.FieldType.boolean)) ∈ WG := WG_1 (List.mem_of_getElem? (i := 104) rfl) rfl
theorem gw1_105 : (Jvm.Cond.methodLink "OriginRally" 60 ⟨"OriginRally", "checkArgument", "(Z)V"⟩) ∈ WG := WG_1 (List.mem_of_getElem? (i := 105) rfl) rfl
theorem gw1_106 : (Jvm.Cond.static ⟨"OriginRally", "checkArgument", "(Z)V"⟩) ∈ WG := WG_1 (List.mem_of_getElem? (i := 106) rfl) rfl
theorem gw1_107 : (Jvm.Cond.code ⟨"OriginRally", "checkArgument", "(Z)V"⟩ prog_1_method_31_code 1 (Option.none : Option Jvm.ClassFile.FieldType)) ∈ WG := WG_1 (List.mem_of_getElem? (i := 107) rfl) rfl
theorem gw1_108 : (Jvm.Cond.classLink "OriginRally" 223 "java/lang/IllegalArgumentException") ∈ WG := WG_1 (List.mem_of_getElem? (i := 108) rfl) rfl
theorem gw1_109 : (Jvm.Cond.instantiable "java/lang/IllegalArgumentException" 6) ∈ WG := WG_1 (List.mem_of_getElem? (i := 109) rfl) rfl
theorem gw1_117 : (Jvm.Cond.selects "java/lang/IllegalArgumentException" ⟨"java/lang/Throwable", "fillInStackTrace", "(I)Ljava/lang/Throwable;"⟩ ⟨"java/lang/Throwable", "fillInStackTrace", "(I)Ljava/lang/Throwable;"⟩) ∈ WG := WG_1 (List.mem_of_getElem? (i := 117) rfl) rfl
theorem gw1_118 : (Jvm.Cond.selects "java/lang/IllegalArgumentException" ⟨"java/lang/Throwable", "fillInStackTrace", "()Ljava/lang/Throwable;"⟩ ⟨"java/lang/Throwable", "fillInStackTrace", "()Ljava/lang/Throwable;"⟩) ∈ WG := WG_1 (List.mem_of_getElem? (i := 118) rfl) rfl
theorem gw1_119 : (Jvm.Cond.lays "java/lang/IllegalArgumentException" "java/lang/Throwable" "cause" "Ljava/lang/Throwable;") ∈ WG := WG_1 (List.mem_of_getElem? (i := 119) rfl) rfl
theorem gw1_120 : (Jvm.Cond.lays "java/lang/Throwable" "java/lang/Throwable" "cause" "Ljava/lang/Throwable;") ∈ WG := WG_1 (List.mem_of_getElem? (i := 120) rfl) rfl
theorem gw1_121 : (Jvm.Cond.lays "java/lang/IllegalArgumentException" "java/lang/Throwable" "stackTrace" "[Ljava/lang/StackTraceElement;") ∈ WG := WG_1 (List.mem_of_getElem? (i := 121) rfl) rfl
theorem gw1_122 : (Jvm.Cond.lays "java/lang/Throwable" "java/lang/Throwable" "stackTrace" "[Ljava/lang/StackTraceElement;") ∈ WG := WG_1 (List.mem_of_getElem? (i := 122) rfl) rfl
theorem gw1_123 : (Jvm.Cond.lays "java/lang/IllegalArgumentException" "java/lang/Throwable" "suppressedExceptions" "Ljava/util/List;") ∈ WG := WG_1 (List.mem_of_getElem? (i := 123) rfl) rfl
theorem gw1_124 : (Jvm.Cond.lays "java/lang/Throwable" "java/lang/Throwable" "suppressedExceptions" "Ljava/util/List;") ∈ WG := WG_1 (List.mem_of_getElem? (i := 124) rfl) rfl
theorem gw1_125 : (Jvm.Cond.lays "java/lang/IllegalArgumentException" "java/lang/Throwable" "detailMessage" "Ljava/lang/String;") ∈ WG := WG_1 (List.mem_of_getElem? (i := 125) rfl) rfl
theorem gw1_126 : (Jvm.Cond.lays "java/lang/Throwable" "java/lang/Throwable" "detailMessage" "Ljava/lang/String;") ∈ WG := WG_1 (List.mem_of_getElem? (i := 126) rfl) rfl
theorem gw1_127 : (Jvm.Cond.lays "java/lang/IllegalArgumentException" "java/lang/Throwable" "backtrace" "Ljava/lang/Object;") ∈ WG := WG_1 (List.mem_of_getElem? (i := 127) rfl) rfl
theorem gw1_128 : (Jvm.Cond.lays "java/lang/Throwable" "java/lang/Throwable" "backtrace" "Ljava/lang/Object;") ∈ WG := WG_1 (List.mem_of_getElem? (i := 128) rfl) rfl
theorem gw1_129 : (Jvm.Cond.fieldLink "java/lang/Throwable" 198 "java/lang/Throwable" "backtrace" "Ljava/lang/Object;") ∈ WG := WG_1 (List.mem_of_getElem? (i := 129) rfl) rfl
theorem gw1_131 : (Jvm.Cond.instanceMethod ⟨"java/lang/Throwable", "<init>", "()V"⟩) ∈ WG := WG_1 (List.mem_of_getElem? (i := 131) rfl) rfl
theorem gw1_132 : (Jvm.Cond.code ⟨"java/lang/Throwable", "<init>", "()V"⟩ prog_17_method_1_code 1 (Option.none : Option Jvm.ClassFile.FieldType)) ∈ WG := WG_1 (List.mem_of_getElem? (i := 132) rfl) rfl
theorem gw1_133 : (Jvm.Cond.methodLink "java/lang/Throwable" 1 ⟨"java/lang/Object", "<init>", "()V"⟩) ∈ WG := WG_1 (List.mem_of_getElem? (i := 133) rfl) rfl
theorem gw1_134 : (Jvm.Cond.fieldLink "java/lang/Throwable" 13 "java/lang/Throwable" "UNASSIGNED_STACK" "[Ljava/lang/StackTraceElement;") ∈ WG := WG_1 (List.mem_of_getElem? (i := 134) rfl) rfl
theorem gw1_136 : (Jvm.Cond.fieldLink "java/lang/Throwable" 20 "java/lang/Throwable" "SUPPRESSED_SENTINEL" "Ljava/util/List;") ∈ WG := WG_1 (List.mem_of_getElem? (i := 136) rfl) rfl
theorem gw1_138 : (Jvm.Cond.methodLink "java/lang/Throwable" 27 ⟨"java/lang/Throwable", "fillInStackTrace", "()Ljava/lang/Throwable;"⟩) ∈ WG := WG_1 (List.mem_of_getElem? (i := 138) rfl) rfl
theorem gw1_139 : (Jvm.Cond.instanceMethod ⟨"java/lang/Throwable", "fillInStackTrace", "()Ljava/lang/Throwable;"⟩) ∈ WG := WG_1 (List.mem_of_getElem? (i := 139) rfl) rfl
theorem gw1_141 : (Jvm.Cond.selects "java/lang/IllegalStateException" ⟨"java/lang/Throwable", "fillInStackTrace", "()Ljava/lang/Throwable;"⟩ ⟨"java/lang/Throwable", "fillInStackTrace", "()Ljava/lang/Throwable;"⟩) ∈ WG := WG_1 (List.mem_of_getElem? (i := 141) rfl) rfl
theorem gw1_142 : (Jvm.Cond.selects "java/lang/IndexOutOfBoundsException" ⟨"java/lang/Throwable", "fillInStackTrace", "()Ljava/lang/Throwable;"⟩ ⟨"java/lang/Throwable", "fillInStackTrace", "()Ljava/lang/Throwable;"⟩) ∈ WG := WG_1 (List.mem_of_getElem? (i := 142) rfl) rfl
theorem gw1_143 : (Jvm.Cond.selects "java/util/NoSuchElementException" ⟨"java/lang/Throwable", "fillInStackTrace", "()Ljava/lang/Throwable;"⟩ ⟨"java/lang/Throwable", "fillInStackTrace", "()Ljava/lang/Throwable;"⟩) ∈ WG := WG_1 (List.mem_of_getElem? (i := 143) rfl) rfl
theorem gw1_145 : (Jvm.Cond.methodLink "java/lang/Throwable" 202 ⟨"java/lang/Throwable", "fillInStackTrace", "(I)Ljava/lang/Throwable;"⟩) ∈ WG := WG_1 (List.mem_of_getElem? (i := 145) rfl) rfl
theorem gw1_147 : (Jvm.Cond.instanceMethod ⟨"java/lang/Throwable", "fillInStackTrace", "(I)Ljava/lang/Throwable;"⟩) ∈ WG := WG_1 (List.mem_of_getElem? (i := 147) rfl) rfl
theorem gw1_148 : (Jvm.Cond.instantiable "java/lang/Throwable" 6) ∈ WG := WG_1 (List.mem_of_getElem? (i := 148) rfl) rfl
theorem gw1_151 : (Jvm.Cond.methodLink "OriginRally" 227 ⟨"java/lang/IllegalArgumentException", "<init>", "(Ljava/lang/String;)V"⟩) ∈ WG := WG_1 (List.mem_of_getElem? (i := 151) rfl) rfl
theorem gw1_152 : (Jvm.Cond.instanceMethod ⟨"java/lang/IllegalArgumentException", "<init>", "(Ljava/lang/String;)V"⟩) ∈ WG := WG_1 (List.mem_of_getElem? (i := 152) rfl) rfl
theorem gw1_153 : (Jvm.Cond.code ⟨"java/lang/IllegalArgumentException", "<init>", "(Ljava/lang/String;)V"⟩ prog_11_method_2_code 2 (Option.none : Option Jvm.ClassFile.FieldType)) ∈ WG := WG_1 (List.mem_of_getElem? (i := 153) rfl) rfl
theorem gw1_154 : (Jvm.Cond.methodLink "java/lang/IllegalArgumentException" 7 ⟨"java/lang/RuntimeException", "<init>", "(Ljava/lang/String;)V"⟩) ∈ WG := WG_1 (List.mem_of_getElem? (i := 154) rfl) rfl
theorem gw1_155 : (Jvm.Cond.instanceMethod ⟨"java/lang/RuntimeException", "<init>", "(Ljava/lang/String;)V"⟩) ∈ WG := WG_1 (List.mem_of_getElem? (i := 155) rfl) rfl
theorem gw1_156 : (Jvm.Cond.code ⟨"java/lang/RuntimeException", "<init>", "(Ljava/lang/String;)V"⟩ prog_15_method_2_code 2 (Option.none : Option Jvm.ClassFile.FieldType)) ∈ WG := WG_1 (List.mem_of_getElem? (i := 156) rfl) rfl
theorem gw1_157 : (Jvm.Cond.methodLink "java/lang/RuntimeException" 7 ⟨"java/lang/Exception", "<init>", "(Ljava/lang/String;)V"⟩) ∈ WG := WG_1 (List.mem_of_getElem? (i := 157) rfl) rfl
theorem gw1_158 : (Jvm.Cond.instanceMethod ⟨"java/lang/Exception", "<init>", "(Ljava/lang/String;)V"⟩) ∈ WG := WG_1 (List.mem_of_getElem? (i := 158) rfl) rfl
theorem gw1_159 : (Jvm.Cond.code ⟨"java/lang/Exception", "<init>", "(Ljava/lang/String;)V"⟩ prog_10_method_2_code 2 (Option.none : Option Jvm.ClassFile.FieldType)) ∈ WG := WG_1 (List.mem_of_getElem? (i := 159) rfl) rfl
theorem gw1_160 : (Jvm.Cond.methodLink "java/lang/Exception" 7 ⟨"java/lang/Throwable", "<init>", "(Ljava/lang/String;)V"⟩) ∈ WG := WG_1 (List.mem_of_getElem? (i := 160) rfl) rfl
theorem gw1_161 : (Jvm.Cond.instanceMethod ⟨"java/lang/Throwable", "<init>", "(Ljava/lang/String;)V"⟩) ∈ WG := WG_1 (List.mem_of_getElem? (i := 161) rfl) rfl
theorem gw1_162 : (Jvm.Cond.code ⟨"java/lang/Throwable", "<init>", "(Ljava/lang/String;)V"⟩ prog_17_method_2_code 2 (Option.none : Option Jvm.ClassFile.FieldType)) ∈ WG := WG_1 (List.mem_of_getElem? (i := 162) rfl) rfl
theorem gw1_163 : (Jvm.Cond.fieldLink "java/lang/Throwable" 198 "java/lang/Throwable" "backtrace" "Ljava/lang/Object;") ∈ WG := WG_1 (List.mem_of_getElem? (i := 163) rfl) rfl
theorem gw1_164 : (Jvm.Cond.fieldLink "java/lang/Throwable" 31 "java/lang/Throwable" "detailMessage" "Ljava/lang/String;") ∈ WG := WG_1 (List.mem_of_getElem? (i := 164) rfl) rfl
theorem gw1_165 : (Jvm.Cond.fieldLink "java/lang/Throwable" 7 "java/lang/Throwable" "cause" "Ljava/lang/Throwable;") ∈ WG := WG_1 (List.mem_of_getElem? (i := 165) rfl) rfl
theorem gw1_166 : (Jvm.Cond.fieldLink "java/lang/Throwable" 17 "java/lang/Throwable" "stackTrace" "[Ljava/lang/StackTraceElement;") ∈ WG := WG_1 (List.mem_of_getElem? (i := 166) rfl) rfl
theorem gw1_167 : (Jvm.Cond.fieldLink "java/lang/Throwable" 24 "java/lang/Throwable" "suppressedExceptions" "Ljava/util/List;") ∈ WG := WG_1 (List.mem_of_getElem? (i := 167) rfl) rfl
theorem gw1_172 : (Jvm.Cond.lays "java/lang/IllegalArgumentException" "java/lang/Throwable" "depth" "I") ∈ WG := WG_1 (List.mem_of_getElem? (i := 172) rfl) rfl
theorem gw1_176 : (Jvm.Cond.arrayClass Jvm.ClassFile.FieldType.byte) ∈ WG := WG_1 (List.mem_of_getElem? (i := 176) rfl) rfl
theorem gw1_177 : (Jvm.Cond.methodLink "OriginRally" 67 ⟨"OriginRally", "checkState", "(Z)V"⟩) ∈ WG := WG_1 (List.mem_of_getElem? (i := 177) rfl) rfl
theorem gw1_178 : (Jvm.Cond.static ⟨"OriginRally", "checkState", "(Z)V"⟩) ∈ WG := WG_1 (List.mem_of_getElem? (i := 178) rfl) rfl
theorem gw1_179 : (Jvm.Cond.code ⟨"OriginRally", "checkState", "(Z)V"⟩ prog_1_method_32_code 1 (Option.none : Option Jvm.ClassFile.FieldType)) ∈ WG := WG_1 (List.mem_of_getElem? (i := 179) rfl) rfl
theorem gw1_180 : (Jvm.Cond.classLink "OriginRally" 228 "java/lang/IllegalStateException") ∈ WG := WG_1 (List.mem_of_getElem? (i := 180) rfl) rfl
theorem gw1_181 : (Jvm.Cond.instantiable "java/lang/IllegalStateException" 6) ∈ WG := WG_1 (List.mem_of_getElem? (i := 181) rfl) rfl
theorem gw1_183 : (Jvm.Cond.selects "java/lang/IllegalStateException" ⟨"java/lang/Throwable", "fillInStackTrace", "(I)Ljava/lang/Throwable;"⟩ ⟨"java/lang/Throwable", "fillInStackTrace", "(I)Ljava/lang/Throwable;"⟩) ∈ WG := WG_1 (List.mem_of_getElem? (i := 183) rfl) rfl
theorem gw1_184 : (Jvm.Cond.lays "java/lang/IllegalStateException" "java/lang/Throwable" "cause" "Ljava/lang/Throwable;") ∈ WG := WG_1 (List.mem_of_getElem? (i := 184) rfl) rfl
theorem gw1_185 : (Jvm.Cond.lays "java/lang/IllegalStateException" "java/lang/Throwable" "stackTrace" "[Ljava/lang/StackTraceElement;") ∈ WG := WG_1 (List.mem_of_getElem? (i := 185) rfl) rfl
theorem gw1_186 : (Jvm.Cond.lays "java/lang/IllegalStateException" "java/lang/Throwable" "suppressedExceptions" "Ljava/util/List;") ∈ WG := WG_1 (List.mem_of_getElem? (i := 186) rfl) rfl
theorem gw1_187 : (Jvm.Cond.lays "java/lang/IllegalStateException" "java/lang/Throwable" "detailMessage" "Ljava/lang/String;") ∈ WG := WG_1 (List.mem_of_getElem? (i := 187) rfl) rfl
theorem gw1_188 : (Jvm.Cond.lays "java/lang/IllegalStateException" "java/lang/Throwable" "backtrace" "Ljava/lang/Object;") ∈ WG := WG_1 (List.mem_of_getElem? (i := 188) rfl) rfl
theorem gw1_190 : (Jvm.Cond.methodLink "OriginRally" 232 ⟨"java/lang/IllegalStateException", "<init>", "(Ljava/lang/String;)V"⟩) ∈ WG := WG_1 (List.mem_of_getElem? (i := 190) rfl) rfl
theorem gw1_191 : (Jvm.Cond.instanceMethod ⟨"java/lang/IllegalStateException", "<init>", "(Ljava/lang/String;)V"⟩) ∈ WG := WG_1 (List.mem_of_getElem? (i := 191) rfl) rfl
theorem gw1_192 : (Jvm.Cond.code ⟨"java/lang/IllegalStateException", "<init>", "(Ljava/lang/String;)V"⟩ prog_12_method_2_code 2 (Option.none : Option Jvm.ClassFile.FieldType)) ∈ WG := WG_1 (List.mem_of_getElem? (i := 192) rfl) rfl
theorem gw1_193 : (Jvm.Cond.methodLink "java/lang/IllegalStateException" 7 ⟨"java/lang/RuntimeException", "<init>", "(Ljava/lang/String;)V"⟩) ∈ WG := WG_1 (List.mem_of_getElem? (i := 193) rfl) rfl
theorem gw1_194 : (Jvm.Cond.lays "java/lang/IllegalStateException" "java/lang/Throwable" "depth" "I") ∈ WG := WG_1 (List.mem_of_getElem? (i := 194) rfl) rfl
theorem gw1_196 : (Jvm.Cond.methodLink "OriginRally" 70 ⟨"OriginRally$Way", "beginIn", "(I)V"⟩) ∈ WG := WG_1 (List.mem_of_getElem? (i := 196) rfl) rfl
theorem gw1_197 : (Jvm.Cond.instanceMethod ⟨"OriginRally$Way", "beginIn", "(I)V"⟩) ∈ WG := WG_1 (List.mem_of_getElem? (i := 197) rfl) rfl
theorem gw1_198 : (Jvm.Cond.selects "OriginRally$Way" ⟨"OriginRally$Way", "beginIn", "(I)V"⟩ ⟨"OriginRally$Way", "beginIn", "(I)V"⟩) ∈ WG := WG_1 (List.mem_of_getElem? (i := 198) rfl) rfl
theorem gw1_199 : (Jvm.Cond.code ⟨"OriginRally$Way", "beginIn", "(I)V"⟩ prog_6_method_2_code 2 (Option.none : Option Jvm.ClassFile.FieldType)) ∈ WG := WG_1 (List.mem_of_getElem? (i := 199) rfl) rfl
theorem gw1_200 : (Jvm.Cond.methodLink "OriginRallyLaw" 115 ⟨"OriginRallyLaw", "addEntry", "(LOriginRally;II[J)I"⟩) ∈ WG := WG_1 (List.mem_of_getElem? (i := 200) rfl) rfl
theorem gw1_201 : (Jvm.Cond.static ⟨"OriginRallyLaw", "addEntry", "(LOriginRally;II[J)I"⟩) ∈ WG := WG_1 (List.mem_of_getElem? (i := 201) rfl) rfl
theorem gw1_202 : (Jvm.Cond.codeWith ⟨"OriginRallyLaw", "addEntry", "(LOriginRally;II[J)I"⟩ method_4_code 5 (Option.some Jvm.ClassFile.FieldType.int) [(0, 10, 13, 13), (0, 10, 17, 15)]) ∈ WG := WG_1 (List.mem_of_getElem? (i := 202) rfl) rfl
theorem gw1_203 : (Jvm.Cond.methodLink "OriginRallyLaw" 17 ⟨"OriginRally", "addEntry", "(II)I"⟩) ∈ WG := WG_1 (List.mem_of_getElem? (i := 203) rfl) rfl
theorem gw1_204 : (Jvm.Cond.instanceMethod ⟨"OriginRally", "addEntry", "(II)I"⟩) ∈ WG := WG_1 (List.mem_of_getElem? (i := 204) rfl) rfl
theorem gw1_205 : (Jvm.Cond.selects "OriginRally" ⟨"OriginRally", "addEntry", "(II)I"⟩ ⟨"OriginRally", "addEntry", "(II)I"⟩) ∈ WG := WG_1 (List.mem_of_getElem? (i := 205) rfl) rfl
theorem gw1_206 : (Jvm.Cond.code ⟨"OriginRally", "addEntry", "(II)I"⟩ prog_1_method_3_code 3 (Option.some Jvm.ClassFile.FieldType.int)) ∈ WG := WG_1 (List.mem_of_getElem? (i := 206) rfl) rfl
theorem gw1_207 : (Jvm.Cond.methodLink "OriginRally" 74 ⟨"OriginRally$Way", "isFull", "()Z"⟩) ∈ WG := WG_1 (List.mem_of_getElem? (i := 207) rfl) rfl
theorem gw1_208 : (Jvm.Cond.instanceMethod ⟨"OriginRally$Way", "isFull", "()Z"⟩) ∈ WG := WG_1 (List.mem_of_getElem? (i := 208) rfl) rfl
theorem gw1_209 : (Jvm.Cond.selects "OriginRally$Way" ⟨"OriginRally$Way", "isFull", "()Z"⟩ ⟨"OriginRally$Way", "isFull", "()Z"⟩) ∈ WG := WG_1 (List.mem_of_getElem? (i := 209) rfl) rfl
theorem gw1_210 : (Jvm.Cond.code ⟨"OriginRally$Way", "isFull", "()Z"⟩ prog_6_method_3_code 1 (Option.some Jvm.ClassFile.FieldType.boolean)) ∈ WG := WG_1 (List.mem_of_getElem? (i := 210) rfl) rfl
theorem gw1_211 : (Jvm.Cond.methodLink "OriginRally" 78 ⟨"OriginRally$Way", "staysOnGround", "(I)Z"⟩) ∈ WG := WG_1 (List.mem_of_getElem? (i := 211) rfl) rfl
theorem gw1_212 : (Jvm.Cond.instanceMethod ⟨"OriginRally$Way", "staysOnGround", "(I)Z"⟩) ∈ WG := WG_1 (List.mem_of_getElem? (i := 212) rfl) rfl
theorem gw1_213 : (Jvm.Cond.selects "OriginRally$Way" ⟨"OriginRally$Way", "staysOnGround", "(I)Z"⟩ ⟨"OriginRally$Way", "staysOnGround", "(I)Z"⟩) ∈ WG := WG_1 (List.mem_of_getElem? (i := 213) rfl) rfl
theorem gw1_214 : (Jvm.Cond.code ⟨"OriginRally$Way", "staysOnGround", "(I)Z"⟩ prog_6_method_4_code 5 (Option.some Jvm.ClassFile.FieldType.boolean)) ∈ WG := WG_1 (List.mem_of_getElem? (i := 214) rfl) rfl
theorem gw1_220 : (Jvm.Cond.methodLink "OriginRally" 82 ⟨"OriginRally$Way", "goOn", "(II)V"⟩) ∈ WG := WG_1 (List.mem_of_getElem? (i := 220) rfl) rfl
theorem gw1_221 : (Jvm.Cond.instanceMethod ⟨"OriginRally$Way", "goOn", "(II)V"⟩) ∈ WG := WG_1 (List.mem_of_getElem? (i := 221) rfl) rfl
theorem gw1_222 : (Jvm.Cond.selects "OriginRally$Way" ⟨"OriginRally$Way", "goOn", "(II)V"⟩ ⟨"OriginRally$Way", "goOn", "(II)V"⟩) ∈ WG := WG_1 (List.mem_of_getElem? (i := 222) rfl) rfl
theorem gw1_223 : (Jvm.Cond.code ⟨"OriginRally$Way", "goOn", "(II)V"⟩ prog_6_method_5_code 3 (Option.none : Option Jvm.ClassFile.FieldType)) ∈ WG := WG_1 (List.mem_of_getElem? (i := 223) rfl) rfl
theorem gw1_224 : (Jvm.Cond.instantiable "OriginRally$Piece" 6) ∈ WG := WG_1 (List.mem_of_getElem? (i := 224) rfl) rfl
theorem gw1_225 : (Jvm.Cond.methodLink "OriginRally$Way" 41 ⟨"OriginRally$Piece", "<init>", "(IIIIIZ)V"⟩) ∈ WG := WG_1 (List.mem_of_getElem? (i := 225) rfl) rfl
theorem gw1_226 : (Jvm.Cond.instanceMethod ⟨"OriginRally$Piece", "<init>", "(IIIIIZ)V"⟩) ∈ WG := WG_1 (List.mem_of_getElem? (i := 226) rfl) rfl
theorem gw1_227 : (Jvm.Cond.code ⟨"OriginRally$Piece", "<init>", "(IIIIIZ)V"⟩ prog_5_method_1_code 7 (Option.none : Option Jvm.ClassFile.FieldType)) ∈ WG := WG_1 (List.mem_of_getElem? (i := 227) rfl) rfl
theorem gw1_228 : (Jvm.Cond.methodLink "OriginRally$Piece" 3 ⟨"java/lang/Object", "<init>", "()V"⟩) ∈ WG := WG_1 (List.mem_of_getElem? (i := 228) rfl) rfl
theorem gw1_229 : (Jvm.Cond.fieldLink "OriginRally$Piece" 9 "OriginRally$Piece" "begin" "I") ∈ WG := WG_1 (List.mem_of_getElem? (i := 229) rfl) rfl
theorem gw1_231 : (Jvm.Cond.fieldLink "OriginRally$Piece" 15 "OriginRally$Piece" "minutes" "I") ∈ WG := WG_1 (List.mem_of_getElem? (i := 231) rfl) rfl
theorem gw1_232 : (Jvm.Cond.fieldLink "OriginRally$Piece" 18 "OriginRally$Piece" "cell" "I") ∈ WG := WG_1 (List.mem_of_getElem? (i := 232) rfl) rfl
theorem gw1_233 : (Jvm.Cond.fieldLink "OriginRally$Piece" 21 "OriginRally$Piece" "heading" "I") ∈ WG := WG_1 (List.mem_of_getElem? (i := 233) rfl) rfl
theorem gw1_235 : (Jvm.Cond.fieldLink "OriginRally$Piece" 24 "OriginRally$Piece" "turn" "I") ∈ WG := WG_1 (List.mem_of_getElem? (i := 235) rfl) rfl
theorem gw1_237 : (Jvm.Cond.fieldLink "OriginRally$Piece" 27 "OriginRally$Piece" "isDriven" "Z") ∈ WG := WG_1 (List.mem_of_getElem? (i := 237) rfl) rfl
theorem gw1_239 : (Jvm.Cond.laysFinal "OriginRally$Piece" "OriginRally$Piece" "begin" "I") ∈ WG := WG_1 (List.mem_of_getElem? (i := 239) rfl) rfl
theorem gw2_1 : (Jvm.Cond.laysFinal "OriginRally$Piece" "OriginRally$Piece" "minutes" "I") ∈ WG := WG_2 (List.mem_of_getElem? (i := 1) rfl) rfl
theorem gw2_3 : (Jvm.Cond.laysFinal "OriginRally$Piece" "OriginRally$Piece" "cell" "I") ∈ WG := WG_2 (List.mem_of_getElem? (i := 3) rfl) rfl
theorem gw2_5 : (Jvm.Cond.laysFinal "OriginRally$Piece" "OriginRally$Piece" "heading" "I") ∈ WG := WG_2 (List.mem_of_getElem? (i := 5) rfl) rfl
theorem gw2_7 : (Jvm.Cond.laysFinal "OriginRally$Piece" "OriginRally$Piece" "turn" "I") ∈ WG := WG_2 (List.mem_of_getElem? (i := 7) rfl) rfl
theorem gw2_9 : (Jvm.Cond.laysFinal "OriginRally$Piece" "OriginRally$Piece" "isDriven" "Z") ∈ WG := WG_2 (List.mem_of_getElem? (i := 9) rfl) rfl
theorem gw2_12 : (Jvm.Cond.methodLink "OriginRally$Way" 44 ⟨"OriginRally$Way", "append", "(LOriginRally$Piece;)V"⟩) ∈ WG := WG_2 (List.mem_of_getElem? (i := 12) rfl) rfl
theorem gw2_14 : (Jvm.Cond.instanceMethod ⟨"OriginRally$Way", "append", "(LOriginRally$Piece;)V"⟩) ∈ WG := WG_2 (List.mem_of_getElem? (i := 14) rfl) rfl
theorem gw2_15 : (Jvm.Cond.code ⟨"OriginRally$Way", "append", "(LOriginRally$Piece;)V"⟩ prog_6_method_7_code 2 (Option.none : Option Jvm.ClassFile.FieldType)) ∈ WG := WG_2 (List.mem_of_getElem? (i := 15) rfl) rfl
theorem gw2_16 : (Jvm.Cond.methodLink "OriginRally$Way" 48 ⟨"OriginRally$Way", "isFull", "()Z"⟩) ∈ WG := WG_2 (List.mem_of_getElem? (i := 16) rfl) rfl
theorem gw2_17 : (Jvm.Cond.methodLink "OriginRally$Way" 52 ⟨"OriginRally$Piece", "end", "()I"⟩) ∈ WG := WG_2 (List.mem_of_getElem? (i := 17) rfl) rfl
theorem gw2_18 : (Jvm.Cond.instanceMethod ⟨"OriginRally$Piece", "end", "()I"⟩) ∈ WG := WG_2 (List.mem_of_getElem? (i := 18) rfl) rfl
theorem gw2_19 : (Jvm.Cond.selects "OriginRally$Piece" ⟨"OriginRally$Piece", "end", "()I"⟩ ⟨"OriginRally$Piece", "end", "()I"⟩) ∈ WG := WG_2 (List.mem_of_getElem? (i := 19) rfl) rfl
theorem gw2_20 : (Jvm.Cond.code ⟨"OriginRally$Piece", "end", "()I"⟩ prog_5_method_2_code 1 (Option.some Jvm.ClassFile.FieldType.int)) ∈ WG := WG_2 (List.mem_of_getElem? (i := 20) rfl) rfl
theorem gw2_21 : (Jvm.Cond.methodLink "OriginRally$Way" 56 ⟨"OriginRally$Piece", "lastCell", "()I"⟩) ∈ WG := WG_2 (List.mem_of_getElem? (i := 21) rfl) rfl
theorem gw2_22 : (Jvm.Cond.instanceMethod ⟨"OriginRally$Piece", "lastCell", "()I"⟩) ∈ WG := WG_2 (List.mem_of_getElem? (i := 22) rfl) rfl
theorem gw2_23 : (Jvm.Cond.selects "OriginRally$Piece" ⟨"OriginRally$Piece", "lastCell", "()I"⟩ ⟨"OriginRally$Piece", "lastCell", "()I"⟩) ∈ WG := WG_2 (List.mem_of_getElem? (i := 23) rfl) rfl
theorem gw2_24 : (Jvm.Cond.code ⟨"OriginRally$Piece", "lastCell", "()I"⟩ prog_5_method_3_code 1 (Option.some Jvm.ClassFile.FieldType.int)) ∈ WG := WG_2 (List.mem_of_getElem? (i := 24) rfl) rfl
theorem gw2_25 : (Jvm.Cond.methodLink "OriginRally$Piece" 31 ⟨"OriginRally$Piece", "cellAfter", "(I)I"⟩) ∈ WG := WG_2 (List.mem_of_getElem? (i := 25) rfl) rfl
theorem gw2_26 : (Jvm.Cond.instanceMethod ⟨"OriginRally$Piece", "cellAfter", "(I)I"⟩) ∈ WG := WG_2 (List.mem_of_getElem? (i := 26) rfl) rfl
theorem gw2_27 : (Jvm.Cond.selects "OriginRally$Piece" ⟨"OriginRally$Piece", "cellAfter", "(I)I"⟩ ⟨"OriginRally$Piece", "cellAfter", "(I)I"⟩) ∈ WG := WG_2 (List.mem_of_getElem? (i := 27) rfl) rfl
theorem gw2_28 : (Jvm.Cond.code ⟨"OriginRally$Piece", "cellAfter", "(I)I"⟩ prog_5_method_4_code 3 (Option.some Jvm.ClassFile.FieldType.int)) ∈ WG := WG_2 (List.mem_of_getElem? (i := 28) rfl) rfl
theorem gw2_31 : (Jvm.Cond.methodLink "OriginRallyLaw" 119 ⟨"OriginRallyLaw", "addGate", "(LOriginRally;II[J)I"⟩) ∈ WG := WG_2 (List.mem_of_getElem? (i := 31) rfl) rfl
theorem gw2_32 : (Jvm.Cond.static ⟨"OriginRallyLaw", "addGate", "(LOriginRally;II[J)I"⟩) ∈ WG := WG_2 (List.mem_of_getElem? (i := 32) rfl) rfl
theorem gw2_33 : (Jvm.Cond.codeWith ⟨"OriginRallyLaw", "addGate", "(LOriginRally;II[J)I"⟩ method_5_code 5 (Option.some Jvm.ClassFile.FieldType.int) [(0, 10, 13, 24), (0, 10, 17, 13), (0, 10, 21, 15)]) ∈ WG := WG_2 (List.mem_of_getElem? (i := 33) rfl) rfl
theorem gw2_34 : (Jvm.Cond.classLink "OriginRallyLaw" 24 "java/lang/IndexOutOfBoundsException") ∈ WG := WG_2 (List.mem_of_getElem? (i := 34) rfl) rfl
theorem gw2_35 : (Jvm.Cond.methodLink "OriginRallyLaw" 21 ⟨"OriginRally", "addGate", "(II)I"⟩) ∈ WG := WG_2 (List.mem_of_getElem? (i := 35) rfl) rfl
theorem gw2_36 : (Jvm.Cond.instanceMethod ⟨"OriginRally", "addGate", "(II)I"⟩) ∈ WG := WG_2 (List.mem_of_getElem? (i := 36) rfl) rfl
theorem gw2_37 : (Jvm.Cond.selects "OriginRally" ⟨"OriginRally", "addGate", "(II)I"⟩ ⟨"OriginRally", "addGate", "(II)I"⟩) ∈ WG := WG_2 (List.mem_of_getElem? (i := 37) rfl) rfl
theorem gw2_38 : (Jvm.Cond.code ⟨"OriginRally", "addGate", "(II)I"⟩ prog_1_method_4_code 5 (Option.some Jvm.ClassFile.FieldType.int)) ∈ WG := WG_2 (List.mem_of_getElem? (i := 38) rfl) rfl
theorem gw2_39 : (Jvm.Cond.methodLink "OriginRally" 88 ⟨"OriginRally", "entryAt", "(I)LOriginRally$Piece;"⟩) ∈ WG := WG_2 (List.mem_of_getElem? (i := 39) rfl) rfl
theorem gw2_41 : (Jvm.Cond.instanceMethod ⟨"OriginRally", "entryAt", "(I)LOriginRally$Piece;"⟩) ∈ WG := WG_2 (List.mem_of_getElem? (i := 41) rfl) rfl
theorem gw2_42 : (Jvm.Cond.code ⟨"OriginRally", "entryAt", "(I)LOriginRally$Piece;"⟩ prog_1_method_36_code 3 (Option.some (Jvm.ClassFile.FieldType.object "OriginRally$Piece"))) ∈ WG := WG_2 (List.mem_of_getElem? (i := 42) rfl) rfl
theorem gw2_43 : (Jvm.Cond.methodLink "OriginRally" 233 ⟨"OriginRally$Way", "pieceAt", "(I)LOriginRally$Piece;"⟩) ∈ WG := WG_2 (List.mem_of_getElem? (i := 43) rfl) rfl
theorem gw2_44 : (Jvm.Cond.instanceMethod ⟨"OriginRally$Way", "pieceAt", "(I)LOriginRally$Piece;"⟩) ∈ WG := WG_2 (List.mem_of_getElem? (i := 44) rfl) rfl
theorem gw2_45 : (Jvm.Cond.selects "OriginRally$Way" ⟨"OriginRally$Way", "pieceAt", "(I)LOriginRally$Piece;"⟩ ⟨"OriginRally$Way", "pieceAt", "(I)LOriginRally$Piece;"⟩) ∈ WG := WG_2 (List.mem_of_getElem? (i := 45) rfl) rfl
theorem gw2_46 : (Jvm.Cond.code ⟨"OriginRally$Way", "pieceAt", "(I)LOriginRally$Piece;"⟩ prog_6_method_8_code 2 (Option.some (Jvm.ClassFile.FieldType.object "OriginRally$Piece"))) ∈ WG := WG_2 (List.mem_of_getElem? (i := 46) rfl) rfl
theorem gw2_47 : (Jvm.Cond.classLink "OriginRally" 218 "java/lang/IndexOutOfBoundsException") ∈ WG := WG_2 (List.mem_of_getElem? (i := 47) rfl) rfl
theorem gw2_48 : (Jvm.Cond.instantiable "java/lang/IndexOutOfBoundsException" 6) ∈ WG := WG_2 (List.mem_of_getElem? (i := 48) rfl) rfl
theorem gw2_50 : (Jvm.Cond.selects "java/lang/IndexOutOfBoundsException" ⟨"java/lang/Throwable", "fillInStackTrace", "(I)Ljava/lang/Throwable;"⟩ ⟨"java/lang/Throwable", "fillInStackTrace", "(I)Ljava/lang/Throwable;"⟩) ∈ WG := WG_2 (List.mem_of_getElem? (i := 50) rfl) rfl
theorem gw2_51 : (Jvm.Cond.lays "java/lang/IndexOutOfBoundsException" "java/lang/Throwable" "cause" "Ljava/lang/Throwable;") ∈ WG := WG_2 (List.mem_of_getElem? (i := 51) rfl) rfl
theorem gw2_52 : (Jvm.Cond.lays "java/lang/IndexOutOfBoundsException" "java/lang/Throwable" "stackTrace" "[Ljava/lang/StackTraceElement;") ∈ WG := WG_2 (List.mem_of_getElem? (i := 52) rfl) rfl
theorem gw2_53 : (Jvm.Cond.lays "java/lang/IndexOutOfBoundsException" "java/lang/Throwable" "suppressedExceptions" "Ljava/util/List;") ∈ WG := WG_2 (List.mem_of_getElem? (i := 53) rfl) rfl
theorem gw2_54 : (Jvm.Cond.lays "java/lang/IndexOutOfBoundsException" "java/lang/Throwable" "detailMessage" "Ljava/lang/String;") ∈ WG := WG_2 (List.mem_of_getElem? (i := 54) rfl) rfl
theorem gw2_55 : (Jvm.Cond.lays "java/lang/IndexOutOfBoundsException" "java/lang/Throwable" "backtrace" "Ljava/lang/Object;") ∈ WG := WG_2 (List.mem_of_getElem? (i := 55) rfl) rfl
theorem gw2_57 : (Jvm.Cond.methodLink "OriginRally" 222 ⟨"java/lang/IndexOutOfBoundsException", "<init>", "(Ljava/lang/String;)V"⟩) ∈ WG := WG_2 (List.mem_of_getElem? (i := 57) rfl) rfl
theorem gw2_58 : (Jvm.Cond.instanceMethod ⟨"java/lang/IndexOutOfBoundsException", "<init>", "(Ljava/lang/String;)V"⟩) ∈ WG := WG_2 (List.mem_of_getElem? (i := 58) rfl) rfl
theorem gw2_59 : (Jvm.Cond.code ⟨"java/lang/IndexOutOfBoundsException", "<init>", "(Ljava/lang/String;)V"⟩ prog_13_method_2_code 2 (Option.none : Option Jvm.ClassFile.FieldType)) ∈ WG := WG_2 (List.mem_of_getElem? (i := 59) rfl) rfl
theorem gw2_60 : (Jvm.Cond.methodLink "java/lang/IndexOutOfBoundsException" 7 ⟨"java/lang/RuntimeException", "<init>", "(Ljava/lang/String;)V"⟩) ∈ WG := WG_2 (List.mem_of_getElem? (i := 60) rfl) rfl
theorem gw2_61 : (Jvm.Cond.lays "java/lang/IndexOutOfBoundsException" "java/lang/Throwable" "depth" "I") ∈ WG := WG_2 (List.mem_of_getElem? (i := 61) rfl) rfl
theorem gw2_63 : (Jvm.Cond.methodLink "OriginRally" 92 ⟨"OriginRally", "lastGateEntry", "()I"⟩) ∈ WG := WG_2 (List.mem_of_getElem? (i := 63) rfl) rfl
theorem gw2_65 : (Jvm.Cond.instanceMethod ⟨"OriginRally", "lastGateEntry", "()I"⟩) ∈ WG := WG_2 (List.mem_of_getElem? (i := 65) rfl) rfl
theorem gw2_66 : (Jvm.Cond.code ⟨"OriginRally", "lastGateEntry", "()I"⟩ prog_1_method_40_code 1 (Option.some Jvm.ClassFile.FieldType.int)) ∈ WG := WG_2 (List.mem_of_getElem? (i := 66) rfl) rfl
theorem gw2_67 : (Jvm.Cond.methodLink "OriginRally" 179 ⟨"OriginRally", "gateAt", "(I)LOriginRally$Gate;"⟩) ∈ WG := WG_2 (List.mem_of_getElem? (i := 67) rfl) rfl
theorem gw2_69 : (Jvm.Cond.instanceMethod ⟨"OriginRally", "gateAt", "(I)LOriginRally$Gate;"⟩) ∈ WG := WG_2 (List.mem_of_getElem? (i := 69) rfl) rfl
theorem gw2_70 : (Jvm.Cond.code ⟨"OriginRally", "gateAt", "(I)LOriginRally$Gate;"⟩ prog_1_method_37_code 3 (Option.some (Jvm.ClassFile.FieldType.object "OriginRally$Gate"))) ∈ WG := WG_2 (List.mem_of_getElem? (i := 70) rfl) rfl
theorem gw2_72 : (Jvm.Cond.instantiable "OriginRally$Gate" 3) ∈ WG := WG_2 (List.mem_of_getElem? (i := 72) rfl) rfl
theorem gw2_73 : (Jvm.Cond.methodLink "OriginRally" 96 ⟨"OriginRally$Piece", "lastCell", "()I"⟩) ∈ WG := WG_2 (List.mem_of_getElem? (i := 73) rfl) rfl
theorem gw2_74 : (Jvm.Cond.methodLink "OriginRally" 101 ⟨"OriginRally$Piece", "end", "()I"⟩) ∈ WG := WG_2 (List.mem_of_getElem? (i := 74) rfl) rfl
theorem gw2_75 : (Jvm.Cond.methodLink "OriginRally" 104 ⟨"OriginRally$Gate", "<init>", "(III)V"⟩) ∈ WG := WG_2 (List.mem_of_getElem? (i := 75) rfl) rfl
theorem gw2_76 : (Jvm.Cond.instanceMethod ⟨"OriginRally$Gate", "<init>", "(III)V"⟩) ∈ WG := WG_2 (List.mem_of_getElem? (i := 76) rfl) rfl
theorem gw2_77 : (Jvm.Cond.code ⟨"OriginRally$Gate", "<init>", "(III)V"⟩ prog_3_method_1_code 4 (Option.none : Option Jvm.ClassFile.FieldType)) ∈ WG := WG_2 (List.mem_of_getElem? (i := 77) rfl) rfl
theorem gw2_78 : (Jvm.Cond.methodLink "OriginRally$Gate" 3 ⟨"java/lang/Object", "<init>", "()V"⟩) ∈ WG := WG_2 (List.mem_of_getElem? (i := 78) rfl) rfl
theorem gw2_79 : (Jvm.Cond.fieldLink "OriginRally$Gate" 9 "OriginRally$Gate" "entry" "I") ∈ WG := WG_2 (List.mem_of_getElem? (i := 79) rfl) rfl
theorem gw2_81 : (Jvm.Cond.fieldLink "OriginRally$Gate" 15 "OriginRally$Gate" "cell" "I") ∈ WG := WG_2 (List.mem_of_getElem? (i := 81) rfl) rfl
theorem gw2_83 : (Jvm.Cond.fieldLink "OriginRally$Gate" 18 "OriginRally$Gate" "dueMinute" "I") ∈ WG := WG_2 (List.mem_of_getElem? (i := 83) rfl) rfl
theorem gw2_85 : (Jvm.Cond.laysFinal "OriginRally$Gate" "OriginRally$Gate" "entry" "I") ∈ WG := WG_2 (List.mem_of_getElem? (i := 85) rfl) rfl
theorem gw2_87 : (Jvm.Cond.laysFinal "OriginRally$Gate" "OriginRally$Gate" "cell" "I") ∈ WG := WG_2 (List.mem_of_getElem? (i := 87) rfl) rfl
theorem gw2_89 : (Jvm.Cond.laysFinal "OriginRally$Gate" "OriginRally$Gate" "dueMinute" "I") ∈ WG := WG_2 (List.mem_of_getElem? (i := 89) rfl) rfl
theorem gw2_92 : (Jvm.Cond.methodLink "OriginRallyLaw" 122 ⟨"OriginRallyLaw", "cut", "(LOriginRally;I[J)I"⟩) ∈ WG := WG_2 (List.mem_of_getElem? (i := 92) rfl) rfl
theorem gw2_93 : (Jvm.Cond.static ⟨"OriginRallyLaw", "cut", "(LOriginRally;I[J)I"⟩) ∈ WG := WG_2 (List.mem_of_getElem? (i := 93) rfl) rfl
theorem gw2_94 : (Jvm.Cond.codeWith ⟨"OriginRallyLaw", "cut", "(LOriginRally;I[J)I"⟩ method_6_code 4 (Option.some Jvm.ClassFile.FieldType.int) [(0, 9, 12, 13)]) ∈ WG := WG_2 (List.mem_of_getElem? (i := 94) rfl) rfl
theorem gw2_95 : (Jvm.Cond.methodLink "OriginRallyLaw" 26 ⟨"OriginRally", "cut", "(I)I"⟩) ∈ WG := WG_2 (List.mem_of_getElem? (i := 95) rfl) rfl
theorem gw2_96 : (Jvm.Cond.instanceMethod ⟨"OriginRally", "cut", "(I)I"⟩) ∈ WG := WG_2 (List.mem_of_getElem? (i := 96) rfl) rfl
theorem gw2_97 : (Jvm.Cond.selects "OriginRally" ⟨"OriginRally", "cut", "(I)I"⟩ ⟨"OriginRally", "cut", "(I)I"⟩) ∈ WG := WG_2 (List.mem_of_getElem? (i := 97) rfl) rfl
theorem gw2_98 : (Jvm.Cond.code ⟨"OriginRally", "cut", "(I)I"⟩ prog_1_method_5_code 3 (Option.some Jvm.ClassFile.FieldType.int)) ∈ WG := WG_2 (List.mem_of_getElem? (i := 98) rfl) rfl
theorem gw2_99 : (Jvm.Cond.methodLink "OriginRallyLaw" 125 ⟨"OriginRallyLaw", "enter", "(LOriginRally;[J)I"⟩) ∈ WG := WG_2 (List.mem_of_getElem? (i := 99) rfl) rfl
theorem gw2_100 : (Jvm.Cond.static ⟨"OriginRallyLaw", "enter", "(LOriginRally;[J)I"⟩) ∈ WG := WG_2 (List.mem_of_getElem? (i := 100) rfl) rfl
theorem gw2_101 : (Jvm.Cond.codeWith ⟨"OriginRallyLaw", "enter", "(LOriginRally;[J)I"⟩ method_7_code 3 (Option.some Jvm.ClassFile.FieldType.int) [(0, 8, 11, 15)]) ∈ WG := WG_2 (List.mem_of_getElem? (i := 101) rfl) rfl
theorem gw2_102 : (Jvm.Cond.methodLink "OriginRallyLaw" 29 ⟨"OriginRally", "enter", "()I"⟩) ∈ WG := WG_2 (List.mem_of_getElem? (i := 102) rfl) rfl
theorem gw2_103 : (Jvm.Cond.instanceMethod ⟨"OriginRally", "enter", "()I"⟩) ∈ WG := WG_2 (List.mem_of_getElem? (i := 103) rfl) rfl
theorem gw2_104 : (Jvm.Cond.selects "OriginRally" ⟨"OriginRally", "enter", "()I"⟩ ⟨"OriginRally", "enter", "()I"⟩) ∈ WG := WG_2 (List.mem_of_getElem? (i := 104) rfl) rfl
theorem gw2_105 : (Jvm.Cond.code ⟨"OriginRally", "enter", "()I"⟩ prog_1_method_6_code 2 (Option.some Jvm.ClassFile.FieldType.int)) ∈ WG := WG_2 (List.mem_of_getElem? (i := 105) rfl) rfl
theorem gw2_106 : (Jvm.Cond.instantiable "OriginRally$Car" 4) ∈ WG := WG_2 (List.mem_of_getElem? (i := 106) rfl) rfl
theorem gw2_107 : (Jvm.Cond.methodLink "OriginRally" 107 ⟨"OriginRally$Car", "<init>", "(I)V"⟩) ∈ WG := WG_2 (List.mem_of_getElem? (i := 107) rfl) rfl
theorem gw2_108 : (Jvm.Cond.instanceMethod ⟨"OriginRally$Car", "<init>", "(I)V"⟩) ∈ WG := WG_2 (List.mem_of_getElem? (i := 108) rfl) rfl
theorem gw2_109 : (Jvm.Cond.code ⟨"OriginRally$Car", "<init>", "(I)V"⟩ prog_2_method_1_code 3 (Option.none : Option Jvm.ClassFile.FieldType)) ∈ WG := WG_2 (List.mem_of_getElem? (i := 109) rfl) rfl
theorem gw2_110 : (Jvm.Cond.methodLink "OriginRally$Car" 3 ⟨"java/lang/Object", "<init>", "()V"⟩) ∈ WG := WG_2 (List.mem_of_getElem? (i := 110) rfl) rfl
theorem gw2_111 : (Jvm.Cond.classLink "OriginRally$Car" 9 "OriginRally$Way") ∈ WG := WG_2 (List.mem_of_getElem? (i := 111) rfl) rfl
theorem gw2_112 : (Jvm.Cond.methodLink "OriginRally$Car" 11 ⟨"OriginRally$Way", "<init>", "(II)V"⟩) ∈ WG := WG_2 (List.mem_of_getElem? (i := 112) rfl) rfl
theorem gw2_113 : (Jvm.Cond.fieldLink "OriginRally$Car" 14 "OriginRally$Car" "track" "LOriginRally$Way;") ∈ WG := WG_2 (List.mem_of_getElem? (i := 113) rfl) rfl
theorem gw2_115 : (Jvm.Cond.fieldLink "OriginRally$Car" 20 "OriginRally$Car" "recorded" "[I") ∈ WG := WG_2 (List.mem_of_getElem? (i := 115) rfl) rfl
theorem gw2_116 : (Jvm.Cond.fieldLink "OriginRally$Car" 24 "OriginRally$Car" "downBy" "I") ∈ WG := WG_2 (List.mem_of_getElem? (i := 116) rfl) rfl
theorem gw2_118 : (Jvm.Cond.fieldLink "OriginRally$Car" 28 "OriginRally$Car" "lostAppeals" "I") ∈ WG := WG_2 (List.mem_of_getElem? (i := 118) rfl) rfl
theorem gw2_120 : (Jvm.Cond.laysFinal "OriginRally$Car" "OriginRally$Car" "track" "LOriginRally$Way;") ∈ WG := WG_2 (List.mem_of_getElem? (i := 120) rfl) rfl
theorem gw2_122 : (Jvm.Cond.laysFinal "OriginRally$Car" "OriginRally$Car" "recorded" "[I") ∈ WG := WG_2 (List.mem_of_getElem? (i := 122) rfl) rfl
theorem gw2_124 : (Jvm.Cond.lays "OriginRally$Car" "OriginRally$Car" "downBy" "I") ∈ WG := WG_2 (List.mem_of_getElem? (i := 124) rfl) rfl
theorem gw2_126 : (Jvm.Cond.lays "OriginRally$Car" "OriginRally$Car" "lostAppeals" "I") ∈ WG := WG_2 (List.mem_of_getElem? (i := 126) rfl) rfl
theorem gw2_129 : (Jvm.Cond.methodLink "OriginRallyLaw" 129 ⟨"OriginRallyLaw", "drive", "(LOriginRally;III[J)I"⟩) ∈ WG := WG_2 (List.mem_of_getElem? (i := 129) rfl) rfl
theorem gw2_130 : (Jvm.Cond.static ⟨"OriginRallyLaw", "drive", "(LOriginRally;III[J)I"⟩) ∈ WG := WG_2 (List.mem_of_getElem? (i := 130) rfl) rfl
theorem gw2_131 : (Jvm.Cond.codeWith ⟨"OriginRallyLaw", "drive", "(LOriginRally;III[J)I"⟩ method_8_code 6 (Option.some Jvm.ClassFile.FieldType.int) [(0, 12, 15, 24), (0, 12, 19, 13), (0, 12, 23, 15)]) ∈ WG := WG_2 (List.mem_of_getElem? (i := 131) rfl) rfl
theorem gw2_132 : (Jvm.Cond.methodLink "OriginRallyLaw" 33 ⟨"OriginRally", "drive", "(III)I"⟩) ∈ WG := WG_2 (List.mem_of_getElem? (i := 132) rfl) rfl
theorem gw2_133 : (Jvm.Cond.instanceMethod ⟨"OriginRally", "drive", "(III)I"⟩) ∈ WG := WG_2 (List.mem_of_getElem? (i := 133) rfl) rfl
theorem gw2_134 : (Jvm.Cond.selects "OriginRally" ⟨"OriginRally", "drive", "(III)I"⟩ ⟨"OriginRally", "drive", "(III)I"⟩) ∈ WG := WG_2 (List.mem_of_getElem? (i := 134) rfl) rfl
theorem gw2_135 : (Jvm.Cond.code ⟨"OriginRally", "drive", "(III)I"⟩ prog_1_method_7_code 5 (Option.some Jvm.ClassFile.FieldType.int)) ∈ WG := WG_2 (List.mem_of_getElem? (i := 135) rfl) rfl
theorem gw2_136 : (Jvm.Cond.methodLink "OriginRally" 109 ⟨"OriginRally", "carAt", "(I)LOriginRally$Car;"⟩) ∈ WG := WG_2 (List.mem_of_getElem? (i := 136) rfl) rfl
theorem gw2_138 : (Jvm.Cond.instanceMethod ⟨"OriginRally", "carAt", "(I)LOriginRally$Car;"⟩) ∈ WG := WG_2 (List.mem_of_getElem? (i := 138) rfl) rfl
theorem gw2_139 : (Jvm.Cond.code ⟨"OriginRally", "carAt", "(I)LOriginRally$Car;"⟩ prog_1_method_38_code 3 (Option.some (Jvm.ClassFile.FieldType.object "OriginRally$Car"))) ∈ WG := WG_2 (List.mem_of_getElem? (i := 139) rfl) rfl
theorem gw2_140 : (Jvm.Cond.methodLink "OriginRally" 212 ⟨"OriginRally", "isCar", "(I)Z"⟩) ∈ WG := WG_2 (List.mem_of_getElem? (i := 140) rfl) rfl
theorem gw2_142 : (Jvm.Cond.instanceMethod ⟨"OriginRally", "isCar", "(I)Z"⟩) ∈ WG := WG_2 (List.mem_of_getElem? (i := 142) rfl) rfl
theorem gw2_143 : (Jvm.Cond.code ⟨"OriginRally", "isCar", "(I)Z"⟩ prog_1_method_33_code 2 (Option.some Jvm.ClassFile.FieldType.boolean)) ∈ WG := WG_2 (List.mem_of_getElem? (i := 143) rfl) rfl
theorem gw2_145 : (Jvm.Cond.methodLink "OriginRally" 113 ⟨"OriginRally$Car", "isDown", "()Z"⟩) ∈ WG := WG_2 (List.mem_of_getElem? (i := 145) rfl) rfl
theorem gw2_146 : (Jvm.Cond.instanceMethod ⟨"OriginRally$Car", "isDown", "()Z"⟩) ∈ WG := WG_2 (List.mem_of_getElem? (i := 146) rfl) rfl
theorem gw2_147 : (Jvm.Cond.selects "OriginRally$Car" ⟨"OriginRally$Car", "isDown", "()Z"⟩ ⟨"OriginRally$Car", "isDown", "()Z"⟩) ∈ WG := WG_2 (List.mem_of_getElem? (i := 147) rfl) rfl
theorem gw2_148 : (Jvm.Cond.code ⟨"OriginRally$Car", "isDown", "()Z"⟩ prog_2_method_2_code 1 (Option.some Jvm.ClassFile.FieldType.boolean)) ∈ WG := WG_2 (List.mem_of_getElem? (i := 148) rfl) rfl
theorem gw2_149 : (Jvm.Cond.methodLink "OriginRallyLaw" 133 ⟨"OriginRallyLaw", "stand", "(LOriginRally;II[J)I"⟩) ∈ WG := WG_2 (List.mem_of_getElem? (i := 149) rfl) rfl
theorem gw2_150 : (Jvm.Cond.static ⟨"OriginRallyLaw", "stand", "(LOriginRally;II[J)I"⟩) ∈ WG := WG_2 (List.mem_of_getElem? (i := 150) rfl) rfl
theorem gw2_151 : (Jvm.Cond.codeWith ⟨"OriginRallyLaw", "stand", "(LOriginRally;II[J)I"⟩ method_9_code 5 (Option.some Jvm.ClassFile.FieldType.int) [(0, 10, 13, 24), (0, 10, 17, 13), (0, 10, 21, 15)]) ∈ WG := WG_2 (List.mem_of_getElem? (i := 151) rfl) rfl
theorem gw2_152 : (Jvm.Cond.methodLink "OriginRallyLaw" 37 ⟨"OriginRally", "stand", "(II)I"⟩) ∈ WG := WG_2 (List.mem_of_getElem? (i := 152) rfl) rfl
theorem gw2_153 : (Jvm.Cond.instanceMethod ⟨"OriginRally", "stand", "(II)I"⟩) ∈ WG := WG_2 (List.mem_of_getElem? (i := 153) rfl) rfl
theorem gw2_154 : (Jvm.Cond.selects "OriginRally" ⟨"OriginRally", "stand", "(II)I"⟩ ⟨"OriginRally", "stand", "(II)I"⟩) ∈ WG := WG_2 (List.mem_of_getElem? (i := 154) rfl) rfl
theorem gw2_155 : (Jvm.Cond.code ⟨"OriginRally", "stand", "(II)I"⟩ prog_1_method_8_code 4 (Option.some Jvm.ClassFile.FieldType.int)) ∈ WG := WG_2 (List.mem_of_getElem? (i := 155) rfl) rfl
theorem gw2_156 : (Jvm.Cond.methodLink "OriginRally" 122 ⟨"OriginRally$Way", "stay", "(I)V"⟩) ∈ WG := WG_2 (List.mem_of_getElem? (i := 156) rfl) rfl
theorem gw2_157 : (Jvm.Cond.instanceMethod ⟨"OriginRally$Way", "stay", "(I)V"⟩) ∈ WG := WG_2 (List.mem_of_getElem? (i := 157) rfl) rfl
theorem gw2_158 : (Jvm.Cond.selects "OriginRally$Way" ⟨"OriginRally$Way", "stay", "(I)V"⟩ ⟨"OriginRally$Way", "stay", "(I)V"⟩) ∈ WG := WG_2 (List.mem_of_getElem? (i := 158) rfl) rfl
theorem gw2_159 : (Jvm.Cond.code ⟨"OriginRally$Way", "stay", "(I)V"⟩ prog_6_method_6_code 2 (Option.none : Option Jvm.ClassFile.FieldType)) ∈ WG := WG_2 (List.mem_of_getElem? (i := 159) rfl) rfl
theorem gw2_160 : (Jvm.Cond.methodLink "OriginRallyLaw" 136 ⟨"OriginRallyLaw", "breakDown", "(LOriginRally;II)I"⟩) ∈ WG := WG_2 (List.mem_of_getElem? (i := 160) rfl) rfl
theorem gw2_161 : (Jvm.Cond.static ⟨"OriginRallyLaw", "breakDown", "(LOriginRally;II)I"⟩) ∈ WG := WG_2 (List.mem_of_getElem? (i := 161) rfl) rfl
theorem gw2_162 : (Jvm.Cond.codeWith ⟨"OriginRallyLaw", "breakDown", "(LOriginRally;II)I"⟩ method_10_code 4 (Option.some Jvm.ClassFile.FieldType.int) [(0, 6, 9, 24), (0, 6, 12, 15)]) ∈ WG := WG_2 (List.mem_of_getElem? (i := 162) rfl) rfl
theorem gw2_163 : (Jvm.Cond.methodLink "OriginRallyLaw" 40 ⟨"OriginRally", "breakDown", "(II)V"⟩) ∈ WG := WG_2 (List.mem_of_getElem? (i := 163) rfl) rfl
theorem gw2_164 : (Jvm.Cond.instanceMethod ⟨"OriginRally", "breakDown", "(II)V"⟩) ∈ WG := WG_2 (List.mem_of_getElem? (i := 164) rfl) rfl
theorem gw2_165 : (Jvm.Cond.selects "OriginRally" ⟨"OriginRally", "breakDown", "(II)V"⟩ ⟨"OriginRally", "breakDown", "(II)V"⟩) ∈ WG := WG_2 (List.mem_of_getElem? (i := 165) rfl) rfl
theorem gw2_166 : (Jvm.Cond.code ⟨"OriginRally", "breakDown", "(II)V"⟩ prog_1_method_9_code 4 (Option.none : Option Jvm.ClassFile.FieldType)) ∈ WG := WG_2 (List.mem_of_getElem? (i := 166) rfl) rfl
theorem gw2_167 : (Jvm.Cond.methodLink "OriginRally" 125 ⟨"OriginRally", "checkIndex", "(Z)V"⟩) ∈ WG := WG_2 (List.mem_of_getElem? (i := 167) rfl) rfl
theorem gw2_168 : (Jvm.Cond.static ⟨"OriginRally", "checkIndex", "(Z)V"⟩) ∈ WG := WG_2 (List.mem_of_getElem? (i := 168) rfl) rfl
theorem gw2_169 : (Jvm.Cond.code ⟨"OriginRally", "checkIndex", "(Z)V"⟩ prog_1_method_30_code 1 (Option.none : Option Jvm.ClassFile.FieldType)) ∈ WG := WG_2 (List.mem_of_getElem? (i := 169) rfl) rfl
theorem gw2_171 : (Jvm.Cond.methodLink "OriginRallyLaw" 140 ⟨"OriginRallyLaw", "mend", "(LOriginRally;I[J)I"⟩) ∈ WG := WG_2 (List.mem_of_getElem? (i := 171) rfl) rfl
theorem gw2_172 : (Jvm.Cond.static ⟨"OriginRallyLaw", "mend", "(LOriginRally;I[J)I"⟩) ∈ WG := WG_2 (List.mem_of_getElem? (i := 172) rfl) rfl
theorem gw2_173 : (Jvm.Cond.codeWith ⟨"OriginRallyLaw", "mend", "(LOriginRally;I[J)I"⟩ method_11_code 4 (Option.some Jvm.ClassFile.FieldType.int) [(0, 9, 12, 24), (0, 9, 15, 15), (0, 9, 18, 47)]) ∈ WG := WG_2 (List.mem_of_getElem? (i := 173) rfl) rfl
theorem gw2_174 : (Jvm.Cond.classLink "OriginRallyLaw" 47 "java/util/NoSuchElementException") ∈ WG := WG_2 (List.mem_of_getElem? (i := 174) rfl) rfl
theorem gw2_175 : (Jvm.Cond.methodLink "OriginRallyLaw" 44 ⟨"OriginRally", "mend", "(I)I"⟩) ∈ WG := WG_2 (List.mem_of_getElem? (i := 175) rfl) rfl
theorem gw2_176 : (Jvm.Cond.instanceMethod ⟨"OriginRally", "mend", "(I)I"⟩) ∈ WG := WG_2 (List.mem_of_getElem? (i := 176) rfl) rfl
theorem gw2_177 : (Jvm.Cond.selects "OriginRally" ⟨"OriginRally", "mend", "(I)I"⟩ ⟨"OriginRally", "mend", "(I)I"⟩) ∈ WG := WG_2 (List.mem_of_getElem? (i := 177) rfl) rfl
theorem gw2_178 : (Jvm.Cond.code ⟨"OriginRally", "mend", "(I)I"⟩ prog_1_method_10_code 4 (Option.some Jvm.ClassFile.FieldType.int)) ∈ WG := WG_2 (List.mem_of_getElem? (i := 178) rfl) rfl
theorem gw2_179 : (Jvm.Cond.methodLink "OriginRally" 131 ⟨"OriginRally", "firstPartIn", "(II)I"⟩) ∈ WG := WG_2 (List.mem_of_getElem? (i := 179) rfl) rfl
theorem gw2_181 : (Jvm.Cond.instanceMethod ⟨"OriginRally", "firstPartIn", "(II)I"⟩) ∈ WG := WG_2 (List.mem_of_getElem? (i := 181) rfl) rfl
theorem gw2_182 : (Jvm.Cond.code ⟨"OriginRally", "firstPartIn", "(II)I"⟩ prog_1_method_42_code 5 (Option.some Jvm.ClassFile.FieldType.int)) ∈ WG := WG_2 (List.mem_of_getElem? (i := 182) rfl) rfl
theorem gw2_183 : (Jvm.Cond.methodLink "OriginRally" 142 ⟨"OriginRally", "partAt", "(I)LOriginRally$Part;"⟩) ∈ WG := WG_2 (List.mem_of_getElem? (i := 183) rfl) rfl
theorem gw2_185 : (Jvm.Cond.instanceMethod ⟨"OriginRally", "partAt", "(I)LOriginRally$Part;"⟩) ∈ WG := WG_2 (List.mem_of_getElem? (i := 185) rfl) rfl
theorem gw2_186 : (Jvm.Cond.code ⟨"OriginRally", "partAt", "(I)LOriginRally$Part;"⟩ prog_1_method_39_code 3 (Option.some (Jvm.ClassFile.FieldType.object "OriginRally$Part"))) ∈ WG := WG_2 (List.mem_of_getElem? (i := 186) rfl) rfl
theorem gw2_188 : (Jvm.Cond.classLink "OriginRally" 135 "java/util/NoSuchElementException") ∈ WG := WG_2 (List.mem_of_getElem? (i := 188) rfl) rfl
theorem gw2_189 : (Jvm.Cond.instantiable "java/util/NoSuchElementException" 6) ∈ WG := WG_2 (List.mem_of_getElem? (i := 189) rfl) rfl
theorem gw2_191 : (Jvm.Cond.selects "java/util/NoSuchElementException" ⟨"java/lang/Throwable", "fillInStackTrace", "(I)Ljava/lang/Throwable;"⟩ ⟨"java/lang/Throwable", "fillInStackTrace", "(I)Ljava/lang/Throwable;"⟩) ∈ WG := WG_2 (List.mem_of_getElem? (i := 191) rfl) rfl
theorem gw2_192 : (Jvm.Cond.lays "java/util/NoSuchElementException" "java/lang/Throwable" "cause" "Ljava/lang/Throwable;") ∈ WG := WG_2 (List.mem_of_getElem? (i := 192) rfl) rfl
theorem gw2_193 : (Jvm.Cond.lays "java/util/NoSuchElementException" "java/lang/Throwable" "stackTrace" "[Ljava/lang/StackTraceElement;") ∈ WG := WG_2 (List.mem_of_getElem? (i := 193) rfl) rfl
theorem gw2_194 : (Jvm.Cond.lays "java/util/NoSuchElementException" "java/lang/Throwable" "suppressedExceptions" "Ljava/util/List;") ∈ WG := WG_2 (List.mem_of_getElem? (i := 194) rfl) rfl
theorem gw2_195 : (Jvm.Cond.lays "java/util/NoSuchElementException" "java/lang/Throwable" "detailMessage" "Ljava/lang/String;") ∈ WG := WG_2 (List.mem_of_getElem? (i := 195) rfl) rfl
theorem gw2_196 : (Jvm.Cond.lays "java/util/NoSuchElementException" "java/lang/Throwable" "backtrace" "Ljava/lang/Object;") ∈ WG := WG_2 (List.mem_of_getElem? (i := 196) rfl) rfl
theorem gw2_198 : (Jvm.Cond.methodLink "OriginRally" 139 ⟨"java/util/NoSuchElementException", "<init>", "(Ljava/lang/String;)V"⟩) ∈ WG := WG_2 (List.mem_of_getElem? (i := 198) rfl) rfl
theorem gw2_199 : (Jvm.Cond.instanceMethod ⟨"java/util/NoSuchElementException", "<init>", "(Ljava/lang/String;)V"⟩) ∈ WG := WG_2 (List.mem_of_getElem? (i := 199) rfl) rfl
theorem gw2_200 : (Jvm.Cond.code ⟨"java/util/NoSuchElementException", "<init>", "(Ljava/lang/String;)V"⟩ prog_18_method_4_code 2 (Option.none : Option Jvm.ClassFile.FieldType)) ∈ WG := WG_2 (List.mem_of_getElem? (i := 200) rfl) rfl
theorem gw2_201 : (Jvm.Cond.methodLink "java/util/NoSuchElementException" 13 ⟨"java/lang/RuntimeException", "<init>", "(Ljava/lang/String;)V"⟩) ∈ WG := WG_2 (List.mem_of_getElem? (i := 201) rfl) rfl
theorem gw2_202 : (Jvm.Cond.lays "java/util/NoSuchElementException" "java/lang/Throwable" "depth" "I") ∈ WG := WG_2 (List.mem_of_getElem? (i := 202) rfl) rfl
theorem gw2_204 : (Jvm.Cond.methodLink "OriginRally" 146 ⟨"OriginRally$Part", "useUp", "(I)V"⟩) ∈ WG := WG_2 (List.mem_of_getElem? (i := 204) rfl) rfl
theorem gw2_205 : (Jvm.Cond.instanceMethod ⟨"OriginRally$Part", "useUp", "(I)V"⟩) ∈ WG := WG_2 (List.mem_of_getElem? (i := 205) rfl) rfl
theorem gw2_206 : (Jvm.Cond.selects "OriginRally$Part" ⟨"OriginRally$Part", "useUp", "(I)V"⟩ ⟨"OriginRally$Part", "useUp", "(I)V"⟩) ∈ WG := WG_2 (List.mem_of_getElem? (i := 206) rfl) rfl
theorem gw2_207 : (Jvm.Cond.code ⟨"OriginRally$Part", "useUp", "(I)V"⟩ prog_4_method_2_code 2 (Option.none : Option Jvm.ClassFile.FieldType)) ∈ WG := WG_2 (List.mem_of_getElem? (i := 207) rfl) rfl
theorem gw2_208 : (Jvm.Cond.methodLink "OriginRallyLaw" 143 ⟨"OriginRallyLaw", "bring", "(LOriginRally;II[J)I"⟩) ∈ WG := WG_2 (List.mem_of_getElem? (i := 208) rfl) rfl
theorem gw2_209 : (Jvm.Cond.static ⟨"OriginRallyLaw", "bring", "(LOriginRally;II[J)I"⟩) ∈ WG := WG_2 (List.mem_of_getElem? (i := 209) rfl) rfl
theorem gw2_210 : (Jvm.Cond.codeWith ⟨"OriginRallyLaw", "bring", "(LOriginRally;II[J)I"⟩ method_12_code 5 (Option.some Jvm.ClassFile.FieldType.int) [(0, 10, 13, 24), (0, 10, 17, 15)]) ∈ WG := WG_2 (List.mem_of_getElem? (i := 210) rfl) rfl
theorem gw2_211 : (Jvm.Cond.methodLink "OriginRallyLaw" 49 ⟨"OriginRally", "bring", "(II)I"⟩) ∈ WG := WG_2 (List.mem_of_getElem? (i := 211) rfl) rfl
theorem gw2_212 : (Jvm.Cond.instanceMethod ⟨"OriginRally", "bring", "(II)I"⟩) ∈ WG := WG_2 (List.mem_of_getElem? (i := 212) rfl) rfl
theorem gw2_213 : (Jvm.Cond.selects "OriginRally" ⟨"OriginRally", "bring", "(II)I"⟩ ⟨"OriginRally", "bring", "(II)I"⟩) ∈ WG := WG_2 (List.mem_of_getElem? (i := 213) rfl) rfl
theorem gw2_214 : (Jvm.Cond.code ⟨"OriginRally", "bring", "(II)I"⟩ prog_1_method_11_code 4 (Option.some Jvm.ClassFile.FieldType.int)) ∈ WG := WG_2 (List.mem_of_getElem? (i := 214) rfl) rfl
theorem gw2_215 : (Jvm.Cond.methodLink "OriginRally" 149 ⟨"OriginRally", "isPlace", "(I)Z"⟩) ∈ WG := WG_2 (List.mem_of_getElem? (i := 215) rfl) rfl
theorem gw2_217 : (Jvm.Cond.instanceMethod ⟨"OriginRally", "isPlace", "(I)Z"⟩) ∈ WG := WG_2 (List.mem_of_getElem? (i := 217) rfl) rfl
theorem gw2_218 : (Jvm.Cond.code ⟨"OriginRally", "isPlace", "(I)Z"⟩ prog_1_method_34_code 2 (Option.some Jvm.ClassFile.FieldType.boolean)) ∈ WG := WG_2 (List.mem_of_getElem? (i := 218) rfl) rfl
theorem gw2_219 : (Jvm.Cond.instantiable "OriginRally$Part" 4) ∈ WG := WG_2 (List.mem_of_getElem? (i := 219) rfl) rfl
theorem gw2_220 : (Jvm.Cond.methodLink "OriginRally" 152 ⟨"OriginRally$Part", "<init>", "(II)V"⟩) ∈ WG := WG_2 (List.mem_of_getElem? (i := 220) rfl) rfl
theorem gw2_221 : (Jvm.Cond.instanceMethod ⟨"OriginRally$Part", "<init>", "(II)V"⟩) ∈ WG := WG_2 (List.mem_of_getElem? (i := 221) rfl) rfl
theorem gw2_222 : (Jvm.Cond.code ⟨"OriginRally$Part", "<init>", "(II)V"⟩ prog_4_method_1_code 3 (Option.none : Option Jvm.ClassFile.FieldType)) ∈ WG := WG_2 (List.mem_of_getElem? (i := 222) rfl) rfl
theorem gw2_223 : (Jvm.Cond.methodLink "OriginRally$Part" 3 ⟨"java/lang/Object", "<init>", "()V"⟩) ∈ WG := WG_2 (List.mem_of_getElem? (i := 223) rfl) rfl
theorem gw2_224 : (Jvm.Cond.fieldLink "OriginRally$Part" 9 "OriginRally$Part" "kind" "I") ∈ WG := WG_2 (List.mem_of_getElem? (i := 224) rfl) rfl
theorem gw2_226 : (Jvm.Cond.fieldLink "OriginRally$Part" 15 "OriginRally$Part" "owner" "I") ∈ WG := WG_2 (List.mem_of_getElem? (i := 226) rfl) rfl
theorem gw2_227 : (Jvm.Cond.fieldLink "OriginRally$Part" 18 "OriginRally$Part" "place" "I") ∈ WG := WG_2 (List.mem_of_getElem? (i := 227) rfl) rfl
theorem gw2_229 : (Jvm.Cond.fieldLink "OriginRally$Part" 21 "OriginRally$Part" "user" "I") ∈ WG := WG_2 (List.mem_of_getElem? (i := 229) rfl) rfl
theorem gw2_230 : (Jvm.Cond.laysFinal "OriginRally$Part" "OriginRally$Part" "kind" "I") ∈ WG := WG_2 (List.mem_of_getElem? (i := 230) rfl) rfl
theorem gw2_232 : (Jvm.Cond.laysFinal "OriginRally$Part" "OriginRally$Part" "owner" "I") ∈ WG := WG_2 (List.mem_of_getElem? (i := 232) rfl) rfl
theorem gw2_234 : (Jvm.Cond.lays "OriginRally$Part" "OriginRally$Part" "place" "I") ∈ WG := WG_2 (List.mem_of_getElem? (i := 234) rfl) rfl
theorem gw2_236 : (Jvm.Cond.lays "OriginRally$Part" "OriginRally$Part" "user" "I") ∈ WG := WG_2 (List.mem_of_getElem? (i := 236) rfl) rfl
theorem gw2_239 : (Jvm.Cond.methodLink "OriginRallyLaw" 146 ⟨"OriginRallyLaw", "hand", "(LOriginRally;II[J)I"⟩) ∈ WG := WG_2 (List.mem_of_getElem? (i := 239) rfl) rfl
theorem gw3_0 : (Jvm.Cond.static ⟨"OriginRallyLaw", "hand", "(LOriginRally;II[J)I"⟩) ∈ WG := WG_3 (List.mem_of_getElem? (i := 0) rfl) rfl
theorem gw3_1 : (Jvm.Cond.codeWith ⟨"OriginRallyLaw", "hand", "(LOriginRally;II[J)I"⟩ method_13_code 5 (Option.some Jvm.ClassFile.FieldType.int) [(0, 10, 13, 24), (0, 10, 17, 15)]) ∈ WG := WG_3 (List.mem_of_getElem? (i := 1) rfl) rfl
theorem gw3_2 : (Jvm.Cond.methodLink "OriginRallyLaw" 52 ⟨"OriginRally", "hand", "(II)I"⟩) ∈ WG := WG_3 (List.mem_of_getElem? (i := 2) rfl) rfl
theorem gw3_3 : (Jvm.Cond.instanceMethod ⟨"OriginRally", "hand", "(II)I"⟩) ∈ WG := WG_3 (List.mem_of_getElem? (i := 3) rfl) rfl
theorem gw3_4 : (Jvm.Cond.selects "OriginRally" ⟨"OriginRally", "hand", "(II)I"⟩ ⟨"OriginRally", "hand", "(II)I"⟩) ∈ WG := WG_3 (List.mem_of_getElem? (i := 4) rfl) rfl
theorem gw3_5 : (Jvm.Cond.code ⟨"OriginRally", "hand", "(II)I"⟩ prog_1_method_12_code 5 (Option.some Jvm.ClassFile.FieldType.int)) ∈ WG := WG_3 (List.mem_of_getElem? (i := 5) rfl) rfl
theorem gw3_6 : (Jvm.Cond.methodLink "OriginRally" 156 ⟨"OriginRally", "cellOfPlace", "(I)I"⟩) ∈ WG := WG_3 (List.mem_of_getElem? (i := 6) rfl) rfl
theorem gw3_8 : (Jvm.Cond.instanceMethod ⟨"OriginRally", "cellOfPlace", "(I)I"⟩) ∈ WG := WG_3 (List.mem_of_getElem? (i := 8) rfl) rfl
theorem gw3_9 : (Jvm.Cond.code ⟨"OriginRally", "cellOfPlace", "(I)I"⟩ prog_1_method_41_code 2 (Option.some Jvm.ClassFile.FieldType.int)) ∈ WG := WG_3 (List.mem_of_getElem? (i := 9) rfl) rfl
theorem gw3_10 : (Jvm.Cond.methodLink "OriginRallyLaw" 149 ⟨"OriginRallyLaw", "record", "(LOriginRally;III[J)I"⟩) ∈ WG := WG_3 (List.mem_of_getElem? (i := 10) rfl) rfl
theorem gw3_11 : (Jvm.Cond.static ⟨"OriginRallyLaw", "record", "(LOriginRally;III[J)I"⟩) ∈ WG := WG_3 (List.mem_of_getElem? (i := 11) rfl) rfl
theorem gw3_12 : (Jvm.Cond.codeWith ⟨"OriginRallyLaw", "record", "(LOriginRally;III[J)I"⟩ method_14_code 6 (Option.some Jvm.ClassFile.FieldType.int) [(0, 12, 15, 24), (0, 12, 19, 13)]) ∈ WG := WG_3 (List.mem_of_getElem? (i := 12) rfl) rfl
theorem gw3_13 : (Jvm.Cond.methodLink "OriginRallyLaw" 55 ⟨"OriginRally", "record", "(III)I"⟩) ∈ WG := WG_3 (List.mem_of_getElem? (i := 13) rfl) rfl
theorem gw3_14 : (Jvm.Cond.instanceMethod ⟨"OriginRally", "record", "(III)I"⟩) ∈ WG := WG_3 (List.mem_of_getElem? (i := 14) rfl) rfl
theorem gw3_15 : (Jvm.Cond.selects "OriginRally" ⟨"OriginRally", "record", "(III)I"⟩ ⟨"OriginRally", "record", "(III)I"⟩) ∈ WG := WG_3 (List.mem_of_getElem? (i := 15) rfl) rfl
theorem gw3_16 : (Jvm.Cond.code ⟨"OriginRally", "record", "(III)I"⟩ prog_1_method_13_code 6 (Option.some Jvm.ClassFile.FieldType.int)) ∈ WG := WG_3 (List.mem_of_getElem? (i := 16) rfl) rfl
theorem gw3_17 : (Jvm.Cond.methodLink "OriginRally" 160 ⟨"OriginRally", "checkGate", "(I)V"⟩) ∈ WG := WG_3 (List.mem_of_getElem? (i := 17) rfl) rfl
theorem gw3_19 : (Jvm.Cond.instanceMethod ⟨"OriginRally", "checkGate", "(I)V"⟩) ∈ WG := WG_3 (List.mem_of_getElem? (i := 19) rfl) rfl
theorem gw3_20 : (Jvm.Cond.code ⟨"OriginRally", "checkGate", "(I)V"⟩ prog_1_method_35_code 2 (Option.none : Option Jvm.ClassFile.FieldType)) ∈ WG := WG_3 (List.mem_of_getElem? (i := 20) rfl) rfl
theorem gw3_21 : (Jvm.Cond.methodLink "OriginRally" 163 ⟨"OriginRally", "passMinute", "(LOriginRally$Car;I)I"⟩) ∈ WG := WG_3 (List.mem_of_getElem? (i := 21) rfl) rfl
theorem gw3_23 : (Jvm.Cond.instanceMethod ⟨"OriginRally", "passMinute", "(LOriginRally$Car;I)I"⟩) ∈ WG := WG_3 (List.mem_of_getElem? (i := 23) rfl) rfl
theorem gw3_24 : (Jvm.Cond.code ⟨"OriginRally", "passMinute", "(LOriginRally$Car;I)I"⟩ prog_1_method_43_code 6 (Option.some Jvm.ClassFile.FieldType.int)) ∈ WG := WG_3 (List.mem_of_getElem? (i := 24) rfl) rfl
theorem gw3_25 : (Jvm.Cond.methodLink "OriginRally" 250 ⟨"OriginRally$Way", "firstMinuteIn", "(II)I"⟩) ∈ WG := WG_3 (List.mem_of_getElem? (i := 25) rfl) rfl
theorem gw3_26 : (Jvm.Cond.instanceMethod ⟨"OriginRally$Way", "firstMinuteIn", "(II)I"⟩) ∈ WG := WG_3 (List.mem_of_getElem? (i := 26) rfl) rfl
theorem gw3_27 : (Jvm.Cond.selects "OriginRally$Way" ⟨"OriginRally$Way", "firstMinuteIn", "(II)I"⟩ ⟨"OriginRally$Way", "firstMinuteIn", "(II)I"⟩) ∈ WG := WG_3 (List.mem_of_getElem? (i := 27) rfl) rfl
theorem gw3_28 : (Jvm.Cond.code ⟨"OriginRally$Way", "firstMinuteIn", "(II)I"⟩ prog_6_method_9_code 6 (Option.some Jvm.ClassFile.FieldType.int)) ∈ WG := WG_3 (List.mem_of_getElem? (i := 28) rfl) rfl
theorem gw3_29 : (Jvm.Cond.methodLink "OriginRally$Way" 63 ⟨"OriginRally$Way", "pieceAt", "(I)LOriginRally$Piece;"⟩) ∈ WG := WG_3 (List.mem_of_getElem? (i := 29) rfl) rfl
theorem gw3_30 : (Jvm.Cond.methodLink "OriginRally$Way" 67 ⟨"OriginRally$Piece", "firstMinuteIn", "(II)I"⟩) ∈ WG := WG_3 (List.mem_of_getElem? (i := 30) rfl) rfl
theorem gw3_31 : (Jvm.Cond.instanceMethod ⟨"OriginRally$Piece", "firstMinuteIn", "(II)I"⟩) ∈ WG := WG_3 (List.mem_of_getElem? (i := 31) rfl) rfl
theorem gw3_32 : (Jvm.Cond.selects "OriginRally$Piece" ⟨"OriginRally$Piece", "firstMinuteIn", "(II)I"⟩ ⟨"OriginRally$Piece", "firstMinuteIn", "(II)I"⟩) ∈ WG := WG_3 (List.mem_of_getElem? (i := 32) rfl) rfl
theorem gw3_33 : (Jvm.Cond.code ⟨"OriginRally$Piece", "firstMinuteIn", "(II)I"⟩ prog_5_method_5_code 4 (Option.some Jvm.ClassFile.FieldType.int)) ∈ WG := WG_3 (List.mem_of_getElem? (i := 33) rfl) rfl
theorem gw3_34 : (Jvm.Cond.methodLink "OriginRally$Piece" 42 ⟨"OriginRally$Piece", "end", "()I"⟩) ∈ WG := WG_3 (List.mem_of_getElem? (i := 34) rfl) rfl
theorem gw3_35 : (Jvm.Cond.methodLink "OriginRally$Piece" 46 ⟨"java/lang/Math", "max", "(II)I"⟩) ∈ WG := WG_3 (List.mem_of_getElem? (i := 35) rfl) rfl
theorem gw3_36 : (Jvm.Cond.static ⟨"java/lang/Math", "max", "(II)I"⟩) ∈ WG := WG_3 (List.mem_of_getElem? (i := 36) rfl) rfl
theorem gw3_37 : (Jvm.Cond.code ⟨"java/lang/Math", "max", "(II)I"⟩ prog_14_method_65_code 2 (Option.some Jvm.ClassFile.FieldType.int)) ∈ WG := WG_3 (List.mem_of_getElem? (i := 37) rfl) rfl
theorem gw3_38 : (Jvm.Cond.methodLink "OriginRally$Piece" 52 ⟨"OriginRally$Piece", "cellsOnTo", "(I)I"⟩) ∈ WG := WG_3 (List.mem_of_getElem? (i := 38) rfl) rfl
theorem gw3_40 : (Jvm.Cond.instanceMethod ⟨"OriginRally$Piece", "cellsOnTo", "(I)I"⟩) ∈ WG := WG_3 (List.mem_of_getElem? (i := 40) rfl) rfl
theorem gw3_41 : (Jvm.Cond.code ⟨"OriginRally$Piece", "cellsOnTo", "(I)I"⟩ prog_5_method_6_code 5 (Option.some Jvm.ClassFile.FieldType.int)) ∈ WG := WG_3 (List.mem_of_getElem? (i := 41) rfl) rfl
theorem gw3_43 : (Jvm.Cond.methodLink "OriginRally" 200 ⟨"java/lang/Math", "max", "(II)I"⟩) ∈ WG := WG_3 (List.mem_of_getElem? (i := 43) rfl) rfl
theorem gw3_44 : (Jvm.Cond.methodLink "OriginRally" 167 ⟨"OriginRally$Car", "timeAt", "(II)I"⟩) ∈ WG := WG_3 (List.mem_of_getElem? (i := 44) rfl) rfl
theorem gw3_45 : (Jvm.Cond.instanceMethod ⟨"OriginRally$Car", "timeAt", "(II)I"⟩) ∈ WG := WG_3 (List.mem_of_getElem? (i := 45) rfl) rfl
theorem gw3_46 : (Jvm.Cond.selects "OriginRally$Car" ⟨"OriginRally$Car", "timeAt", "(II)I"⟩ ⟨"OriginRally$Car", "timeAt", "(II)I"⟩) ∈ WG := WG_3 (List.mem_of_getElem? (i := 46) rfl) rfl
theorem gw3_47 : (Jvm.Cond.code ⟨"OriginRally$Car", "timeAt", "(II)I"⟩ prog_2_method_5_code 4 (Option.some Jvm.ClassFile.FieldType.int)) ∈ WG := WG_3 (List.mem_of_getElem? (i := 47) rfl) rfl
theorem gw3_48 : (Jvm.Cond.methodLink "OriginRally$Car" 35 ⟨"OriginRally$Car", "recordAt", "(I)I"⟩) ∈ WG := WG_3 (List.mem_of_getElem? (i := 48) rfl) rfl
theorem gw3_49 : (Jvm.Cond.instanceMethod ⟨"OriginRally$Car", "recordAt", "(I)I"⟩) ∈ WG := WG_3 (List.mem_of_getElem? (i := 49) rfl) rfl
theorem gw3_50 : (Jvm.Cond.selects "OriginRally$Car" ⟨"OriginRally$Car", "recordAt", "(I)I"⟩ ⟨"OriginRally$Car", "recordAt", "(I)I"⟩) ∈ WG := WG_3 (List.mem_of_getElem? (i := 50) rfl) rfl
theorem gw3_51 : (Jvm.Cond.code ⟨"OriginRally$Car", "recordAt", "(I)I"⟩ prog_2_method_3_code 2 (Option.some Jvm.ClassFile.FieldType.int)) ∈ WG := WG_3 (List.mem_of_getElem? (i := 51) rfl) rfl
theorem gw3_53 : (Jvm.Cond.methodLink "OriginRally" 170 ⟨"OriginRally$Car", "setRecord", "(II)V"⟩) ∈ WG := WG_3 (List.mem_of_getElem? (i := 53) rfl) rfl
theorem gw3_54 : (Jvm.Cond.instanceMethod ⟨"OriginRally$Car", "setRecord", "(II)V"⟩) ∈ WG := WG_3 (List.mem_of_getElem? (i := 54) rfl) rfl
theorem gw3_55 : (Jvm.Cond.selects "OriginRally$Car" ⟨"OriginRally$Car", "setRecord", "(II)V"⟩ ⟨"OriginRally$Car", "setRecord", "(II)V"⟩) ∈ WG := WG_3 (List.mem_of_getElem? (i := 55) rfl) rfl
theorem gw3_56 : (Jvm.Cond.code ⟨"OriginRally$Car", "setRecord", "(II)V"⟩ prog_2_method_4_code 3 (Option.none : Option Jvm.ClassFile.FieldType)) ∈ WG := WG_3 (List.mem_of_getElem? (i := 56) rfl) rfl
theorem gw3_57 : (Jvm.Cond.methodLink "OriginRallyLaw" 152 ⟨"OriginRallyLaw", "appeal", "(LOriginRally;II[J)I"⟩) ∈ WG := WG_3 (List.mem_of_getElem? (i := 57) rfl) rfl
theorem gw3_58 : (Jvm.Cond.static ⟨"OriginRallyLaw", "appeal", "(LOriginRally;II[J)I"⟩) ∈ WG := WG_3 (List.mem_of_getElem? (i := 58) rfl) rfl
theorem gw3_59 : (Jvm.Cond.codeWith ⟨"OriginRallyLaw", "appeal", "(LOriginRally;II[J)I"⟩ method_15_code 5 (Option.some Jvm.ClassFile.FieldType.int) [(0, 17, 20, 24), (0, 17, 24, 15)]) ∈ WG := WG_3 (List.mem_of_getElem? (i := 59) rfl) rfl
theorem gw3_60 : (Jvm.Cond.methodLink "OriginRallyLaw" 58 ⟨"OriginRally", "appeal", "(II)Z"⟩) ∈ WG := WG_3 (List.mem_of_getElem? (i := 60) rfl) rfl
theorem gw3_61 : (Jvm.Cond.instanceMethod ⟨"OriginRally", "appeal", "(II)Z"⟩) ∈ WG := WG_3 (List.mem_of_getElem? (i := 61) rfl) rfl
theorem gw3_62 : (Jvm.Cond.selects "OriginRally" ⟨"OriginRally", "appeal", "(II)Z"⟩ ⟨"OriginRally", "appeal", "(II)Z"⟩) ∈ WG := WG_3 (List.mem_of_getElem? (i := 62) rfl) rfl
theorem gw3_63 : (Jvm.Cond.code ⟨"OriginRally", "appeal", "(II)Z"⟩ prog_1_method_14_code 5 (Option.some Jvm.ClassFile.FieldType.boolean)) ∈ WG := WG_3 (List.mem_of_getElem? (i := 63) rfl) rfl
theorem gw3_64 : (Jvm.Cond.methodLink "OriginRally" 173 ⟨"OriginRally$Car", "recordAt", "(I)I"⟩) ∈ WG := WG_3 (List.mem_of_getElem? (i := 64) rfl) rfl
theorem gw3_65 : (Jvm.Cond.methodLink "OriginRallyLaw" 159 ⟨"OriginRallyLaw", "cellOf", "(LOriginRally;I[J)I"⟩) ∈ WG := WG_3 (List.mem_of_getElem? (i := 65) rfl) rfl
theorem gw3_66 : (Jvm.Cond.static ⟨"OriginRallyLaw", "cellOf", "(LOriginRally;I[J)I"⟩) ∈ WG := WG_3 (List.mem_of_getElem? (i := 66) rfl) rfl
theorem gw3_67 : (Jvm.Cond.codeWith ⟨"OriginRallyLaw", "cellOf", "(LOriginRally;I[J)I"⟩ method_16_code 4 (Option.some Jvm.ClassFile.FieldType.int) [(0, 9, 12, 24)]) ∈ WG := WG_3 (List.mem_of_getElem? (i := 67) rfl) rfl
theorem gw3_68 : (Jvm.Cond.methodLink "OriginRallyLaw" 62 ⟨"OriginRally", "cellOf", "(I)I"⟩) ∈ WG := WG_3 (List.mem_of_getElem? (i := 68) rfl) rfl
theorem gw3_69 : (Jvm.Cond.instanceMethod ⟨"OriginRally", "cellOf", "(I)I"⟩) ∈ WG := WG_3 (List.mem_of_getElem? (i := 69) rfl) rfl
theorem gw3_70 : (Jvm.Cond.selects "OriginRally" ⟨"OriginRally", "cellOf", "(I)I"⟩ ⟨"OriginRally", "cellOf", "(I)I"⟩) ∈ WG := WG_3 (List.mem_of_getElem? (i := 70) rfl) rfl
theorem gw3_71 : (Jvm.Cond.code ⟨"OriginRally", "cellOf", "(I)I"⟩ prog_1_method_16_code 2 (Option.some Jvm.ClassFile.FieldType.int)) ∈ WG := WG_3 (List.mem_of_getElem? (i := 71) rfl) rfl
theorem gw3_72 : (Jvm.Cond.methodLink "OriginRallyLaw" 162 ⟨"OriginRallyLaw", "due", "(LOriginRally;I[J)I"⟩) ∈ WG := WG_3 (List.mem_of_getElem? (i := 72) rfl) rfl
theorem gw3_73 : (Jvm.Cond.static ⟨"OriginRallyLaw", "due", "(LOriginRally;I[J)I"⟩) ∈ WG := WG_3 (List.mem_of_getElem? (i := 73) rfl) rfl
theorem gw3_74 : (Jvm.Cond.codeWith ⟨"OriginRallyLaw", "due", "(LOriginRally;I[J)I"⟩ method_17_code 4 (Option.some Jvm.ClassFile.FieldType.int) [(0, 9, 12, 24)]) ∈ WG := WG_3 (List.mem_of_getElem? (i := 74) rfl) rfl
theorem gw3_75 : (Jvm.Cond.methodLink "OriginRallyLaw" 65 ⟨"OriginRally", "due", "(I)I"⟩) ∈ WG := WG_3 (List.mem_of_getElem? (i := 75) rfl) rfl
theorem gw3_76 : (Jvm.Cond.instanceMethod ⟨"OriginRally", "due", "(I)I"⟩) ∈ WG := WG_3 (List.mem_of_getElem? (i := 76) rfl) rfl
theorem gw3_77 : (Jvm.Cond.selects "OriginRally" ⟨"OriginRally", "due", "(I)I"⟩ ⟨"OriginRally", "due", "(I)I"⟩) ∈ WG := WG_3 (List.mem_of_getElem? (i := 77) rfl) rfl
theorem gw3_78 : (Jvm.Cond.code ⟨"OriginRally", "due", "(I)I"⟩ prog_1_method_17_code 2 (Option.some Jvm.ClassFile.FieldType.int)) ∈ WG := WG_3 (List.mem_of_getElem? (i := 78) rfl) rfl
theorem gw3_79 : (Jvm.Cond.methodLink "OriginRallyLaw" 165 ⟨"OriginRallyLaw", "followed", "(LOriginRally;I[J)I"⟩) ∈ WG := WG_3 (List.mem_of_getElem? (i := 79) rfl) rfl
theorem gw3_80 : (Jvm.Cond.static ⟨"OriginRallyLaw", "followed", "(LOriginRally;I[J)I"⟩) ∈ WG := WG_3 (List.mem_of_getElem? (i := 80) rfl) rfl
theorem gw3_81 : (Jvm.Cond.codeWith ⟨"OriginRallyLaw", "followed", "(LOriginRally;I[J)I"⟩ method_18_code 4 (Option.some Jvm.ClassFile.FieldType.int) [(0, 9, 12, 24)]) ∈ WG := WG_3 (List.mem_of_getElem? (i := 81) rfl) rfl
theorem gw3_82 : (Jvm.Cond.methodLink "OriginRallyLaw" 68 ⟨"OriginRally", "followed", "(I)I"⟩) ∈ WG := WG_3 (List.mem_of_getElem? (i := 82) rfl) rfl
theorem gw3_83 : (Jvm.Cond.instanceMethod ⟨"OriginRally", "followed", "(I)I"⟩) ∈ WG := WG_3 (List.mem_of_getElem? (i := 83) rfl) rfl
theorem gw3_84 : (Jvm.Cond.selects "OriginRally" ⟨"OriginRally", "followed", "(I)I"⟩ ⟨"OriginRally", "followed", "(I)I"⟩) ∈ WG := WG_3 (List.mem_of_getElem? (i := 84) rfl) rfl
theorem gw3_85 : (Jvm.Cond.code ⟨"OriginRally", "followed", "(I)I"⟩ prog_1_method_18_code 2 (Option.some Jvm.ClassFile.FieldType.int)) ∈ WG := WG_3 (List.mem_of_getElem? (i := 85) rfl) rfl
theorem gw3_86 : (Jvm.Cond.methodLink "OriginRally" 187 ⟨"OriginRally$Way", "followedOf", "(LOriginRally$Way;)I"⟩) ∈ WG := WG_3 (List.mem_of_getElem? (i := 86) rfl) rfl
theorem gw3_87 : (Jvm.Cond.instanceMethod ⟨"OriginRally$Way", "followedOf", "(LOriginRally$Way;)I"⟩) ∈ WG := WG_3 (List.mem_of_getElem? (i := 87) rfl) rfl
theorem gw3_88 : (Jvm.Cond.selects "OriginRally$Way" ⟨"OriginRally$Way", "followedOf", "(LOriginRally$Way;)I"⟩ ⟨"OriginRally$Way", "followedOf", "(LOriginRally$Way;)I"⟩) ∈ WG := WG_3 (List.mem_of_getElem? (i := 88) rfl) rfl
theorem gw3_89 : (Jvm.Cond.code ⟨"OriginRally$Way", "followedOf", "(LOriginRally$Way;)I"⟩ prog_6_method_14_code 6 (Option.some Jvm.ClassFile.FieldType.int)) ∈ WG := WG_3 (List.mem_of_getElem? (i := 89) rfl) rfl
theorem gw3_90 : (Jvm.Cond.methodLink "OriginRally$Way" 92 ⟨"OriginRally$Piece", "isDrivenLike", "(LOriginRally$Piece;)Z"⟩) ∈ WG := WG_3 (List.mem_of_getElem? (i := 90) rfl) rfl
theorem gw3_91 : (Jvm.Cond.instanceMethod ⟨"OriginRally$Piece", "isDrivenLike", "(LOriginRally$Piece;)Z"⟩) ∈ WG := WG_3 (List.mem_of_getElem? (i := 91) rfl) rfl
theorem gw3_92 : (Jvm.Cond.selects "OriginRally$Piece" ⟨"OriginRally$Piece", "isDrivenLike", "(LOriginRally$Piece;)Z"⟩ ⟨"OriginRally$Piece", "isDrivenLike", "(LOriginRally$Piece;)Z"⟩) ∈ WG := WG_3 (List.mem_of_getElem? (i := 92) rfl) rfl
theorem gw3_93 : (Jvm.Cond.code ⟨"OriginRally$Piece", "isDrivenLike", "(LOriginRally$Piece;)Z"⟩ prog_5_method_7_code 2 (Option.some Jvm.ClassFile.FieldType.boolean)) ∈ WG := WG_3 (List.mem_of_getElem? (i := 93) rfl) rfl
theorem gw3_94 : (Jvm.Cond.methodLink "OriginRallyLaw" 168 ⟨"OriginRallyLaw", "cellAt", "(LOriginRally;II[J)I"⟩) ∈ WG := WG_3 (List.mem_of_getElem? (i := 94) rfl) rfl
theorem gw3_95 : (Jvm.Cond.static ⟨"OriginRallyLaw", "cellAt", "(LOriginRally;II[J)I"⟩) ∈ WG := WG_3 (List.mem_of_getElem? (i := 95) rfl) rfl
theorem gw3_96 : (Jvm.Cond.codeWith ⟨"OriginRallyLaw", "cellAt", "(LOriginRally;II[J)I"⟩ method_19_code 5 (Option.some Jvm.ClassFile.FieldType.int) [(0, 10, 13, 24), (0, 10, 17, 13)]) ∈ WG := WG_3 (List.mem_of_getElem? (i := 96) rfl) rfl
theorem gw3_97 : (Jvm.Cond.methodLink "OriginRallyLaw" 71 ⟨"OriginRally", "cellAt", "(II)I"⟩) ∈ WG := WG_3 (List.mem_of_getElem? (i := 97) rfl) rfl
theorem gw3_98 : (Jvm.Cond.instanceMethod ⟨"OriginRally", "cellAt", "(II)I"⟩) ∈ WG := WG_3 (List.mem_of_getElem? (i := 98) rfl) rfl
theorem gw3_99 : (Jvm.Cond.selects "OriginRally" ⟨"OriginRally", "cellAt", "(II)I"⟩ ⟨"OriginRally", "cellAt", "(II)I"⟩) ∈ WG := WG_3 (List.mem_of_getElem? (i := 99) rfl) rfl
theorem gw3_100 : (Jvm.Cond.code ⟨"OriginRally", "cellAt", "(II)I"⟩ prog_1_method_19_code 4 (Option.some Jvm.ClassFile.FieldType.int)) ∈ WG := WG_3 (List.mem_of_getElem? (i := 100) rfl) rfl
theorem gw3_101 : (Jvm.Cond.methodLink "OriginRally" 191 ⟨"OriginRally$Way", "pieceAtMinute", "(II)I"⟩) ∈ WG := WG_3 (List.mem_of_getElem? (i := 101) rfl) rfl
theorem gw3_102 : (Jvm.Cond.instanceMethod ⟨"OriginRally$Way", "pieceAtMinute", "(II)I"⟩) ∈ WG := WG_3 (List.mem_of_getElem? (i := 102) rfl) rfl
theorem gw3_103 : (Jvm.Cond.selects "OriginRally$Way" ⟨"OriginRally$Way", "pieceAtMinute", "(II)I"⟩ ⟨"OriginRally$Way", "pieceAtMinute", "(II)I"⟩) ∈ WG := WG_3 (List.mem_of_getElem? (i := 103) rfl) rfl
theorem gw3_104 : (Jvm.Cond.code ⟨"OriginRally$Way", "pieceAtMinute", "(II)I"⟩ prog_6_method_11_code 4 (Option.some Jvm.ClassFile.FieldType.int)) ∈ WG := WG_3 (List.mem_of_getElem? (i := 104) rfl) rfl
theorem gw3_105 : (Jvm.Cond.methodLink "OriginRally$Way" 77 ⟨"OriginRally$Way", "endsAhead", "(II)Z"⟩) ∈ WG := WG_3 (List.mem_of_getElem? (i := 105) rfl) rfl
theorem gw3_107 : (Jvm.Cond.instanceMethod ⟨"OriginRally$Way", "endsAhead", "(II)Z"⟩) ∈ WG := WG_3 (List.mem_of_getElem? (i := 107) rfl) rfl
theorem gw3_108 : (Jvm.Cond.code ⟨"OriginRally$Way", "endsAhead", "(II)Z"⟩ prog_6_method_12_code 4 (Option.some Jvm.ClassFile.FieldType.boolean)) ∈ WG := WG_3 (List.mem_of_getElem? (i := 108) rfl) rfl
theorem gw3_109 : (Jvm.Cond.methodLink "OriginRally" 194 ⟨"OriginRally$Way", "cellAtMinute", "(II)I"⟩) ∈ WG := WG_3 (List.mem_of_getElem? (i := 109) rfl) rfl
theorem gw3_110 : (Jvm.Cond.instanceMethod ⟨"OriginRally$Way", "cellAtMinute", "(II)I"⟩) ∈ WG := WG_3 (List.mem_of_getElem? (i := 110) rfl) rfl
theorem gw3_111 : (Jvm.Cond.selects "OriginRally$Way" ⟨"OriginRally$Way", "cellAtMinute", "(II)I"⟩ ⟨"OriginRally$Way", "cellAtMinute", "(II)I"⟩) ∈ WG := WG_3 (List.mem_of_getElem? (i := 111) rfl) rfl
theorem gw3_112 : (Jvm.Cond.code ⟨"OriginRally$Way", "cellAtMinute", "(II)I"⟩ prog_6_method_13_code 4 (Option.some Jvm.ClassFile.FieldType.int)) ∈ WG := WG_3 (List.mem_of_getElem? (i := 112) rfl) rfl
theorem gw3_113 : (Jvm.Cond.methodLink "OriginRally$Way" 84 ⟨"OriginRally$Piece", "cellAfter", "(I)I"⟩) ∈ WG := WG_3 (List.mem_of_getElem? (i := 113) rfl) rfl
theorem gw3_114 : (Jvm.Cond.methodLink "OriginRallyLaw" 171 ⟨"OriginRallyLaw", "clock", "(LOriginRally;I[J)I"⟩) ∈ WG := WG_3 (List.mem_of_getElem? (i := 114) rfl) rfl
theorem gw3_115 : (Jvm.Cond.static ⟨"OriginRallyLaw", "clock", "(LOriginRally;I[J)I"⟩) ∈ WG := WG_3 (List.mem_of_getElem? (i := 115) rfl) rfl
theorem gw3_116 : (Jvm.Cond.codeWith ⟨"OriginRallyLaw", "clock", "(LOriginRally;I[J)I"⟩ method_20_code 4 (Option.some Jvm.ClassFile.FieldType.int) [(0, 9, 12, 24)]) ∈ WG := WG_3 (List.mem_of_getElem? (i := 116) rfl) rfl
theorem gw3_117 : (Jvm.Cond.methodLink "OriginRallyLaw" 74 ⟨"OriginRally", "clock", "(I)I"⟩) ∈ WG := WG_3 (List.mem_of_getElem? (i := 117) rfl) rfl
theorem gw3_118 : (Jvm.Cond.instanceMethod ⟨"OriginRally", "clock", "(I)I"⟩) ∈ WG := WG_3 (List.mem_of_getElem? (i := 118) rfl) rfl
theorem gw3_119 : (Jvm.Cond.selects "OriginRally" ⟨"OriginRally", "clock", "(I)I"⟩ ⟨"OriginRally", "clock", "(I)I"⟩) ∈ WG := WG_3 (List.mem_of_getElem? (i := 119) rfl) rfl
theorem gw3_120 : (Jvm.Cond.code ⟨"OriginRally", "clock", "(I)I"⟩ prog_1_method_20_code 2 (Option.some Jvm.ClassFile.FieldType.int)) ∈ WG := WG_3 (List.mem_of_getElem? (i := 120) rfl) rfl
theorem gw3_121 : (Jvm.Cond.methodLink "OriginRallyLaw" 174 ⟨"OriginRallyLaw", "byTrack", "(LOriginRally;II[J)I"⟩) ∈ WG := WG_3 (List.mem_of_getElem? (i := 121) rfl) rfl
theorem gw3_122 : (Jvm.Cond.static ⟨"OriginRallyLaw", "byTrack", "(LOriginRally;II[J)I"⟩) ∈ WG := WG_3 (List.mem_of_getElem? (i := 122) rfl) rfl
theorem gw3_123 : (Jvm.Cond.codeWith ⟨"OriginRallyLaw", "byTrack", "(LOriginRally;II[J)I"⟩ method_21_code 5 (Option.some Jvm.ClassFile.FieldType.int) [(0, 10, 13, 24)]) ∈ WG := WG_3 (List.mem_of_getElem? (i := 123) rfl) rfl
theorem gw3_124 : (Jvm.Cond.methodLink "OriginRallyLaw" 77 ⟨"OriginRally", "byTrack", "(II)I"⟩) ∈ WG := WG_3 (List.mem_of_getElem? (i := 124) rfl) rfl
theorem gw3_125 : (Jvm.Cond.instanceMethod ⟨"OriginRally", "byTrack", "(II)I"⟩) ∈ WG := WG_3 (List.mem_of_getElem? (i := 125) rfl) rfl
theorem gw3_126 : (Jvm.Cond.selects "OriginRally" ⟨"OriginRally", "byTrack", "(II)I"⟩ ⟨"OriginRally", "byTrack", "(II)I"⟩) ∈ WG := WG_3 (List.mem_of_getElem? (i := 126) rfl) rfl
theorem gw3_127 : (Jvm.Cond.code ⟨"OriginRally", "byTrack", "(II)I"⟩ prog_1_method_21_code 4 (Option.some Jvm.ClassFile.FieldType.int)) ∈ WG := WG_3 (List.mem_of_getElem? (i := 127) rfl) rfl
theorem gw3_128 : (Jvm.Cond.methodLink "OriginRallyLaw" 177 ⟨"OriginRallyLaw", "byMinutes", "(LOriginRally;II[J)I"⟩) ∈ WG := WG_3 (List.mem_of_getElem? (i := 128) rfl) rfl
theorem gw3_129 : (Jvm.Cond.static ⟨"OriginRallyLaw", "byMinutes", "(LOriginRally;II[J)I"⟩) ∈ WG := WG_3 (List.mem_of_getElem? (i := 129) rfl) rfl
theorem gw3_130 : (Jvm.Cond.codeWith ⟨"OriginRallyLaw", "byMinutes", "(LOriginRally;II[J)I"⟩ method_22_code 5 (Option.some Jvm.ClassFile.FieldType.int) [(0, 10, 13, 24)]) ∈ WG := WG_3 (List.mem_of_getElem? (i := 130) rfl) rfl
theorem gw3_131 : (Jvm.Cond.methodLink "OriginRallyLaw" 80 ⟨"OriginRally", "byMinutes", "(II)I"⟩) ∈ WG := WG_3 (List.mem_of_getElem? (i := 131) rfl) rfl
theorem gw3_132 : (Jvm.Cond.instanceMethod ⟨"OriginRally", "byMinutes", "(II)I"⟩) ∈ WG := WG_3 (List.mem_of_getElem? (i := 132) rfl) rfl
theorem gw3_133 : (Jvm.Cond.selects "OriginRally" ⟨"OriginRally", "byMinutes", "(II)I"⟩ ⟨"OriginRally", "byMinutes", "(II)I"⟩) ∈ WG := WG_3 (List.mem_of_getElem? (i := 133) rfl) rfl
theorem gw3_134 : (Jvm.Cond.code ⟨"OriginRally", "byMinutes", "(II)I"⟩ prog_1_method_22_code 7 (Option.some Jvm.ClassFile.FieldType.int)) ∈ WG := WG_3 (List.mem_of_getElem? (i := 134) rfl) rfl
theorem gw3_135 : (Jvm.Cond.methodLink "OriginRally" 197 ⟨"OriginRally$Way", "firstOfAllMinutes", "(II)I"⟩) ∈ WG := WG_3 (List.mem_of_getElem? (i := 135) rfl) rfl
theorem gw3_136 : (Jvm.Cond.instanceMethod ⟨"OriginRally$Way", "firstOfAllMinutes", "(II)I"⟩) ∈ WG := WG_3 (List.mem_of_getElem? (i := 136) rfl) rfl
theorem gw3_137 : (Jvm.Cond.selects "OriginRally$Way" ⟨"OriginRally$Way", "firstOfAllMinutes", "(II)I"⟩ ⟨"OriginRally$Way", "firstOfAllMinutes", "(II)I"⟩) ∈ WG := WG_3 (List.mem_of_getElem? (i := 137) rfl) rfl
theorem gw3_138 : (Jvm.Cond.code ⟨"OriginRally$Way", "firstOfAllMinutes", "(II)I"⟩ prog_6_method_10_code 5 (Option.some Jvm.ClassFile.FieldType.int)) ∈ WG := WG_3 (List.mem_of_getElem? (i := 138) rfl) rfl
theorem gw3_139 : (Jvm.Cond.methodLink "OriginRally$Way" 71 ⟨"OriginRally$Way", "pieceAtMinute", "(II)I"⟩) ∈ WG := WG_3 (List.mem_of_getElem? (i := 139) rfl) rfl
theorem gw3_140 : (Jvm.Cond.methodLink "OriginRally$Way" 74 ⟨"OriginRally$Way", "cellAtMinute", "(II)I"⟩) ∈ WG := WG_3 (List.mem_of_getElem? (i := 140) rfl) rfl
theorem gw3_141 : (Jvm.Cond.methodLink "OriginRallyLaw" 180 ⟨"OriginRallyLaw", "time", "(LOriginRally;II[J)I"⟩) ∈ WG := WG_3 (List.mem_of_getElem? (i := 141) rfl) rfl
theorem gw3_142 : (Jvm.Cond.static ⟨"OriginRallyLaw", "time", "(LOriginRally;II[J)I"⟩) ∈ WG := WG_3 (List.mem_of_getElem? (i := 142) rfl) rfl
theorem gw3_143 : (Jvm.Cond.codeWith ⟨"OriginRallyLaw", "time", "(LOriginRally;II[J)I"⟩ method_23_code 5 (Option.some Jvm.ClassFile.FieldType.int) [(0, 10, 13, 24)]) ∈ WG := WG_3 (List.mem_of_getElem? (i := 143) rfl) rfl
theorem gw3_144 : (Jvm.Cond.methodLink "OriginRallyLaw" 83 ⟨"OriginRally", "time", "(II)I"⟩) ∈ WG := WG_3 (List.mem_of_getElem? (i := 144) rfl) rfl
theorem gw3_145 : (Jvm.Cond.instanceMethod ⟨"OriginRally", "time", "(II)I"⟩) ∈ WG := WG_3 (List.mem_of_getElem? (i := 145) rfl) rfl
theorem gw3_146 : (Jvm.Cond.selects "OriginRally" ⟨"OriginRally", "time", "(II)I"⟩ ⟨"OriginRally", "time", "(II)I"⟩) ∈ WG := WG_3 (List.mem_of_getElem? (i := 146) rfl) rfl
theorem gw3_147 : (Jvm.Cond.code ⟨"OriginRally", "time", "(II)I"⟩ prog_1_method_23_code 4 (Option.some Jvm.ClassFile.FieldType.int)) ∈ WG := WG_3 (List.mem_of_getElem? (i := 147) rfl) rfl
theorem gw3_148 : (Jvm.Cond.methodLink "OriginRallyLaw" 183 ⟨"OriginRallyLaw", "points", "(LOriginRally;I[J)I"⟩) ∈ WG := WG_3 (List.mem_of_getElem? (i := 148) rfl) rfl
theorem gw3_149 : (Jvm.Cond.static ⟨"OriginRallyLaw", "points", "(LOriginRally;I[J)I"⟩) ∈ WG := WG_3 (List.mem_of_getElem? (i := 149) rfl) rfl
theorem gw3_150 : (Jvm.Cond.codeWith ⟨"OriginRallyLaw", "points", "(LOriginRally;I[J)I"⟩ method_24_code 4 (Option.some Jvm.ClassFile.FieldType.int) [(0, 9, 12, 24)]) ∈ WG := WG_3 (List.mem_of_getElem? (i := 150) rfl) rfl
theorem gw3_151 : (Jvm.Cond.methodLink "OriginRallyLaw" 86 ⟨"OriginRally", "points", "(I)I"⟩) ∈ WG := WG_3 (List.mem_of_getElem? (i := 151) rfl) rfl
theorem gw3_152 : (Jvm.Cond.instanceMethod ⟨"OriginRally", "points", "(I)I"⟩) ∈ WG := WG_3 (List.mem_of_getElem? (i := 152) rfl) rfl
theorem gw3_153 : (Jvm.Cond.selects "OriginRally" ⟨"OriginRally", "points", "(I)I"⟩ ⟨"OriginRally", "points", "(I)I"⟩) ∈ WG := WG_3 (List.mem_of_getElem? (i := 153) rfl) rfl
theorem gw3_154 : (Jvm.Cond.code ⟨"OriginRally", "points", "(I)I"⟩ prog_1_method_24_code 2 (Option.some Jvm.ClassFile.FieldType.int)) ∈ WG := WG_3 (List.mem_of_getElem? (i := 154) rfl) rfl
theorem gw3_155 : (Jvm.Cond.methodLink "OriginRally" 205 ⟨"OriginRally", "pointsOf", "(LOriginRally$Car;)I"⟩) ∈ WG := WG_3 (List.mem_of_getElem? (i := 155) rfl) rfl
theorem gw3_157 : (Jvm.Cond.instanceMethod ⟨"OriginRally", "pointsOf", "(LOriginRally$Car;)I"⟩) ∈ WG := WG_3 (List.mem_of_getElem? (i := 157) rfl) rfl
theorem gw3_158 : (Jvm.Cond.code ⟨"OriginRally", "pointsOf", "(LOriginRally$Car;)I"⟩ prog_1_method_44_code 7 (Option.some Jvm.ClassFile.FieldType.int)) ∈ WG := WG_3 (List.mem_of_getElem? (i := 158) rfl) rfl
theorem gw3_159 : (Jvm.Cond.methodLink "OriginRally" 253 ⟨"OriginRally$Gate", "pointsFor", "(I)I"⟩) ∈ WG := WG_3 (List.mem_of_getElem? (i := 159) rfl) rfl
theorem gw3_160 : (Jvm.Cond.instanceMethod ⟨"OriginRally$Gate", "pointsFor", "(I)I"⟩) ∈ WG := WG_3 (List.mem_of_getElem? (i := 160) rfl) rfl
theorem gw3_161 : (Jvm.Cond.selects "OriginRally$Gate" ⟨"OriginRally$Gate", "pointsFor", "(I)I"⟩ ⟨"OriginRally$Gate", "pointsFor", "(I)I"⟩) ∈ WG := WG_3 (List.mem_of_getElem? (i := 161) rfl) rfl
theorem gw3_162 : (Jvm.Cond.code ⟨"OriginRally$Gate", "pointsFor", "(I)I"⟩ prog_3_method_2_code 3 (Option.some Jvm.ClassFile.FieldType.int)) ∈ WG := WG_3 (List.mem_of_getElem? (i := 162) rfl) rfl
theorem gw3_163 : (Jvm.Cond.methodLink "OriginRally$Gate" 21 ⟨"java/lang/Math", "min", "(II)I"⟩) ∈ WG := WG_3 (List.mem_of_getElem? (i := 163) rfl) rfl
theorem gw3_164 : (Jvm.Cond.static ⟨"java/lang/Math", "min", "(II)I"⟩) ∈ WG := WG_3 (List.mem_of_getElem? (i := 164) rfl) rfl
theorem gw3_165 : (Jvm.Cond.code ⟨"java/lang/Math", "min", "(II)I"⟩ prog_14_method_69_code 2 (Option.some Jvm.ClassFile.FieldType.int)) ∈ WG := WG_3 (List.mem_of_getElem? (i := 165) rfl) rfl
theorem gw3_166 : (Jvm.Cond.methodLink "OriginRallyLaw" 186 ⟨"OriginRallyLaw", "table", "(LOriginRally;I[J)I"⟩) ∈ WG := WG_3 (List.mem_of_getElem? (i := 166) rfl) rfl
theorem gw3_167 : (Jvm.Cond.static ⟨"OriginRallyLaw", "table", "(LOriginRally;I[J)I"⟩) ∈ WG := WG_3 (List.mem_of_getElem? (i := 167) rfl) rfl
theorem gw3_168 : (Jvm.Cond.codeWith ⟨"OriginRallyLaw", "table", "(LOriginRally;I[J)I"⟩ method_25_code 4 (Option.some Jvm.ClassFile.FieldType.int) [(0, 9, 12, 24)]) ∈ WG := WG_3 (List.mem_of_getElem? (i := 168) rfl) rfl
theorem gw3_169 : (Jvm.Cond.methodLink "OriginRallyLaw" 89 ⟨"OriginRally", "table", "(I)I"⟩) ∈ WG := WG_3 (List.mem_of_getElem? (i := 169) rfl) rfl
theorem gw3_170 : (Jvm.Cond.instanceMethod ⟨"OriginRally", "table", "(I)I"⟩) ∈ WG := WG_3 (List.mem_of_getElem? (i := 170) rfl) rfl
theorem gw3_171 : (Jvm.Cond.selects "OriginRally" ⟨"OriginRally", "table", "(I)I"⟩ ⟨"OriginRally", "table", "(I)I"⟩) ∈ WG := WG_3 (List.mem_of_getElem? (i := 171) rfl) rfl
theorem gw3_172 : (Jvm.Cond.code ⟨"OriginRally", "table", "(I)I"⟩ prog_1_method_25_code 3 (Option.some Jvm.ClassFile.FieldType.int)) ∈ WG := WG_3 (List.mem_of_getElem? (i := 172) rfl) rfl
theorem gw3_173 : (Jvm.Cond.methodLink "OriginRally" 209 ⟨"OriginRally", "placeOf", "(I)I"⟩) ∈ WG := WG_3 (List.mem_of_getElem? (i := 173) rfl) rfl
theorem gw3_175 : (Jvm.Cond.instanceMethod ⟨"OriginRally", "placeOf", "(I)I"⟩) ∈ WG := WG_3 (List.mem_of_getElem? (i := 175) rfl) rfl
theorem gw3_176 : (Jvm.Cond.code ⟨"OriginRally", "placeOf", "(I)I"⟩ prog_1_method_45_code 4 (Option.some Jvm.ClassFile.FieldType.int)) ∈ WG := WG_3 (List.mem_of_getElem? (i := 176) rfl) rfl
theorem gw3_177 : (Jvm.Cond.methodLink "OriginRallyLaw" 189 ⟨"OriginRallyLaw", "where", "(LOriginRally;I[J)I"⟩) ∈ WG := WG_3 (List.mem_of_getElem? (i := 177) rfl) rfl
theorem gw3_178 : (Jvm.Cond.static ⟨"OriginRallyLaw", "where", "(LOriginRally;I[J)I"⟩) ∈ WG := WG_3 (List.mem_of_getElem? (i := 178) rfl) rfl
theorem gw3_179 : (Jvm.Cond.codeWith ⟨"OriginRallyLaw", "where", "(LOriginRally;I[J)I"⟩ method_26_code 4 (Option.some Jvm.ClassFile.FieldType.int) [(0, 9, 12, 24)]) ∈ WG := WG_3 (List.mem_of_getElem? (i := 179) rfl) rfl
theorem gw3_180 : (Jvm.Cond.methodLink "OriginRallyLaw" 92 ⟨"OriginRally", "where", "(I)I"⟩) ∈ WG := WG_3 (List.mem_of_getElem? (i := 180) rfl) rfl
theorem gw3_181 : (Jvm.Cond.instanceMethod ⟨"OriginRally", "where", "(I)I"⟩) ∈ WG := WG_3 (List.mem_of_getElem? (i := 181) rfl) rfl
theorem gw3_182 : (Jvm.Cond.selects "OriginRally" ⟨"OriginRally", "where", "(I)I"⟩ ⟨"OriginRally", "where", "(I)I"⟩) ∈ WG := WG_3 (List.mem_of_getElem? (i := 182) rfl) rfl
theorem gw3_183 : (Jvm.Cond.code ⟨"OriginRally", "where", "(I)I"⟩ prog_1_method_26_code 2 (Option.some Jvm.ClassFile.FieldType.int)) ∈ WG := WG_3 (List.mem_of_getElem? (i := 183) rfl) rfl
theorem gw3_184 : (Jvm.Cond.methodLink "OriginRallyLaw" 192 ⟨"OriginRallyLaw", "lent", "(LOriginRally;I[J)I"⟩) ∈ WG := WG_3 (List.mem_of_getElem? (i := 184) rfl) rfl
theorem gw3_185 : (Jvm.Cond.static ⟨"OriginRallyLaw", "lent", "(LOriginRally;I[J)I"⟩) ∈ WG := WG_3 (List.mem_of_getElem? (i := 185) rfl) rfl
theorem gw3_186 : (Jvm.Cond.codeWith ⟨"OriginRallyLaw", "lent", "(LOriginRally;I[J)I"⟩ method_27_code 4 (Option.some Jvm.ClassFile.FieldType.int) [(0, 9, 12, 24)]) ∈ WG := WG_3 (List.mem_of_getElem? (i := 186) rfl) rfl
theorem gw3_187 : (Jvm.Cond.methodLink "OriginRallyLaw" 95 ⟨"OriginRally", "lent", "(I)I"⟩) ∈ WG := WG_3 (List.mem_of_getElem? (i := 187) rfl) rfl
theorem gw3_188 : (Jvm.Cond.instanceMethod ⟨"OriginRally", "lent", "(I)I"⟩) ∈ WG := WG_3 (List.mem_of_getElem? (i := 188) rfl) rfl
theorem gw3_189 : (Jvm.Cond.selects "OriginRally" ⟨"OriginRally", "lent", "(I)I"⟩ ⟨"OriginRally", "lent", "(I)I"⟩) ∈ WG := WG_3 (List.mem_of_getElem? (i := 189) rfl) rfl
theorem gw3_190 : (Jvm.Cond.code ⟨"OriginRally", "lent", "(I)I"⟩ prog_1_method_27_code 4 (Option.some Jvm.ClassFile.FieldType.int)) ∈ WG := WG_3 (List.mem_of_getElem? (i := 190) rfl) rfl
theorem gw3_191 : (Jvm.Cond.methodLink "OriginRally" 215 ⟨"OriginRally$Part", "isLentBy", "(I)Z"⟩) ∈ WG := WG_3 (List.mem_of_getElem? (i := 191) rfl) rfl
theorem gw3_192 : (Jvm.Cond.instanceMethod ⟨"OriginRally$Part", "isLentBy", "(I)Z"⟩) ∈ WG := WG_3 (List.mem_of_getElem? (i := 192) rfl) rfl
theorem gw3_193 : (Jvm.Cond.selects "OriginRally$Part" ⟨"OriginRally$Part", "isLentBy", "(I)Z"⟩ ⟨"OriginRally$Part", "isLentBy", "(I)Z"⟩) ∈ WG := WG_3 (List.mem_of_getElem? (i := 193) rfl) rfl
theorem gw3_194 : (Jvm.Cond.code ⟨"OriginRally$Part", "isLentBy", "(I)Z"⟩ prog_4_method_3_code 2 (Option.some Jvm.ClassFile.FieldType.boolean)) ∈ WG := WG_3 (List.mem_of_getElem? (i := 194) rfl) rfl
theorem gw3_195 : (Jvm.Cond.methodLink "OriginRallyLaw" 195 ⟨"OriginRallyLaw", "isBroken", "(LOriginRally;I[J)I"⟩) ∈ WG := WG_3 (List.mem_of_getElem? (i := 195) rfl) rfl
theorem gw3_196 : (Jvm.Cond.static ⟨"OriginRallyLaw", "isBroken", "(LOriginRally;I[J)I"⟩) ∈ WG := WG_3 (List.mem_of_getElem? (i := 196) rfl) rfl
theorem gw3_197 : (Jvm.Cond.codeWith ⟨"OriginRallyLaw", "isBroken", "(LOriginRally;I[J)I"⟩ method_28_code 4 (Option.some Jvm.ClassFile.FieldType.int) [(0, 16, 19, 24)]) ∈ WG := WG_3 (List.mem_of_getElem? (i := 197) rfl) rfl
theorem gw3_198 : (Jvm.Cond.methodLink "OriginRallyLaw" 98 ⟨"OriginRally", "isBroken", "(I)Z"⟩) ∈ WG := WG_3 (List.mem_of_getElem? (i := 198) rfl) rfl
theorem gw3_199 : (Jvm.Cond.instanceMethod ⟨"OriginRally", "isBroken", "(I)Z"⟩) ∈ WG := WG_3 (List.mem_of_getElem? (i := 199) rfl) rfl
theorem gw3_200 : (Jvm.Cond.selects "OriginRally" ⟨"OriginRally", "isBroken", "(I)Z"⟩ ⟨"OriginRally", "isBroken", "(I)Z"⟩) ∈ WG := WG_3 (List.mem_of_getElem? (i := 200) rfl) rfl
theorem gw3_201 : (Jvm.Cond.code ⟨"OriginRally", "isBroken", "(I)Z"⟩ prog_1_method_28_code 2 (Option.some Jvm.ClassFile.FieldType.boolean)) ∈ WG := WG_3 (List.mem_of_getElem? (i := 201) rfl) rfl
theorem gw3_202 : (Jvm.Cond.classLink "OriginRallyLaw" 103 "OriginRallyModel") ∈ WG := WG_3 (List.mem_of_getElem? (i := 202) rfl) rfl
theorem gw3_203 : (Jvm.Cond.instantiable "OriginRallyModel" 26) ∈ WG := WG_3 (List.mem_of_getElem? (i := 203) rfl) rfl
theorem gw3_204 : (Jvm.Cond.methodLink "OriginRallyLaw" 105 ⟨"OriginRallyModel", "<init>", "()V"⟩) ∈ WG := WG_3 (List.mem_of_getElem? (i := 204) rfl) rfl
theorem gw3_205 : (Jvm.Cond.instanceMethod ⟨"OriginRallyModel", "<init>", "()V"⟩) ∈ WG := WG_3 (List.mem_of_getElem? (i := 205) rfl) rfl
theorem gw3_206 : (Jvm.Cond.code ⟨"OriginRallyModel", "<init>", "()V"⟩ prog_8_method_1_code 2 (Option.none : Option Jvm.ClassFile.FieldType)) ∈ WG := WG_3 (List.mem_of_getElem? (i := 206) rfl) rfl
theorem gw3_207 : (Jvm.Cond.methodLink "OriginRallyModel" 1 ⟨"java/lang/Object", "<init>", "()V"⟩) ∈ WG := WG_3 (List.mem_of_getElem? (i := 207) rfl) rfl
theorem gw3_208 : (Jvm.Cond.fieldLink "OriginRallyModel" 62 "OriginRallyModel" "thrown" "I") ∈ WG := WG_3 (List.mem_of_getElem? (i := 208) rfl) rfl
theorem gw3_209 : (Jvm.Cond.fieldLink "OriginRallyModel" 75 "OriginRallyModel" "start" "I") ∈ WG := WG_3 (List.mem_of_getElem? (i := 209) rfl) rfl
theorem gw3_210 : (Jvm.Cond.fieldLink "OriginRallyModel" 116 "OriginRallyModel" "entries" "I") ∈ WG := WG_3 (List.mem_of_getElem? (i := 210) rfl) rfl
theorem gw3_211 : (Jvm.Cond.fieldLink "OriginRallyModel" 7 "OriginRallyModel" "entryCells" "[I") ∈ WG := WG_3 (List.mem_of_getElem? (i := 211) rfl) rfl
theorem gw3_212 : (Jvm.Cond.fieldLink "OriginRallyModel" 13 "OriginRallyModel" "entryTurns" "[I") ∈ WG := WG_3 (List.mem_of_getElem? (i := 212) rfl) rfl
theorem gw3_213 : (Jvm.Cond.fieldLink "OriginRallyModel" 72 "OriginRallyModel" "gates" "I") ∈ WG := WG_3 (List.mem_of_getElem? (i := 213) rfl) rfl
theorem gw3_214 : (Jvm.Cond.fieldLink "OriginRallyModel" 16 "OriginRallyModel" "gateEntries" "[I") ∈ WG := WG_3 (List.mem_of_getElem? (i := 214) rfl) rfl
theorem gw3_215 : (Jvm.Cond.fieldLink "OriginRallyModel" 19 "OriginRallyModel" "allowed" "[I") ∈ WG := WG_3 (List.mem_of_getElem? (i := 215) rfl) rfl
theorem gw3_216 : (Jvm.Cond.fieldLink "OriginRallyModel" 22 "OriginRallyModel" "counting" "I") ∈ WG := WG_3 (List.mem_of_getElem? (i := 216) rfl) rfl
theorem gw3_217 : (Jvm.Cond.fieldLink "OriginRallyModel" 65 "OriginRallyModel" "cars" "I") ∈ WG := WG_3 (List.mem_of_getElem? (i := 217) rfl) rfl
theorem gw3_218 : (Jvm.Cond.fieldLink "OriginRallyModel" 26 "OriginRallyModel" "pieces" "[I") ∈ WG := WG_3 (List.mem_of_getElem? (i := 218) rfl) rfl
theorem gw3_219 : (Jvm.Cond.fieldLink "OriginRallyModel" 29 "OriginRallyModel" "drives" "[I") ∈ WG := WG_3 (List.mem_of_getElem? (i := 219) rfl) rfl
theorem gw3_220 : (Jvm.Cond.fieldLink "OriginRallyModel" 32 "OriginRallyModel" "minutes" "[I") ∈ WG := WG_3 (List.mem_of_getElem? (i := 220) rfl) rfl
theorem gw3_221 : (Jvm.Cond.fieldLink "OriginRallyModel" 35 "OriginRallyModel" "turns" "[I") ∈ WG := WG_3 (List.mem_of_getElem? (i := 221) rfl) rfl
theorem gw3_222 : (Jvm.Cond.fieldLink "OriginRallyModel" 38 "OriginRallyModel" "broken" "[I") ∈ WG := WG_3 (List.mem_of_getElem? (i := 222) rfl) rfl
theorem gw3_223 : (Jvm.Cond.fieldLink "OriginRallyModel" 41 "OriginRallyModel" "lost" "[I") ∈ WG := WG_3 (List.mem_of_getElem? (i := 223) rfl) rfl
theorem gw3_224 : (Jvm.Cond.fieldLink "OriginRallyModel" 44 "OriginRallyModel" "recorded" "[I") ∈ WG := WG_3 (List.mem_of_getElem? (i := 224) rfl) rfl
theorem gw3_225 : (Jvm.Cond.fieldLink "OriginRallyModel" 134 "OriginRallyModel" "parts" "I") ∈ WG := WG_3 (List.mem_of_getElem? (i := 225) rfl) rfl
theorem gw3_226 : (Jvm.Cond.fieldLink "OriginRallyModel" 47 "OriginRallyModel" "kinds" "[I") ∈ WG := WG_3 (List.mem_of_getElem? (i := 226) rfl) rfl
theorem gw3_227 : (Jvm.Cond.fieldLink "OriginRallyModel" 50 "OriginRallyModel" "owners" "[I") ∈ WG := WG_3 (List.mem_of_getElem? (i := 227) rfl) rfl
theorem gw3_228 : (Jvm.Cond.fieldLink "OriginRallyModel" 53 "OriginRallyModel" "wheres" "[I") ∈ WG := WG_3 (List.mem_of_getElem? (i := 228) rfl) rfl
theorem gw3_229 : (Jvm.Cond.fieldLink "OriginRallyModel" 56 "OriginRallyModel" "users" "[I") ∈ WG := WG_3 (List.mem_of_getElem? (i := 229) rfl) rfl
theorem gw3_230 : (Jvm.Cond.fieldLink "OriginRallyModel" 59 "OriginRallyModel" "tallies" "[I") ∈ WG := WG_3 (List.mem_of_getElem? (i := 230) rfl) rfl
theorem gw3_231 : (Jvm.Cond.fieldLink "OriginRallyModel" 78 "OriginRallyModel" "x" "I") ∈ WG := WG_3 (List.mem_of_getElem? (i := 231) rfl) rfl
theorem gw3_232 : (Jvm.Cond.fieldLink "OriginRallyModel" 81 "OriginRallyModel" "y" "I") ∈ WG := WG_3 (List.mem_of_getElem? (i := 232) rfl) rfl
theorem gw3_233 : (Jvm.Cond.fieldLink "OriginRallyModel" 84 "OriginRallyModel" "heading" "I") ∈ WG := WG_3 (List.mem_of_getElem? (i := 233) rfl) rfl
theorem gw3_234 : (Jvm.Cond.lays "OriginRallyModel" "OriginRallyModel" "thrown" "I") ∈ WG := WG_3 (List.mem_of_getElem? (i := 234) rfl) rfl
theorem gw3_236 : (Jvm.Cond.lays "OriginRallyModel" "OriginRallyModel" "start" "I") ∈ WG := WG_3 (List.mem_of_getElem? (i := 236) rfl) rfl
theorem gw3_238 : (Jvm.Cond.lays "OriginRallyModel" "OriginRallyModel" "entries" "I") ∈ WG := WG_3 (List.mem_of_getElem? (i := 238) rfl) rfl
theorem gw4_0 : (Jvm.Cond.laysFinal "OriginRallyModel" "OriginRallyModel" "entryCells" "[I") ∈ WG := WG_4 (List.mem_of_getElem? (i := 0) rfl) rfl
theorem gw4_2 : (Jvm.Cond.laysFinal "OriginRallyModel" "OriginRallyModel" "entryTurns" "[I") ∈ WG := WG_4 (List.mem_of_getElem? (i := 2) rfl) rfl
theorem gw4_4 : (Jvm.Cond.lays "OriginRallyModel" "OriginRallyModel" "gates" "I") ∈ WG := WG_4 (List.mem_of_getElem? (i := 4) rfl) rfl
theorem gw4_6 : (Jvm.Cond.laysFinal "OriginRallyModel" "OriginRallyModel" "gateEntries" "[I") ∈ WG := WG_4 (List.mem_of_getElem? (i := 6) rfl) rfl
theorem gw4_8 : (Jvm.Cond.laysFinal "OriginRallyModel" "OriginRallyModel" "allowed" "[I") ∈ WG := WG_4 (List.mem_of_getElem? (i := 8) rfl) rfl
theorem gw4_10 : (Jvm.Cond.lays "OriginRallyModel" "OriginRallyModel" "counting" "I") ∈ WG := WG_4 (List.mem_of_getElem? (i := 10) rfl) rfl
theorem gw4_12 : (Jvm.Cond.lays "OriginRallyModel" "OriginRallyModel" "cars" "I") ∈ WG := WG_4 (List.mem_of_getElem? (i := 12) rfl) rfl
theorem gw4_14 : (Jvm.Cond.laysFinal "OriginRallyModel" "OriginRallyModel" "pieces" "[I") ∈ WG := WG_4 (List.mem_of_getElem? (i := 14) rfl) rfl
theorem gw4_16 : (Jvm.Cond.laysFinal "OriginRallyModel" "OriginRallyModel" "drives" "[I") ∈ WG := WG_4 (List.mem_of_getElem? (i := 16) rfl) rfl
theorem gw4_18 : (Jvm.Cond.laysFinal "OriginRallyModel" "OriginRallyModel" "minutes" "[I") ∈ WG := WG_4 (List.mem_of_getElem? (i := 18) rfl) rfl
theorem gw4_20 : (Jvm.Cond.laysFinal "OriginRallyModel" "OriginRallyModel" "turns" "[I") ∈ WG := WG_4 (List.mem_of_getElem? (i := 20) rfl) rfl
theorem gw4_22 : (Jvm.Cond.laysFinal "OriginRallyModel" "OriginRallyModel" "broken" "[I") ∈ WG := WG_4 (List.mem_of_getElem? (i := 22) rfl) rfl
theorem gw4_24 : (Jvm.Cond.laysFinal "OriginRallyModel" "OriginRallyModel" "lost" "[I") ∈ WG := WG_4 (List.mem_of_getElem? (i := 24) rfl) rfl
theorem gw4_26 : (Jvm.Cond.laysFinal "OriginRallyModel" "OriginRallyModel" "recorded" "[I") ∈ WG := WG_4 (List.mem_of_getElem? (i := 26) rfl) rfl
theorem gw4_28 : (Jvm.Cond.lays "OriginRallyModel" "OriginRallyModel" "parts" "I") ∈ WG := WG_4 (List.mem_of_getElem? (i := 28) rfl) rfl
theorem gw4_30 : (Jvm.Cond.laysFinal "OriginRallyModel" "OriginRallyModel" "kinds" "[I") ∈ WG := WG_4 (List.mem_of_getElem? (i := 30) rfl) rfl
theorem gw4_32 : (Jvm.Cond.laysFinal "OriginRallyModel" "OriginRallyModel" "owners" "[I") ∈ WG := WG_4 (List.mem_of_getElem? (i := 32) rfl) rfl
theorem gw4_34 : (Jvm.Cond.laysFinal "OriginRallyModel" "OriginRallyModel" "wheres" "[I") ∈ WG := WG_4 (List.mem_of_getElem? (i := 34) rfl) rfl
theorem gw4_36 : (Jvm.Cond.laysFinal "OriginRallyModel" "OriginRallyModel" "users" "[I") ∈ WG := WG_4 (List.mem_of_getElem? (i := 36) rfl) rfl
theorem gw4_38 : (Jvm.Cond.laysFinal "OriginRallyModel" "OriginRallyModel" "tallies" "[I") ∈ WG := WG_4 (List.mem_of_getElem? (i := 38) rfl) rfl
theorem gw4_40 : (Jvm.Cond.lays "OriginRallyModel" "OriginRallyModel" "x" "I") ∈ WG := WG_4 (List.mem_of_getElem? (i := 40) rfl) rfl
theorem gw4_42 : (Jvm.Cond.lays "OriginRallyModel" "OriginRallyModel" "y" "I") ∈ WG := WG_4 (List.mem_of_getElem? (i := 42) rfl) rfl
theorem gw4_44 : (Jvm.Cond.lays "OriginRallyModel" "OriginRallyModel" "heading" "I") ∈ WG := WG_4 (List.mem_of_getElem? (i := 44) rfl) rfl
theorem gw4_47 : (Jvm.Cond.methodLink "OriginRallyLaw" 112 ⟨"OriginRallyModel", "thrown", "()I"⟩) ∈ WG := WG_4 (List.mem_of_getElem? (i := 47) rfl) rfl
theorem gw4_48 : (Jvm.Cond.instanceMethod ⟨"OriginRallyModel", "thrown", "()I"⟩) ∈ WG := WG_4 (List.mem_of_getElem? (i := 48) rfl) rfl
theorem gw4_49 : (Jvm.Cond.selects "OriginRallyModel" ⟨"OriginRallyModel", "thrown", "()I"⟩ ⟨"OriginRallyModel", "thrown", "()I"⟩) ∈ WG := WG_4 (List.mem_of_getElem? (i := 49) rfl) rfl
theorem gw4_50 : (Jvm.Cond.code ⟨"OriginRallyModel", "thrown", "()I"⟩ prog_8_method_2_code 1 (Option.some Jvm.ClassFile.FieldType.int)) ∈ WG := WG_4 (List.mem_of_getElem? (i := 50) rfl) rfl
theorem gw4_51 : (Jvm.Cond.methodLink "OriginRallyLaw" 111 ⟨"OriginRallyModel", "setStart", "(I)I"⟩) ∈ WG := WG_4 (List.mem_of_getElem? (i := 51) rfl) rfl
theorem gw4_52 : (Jvm.Cond.instanceMethod ⟨"OriginRallyModel", "setStart", "(I)I"⟩) ∈ WG := WG_4 (List.mem_of_getElem? (i := 52) rfl) rfl
theorem gw4_53 : (Jvm.Cond.selects "OriginRallyModel" ⟨"OriginRallyModel", "setStart", "(I)I"⟩ ⟨"OriginRallyModel", "setStart", "(I)I"⟩) ∈ WG := WG_4 (List.mem_of_getElem? (i := 53) rfl) rfl
theorem gw4_54 : (Jvm.Cond.code ⟨"OriginRallyModel", "setStart", "(I)I"⟩ prog_8_method_18_code 3 (Option.some Jvm.ClassFile.FieldType.int)) ∈ WG := WG_4 (List.mem_of_getElem? (i := 54) rfl) rfl
theorem gw4_55 : (Jvm.Cond.methodLink "OriginRallyModel" 68 ⟨"OriginRallyModel", "in", "(III)Z"⟩) ∈ WG := WG_4 (List.mem_of_getElem? (i := 55) rfl) rfl
theorem gw4_56 : (Jvm.Cond.static ⟨"OriginRallyModel", "in", "(III)Z"⟩) ∈ WG := WG_4 (List.mem_of_getElem? (i := 56) rfl) rfl
theorem gw4_57 : (Jvm.Cond.code ⟨"OriginRallyModel", "in", "(III)Z"⟩ prog_8_method_4_code 3 (Option.some Jvm.ClassFile.FieldType.boolean)) ∈ WG := WG_4 (List.mem_of_getElem? (i := 57) rfl) rfl
theorem gw4_58 : (Jvm.Cond.methodLink "OriginRallyModel" 119 ⟨"OriginRallyModel", "goesWell", "(I)Z"⟩) ∈ WG := WG_4 (List.mem_of_getElem? (i := 58) rfl) rfl
theorem gw4_60 : (Jvm.Cond.instanceMethod ⟨"OriginRallyModel", "goesWell", "(I)Z"⟩) ∈ WG := WG_4 (List.mem_of_getElem? (i := 60) rfl) rfl
theorem gw4_61 : (Jvm.Cond.code ⟨"OriginRallyModel", "goesWell", "(I)Z"⟩ prog_8_method_3_code 2 (Option.some Jvm.ClassFile.FieldType.boolean)) ∈ WG := WG_4 (List.mem_of_getElem? (i := 61) rfl) rfl
theorem gw4_62 : (Jvm.Cond.methodLink "OriginRallyLaw" 118 ⟨"OriginRallyModel", "addEntry", "(II)I"⟩) ∈ WG := WG_4 (List.mem_of_getElem? (i := 62) rfl) rfl
theorem gw4_63 : (Jvm.Cond.instanceMethod ⟨"OriginRallyModel", "addEntry", "(II)I"⟩) ∈ WG := WG_4 (List.mem_of_getElem? (i := 63) rfl) rfl
theorem gw4_64 : (Jvm.Cond.selects "OriginRallyModel" ⟨"OriginRallyModel", "addEntry", "(II)I"⟩ ⟨"OriginRallyModel", "addEntry", "(II)I"⟩) ∈ WG := WG_4 (List.mem_of_getElem? (i := 64) rfl) rfl
theorem gw4_65 : (Jvm.Cond.code ⟨"OriginRallyModel", "addEntry", "(II)I"⟩ prog_8_method_19_code 4 (Option.some Jvm.ClassFile.FieldType.int)) ∈ WG := WG_4 (List.mem_of_getElem? (i := 65) rfl) rfl
theorem gw4_66 : (Jvm.Cond.methodLink "OriginRallyModel" 106 ⟨"OriginRallyModel", "followBook", "(I)V"⟩) ∈ WG := WG_4 (List.mem_of_getElem? (i := 66) rfl) rfl
theorem gw4_68 : (Jvm.Cond.instanceMethod ⟨"OriginRallyModel", "followBook", "(I)V"⟩) ∈ WG := WG_4 (List.mem_of_getElem? (i := 68) rfl) rfl
theorem gw4_69 : (Jvm.Cond.code ⟨"OriginRallyModel", "followBook", "(I)V"⟩ prog_8_method_11_code 3 (Option.none : Option Jvm.ClassFile.FieldType)) ∈ WG := WG_4 (List.mem_of_getElem? (i := 69) rfl) rfl
theorem gw4_70 : (Jvm.Cond.methodLink "OriginRallyModel" 87 ⟨"OriginRallyModel", "begin", "()V"⟩) ∈ WG := WG_4 (List.mem_of_getElem? (i := 70) rfl) rfl
theorem gw4_72 : (Jvm.Cond.instanceMethod ⟨"OriginRallyModel", "begin", "()V"⟩) ∈ WG := WG_4 (List.mem_of_getElem? (i := 72) rfl) rfl
theorem gw4_73 : (Jvm.Cond.code ⟨"OriginRallyModel", "begin", "()V"⟩ prog_8_method_7_code 1 (Option.none : Option Jvm.ClassFile.FieldType)) ∈ WG := WG_4 (List.mem_of_getElem? (i := 73) rfl) rfl
theorem gw4_74 : (Jvm.Cond.methodLink "OriginRallyModel" 90 ⟨"OriginRallyModel", "goOn", "(I)V"⟩) ∈ WG := WG_4 (List.mem_of_getElem? (i := 74) rfl) rfl
theorem gw4_76 : (Jvm.Cond.instanceMethod ⟨"OriginRallyModel", "goOn", "(I)V"⟩) ∈ WG := WG_4 (List.mem_of_getElem? (i := 76) rfl) rfl
theorem gw4_77 : (Jvm.Cond.code ⟨"OriginRallyModel", "goOn", "(I)V"⟩ prog_8_method_8_code 2 (Option.none : Option Jvm.ClassFile.FieldType)) ∈ WG := WG_4 (List.mem_of_getElem? (i := 77) rfl) rfl
theorem gw4_78 : (Jvm.Cond.methodLink "OriginRallyModel" 123 ⟨"OriginRallyModel", "isOnGround", "()Z"⟩) ∈ WG := WG_4 (List.mem_of_getElem? (i := 78) rfl) rfl
theorem gw4_80 : (Jvm.Cond.instanceMethod ⟨"OriginRallyModel", "isOnGround", "()Z"⟩) ∈ WG := WG_4 (List.mem_of_getElem? (i := 80) rfl) rfl
theorem gw4_81 : (Jvm.Cond.code ⟨"OriginRallyModel", "isOnGround", "()Z"⟩ prog_8_method_10_code 1 (Option.some Jvm.ClassFile.FieldType.boolean)) ∈ WG := WG_4 (List.mem_of_getElem? (i := 81) rfl) rfl
theorem gw4_82 : (Jvm.Cond.methodLink "OriginRallyModel" 102 ⟨"OriginRallyModel", "cell", "()I"⟩) ∈ WG := WG_4 (List.mem_of_getElem? (i := 82) rfl) rfl
theorem gw4_84 : (Jvm.Cond.instanceMethod ⟨"OriginRallyModel", "cell", "()I"⟩) ∈ WG := WG_4 (List.mem_of_getElem? (i := 84) rfl) rfl
theorem gw4_85 : (Jvm.Cond.code ⟨"OriginRallyModel", "cell", "()I"⟩ prog_8_method_9_code 1 (Option.some Jvm.ClassFile.FieldType.int)) ∈ WG := WG_4 (List.mem_of_getElem? (i := 85) rfl) rfl
theorem gw4_86 : (Jvm.Cond.methodLink "OriginRallyLaw" 121 ⟨"OriginRallyModel", "addGate", "(II)I"⟩) ∈ WG := WG_4 (List.mem_of_getElem? (i := 86) rfl) rfl
theorem gw4_87 : (Jvm.Cond.instanceMethod ⟨"OriginRallyModel", "addGate", "(II)I"⟩) ∈ WG := WG_4 (List.mem_of_getElem? (i := 87) rfl) rfl
theorem gw4_88 : (Jvm.Cond.selects "OriginRallyModel" ⟨"OriginRallyModel", "addGate", "(II)I"⟩ ⟨"OriginRallyModel", "addGate", "(II)I"⟩) ∈ WG := WG_4 (List.mem_of_getElem? (i := 88) rfl) rfl
theorem gw4_89 : (Jvm.Cond.code ⟨"OriginRallyModel", "addGate", "(II)I"⟩ prog_8_method_20_code 5 (Option.some Jvm.ClassFile.FieldType.int)) ∈ WG := WG_4 (List.mem_of_getElem? (i := 89) rfl) rfl
theorem gw4_90 : (Jvm.Cond.methodLink "OriginRallyLaw" 124 ⟨"OriginRallyModel", "cut", "(I)I"⟩) ∈ WG := WG_4 (List.mem_of_getElem? (i := 90) rfl) rfl
theorem gw4_91 : (Jvm.Cond.instanceMethod ⟨"OriginRallyModel", "cut", "(I)I"⟩) ∈ WG := WG_4 (List.mem_of_getElem? (i := 91) rfl) rfl
theorem gw4_92 : (Jvm.Cond.selects "OriginRallyModel" ⟨"OriginRallyModel", "cut", "(I)I"⟩ ⟨"OriginRallyModel", "cut", "(I)I"⟩) ∈ WG := WG_4 (List.mem_of_getElem? (i := 92) rfl) rfl
theorem gw4_93 : (Jvm.Cond.code ⟨"OriginRallyModel", "cut", "(I)I"⟩ prog_8_method_21_code 3 (Option.some Jvm.ClassFile.FieldType.int)) ∈ WG := WG_4 (List.mem_of_getElem? (i := 93) rfl) rfl
theorem gw4_94 : (Jvm.Cond.methodLink "OriginRallyLaw" 128 ⟨"OriginRallyModel", "enter", "()I"⟩) ∈ WG := WG_4 (List.mem_of_getElem? (i := 94) rfl) rfl
theorem gw4_95 : (Jvm.Cond.instanceMethod ⟨"OriginRallyModel", "enter", "()I"⟩) ∈ WG := WG_4 (List.mem_of_getElem? (i := 95) rfl) rfl
theorem gw4_96 : (Jvm.Cond.selects "OriginRallyModel" ⟨"OriginRallyModel", "enter", "()I"⟩ ⟨"OriginRallyModel", "enter", "()I"⟩) ∈ WG := WG_4 (List.mem_of_getElem? (i := 96) rfl) rfl
theorem gw4_97 : (Jvm.Cond.code ⟨"OriginRallyModel", "enter", "()I"⟩ prog_8_method_22_code 1 (Option.some Jvm.ClassFile.FieldType.int)) ∈ WG := WG_4 (List.mem_of_getElem? (i := 97) rfl) rfl
theorem gw4_98 : (Jvm.Cond.methodLink "OriginRallyLaw" 132 ⟨"OriginRallyModel", "drive", "(III)I"⟩) ∈ WG := WG_4 (List.mem_of_getElem? (i := 98) rfl) rfl
theorem gw4_99 : (Jvm.Cond.instanceMethod ⟨"OriginRallyModel", "drive", "(III)I"⟩) ∈ WG := WG_4 (List.mem_of_getElem? (i := 99) rfl) rfl
theorem gw4_100 : (Jvm.Cond.selects "OriginRallyModel" ⟨"OriginRallyModel", "drive", "(III)I"⟩ ⟨"OriginRallyModel", "drive", "(III)I"⟩) ∈ WG := WG_4 (List.mem_of_getElem? (i := 100) rfl) rfl
theorem gw4_101 : (Jvm.Cond.code ⟨"OriginRallyModel", "drive", "(III)I"⟩ prog_8_method_24_code 7 (Option.some Jvm.ClassFile.FieldType.int)) ∈ WG := WG_4 (List.mem_of_getElem? (i := 101) rfl) rfl
theorem gw4_102 : (Jvm.Cond.methodLink "OriginRallyModel" 127 ⟨"OriginRallyModel", "isCar", "(I)Z"⟩) ∈ WG := WG_4 (List.mem_of_getElem? (i := 102) rfl) rfl
theorem gw4_104 : (Jvm.Cond.instanceMethod ⟨"OriginRallyModel", "isCar", "(I)Z"⟩) ∈ WG := WG_4 (List.mem_of_getElem? (i := 104) rfl) rfl
theorem gw4_105 : (Jvm.Cond.code ⟨"OriginRallyModel", "isCar", "(I)Z"⟩ prog_8_method_5_code 2 (Option.some Jvm.ClassFile.FieldType.boolean)) ∈ WG := WG_4 (List.mem_of_getElem? (i := 105) rfl) rfl
theorem gw4_106 : (Jvm.Cond.methodLink "OriginRallyModel" 94 ⟨"OriginRallyModel", "clockOf", "(I)I"⟩) ∈ WG := WG_4 (List.mem_of_getElem? (i := 106) rfl) rfl
theorem gw4_108 : (Jvm.Cond.instanceMethod ⟨"OriginRallyModel", "clockOf", "(I)I"⟩) ∈ WG := WG_4 (List.mem_of_getElem? (i := 108) rfl) rfl
theorem gw4_109 : (Jvm.Cond.code ⟨"OriginRallyModel", "clockOf", "(I)I"⟩ prog_8_method_13_code 4 (Option.some Jvm.ClassFile.FieldType.int)) ∈ WG := WG_4 (List.mem_of_getElem? (i := 109) rfl) rfl
theorem gw4_110 : (Jvm.Cond.methodLink "OriginRallyModel" 98 ⟨"OriginRallyModel", "followTrack", "(II)V"⟩) ∈ WG := WG_4 (List.mem_of_getElem? (i := 110) rfl) rfl
theorem gw4_112 : (Jvm.Cond.instanceMethod ⟨"OriginRallyModel", "followTrack", "(II)V"⟩) ∈ WG := WG_4 (List.mem_of_getElem? (i := 112) rfl) rfl
theorem gw4_113 : (Jvm.Cond.code ⟨"OriginRallyModel", "followTrack", "(II)V"⟩ prog_8_method_12_code 6 (Option.none : Option Jvm.ClassFile.FieldType)) ∈ WG := WG_4 (List.mem_of_getElem? (i := 113) rfl) rfl
theorem gw4_114 : (Jvm.Cond.methodLink "OriginRallyModel" 130 ⟨"OriginRallyModel", "addPiece", "(IIII)I"⟩) ∈ WG := WG_4 (List.mem_of_getElem? (i := 114) rfl) rfl
theorem gw4_116 : (Jvm.Cond.instanceMethod ⟨"OriginRallyModel", "addPiece", "(IIII)I"⟩) ∈ WG := WG_4 (List.mem_of_getElem? (i := 116) rfl) rfl
theorem gw4_117 : (Jvm.Cond.code ⟨"OriginRallyModel", "addPiece", "(IIII)I"⟩ prog_8_method_23_code 6 (Option.some Jvm.ClassFile.FieldType.int)) ∈ WG := WG_4 (List.mem_of_getElem? (i := 117) rfl) rfl
theorem gw4_118 : (Jvm.Cond.methodLink "OriginRallyLaw" 135 ⟨"OriginRallyModel", "stand", "(II)I"⟩) ∈ WG := WG_4 (List.mem_of_getElem? (i := 118) rfl) rfl
theorem gw4_119 : (Jvm.Cond.instanceMethod ⟨"OriginRallyModel", "stand", "(II)I"⟩) ∈ WG := WG_4 (List.mem_of_getElem? (i := 119) rfl) rfl
theorem gw4_120 : (Jvm.Cond.selects "OriginRallyModel" ⟨"OriginRallyModel", "stand", "(II)I"⟩ ⟨"OriginRallyModel", "stand", "(II)I"⟩) ∈ WG := WG_4 (List.mem_of_getElem? (i := 120) rfl) rfl
theorem gw4_121 : (Jvm.Cond.code ⟨"OriginRallyModel", "stand", "(II)I"⟩ prog_8_method_25_code 5 (Option.some Jvm.ClassFile.FieldType.int)) ∈ WG := WG_4 (List.mem_of_getElem? (i := 121) rfl) rfl
theorem gw4_122 : (Jvm.Cond.methodLink "OriginRallyLaw" 139 ⟨"OriginRallyModel", "breakDown", "(II)V"⟩) ∈ WG := WG_4 (List.mem_of_getElem? (i := 122) rfl) rfl
theorem gw4_123 : (Jvm.Cond.instanceMethod ⟨"OriginRallyModel", "breakDown", "(II)V"⟩) ∈ WG := WG_4 (List.mem_of_getElem? (i := 123) rfl) rfl
theorem gw4_124 : (Jvm.Cond.selects "OriginRallyModel" ⟨"OriginRallyModel", "breakDown", "(II)V"⟩ ⟨"OriginRallyModel", "breakDown", "(II)V"⟩) ∈ WG := WG_4 (List.mem_of_getElem? (i := 124) rfl) rfl
theorem gw4_125 : (Jvm.Cond.code ⟨"OriginRallyModel", "breakDown", "(II)V"⟩ prog_8_method_26_code 4 (Option.none : Option Jvm.ClassFile.FieldType)) ∈ WG := WG_4 (List.mem_of_getElem? (i := 125) rfl) rfl
theorem gw4_126 : (Jvm.Cond.methodLink "OriginRallyLaw" 142 ⟨"OriginRallyModel", "mend", "(I)I"⟩) ∈ WG := WG_4 (List.mem_of_getElem? (i := 126) rfl) rfl
theorem gw4_127 : (Jvm.Cond.instanceMethod ⟨"OriginRallyModel", "mend", "(I)I"⟩) ∈ WG := WG_4 (List.mem_of_getElem? (i := 127) rfl) rfl
theorem gw4_128 : (Jvm.Cond.selects "OriginRallyModel" ⟨"OriginRallyModel", "mend", "(I)I"⟩ ⟨"OriginRallyModel", "mend", "(I)I"⟩) ∈ WG := WG_4 (List.mem_of_getElem? (i := 128) rfl) rfl
theorem gw4_129 : (Jvm.Cond.code ⟨"OriginRallyModel", "mend", "(I)I"⟩ prog_8_method_27_code 6 (Option.some Jvm.ClassFile.FieldType.int)) ∈ WG := WG_4 (List.mem_of_getElem? (i := 129) rfl) rfl
theorem gw4_130 : (Jvm.Cond.methodLink "OriginRallyLaw" 145 ⟨"OriginRallyModel", "bring", "(II)I"⟩) ∈ WG := WG_4 (List.mem_of_getElem? (i := 130) rfl) rfl
theorem gw4_131 : (Jvm.Cond.instanceMethod ⟨"OriginRallyModel", "bring", "(II)I"⟩) ∈ WG := WG_4 (List.mem_of_getElem? (i := 131) rfl) rfl
theorem gw4_132 : (Jvm.Cond.selects "OriginRallyModel" ⟨"OriginRallyModel", "bring", "(II)I"⟩ ⟨"OriginRallyModel", "bring", "(II)I"⟩) ∈ WG := WG_4 (List.mem_of_getElem? (i := 132) rfl) rfl
theorem gw4_133 : (Jvm.Cond.code ⟨"OriginRallyModel", "bring", "(II)I"⟩ prog_8_method_28_code 4 (Option.some Jvm.ClassFile.FieldType.int)) ∈ WG := WG_4 (List.mem_of_getElem? (i := 133) rfl) rfl
theorem gw4_134 : (Jvm.Cond.methodLink "OriginRallyLaw" 148 ⟨"OriginRallyModel", "hand", "(II)I"⟩) ∈ WG := WG_4 (List.mem_of_getElem? (i := 134) rfl) rfl
theorem gw4_135 : (Jvm.Cond.instanceMethod ⟨"OriginRallyModel", "hand", "(II)I"⟩) ∈ WG := WG_4 (List.mem_of_getElem? (i := 135) rfl) rfl
theorem gw4_136 : (Jvm.Cond.selects "OriginRallyModel" ⟨"OriginRallyModel", "hand", "(II)I"⟩ ⟨"OriginRallyModel", "hand", "(II)I"⟩) ∈ WG := WG_4 (List.mem_of_getElem? (i := 136) rfl) rfl
theorem gw4_137 : (Jvm.Cond.code ⟨"OriginRallyModel", "hand", "(II)I"⟩ prog_8_method_30_code 6 (Option.some Jvm.ClassFile.FieldType.int)) ∈ WG := WG_4 (List.mem_of_getElem? (i := 137) rfl) rfl
theorem gw4_138 : (Jvm.Cond.methodLink "OriginRallyModel" 140 ⟨"OriginRallyModel", "cellOfPlace", "(I)I"⟩) ∈ WG := WG_4 (List.mem_of_getElem? (i := 138) rfl) rfl
theorem gw4_140 : (Jvm.Cond.instanceMethod ⟨"OriginRallyModel", "cellOfPlace", "(I)I"⟩) ∈ WG := WG_4 (List.mem_of_getElem? (i := 140) rfl) rfl
theorem gw4_141 : (Jvm.Cond.code ⟨"OriginRallyModel", "cellOfPlace", "(I)I"⟩ prog_8_method_29_code 2 (Option.some Jvm.ClassFile.FieldType.int)) ∈ WG := WG_4 (List.mem_of_getElem? (i := 141) rfl) rfl
theorem gw4_142 : (Jvm.Cond.methodLink "OriginRallyModel" 137 ⟨"OriginRallyModel", "cellNow", "(I)I"⟩) ∈ WG := WG_4 (List.mem_of_getElem? (i := 142) rfl) rfl
theorem gw4_144 : (Jvm.Cond.instanceMethod ⟨"OriginRallyModel", "cellNow", "(I)I"⟩) ∈ WG := WG_4 (List.mem_of_getElem? (i := 144) rfl) rfl
theorem gw4_145 : (Jvm.Cond.code ⟨"OriginRallyModel", "cellNow", "(I)I"⟩ prog_8_method_14_code 2 (Option.some Jvm.ClassFile.FieldType.int)) ∈ WG := WG_4 (List.mem_of_getElem? (i := 145) rfl) rfl
theorem gw4_146 : (Jvm.Cond.methodLink "OriginRallyLaw" 151 ⟨"OriginRallyModel", "record", "(III)I"⟩) ∈ WG := WG_4 (List.mem_of_getElem? (i := 146) rfl) rfl
theorem gw4_147 : (Jvm.Cond.instanceMethod ⟨"OriginRallyModel", "record", "(III)I"⟩) ∈ WG := WG_4 (List.mem_of_getElem? (i := 147) rfl) rfl
theorem gw4_148 : (Jvm.Cond.selects "OriginRallyModel" ⟨"OriginRallyModel", "record", "(III)I"⟩ ⟨"OriginRallyModel", "record", "(III)I"⟩) ∈ WG := WG_4 (List.mem_of_getElem? (i := 148) rfl) rfl
theorem gw4_149 : (Jvm.Cond.code ⟨"OriginRallyModel", "record", "(III)I"⟩ prog_8_method_32_code 6 (Option.some Jvm.ClassFile.FieldType.int)) ∈ WG := WG_4 (List.mem_of_getElem? (i := 149) rfl) rfl
theorem gw4_150 : (Jvm.Cond.methodLink "OriginRallyModel" 147 ⟨"OriginRallyModel", "isGate", "(I)Z"⟩) ∈ WG := WG_4 (List.mem_of_getElem? (i := 150) rfl) rfl
theorem gw4_152 : (Jvm.Cond.instanceMethod ⟨"OriginRallyModel", "isGate", "(I)Z"⟩) ∈ WG := WG_4 (List.mem_of_getElem? (i := 152) rfl) rfl
theorem gw4_153 : (Jvm.Cond.code ⟨"OriginRallyModel", "isGate", "(I)Z"⟩ prog_8_method_6_code 2 (Option.some Jvm.ClassFile.FieldType.boolean)) ∈ WG := WG_4 (List.mem_of_getElem? (i := 153) rfl) rfl
theorem gw4_154 : (Jvm.Cond.methodLink "OriginRallyModel" 150 ⟨"OriginRallyModel", "timeOf", "(II)I"⟩) ∈ WG := WG_4 (List.mem_of_getElem? (i := 154) rfl) rfl
theorem gw4_156 : (Jvm.Cond.instanceMethod ⟨"OriginRallyModel", "timeOf", "(II)I"⟩) ∈ WG := WG_4 (List.mem_of_getElem? (i := 156) rfl) rfl
theorem gw4_157 : (Jvm.Cond.code ⟨"OriginRallyModel", "timeOf", "(II)I"⟩ prog_8_method_31_code 4 (Option.some Jvm.ClassFile.FieldType.int)) ∈ WG := WG_4 (List.mem_of_getElem? (i := 157) rfl) rfl
theorem gw4_158 : (Jvm.Cond.methodLink "OriginRallyModel" 143 ⟨"OriginRallyModel", "passedAt", "(II)I"⟩) ∈ WG := WG_4 (List.mem_of_getElem? (i := 158) rfl) rfl
theorem gw4_160 : (Jvm.Cond.instanceMethod ⟨"OriginRallyModel", "passedAt", "(II)I"⟩) ∈ WG := WG_4 (List.mem_of_getElem? (i := 160) rfl) rfl
theorem gw4_161 : (Jvm.Cond.code ⟨"OriginRallyModel", "passedAt", "(II)I"⟩ prog_8_method_17_code 6 (Option.some Jvm.ClassFile.FieldType.int)) ∈ WG := WG_4 (List.mem_of_getElem? (i := 161) rfl) rfl
theorem gw4_162 : (Jvm.Cond.methodLink "OriginRallyModel" 109 ⟨"OriginRallyModel", "cellOfGate", "(I)I"⟩) ∈ WG := WG_4 (List.mem_of_getElem? (i := 162) rfl) rfl
theorem gw4_164 : (Jvm.Cond.instanceMethod ⟨"OriginRallyModel", "cellOfGate", "(I)I"⟩) ∈ WG := WG_4 (List.mem_of_getElem? (i := 164) rfl) rfl
theorem gw4_165 : (Jvm.Cond.code ⟨"OriginRallyModel", "cellOfGate", "(I)I"⟩ prog_8_method_15_code 2 (Option.some Jvm.ClassFile.FieldType.int)) ∈ WG := WG_4 (List.mem_of_getElem? (i := 165) rfl) rfl
theorem gw4_166 : (Jvm.Cond.methodLink "OriginRallyModel" 112 ⟨"OriginRallyModel", "firstIn", "(III)I"⟩) ∈ WG := WG_4 (List.mem_of_getElem? (i := 166) rfl) rfl
theorem gw4_168 : (Jvm.Cond.instanceMethod ⟨"OriginRallyModel", "firstIn", "(III)I"⟩) ∈ WG := WG_4 (List.mem_of_getElem? (i := 168) rfl) rfl
theorem gw4_169 : (Jvm.Cond.code ⟨"OriginRallyModel", "firstIn", "(III)I"⟩ prog_8_method_16_code 7 (Option.some Jvm.ClassFile.FieldType.int)) ∈ WG := WG_4 (List.mem_of_getElem? (i := 169) rfl) rfl
theorem gw4_170 : (Jvm.Cond.methodLink "OriginRallyLaw" 154 ⟨"OriginRallyModel", "appeal", "(II)Z"⟩) ∈ WG := WG_4 (List.mem_of_getElem? (i := 170) rfl) rfl
theorem gw4_171 : (Jvm.Cond.instanceMethod ⟨"OriginRallyModel", "appeal", "(II)Z"⟩) ∈ WG := WG_4 (List.mem_of_getElem? (i := 171) rfl) rfl
theorem gw4_172 : (Jvm.Cond.selects "OriginRallyModel" ⟨"OriginRallyModel", "appeal", "(II)Z"⟩ ⟨"OriginRallyModel", "appeal", "(II)Z"⟩) ∈ WG := WG_4 (List.mem_of_getElem? (i := 172) rfl) rfl
theorem gw4_173 : (Jvm.Cond.code ⟨"OriginRallyModel", "appeal", "(II)Z"⟩ prog_8_method_33_code 5 (Option.some Jvm.ClassFile.FieldType.boolean)) ∈ WG := WG_4 (List.mem_of_getElem? (i := 173) rfl) rfl
theorem gw4_174 : (Jvm.Cond.methodLink "OriginRallyLaw" 158 ⟨"OriginRallyModel", "gates", "()I"⟩) ∈ WG := WG_4 (List.mem_of_getElem? (i := 174) rfl) rfl
theorem gw4_175 : (Jvm.Cond.instanceMethod ⟨"OriginRallyModel", "gates", "()I"⟩) ∈ WG := WG_4 (List.mem_of_getElem? (i := 175) rfl) rfl
theorem gw4_176 : (Jvm.Cond.selects "OriginRallyModel" ⟨"OriginRallyModel", "gates", "()I"⟩ ⟨"OriginRallyModel", "gates", "()I"⟩) ∈ WG := WG_4 (List.mem_of_getElem? (i := 176) rfl) rfl
theorem gw4_177 : (Jvm.Cond.code ⟨"OriginRallyModel", "gates", "()I"⟩ prog_8_method_34_code 1 (Option.some Jvm.ClassFile.FieldType.int)) ∈ WG := WG_4 (List.mem_of_getElem? (i := 177) rfl) rfl
theorem gw4_178 : (Jvm.Cond.methodLink "OriginRallyLaw" 161 ⟨"OriginRallyModel", "cellOf", "(I)I"⟩) ∈ WG := WG_4 (List.mem_of_getElem? (i := 178) rfl) rfl
theorem gw4_179 : (Jvm.Cond.instanceMethod ⟨"OriginRallyModel", "cellOf", "(I)I"⟩) ∈ WG := WG_4 (List.mem_of_getElem? (i := 179) rfl) rfl
theorem gw4_180 : (Jvm.Cond.selects "OriginRallyModel" ⟨"OriginRallyModel", "cellOf", "(I)I"⟩ ⟨"OriginRallyModel", "cellOf", "(I)I"⟩) ∈ WG := WG_4 (List.mem_of_getElem? (i := 180) rfl) rfl
theorem gw4_181 : (Jvm.Cond.code ⟨"OriginRallyModel", "cellOf", "(I)I"⟩ prog_8_method_35_code 2 (Option.some Jvm.ClassFile.FieldType.int)) ∈ WG := WG_4 (List.mem_of_getElem? (i := 181) rfl) rfl
theorem gw4_182 : (Jvm.Cond.methodLink "OriginRallyLaw" 164 ⟨"OriginRallyModel", "due", "(I)I"⟩) ∈ WG := WG_4 (List.mem_of_getElem? (i := 182) rfl) rfl
theorem gw4_183 : (Jvm.Cond.instanceMethod ⟨"OriginRallyModel", "due", "(I)I"⟩) ∈ WG := WG_4 (List.mem_of_getElem? (i := 183) rfl) rfl
theorem gw4_184 : (Jvm.Cond.selects "OriginRallyModel" ⟨"OriginRallyModel", "due", "(I)I"⟩ ⟨"OriginRallyModel", "due", "(I)I"⟩) ∈ WG := WG_4 (List.mem_of_getElem? (i := 184) rfl) rfl
theorem gw4_185 : (Jvm.Cond.code ⟨"OriginRallyModel", "due", "(I)I"⟩ prog_8_method_37_code 2 (Option.some Jvm.ClassFile.FieldType.int)) ∈ WG := WG_4 (List.mem_of_getElem? (i := 185) rfl) rfl
theorem gw4_186 : (Jvm.Cond.methodLink "OriginRallyModel" 153 ⟨"OriginRallyModel", "dueAt", "(I)I"⟩) ∈ WG := WG_4 (List.mem_of_getElem? (i := 186) rfl) rfl
theorem gw4_188 : (Jvm.Cond.instanceMethod ⟨"OriginRallyModel", "dueAt", "(I)I"⟩) ∈ WG := WG_4 (List.mem_of_getElem? (i := 188) rfl) rfl
theorem gw4_189 : (Jvm.Cond.code ⟨"OriginRallyModel", "dueAt", "(I)I"⟩ prog_8_method_36_code 4 (Option.some Jvm.ClassFile.FieldType.int)) ∈ WG := WG_4 (List.mem_of_getElem? (i := 189) rfl) rfl
theorem gw4_190 : (Jvm.Cond.methodLink "OriginRallyLaw" 167 ⟨"OriginRallyModel", "followed", "(I)I"⟩) ∈ WG := WG_4 (List.mem_of_getElem? (i := 190) rfl) rfl
theorem gw4_191 : (Jvm.Cond.instanceMethod ⟨"OriginRallyModel", "followed", "(I)I"⟩) ∈ WG := WG_4 (List.mem_of_getElem? (i := 191) rfl) rfl
theorem gw4_192 : (Jvm.Cond.selects "OriginRallyModel" ⟨"OriginRallyModel", "followed", "(I)I"⟩ ⟨"OriginRallyModel", "followed", "(I)I"⟩) ∈ WG := WG_4 (List.mem_of_getElem? (i := 192) rfl) rfl
theorem gw4_193 : (Jvm.Cond.code ⟨"OriginRallyModel", "followed", "(I)I"⟩ prog_8_method_38_code 5 (Option.some Jvm.ClassFile.FieldType.int)) ∈ WG := WG_4 (List.mem_of_getElem? (i := 193) rfl) rfl
theorem gw4_194 : (Jvm.Cond.methodLink "OriginRallyLaw" 170 ⟨"OriginRallyModel", "cellAt", "(II)I"⟩) ∈ WG := WG_4 (List.mem_of_getElem? (i := 194) rfl) rfl
theorem gw4_195 : (Jvm.Cond.instanceMethod ⟨"OriginRallyModel", "cellAt", "(II)I"⟩) ∈ WG := WG_4 (List.mem_of_getElem? (i := 195) rfl) rfl
theorem gw4_196 : (Jvm.Cond.selects "OriginRallyModel" ⟨"OriginRallyModel", "cellAt", "(II)I"⟩ ⟨"OriginRallyModel", "cellAt", "(II)I"⟩) ∈ WG := WG_4 (List.mem_of_getElem? (i := 196) rfl) rfl
theorem gw4_197 : (Jvm.Cond.code ⟨"OriginRallyModel", "cellAt", "(II)I"⟩ prog_8_method_39_code 4 (Option.some Jvm.ClassFile.FieldType.int)) ∈ WG := WG_4 (List.mem_of_getElem? (i := 197) rfl) rfl
theorem gw4_198 : (Jvm.Cond.methodLink "OriginRallyLaw" 173 ⟨"OriginRallyModel", "clock", "(I)I"⟩) ∈ WG := WG_4 (List.mem_of_getElem? (i := 198) rfl) rfl
theorem gw4_199 : (Jvm.Cond.instanceMethod ⟨"OriginRallyModel", "clock", "(I)I"⟩) ∈ WG := WG_4 (List.mem_of_getElem? (i := 199) rfl) rfl
theorem gw4_200 : (Jvm.Cond.selects "OriginRallyModel" ⟨"OriginRallyModel", "clock", "(I)I"⟩ ⟨"OriginRallyModel", "clock", "(I)I"⟩) ∈ WG := WG_4 (List.mem_of_getElem? (i := 200) rfl) rfl
theorem gw4_201 : (Jvm.Cond.code ⟨"OriginRallyModel", "clock", "(I)I"⟩ prog_8_method_40_code 2 (Option.some Jvm.ClassFile.FieldType.int)) ∈ WG := WG_4 (List.mem_of_getElem? (i := 201) rfl) rfl
theorem gw4_202 : (Jvm.Cond.methodLink "OriginRallyLaw" 176 ⟨"OriginRallyModel", "byTrack", "(II)I"⟩) ∈ WG := WG_4 (List.mem_of_getElem? (i := 202) rfl) rfl
theorem gw4_203 : (Jvm.Cond.instanceMethod ⟨"OriginRallyModel", "byTrack", "(II)I"⟩) ∈ WG := WG_4 (List.mem_of_getElem? (i := 203) rfl) rfl
theorem gw4_204 : (Jvm.Cond.selects "OriginRallyModel" ⟨"OriginRallyModel", "byTrack", "(II)I"⟩ ⟨"OriginRallyModel", "byTrack", "(II)I"⟩) ∈ WG := WG_4 (List.mem_of_getElem? (i := 204) rfl) rfl
theorem gw4_205 : (Jvm.Cond.code ⟨"OriginRallyModel", "byTrack", "(II)I"⟩ prog_8_method_41_code 3 (Option.some Jvm.ClassFile.FieldType.int)) ∈ WG := WG_4 (List.mem_of_getElem? (i := 205) rfl) rfl
theorem gw4_206 : (Jvm.Cond.methodLink "OriginRallyModel" 156 ⟨"OriginRallyModel", "byMinutes", "(II)I"⟩) ∈ WG := WG_4 (List.mem_of_getElem? (i := 206) rfl) rfl
theorem gw4_207 : (Jvm.Cond.instanceMethod ⟨"OriginRallyModel", "byMinutes", "(II)I"⟩) ∈ WG := WG_4 (List.mem_of_getElem? (i := 207) rfl) rfl
theorem gw4_208 : (Jvm.Cond.selects "OriginRallyModel" ⟨"OriginRallyModel", "byMinutes", "(II)I"⟩ ⟨"OriginRallyModel", "byMinutes", "(II)I"⟩) ∈ WG := WG_4 (List.mem_of_getElem? (i := 208) rfl) rfl
theorem gw4_209 : (Jvm.Cond.code ⟨"OriginRallyModel", "byMinutes", "(II)I"⟩ prog_8_method_42_code 3 (Option.some Jvm.ClassFile.FieldType.int)) ∈ WG := WG_4 (List.mem_of_getElem? (i := 209) rfl) rfl
theorem gw4_210 : (Jvm.Cond.methodLink "OriginRallyLaw" 179 ⟨"OriginRallyModel", "byMinutes", "(II)I"⟩) ∈ WG := WG_4 (List.mem_of_getElem? (i := 210) rfl) rfl
theorem gw4_211 : (Jvm.Cond.methodLink "OriginRallyLaw" 182 ⟨"OriginRallyModel", "time", "(II)I"⟩) ∈ WG := WG_4 (List.mem_of_getElem? (i := 211) rfl) rfl
theorem gw4_212 : (Jvm.Cond.instanceMethod ⟨"OriginRallyModel", "time", "(II)I"⟩) ∈ WG := WG_4 (List.mem_of_getElem? (i := 212) rfl) rfl
theorem gw4_213 : (Jvm.Cond.selects "OriginRallyModel" ⟨"OriginRallyModel", "time", "(II)I"⟩ ⟨"OriginRallyModel", "time", "(II)I"⟩) ∈ WG := WG_4 (List.mem_of_getElem? (i := 213) rfl) rfl
theorem gw4_214 : (Jvm.Cond.code ⟨"OriginRallyModel", "time", "(II)I"⟩ prog_8_method_43_code 3 (Option.some Jvm.ClassFile.FieldType.int)) ∈ WG := WG_4 (List.mem_of_getElem? (i := 214) rfl) rfl
theorem gw4_215 : (Jvm.Cond.methodLink "OriginRallyLaw" 185 ⟨"OriginRallyModel", "points", "(I)I"⟩) ∈ WG := WG_4 (List.mem_of_getElem? (i := 215) rfl) rfl
theorem gw4_216 : (Jvm.Cond.instanceMethod ⟨"OriginRallyModel", "points", "(I)I"⟩) ∈ WG := WG_4 (List.mem_of_getElem? (i := 216) rfl) rfl
theorem gw4_217 : (Jvm.Cond.selects "OriginRallyModel" ⟨"OriginRallyModel", "points", "(I)I"⟩ ⟨"OriginRallyModel", "points", "(I)I"⟩) ∈ WG := WG_4 (List.mem_of_getElem? (i := 217) rfl) rfl
theorem gw4_218 : (Jvm.Cond.code ⟨"OriginRallyModel", "points", "(I)I"⟩ prog_8_method_45_code 2 (Option.some Jvm.ClassFile.FieldType.int)) ∈ WG := WG_4 (List.mem_of_getElem? (i := 218) rfl) rfl
theorem gw4_219 : (Jvm.Cond.methodLink "OriginRallyModel" 159 ⟨"OriginRallyModel", "pointsOf", "(I)I"⟩) ∈ WG := WG_4 (List.mem_of_getElem? (i := 219) rfl) rfl
theorem gw4_221 : (Jvm.Cond.instanceMethod ⟨"OriginRallyModel", "pointsOf", "(I)I"⟩) ∈ WG := WG_4 (List.mem_of_getElem? (i := 221) rfl) rfl
theorem gw4_222 : (Jvm.Cond.code ⟨"OriginRallyModel", "pointsOf", "(I)I"⟩ prog_8_method_44_code 10 (Option.some Jvm.ClassFile.FieldType.int)) ∈ WG := WG_4 (List.mem_of_getElem? (i := 222) rfl) rfl
theorem gw4_223 : (Jvm.Cond.methodLink "OriginRallyLaw" 188 ⟨"OriginRallyModel", "table", "(I)I"⟩) ∈ WG := WG_4 (List.mem_of_getElem? (i := 223) rfl) rfl
theorem gw4_224 : (Jvm.Cond.instanceMethod ⟨"OriginRallyModel", "table", "(I)I"⟩) ∈ WG := WG_4 (List.mem_of_getElem? (i := 224) rfl) rfl
theorem gw4_225 : (Jvm.Cond.selects "OriginRallyModel" ⟨"OriginRallyModel", "table", "(I)I"⟩ ⟨"OriginRallyModel", "table", "(I)I"⟩) ∈ WG := WG_4 (List.mem_of_getElem? (i := 225) rfl) rfl
theorem gw4_226 : (Jvm.Cond.code ⟨"OriginRallyModel", "table", "(I)I"⟩ prog_8_method_46_code 6 (Option.some Jvm.ClassFile.FieldType.int)) ∈ WG := WG_4 (List.mem_of_getElem? (i := 226) rfl) rfl
theorem gw4_227 : (Jvm.Cond.methodLink "OriginRallyLaw" 191 ⟨"OriginRallyModel", "where", "(I)I"⟩) ∈ WG := WG_4 (List.mem_of_getElem? (i := 227) rfl) rfl
theorem gw4_228 : (Jvm.Cond.instanceMethod ⟨"OriginRallyModel", "where", "(I)I"⟩) ∈ WG := WG_4 (List.mem_of_getElem? (i := 228) rfl) rfl
theorem gw4_229 : (Jvm.Cond.selects "OriginRallyModel" ⟨"OriginRallyModel", "where", "(I)I"⟩ ⟨"OriginRallyModel", "where", "(I)I"⟩) ∈ WG := WG_4 (List.mem_of_getElem? (i := 229) rfl) rfl
theorem gw4_230 : (Jvm.Cond.code ⟨"OriginRallyModel", "where", "(I)I"⟩ prog_8_method_48_code 2 (Option.some Jvm.ClassFile.FieldType.int)) ∈ WG := WG_4 (List.mem_of_getElem? (i := 230) rfl) rfl
theorem gw4_231 : (Jvm.Cond.methodLink "OriginRallyModel" 162 ⟨"OriginRallyModel", "isPart", "(I)Z"⟩) ∈ WG := WG_4 (List.mem_of_getElem? (i := 231) rfl) rfl
theorem gw4_233 : (Jvm.Cond.instanceMethod ⟨"OriginRallyModel", "isPart", "(I)Z"⟩) ∈ WG := WG_4 (List.mem_of_getElem? (i := 233) rfl) rfl
theorem gw4_234 : (Jvm.Cond.code ⟨"OriginRallyModel", "isPart", "(I)Z"⟩ prog_8_method_47_code 2 (Option.some Jvm.ClassFile.FieldType.boolean)) ∈ WG := WG_4 (List.mem_of_getElem? (i := 234) rfl) rfl
theorem gw4_235 : (Jvm.Cond.methodLink "OriginRallyLaw" 194 ⟨"OriginRallyModel", "lent", "(I)I"⟩) ∈ WG := WG_4 (List.mem_of_getElem? (i := 235) rfl) rfl
theorem gw4_236 : (Jvm.Cond.instanceMethod ⟨"OriginRallyModel", "lent", "(I)I"⟩) ∈ WG := WG_4 (List.mem_of_getElem? (i := 236) rfl) rfl
theorem gw4_237 : (Jvm.Cond.selects "OriginRallyModel" ⟨"OriginRallyModel", "lent", "(I)I"⟩ ⟨"OriginRallyModel", "lent", "(I)I"⟩) ∈ WG := WG_4 (List.mem_of_getElem? (i := 237) rfl) rfl
theorem gw4_238 : (Jvm.Cond.code ⟨"OriginRallyModel", "lent", "(I)I"⟩ prog_8_method_49_code 5 (Option.some Jvm.ClassFile.FieldType.int)) ∈ WG := WG_4 (List.mem_of_getElem? (i := 238) rfl) rfl
theorem gw4_239 : (Jvm.Cond.methodLink "OriginRallyLaw" 197 ⟨"OriginRallyModel", "isBroken", "(I)Z"⟩) ∈ WG := WG_4 (List.mem_of_getElem? (i := 239) rfl) rfl
theorem gw5_0 : (Jvm.Cond.instanceMethod ⟨"OriginRallyModel", "isBroken", "(I)Z"⟩) ∈ WG := WG_5 (List.mem_of_getElem? (i := 0) rfl) rfl
theorem gw5_1 : (Jvm.Cond.selects "OriginRallyModel" ⟨"OriginRallyModel", "isBroken", "(I)Z"⟩ ⟨"OriginRallyModel", "isBroken", "(I)Z"⟩) ∈ WG := WG_5 (List.mem_of_getElem? (i := 1) rfl) rfl
theorem gw5_2 : (Jvm.Cond.code ⟨"OriginRallyModel", "isBroken", "(I)Z"⟩ prog_8_method_50_code 2 (Option.some Jvm.ClassFile.FieldType.boolean)) ∈ WG := WG_5 (List.mem_of_getElem? (i := 2) rfl) rfl
theorem gw5_3 : (Jvm.Cond.arrayClass Jvm.ClassFile.FieldType.long) ∈ WG := WG_5 (List.mem_of_getElem? (i := 3) rfl) rfl
theorem gws_0 : Cond.selects (⟨"java/lang/Throwable", "fillInStackTrace", "(I)Ljava/lang/Throwable;"⟩ : MethodName).cls ⟨"java/lang/Throwable", "fillInStackTrace", "(I)Ljava/lang/Throwable;"⟩ ⟨"java/lang/Throwable", "fillInStackTrace", "(I)Ljava/lang/Throwable;"⟩ ∈ WG := WG_s (List.mem_map.mpr ⟨(⟨"java/lang/Throwable", "fillInStackTrace", "(I)Ljava/lang/Throwable;"⟩, 6), List.mem_of_getElem? (i := 0) rfl, rfl⟩) rfl
theorem gws_1 : Cond.selects (⟨"OriginRally$Way", "append", "(LOriginRally$Piece;)V"⟩ : MethodName).cls ⟨"OriginRally$Way", "append", "(LOriginRally$Piece;)V"⟩ ⟨"OriginRally$Way", "append", "(LOriginRally$Piece;)V"⟩ ∈ WG := WG_s (List.mem_map.mpr ⟨(⟨"OriginRally$Way", "append", "(LOriginRally$Piece;)V"⟩, 5), List.mem_of_getElem? (i := 1) rfl, rfl⟩) rfl
theorem gws_2 : Cond.selects (⟨"OriginRally", "entryAt", "(I)LOriginRally$Piece;"⟩ : MethodName).cls ⟨"OriginRally", "entryAt", "(I)LOriginRally$Piece;"⟩ ⟨"OriginRally", "entryAt", "(I)LOriginRally$Piece;"⟩ ∈ WG := WG_s (List.mem_map.mpr ⟨(⟨"OriginRally", "entryAt", "(I)LOriginRally$Piece;"⟩, 10), List.mem_of_getElem? (i := 2) rfl, rfl⟩) rfl
theorem gws_3 : Cond.selects (⟨"OriginRally", "lastGateEntry", "()I"⟩ : MethodName).cls ⟨"OriginRally", "lastGateEntry", "()I"⟩ ⟨"OriginRally", "lastGateEntry", "()I"⟩ ∈ WG := WG_s (List.mem_map.mpr ⟨(⟨"OriginRally", "lastGateEntry", "()I"⟩, 10), List.mem_of_getElem? (i := 3) rfl, rfl⟩) rfl
theorem gws_4 : Cond.selects (⟨"OriginRally", "gateAt", "(I)LOriginRally$Gate;"⟩ : MethodName).cls ⟨"OriginRally", "gateAt", "(I)LOriginRally$Gate;"⟩ ⟨"OriginRally", "gateAt", "(I)LOriginRally$Gate;"⟩ ∈ WG := WG_s (List.mem_map.mpr ⟨(⟨"OriginRally", "gateAt", "(I)LOriginRally$Gate;"⟩, 10), List.mem_of_getElem? (i := 4) rfl, rfl⟩) rfl
theorem gws_5 : Cond.selects (⟨"OriginRally", "carAt", "(I)LOriginRally$Car;"⟩ : MethodName).cls ⟨"OriginRally", "carAt", "(I)LOriginRally$Car;"⟩ ⟨"OriginRally", "carAt", "(I)LOriginRally$Car;"⟩ ∈ WG := WG_s (List.mem_map.mpr ⟨(⟨"OriginRally", "carAt", "(I)LOriginRally$Car;"⟩, 10), List.mem_of_getElem? (i := 5) rfl, rfl⟩) rfl
theorem gws_6 : Cond.selects (⟨"OriginRally", "isCar", "(I)Z"⟩ : MethodName).cls ⟨"OriginRally", "isCar", "(I)Z"⟩ ⟨"OriginRally", "isCar", "(I)Z"⟩ ∈ WG := WG_s (List.mem_map.mpr ⟨(⟨"OriginRally", "isCar", "(I)Z"⟩, 10), List.mem_of_getElem? (i := 6) rfl, rfl⟩) rfl
theorem gws_7 : Cond.selects (⟨"OriginRally", "firstPartIn", "(II)I"⟩ : MethodName).cls ⟨"OriginRally", "firstPartIn", "(II)I"⟩ ⟨"OriginRally", "firstPartIn", "(II)I"⟩ ∈ WG := WG_s (List.mem_map.mpr ⟨(⟨"OriginRally", "firstPartIn", "(II)I"⟩, 10), List.mem_of_getElem? (i := 7) rfl, rfl⟩) rfl
theorem gws_8 : Cond.selects (⟨"OriginRally", "partAt", "(I)LOriginRally$Part;"⟩ : MethodName).cls ⟨"OriginRally", "partAt", "(I)LOriginRally$Part;"⟩ ⟨"OriginRally", "partAt", "(I)LOriginRally$Part;"⟩ ∈ WG := WG_s (List.mem_map.mpr ⟨(⟨"OriginRally", "partAt", "(I)LOriginRally$Part;"⟩, 10), List.mem_of_getElem? (i := 8) rfl, rfl⟩) rfl
theorem gws_9 : Cond.selects (⟨"OriginRally", "isPlace", "(I)Z"⟩ : MethodName).cls ⟨"OriginRally", "isPlace", "(I)Z"⟩ ⟨"OriginRally", "isPlace", "(I)Z"⟩ ∈ WG := WG_s (List.mem_map.mpr ⟨(⟨"OriginRally", "isPlace", "(I)Z"⟩, 10), List.mem_of_getElem? (i := 9) rfl, rfl⟩) rfl
theorem gws_10 : Cond.selects (⟨"OriginRally", "cellOfPlace", "(I)I"⟩ : MethodName).cls ⟨"OriginRally", "cellOfPlace", "(I)I"⟩ ⟨"OriginRally", "cellOfPlace", "(I)I"⟩ ∈ WG := WG_s (List.mem_map.mpr ⟨(⟨"OriginRally", "cellOfPlace", "(I)I"⟩, 10), List.mem_of_getElem? (i := 10) rfl, rfl⟩) rfl
theorem gws_11 : Cond.selects (⟨"OriginRally", "checkGate", "(I)V"⟩ : MethodName).cls ⟨"OriginRally", "checkGate", "(I)V"⟩ ⟨"OriginRally", "checkGate", "(I)V"⟩ ∈ WG := WG_s (List.mem_map.mpr ⟨(⟨"OriginRally", "checkGate", "(I)V"⟩, 10), List.mem_of_getElem? (i := 11) rfl, rfl⟩) rfl
theorem gws_12 : Cond.selects (⟨"OriginRally", "passMinute", "(LOriginRally$Car;I)I"⟩ : MethodName).cls ⟨"OriginRally", "passMinute", "(LOriginRally$Car;I)I"⟩ ⟨"OriginRally", "passMinute", "(LOriginRally$Car;I)I"⟩ ∈ WG := WG_s (List.mem_map.mpr ⟨(⟨"OriginRally", "passMinute", "(LOriginRally$Car;I)I"⟩, 10), List.mem_of_getElem? (i := 12) rfl, rfl⟩) rfl
theorem gws_13 : Cond.selects (⟨"OriginRally$Piece", "cellsOnTo", "(I)I"⟩ : MethodName).cls ⟨"OriginRally$Piece", "cellsOnTo", "(I)I"⟩ ⟨"OriginRally$Piece", "cellsOnTo", "(I)I"⟩ ∈ WG := WG_s (List.mem_map.mpr ⟨(⟨"OriginRally$Piece", "cellsOnTo", "(I)I"⟩, 6), List.mem_of_getElem? (i := 13) rfl, rfl⟩) rfl
theorem gws_14 : Cond.selects (⟨"OriginRally$Way", "endsAhead", "(II)Z"⟩ : MethodName).cls ⟨"OriginRally$Way", "endsAhead", "(II)Z"⟩ ⟨"OriginRally$Way", "endsAhead", "(II)Z"⟩ ∈ WG := WG_s (List.mem_map.mpr ⟨(⟨"OriginRally$Way", "endsAhead", "(II)Z"⟩, 5), List.mem_of_getElem? (i := 14) rfl, rfl⟩) rfl
theorem gws_15 : Cond.selects (⟨"OriginRally", "pointsOf", "(LOriginRally$Car;)I"⟩ : MethodName).cls ⟨"OriginRally", "pointsOf", "(LOriginRally$Car;)I"⟩ ⟨"OriginRally", "pointsOf", "(LOriginRally$Car;)I"⟩ ∈ WG := WG_s (List.mem_map.mpr ⟨(⟨"OriginRally", "pointsOf", "(LOriginRally$Car;)I"⟩, 10), List.mem_of_getElem? (i := 15) rfl, rfl⟩) rfl
theorem gws_16 : Cond.selects (⟨"OriginRally", "placeOf", "(I)I"⟩ : MethodName).cls ⟨"OriginRally", "placeOf", "(I)I"⟩ ⟨"OriginRally", "placeOf", "(I)I"⟩ ∈ WG := WG_s (List.mem_map.mpr ⟨(⟨"OriginRally", "placeOf", "(I)I"⟩, 10), List.mem_of_getElem? (i := 16) rfl, rfl⟩) rfl
theorem gws_17 : Cond.selects (⟨"OriginRallyModel", "goesWell", "(I)Z"⟩ : MethodName).cls ⟨"OriginRallyModel", "goesWell", "(I)Z"⟩ ⟨"OriginRallyModel", "goesWell", "(I)Z"⟩ ∈ WG := WG_s (List.mem_map.mpr ⟨(⟨"OriginRallyModel", "goesWell", "(I)Z"⟩, 26), List.mem_of_getElem? (i := 17) rfl, rfl⟩) rfl
theorem gws_18 : Cond.selects (⟨"OriginRallyModel", "followBook", "(I)V"⟩ : MethodName).cls ⟨"OriginRallyModel", "followBook", "(I)V"⟩ ⟨"OriginRallyModel", "followBook", "(I)V"⟩ ∈ WG := WG_s (List.mem_map.mpr ⟨(⟨"OriginRallyModel", "followBook", "(I)V"⟩, 26), List.mem_of_getElem? (i := 18) rfl, rfl⟩) rfl
theorem gws_19 : Cond.selects (⟨"OriginRallyModel", "begin", "()V"⟩ : MethodName).cls ⟨"OriginRallyModel", "begin", "()V"⟩ ⟨"OriginRallyModel", "begin", "()V"⟩ ∈ WG := WG_s (List.mem_map.mpr ⟨(⟨"OriginRallyModel", "begin", "()V"⟩, 26), List.mem_of_getElem? (i := 19) rfl, rfl⟩) rfl
theorem gws_20 : Cond.selects (⟨"OriginRallyModel", "goOn", "(I)V"⟩ : MethodName).cls ⟨"OriginRallyModel", "goOn", "(I)V"⟩ ⟨"OriginRallyModel", "goOn", "(I)V"⟩ ∈ WG := WG_s (List.mem_map.mpr ⟨(⟨"OriginRallyModel", "goOn", "(I)V"⟩, 26), List.mem_of_getElem? (i := 20) rfl, rfl⟩) rfl
theorem gws_21 : Cond.selects (⟨"OriginRallyModel", "isOnGround", "()Z"⟩ : MethodName).cls ⟨"OriginRallyModel", "isOnGround", "()Z"⟩ ⟨"OriginRallyModel", "isOnGround", "()Z"⟩ ∈ WG := WG_s (List.mem_map.mpr ⟨(⟨"OriginRallyModel", "isOnGround", "()Z"⟩, 26), List.mem_of_getElem? (i := 21) rfl, rfl⟩) rfl
theorem gws_22 : Cond.selects (⟨"OriginRallyModel", "cell", "()I"⟩ : MethodName).cls ⟨"OriginRallyModel", "cell", "()I"⟩ ⟨"OriginRallyModel", "cell", "()I"⟩ ∈ WG := WG_s (List.mem_map.mpr ⟨(⟨"OriginRallyModel", "cell", "()I"⟩, 26), List.mem_of_getElem? (i := 22) rfl, rfl⟩) rfl
theorem gws_23 : Cond.selects (⟨"OriginRallyModel", "isCar", "(I)Z"⟩ : MethodName).cls ⟨"OriginRallyModel", "isCar", "(I)Z"⟩ ⟨"OriginRallyModel", "isCar", "(I)Z"⟩ ∈ WG := WG_s (List.mem_map.mpr ⟨(⟨"OriginRallyModel", "isCar", "(I)Z"⟩, 26), List.mem_of_getElem? (i := 23) rfl, rfl⟩) rfl
theorem gws_24 : Cond.selects (⟨"OriginRallyModel", "clockOf", "(I)I"⟩ : MethodName).cls ⟨"OriginRallyModel", "clockOf", "(I)I"⟩ ⟨"OriginRallyModel", "clockOf", "(I)I"⟩ ∈ WG := WG_s (List.mem_map.mpr ⟨(⟨"OriginRallyModel", "clockOf", "(I)I"⟩, 26), List.mem_of_getElem? (i := 24) rfl, rfl⟩) rfl
theorem gws_25 : Cond.selects (⟨"OriginRallyModel", "followTrack", "(II)V"⟩ : MethodName).cls ⟨"OriginRallyModel", "followTrack", "(II)V"⟩ ⟨"OriginRallyModel", "followTrack", "(II)V"⟩ ∈ WG := WG_s (List.mem_map.mpr ⟨(⟨"OriginRallyModel", "followTrack", "(II)V"⟩, 26), List.mem_of_getElem? (i := 25) rfl, rfl⟩) rfl
theorem gws_26 : Cond.selects (⟨"OriginRallyModel", "addPiece", "(IIII)I"⟩ : MethodName).cls ⟨"OriginRallyModel", "addPiece", "(IIII)I"⟩ ⟨"OriginRallyModel", "addPiece", "(IIII)I"⟩ ∈ WG := WG_s (List.mem_map.mpr ⟨(⟨"OriginRallyModel", "addPiece", "(IIII)I"⟩, 26), List.mem_of_getElem? (i := 26) rfl, rfl⟩) rfl
theorem gws_27 : Cond.selects (⟨"OriginRallyModel", "cellOfPlace", "(I)I"⟩ : MethodName).cls ⟨"OriginRallyModel", "cellOfPlace", "(I)I"⟩ ⟨"OriginRallyModel", "cellOfPlace", "(I)I"⟩ ∈ WG := WG_s (List.mem_map.mpr ⟨(⟨"OriginRallyModel", "cellOfPlace", "(I)I"⟩, 26), List.mem_of_getElem? (i := 27) rfl, rfl⟩) rfl
theorem gws_28 : Cond.selects (⟨"OriginRallyModel", "cellNow", "(I)I"⟩ : MethodName).cls ⟨"OriginRallyModel", "cellNow", "(I)I"⟩ ⟨"OriginRallyModel", "cellNow", "(I)I"⟩ ∈ WG := WG_s (List.mem_map.mpr ⟨(⟨"OriginRallyModel", "cellNow", "(I)I"⟩, 26), List.mem_of_getElem? (i := 28) rfl, rfl⟩) rfl
theorem gws_29 : Cond.selects (⟨"OriginRallyModel", "isGate", "(I)Z"⟩ : MethodName).cls ⟨"OriginRallyModel", "isGate", "(I)Z"⟩ ⟨"OriginRallyModel", "isGate", "(I)Z"⟩ ∈ WG := WG_s (List.mem_map.mpr ⟨(⟨"OriginRallyModel", "isGate", "(I)Z"⟩, 26), List.mem_of_getElem? (i := 29) rfl, rfl⟩) rfl
theorem gws_30 : Cond.selects (⟨"OriginRallyModel", "timeOf", "(II)I"⟩ : MethodName).cls ⟨"OriginRallyModel", "timeOf", "(II)I"⟩ ⟨"OriginRallyModel", "timeOf", "(II)I"⟩ ∈ WG := WG_s (List.mem_map.mpr ⟨(⟨"OriginRallyModel", "timeOf", "(II)I"⟩, 26), List.mem_of_getElem? (i := 30) rfl, rfl⟩) rfl
theorem gws_31 : Cond.selects (⟨"OriginRallyModel", "passedAt", "(II)I"⟩ : MethodName).cls ⟨"OriginRallyModel", "passedAt", "(II)I"⟩ ⟨"OriginRallyModel", "passedAt", "(II)I"⟩ ∈ WG := WG_s (List.mem_map.mpr ⟨(⟨"OriginRallyModel", "passedAt", "(II)I"⟩, 26), List.mem_of_getElem? (i := 31) rfl, rfl⟩) rfl
theorem gws_32 : Cond.selects (⟨"OriginRallyModel", "cellOfGate", "(I)I"⟩ : MethodName).cls ⟨"OriginRallyModel", "cellOfGate", "(I)I"⟩ ⟨"OriginRallyModel", "cellOfGate", "(I)I"⟩ ∈ WG := WG_s (List.mem_map.mpr ⟨(⟨"OriginRallyModel", "cellOfGate", "(I)I"⟩, 26), List.mem_of_getElem? (i := 32) rfl, rfl⟩) rfl
theorem gws_33 : Cond.selects (⟨"OriginRallyModel", "firstIn", "(III)I"⟩ : MethodName).cls ⟨"OriginRallyModel", "firstIn", "(III)I"⟩ ⟨"OriginRallyModel", "firstIn", "(III)I"⟩ ∈ WG := WG_s (List.mem_map.mpr ⟨(⟨"OriginRallyModel", "firstIn", "(III)I"⟩, 26), List.mem_of_getElem? (i := 33) rfl, rfl⟩) rfl
theorem gws_34 : Cond.selects (⟨"OriginRallyModel", "dueAt", "(I)I"⟩ : MethodName).cls ⟨"OriginRallyModel", "dueAt", "(I)I"⟩ ⟨"OriginRallyModel", "dueAt", "(I)I"⟩ ∈ WG := WG_s (List.mem_map.mpr ⟨(⟨"OriginRallyModel", "dueAt", "(I)I"⟩, 26), List.mem_of_getElem? (i := 34) rfl, rfl⟩) rfl
theorem gws_35 : Cond.selects (⟨"OriginRallyModel", "pointsOf", "(I)I"⟩ : MethodName).cls ⟨"OriginRallyModel", "pointsOf", "(I)I"⟩ ⟨"OriginRallyModel", "pointsOf", "(I)I"⟩ ∈ WG := WG_s (List.mem_map.mpr ⟨(⟨"OriginRallyModel", "pointsOf", "(I)I"⟩, 26), List.mem_of_getElem? (i := 35) rfl, rfl⟩) rfl
theorem gws_36 : Cond.selects (⟨"OriginRallyModel", "isPart", "(I)Z"⟩ : MethodName).cls ⟨"OriginRallyModel", "isPart", "(I)Z"⟩ ⟨"OriginRallyModel", "isPart", "(I)Z"⟩ ∈ WG := WG_s (List.mem_map.mpr ⟨(⟨"OriginRallyModel", "isPart", "(I)Z"⟩, 26), List.mem_of_getElem? (i := 36) rfl, rfl⟩) rfl
end
section
/-! decode rows of OriginRallyModel -/
theorem dX6_init_0 : decode cX6_init 0 = .ok (.aload_n 0, 1) := by decide +kernel
theorem dX6_init_1 : decode cX6_init 1 = .ok (.invokespecial 1, 3) := by decide +kernel
theorem dX6_init_4 : decode cX6_init 4 = .ok (.aload_n 0, 1) := by decide +kernel
theorem dX6_init_5 : decode cX6_init 5 = .ok (.bipush 30, 2) := by decide +kernel
theorem dX6_init_7 : decode cX6_init 7 = .ok (.newarray .int, 2) := by decide +kernel
theorem dX6_init_9 : decode cX6_init 9 = .ok (.putfield 7, 3) := by decide +kernel
theorem dX6_init_12 : decode cX6_init 12 = .ok (.aload_n 0, 1) := by decide +kernel
theorem dX6_init_13 : decode cX6_init 13 = .ok (.bipush 30, 2) := by decide +kernel
theorem dX6_init_15 : decode cX6_init 15 = .ok (.newarray .int, 2) := by decide +kernel
theorem dX6_init_17 : decode cX6_init 17 = .ok (.putfield 13, 3) := by decide +kernel
theorem dX6_init_20 : decode cX6_init 20 = .ok (.aload_n 0, 1) := by decide +kernel
theorem dX6_init_21 : decode cX6_init 21 = .ok (.bipush 10, 2) := by decide +kernel
theorem dX6_init_23 : decode cX6_init 23 = .ok (.newarray .int, 2) := by decide +kernel
theorem dX6_init_25 : decode cX6_init 25 = .ok (.putfield 16, 3) := by decide +kernel
theorem dX6_init_28 : decode cX6_init 28 = .ok (.aload_n 0, 1) := by decide +kernel
theorem dX6_init_29 : decode cX6_init 29 = .ok (.bipush 10, 2) := by decide +kernel
theorem dX6_init_31 : decode cX6_init 31 = .ok (.newarray .int, 2) := by decide +kernel
theorem dX6_init_33 : decode cX6_init 33 = .ok (.putfield 19, 3) := by decide +kernel
theorem dX6_init_36 : decode cX6_init 36 = .ok (.aload_n 0, 1) := by decide +kernel
theorem dX6_init_37 : decode cX6_init 37 = .ok (.bipush 10, 2) := by decide +kernel
theorem dX6_init_39 : decode cX6_init 39 = .ok (.putfield 22, 3) := by decide +kernel
theorem dX6_init_42 : decode cX6_init 42 = .ok (.aload_n 0, 1) := by decide +kernel
theorem dX6_init_43 : decode cX6_init 43 = .ok (.bipush 8, 2) := by decide +kernel
theorem dX6_init_45 : decode cX6_init 45 = .ok (.newarray .int, 2) := by decide +kernel
theorem dX6_init_47 : decode cX6_init 47 = .ok (.putfield 26, 3) := by decide +kernel
theorem dX6_init_50 : decode cX6_init 50 = .ok (.aload_n 0, 1) := by decide +kernel
theorem dX6_init_51 : decode cX6_init 51 = .ok (.sipush 480, 3) := by decide +kernel
theorem dX6_init_54 : decode cX6_init 54 = .ok (.newarray .int, 2) := by decide +kernel
theorem dX6_init_56 : decode cX6_init 56 = .ok (.putfield 29, 3) := by decide +kernel
theorem dX6_init_59 : decode cX6_init 59 = .ok (.aload_n 0, 1) := by decide +kernel
theorem dX6_init_60 : decode cX6_init 60 = .ok (.sipush 480, 3) := by decide +kernel
theorem dX6_init_63 : decode cX6_init 63 = .ok (.newarray .int, 2) := by decide +kernel
theorem dX6_init_65 : decode cX6_init 65 = .ok (.putfield 32, 3) := by decide +kernel
theorem dX6_init_68 : decode cX6_init 68 = .ok (.aload_n 0, 1) := by decide +kernel
theorem dX6_init_69 : decode cX6_init 69 = .ok (.sipush 480, 3) := by decide +kernel
theorem dX6_init_72 : decode cX6_init 72 = .ok (.newarray .int, 2) := by decide +kernel
theorem dX6_init_74 : decode cX6_init 74 = .ok (.putfield 35, 3) := by decide +kernel
theorem dX6_init_77 : decode cX6_init 77 = .ok (.aload_n 0, 1) := by decide +kernel
theorem dX6_init_78 : decode cX6_init 78 = .ok (.bipush 8, 2) := by decide +kernel
theorem dX6_init_80 : decode cX6_init 80 = .ok (.newarray .int, 2) := by decide +kernel
theorem dX6_init_82 : decode cX6_init 82 = .ok (.dup, 1) := by decide +kernel
theorem dX6_init_83 : decode cX6_init 83 = .ok (.iconst 0, 1) := by decide +kernel
theorem dX6_init_84 : decode cX6_init 84 = .ok (.iconst (-1), 1) := by decide +kernel
theorem dX6_init_85 : decode cX6_init 85 = .ok (.iastore, 1) := by decide +kernel
theorem dX6_init_86 : decode cX6_init 86 = .ok (.dup, 1) := by decide +kernel
theorem dX6_init_87 : decode cX6_init 87 = .ok (.iconst 1, 1) := by decide +kernel
theorem dX6_init_88 : decode cX6_init 88 = .ok (.iconst (-1), 1) := by decide +kernel
theorem dX6_init_89 : decode cX6_init 89 = .ok (.iastore, 1) := by decide +kernel
theorem dX6_init_90 : decode cX6_init 90 = .ok (.dup, 1) := by decide +kernel
theorem dX6_init_91 : decode cX6_init 91 = .ok (.iconst 2, 1) := by decide +kernel
theorem dX6_init_92 : decode cX6_init 92 = .ok (.iconst (-1), 1) := by decide +kernel
theorem dX6_init_93 : decode cX6_init 93 = .ok (.iastore, 1) := by decide +kernel
theorem dX6_init_94 : decode cX6_init 94 = .ok (.dup, 1) := by decide +kernel
theorem dX6_init_95 : decode cX6_init 95 = .ok (.iconst 3, 1) := by decide +kernel
theorem dX6_init_96 : decode cX6_init 96 = .ok (.iconst (-1), 1) := by decide +kernel
theorem dX6_init_97 : decode cX6_init 97 = .ok (.iastore, 1) := by decide +kernel
theorem dX6_init_98 : decode cX6_init 98 = .ok (.dup, 1) := by decide +kernel
theorem dX6_init_99 : decode cX6_init 99 = .ok (.iconst 4, 1) := by decide +kernel
theorem dX6_init_100 : decode cX6_init 100 = .ok (.iconst (-1), 1) := by decide +kernel
theorem dX6_init_101 : decode cX6_init 101 = .ok (.iastore, 1) := by decide +kernel
theorem dX6_init_102 : decode cX6_init 102 = .ok (.dup, 1) := by decide +kernel
theorem dX6_init_103 : decode cX6_init 103 = .ok (.iconst 5, 1) := by decide +kernel
theorem dX6_init_104 : decode cX6_init 104 = .ok (.iconst (-1), 1) := by decide +kernel
theorem dX6_init_105 : decode cX6_init 105 = .ok (.iastore, 1) := by decide +kernel
theorem dX6_init_106 : decode cX6_init 106 = .ok (.dup, 1) := by decide +kernel
theorem dX6_init_107 : decode cX6_init 107 = .ok (.bipush 6, 2) := by decide +kernel
theorem dX6_init_109 : decode cX6_init 109 = .ok (.iconst (-1), 1) := by decide +kernel
theorem dX6_init_110 : decode cX6_init 110 = .ok (.iastore, 1) := by decide +kernel
theorem dX6_init_111 : decode cX6_init 111 = .ok (.dup, 1) := by decide +kernel
theorem dX6_init_112 : decode cX6_init 112 = .ok (.bipush 7, 2) := by decide +kernel
theorem dX6_init_114 : decode cX6_init 114 = .ok (.iconst (-1), 1) := by decide +kernel
theorem dX6_init_115 : decode cX6_init 115 = .ok (.iastore, 1) := by decide +kernel
theorem dX6_init_116 : decode cX6_init 116 = .ok (.putfield 38, 3) := by decide +kernel
theorem dX6_init_119 : decode cX6_init 119 = .ok (.aload_n 0, 1) := by decide +kernel
theorem dX6_init_120 : decode cX6_init 120 = .ok (.bipush 8, 2) := by decide +kernel
theorem dX6_init_122 : decode cX6_init 122 = .ok (.newarray .int, 2) := by decide +kernel
theorem dX6_init_124 : decode cX6_init 124 = .ok (.putfield 41, 3) := by decide +kernel
theorem dX6_init_127 : decode cX6_init 127 = .ok (.aload_n 0, 1) := by decide +kernel
theorem dX6_init_128 : decode cX6_init 128 = .ok (.bipush 80, 2) := by decide +kernel
theorem dX6_init_130 : decode cX6_init 130 = .ok (.newarray .int, 2) := by decide +kernel
theorem dX6_init_132 : decode cX6_init 132 = .ok (.putfield 44, 3) := by decide +kernel
theorem dX6_init_135 : decode cX6_init 135 = .ok (.aload_n 0, 1) := by decide +kernel
theorem dX6_init_136 : decode cX6_init 136 = .ok (.bipush 40, 2) := by decide +kernel
theorem dX6_init_138 : decode cX6_init 138 = .ok (.newarray .int, 2) := by decide +kernel
theorem dX6_init_140 : decode cX6_init 140 = .ok (.putfield 47, 3) := by decide +kernel
theorem dX6_init_143 : decode cX6_init 143 = .ok (.aload_n 0, 1) := by decide +kernel
theorem dX6_init_144 : decode cX6_init 144 = .ok (.bipush 40, 2) := by decide +kernel
theorem dX6_init_146 : decode cX6_init 146 = .ok (.newarray .int, 2) := by decide +kernel
theorem dX6_init_148 : decode cX6_init 148 = .ok (.putfield 50, 3) := by decide +kernel
theorem dX6_init_151 : decode cX6_init 151 = .ok (.aload_n 0, 1) := by decide +kernel
theorem dX6_init_152 : decode cX6_init 152 = .ok (.bipush 40, 2) := by decide +kernel
theorem dX6_init_154 : decode cX6_init 154 = .ok (.newarray .int, 2) := by decide +kernel
theorem dX6_init_156 : decode cX6_init 156 = .ok (.putfield 53, 3) := by decide +kernel
theorem dX6_init_159 : decode cX6_init 159 = .ok (.aload_n 0, 1) := by decide +kernel
theorem dX6_init_160 : decode cX6_init 160 = .ok (.bipush 40, 2) := by decide +kernel
theorem dX6_init_162 : decode cX6_init 162 = .ok (.newarray .int, 2) := by decide +kernel
theorem dX6_init_164 : decode cX6_init 164 = .ok (.putfield 56, 3) := by decide +kernel
theorem dX6_init_167 : decode cX6_init 167 = .ok (.aload_n 0, 1) := by decide +kernel
theorem dX6_init_168 : decode cX6_init 168 = .ok (.bipush 8, 2) := by decide +kernel
theorem dX6_init_170 : decode cX6_init 170 = .ok (.newarray .int, 2) := by decide +kernel
theorem dX6_init_172 : decode cX6_init 172 = .ok (.putfield 59, 3) := by decide +kernel
theorem dX6_init_175 : decode cX6_init 175 = .ok (.iconst 0, 1) := by decide +kernel
theorem dX6_init_176 : decode cX6_init 176 = .ok (.istore_n 1, 1) := by decide +kernel
theorem dX6_init_177 : decode cX6_init 177 = .ok (.iload_n 1, 1) := by decide +kernel
theorem dX6_init_178 : decode cX6_init 178 = .ok (.bipush 80, 2) := by decide +kernel
theorem dX6_init_180 : decode cX6_init 180 = .ok (.if_icmp .ge 16, 3) := by decide +kernel
theorem dX6_init_183 : decode cX6_init 183 = .ok (.aload_n 0, 1) := by decide +kernel
theorem dX6_init_184 : decode cX6_init 184 = .ok (.getfield 44, 3) := by decide +kernel
theorem dX6_init_187 : decode cX6_init 187 = .ok (.iload_n 1, 1) := by decide +kernel
theorem dX6_init_188 : decode cX6_init 188 = .ok (.iconst (-1), 1) := by decide +kernel
theorem dX6_init_189 : decode cX6_init 189 = .ok (.iastore, 1) := by decide +kernel
theorem dX6_init_190 : decode cX6_init 190 = .ok (.iinc 1 1, 3) := by decide +kernel
theorem dX6_init_193 : decode cX6_init 193 = .ok (.goto (-16), 3) := by decide +kernel
theorem dX6_init_196 : decode cX6_init 196 = .ok (.return_, 1) := by decide +kernel
theorem dX6_thrown_0 : decode cX6_thrown 0 = .ok (.aload_n 0, 1) := by decide +kernel
theorem dX6_thrown_1 : decode cX6_thrown 1 = .ok (.getfield 62, 3) := by decide +kernel
theorem dX6_thrown_4 : decode cX6_thrown 4 = .ok (.ireturn, 1) := by decide +kernel
theorem dX6_goesWell_0 : decode cX6_goesWell 0 = .ok (.aload_n 0, 1) := by decide +kernel
theorem dX6_goesWell_1 : decode cX6_goesWell 1 = .ok (.iload_n 1, 1) := by decide +kernel
theorem dX6_goesWell_2 : decode cX6_goesWell 2 = .ok (.putfield 62, 3) := by decide +kernel
theorem dX6_goesWell_5 : decode cX6_goesWell 5 = .ok (.iload_n 1, 1) := by decide +kernel
theorem dX6_goesWell_6 : decode cX6_goesWell 6 = .ok (.ifCond .ne 7, 3) := by decide +kernel
theorem dX6_goesWell_9 : decode cX6_goesWell 9 = .ok (.iconst 1, 1) := by decide +kernel
theorem dX6_goesWell_10 : decode cX6_goesWell 10 = .ok (.goto 4, 3) := by decide +kernel
theorem dX6_goesWell_13 : decode cX6_goesWell 13 = .ok (.iconst 0, 1) := by decide +kernel
theorem dX6_goesWell_14 : decode cX6_goesWell 14 = .ok (.ireturn, 1) := by decide +kernel
theorem dX6_in_0 : decode cX6_in 0 = .ok (.iload_n 0, 1) := by decide +kernel
theorem dX6_in_1 : decode cX6_in 1 = .ok (.iload_n 1, 1) := by decide +kernel
theorem dX6_in_2 : decode cX6_in 2 = .ok (.if_icmp .lt 12, 3) := by decide +kernel
theorem dX6_in_5 : decode cX6_in 5 = .ok (.iload_n 0, 1) := by decide +kernel
theorem dX6_in_6 : decode cX6_in 6 = .ok (.iload_n 2, 1) := by decide +kernel
theorem dX6_in_7 : decode cX6_in 7 = .ok (.if_icmp .gt 7, 3) := by decide +kernel
theorem dX6_in_10 : decode cX6_in 10 = .ok (.iconst 1, 1) := by decide +kernel
theorem dX6_in_11 : decode cX6_in 11 = .ok (.goto 4, 3) := by decide +kernel
theorem dX6_in_14 : decode cX6_in 14 = .ok (.iconst 0, 1) := by decide +kernel
theorem dX6_in_15 : decode cX6_in 15 = .ok (.ireturn, 1) := by decide +kernel
theorem dX6_isCar_0 : decode cX6_isCar 0 = .ok (.iload_n 1, 1) := by decide +kernel
theorem dX6_isCar_1 : decode cX6_isCar 1 = .ok (.iconst 0, 1) := by decide +kernel
theorem dX6_isCar_2 : decode cX6_isCar 2 = .ok (.aload_n 0, 1) := by decide +kernel
theorem dX6_isCar_3 : decode cX6_isCar 3 = .ok (.getfield 65, 3) := by decide +kernel
theorem dX6_isCar_6 : decode cX6_isCar 6 = .ok (.iconst 1, 1) := by decide +kernel
theorem dX6_isCar_7 : decode cX6_isCar 7 = .ok (.isub, 1) := by decide +kernel
theorem dX6_isCar_8 : decode cX6_isCar 8 = .ok (.invokestatic 68, 3) := by decide +kernel
theorem dX6_isCar_11 : decode cX6_isCar 11 = .ok (.ireturn, 1) := by decide +kernel
theorem dX6_isGate_0 : decode cX6_isGate 0 = .ok (.iload_n 1, 1) := by decide +kernel
theorem dX6_isGate_1 : decode cX6_isGate 1 = .ok (.iconst 0, 1) := by decide +kernel
theorem dX6_isGate_2 : decode cX6_isGate 2 = .ok (.aload_n 0, 1) := by decide +kernel
theorem dX6_isGate_3 : decode cX6_isGate 3 = .ok (.getfield 72, 3) := by decide +kernel
theorem dX6_isGate_6 : decode cX6_isGate 6 = .ok (.iconst 1, 1) := by decide +kernel
theorem dX6_isGate_7 : decode cX6_isGate 7 = .ok (.isub, 1) := by decide +kernel
theorem dX6_isGate_8 : decode cX6_isGate 8 = .ok (.invokestatic 68, 3) := by decide +kernel
theorem dX6_isGate_11 : decode cX6_isGate 11 = .ok (.ireturn, 1) := by decide +kernel
theorem dX6_begin_0 : decode cX6_begin 0 = .ok (.aload_n 0, 1) := by decide +kernel
theorem dX6_begin_1 : decode cX6_begin 1 = .ok (.aload_n 0, 1) := by decide +kernel
theorem dX6_begin_2 : decode cX6_begin 2 = .ok (.getfield 75, 3) := by decide +kernel
theorem dX6_begin_5 : decode cX6_begin 5 = .ok (.bipush 16, 2) := by decide +kernel
theorem dX6_begin_7 : decode cX6_begin 7 = .ok (.idiv, 1) := by decide +kernel
theorem dX6_begin_8 : decode cX6_begin 8 = .ok (.putfield 78, 3) := by decide +kernel
theorem dX6_begin_11 : decode cX6_begin 11 = .ok (.aload_n 0, 1) := by decide +kernel
theorem dX6_begin_12 : decode cX6_begin 12 = .ok (.aload_n 0, 1) := by decide +kernel
theorem dX6_begin_13 : decode cX6_begin 13 = .ok (.getfield 75, 3) := by decide +kernel
theorem dX6_begin_16 : decode cX6_begin 16 = .ok (.bipush 16, 2) := by decide +kernel
theorem dX6_begin_18 : decode cX6_begin 18 = .ok (.irem, 1) := by decide +kernel
theorem dX6_begin_19 : decode cX6_begin 19 = .ok (.putfield 81, 3) := by decide +kernel
theorem dX6_begin_22 : decode cX6_begin 22 = .ok (.aload_n 0, 1) := by decide +kernel
theorem dX6_begin_23 : decode cX6_begin 23 = .ok (.iconst 0, 1) := by decide +kernel
theorem dX6_begin_24 : decode cX6_begin 24 = .ok (.putfield 84, 3) := by decide +kernel
theorem dX6_begin_27 : decode cX6_begin 27 = .ok (.return_, 1) := by decide +kernel
theorem dX6_goOn_0 : decode cX6_goOn 0 = .ok (.aload_n 0, 1) := by decide +kernel
theorem dX6_goOn_1 : decode cX6_goOn 1 = .ok (.dup, 1) := by decide +kernel
theorem dX6_goOn_2 : decode cX6_goOn 2 = .ok (.getfield 78, 3) := by decide +kernel
theorem dX6_goOn_5 : decode cX6_goOn 5 = .ok (.aload_n 0, 1) := by decide +kernel
theorem dX6_goOn_6 : decode cX6_goOn 6 = .ok (.getfield 84, 3) := by decide +kernel
theorem dX6_goOn_9 : decode cX6_goOn 9 = .ok (.iconst 1, 1) := by decide +kernel
theorem dX6_goOn_10 : decode cX6_goOn 10 = .ok (.if_icmp .ne 7, 3) := by decide +kernel
theorem dX6_goOn_13 : decode cX6_goOn 13 = .ok (.iload_n 1, 1) := by decide +kernel
theorem dX6_goOn_14 : decode cX6_goOn 14 = .ok (.goto 17, 3) := by decide +kernel
theorem dX6_goOn_17 : decode cX6_goOn 17 = .ok (.aload_n 0, 1) := by decide +kernel
theorem dX6_goOn_18 : decode cX6_goOn 18 = .ok (.getfield 84, 3) := by decide +kernel
theorem dX6_goOn_21 : decode cX6_goOn 21 = .ok (.iconst 3, 1) := by decide +kernel
theorem dX6_goOn_22 : decode cX6_goOn 22 = .ok (.if_icmp .ne 8, 3) := by decide +kernel
theorem dX6_goOn_25 : decode cX6_goOn 25 = .ok (.iload_n 1, 1) := by decide +kernel
theorem dX6_goOn_26 : decode cX6_goOn 26 = .ok (.ineg, 1) := by decide +kernel
theorem dX6_goOn_27 : decode cX6_goOn 27 = .ok (.goto 4, 3) := by decide +kernel
theorem dX6_goOn_30 : decode cX6_goOn 30 = .ok (.iconst 0, 1) := by decide +kernel
theorem dX6_goOn_31 : decode cX6_goOn 31 = .ok (.iadd, 1) := by decide +kernel
theorem dX6_goOn_32 : decode cX6_goOn 32 = .ok (.putfield 78, 3) := by decide +kernel
theorem dX6_goOn_35 : decode cX6_goOn 35 = .ok (.aload_n 0, 1) := by decide +kernel
theorem dX6_goOn_36 : decode cX6_goOn 36 = .ok (.dup, 1) := by decide +kernel
theorem dX6_goOn_37 : decode cX6_goOn 37 = .ok (.getfield 81, 3) := by decide +kernel
theorem dX6_goOn_40 : decode cX6_goOn 40 = .ok (.aload_n 0, 1) := by decide +kernel
theorem dX6_goOn_41 : decode cX6_goOn 41 = .ok (.getfield 84, 3) := by decide +kernel
theorem dX6_goOn_44 : decode cX6_goOn 44 = .ok (.ifCond .ne 7, 3) := by decide +kernel
theorem dX6_goOn_47 : decode cX6_goOn 47 = .ok (.iload_n 1, 1) := by decide +kernel
theorem dX6_goOn_48 : decode cX6_goOn 48 = .ok (.goto 17, 3) := by decide +kernel
theorem dX6_goOn_51 : decode cX6_goOn 51 = .ok (.aload_n 0, 1) := by decide +kernel
theorem dX6_goOn_52 : decode cX6_goOn 52 = .ok (.getfield 84, 3) := by decide +kernel
theorem dX6_goOn_55 : decode cX6_goOn 55 = .ok (.iconst 2, 1) := by decide +kernel
theorem dX6_goOn_56 : decode cX6_goOn 56 = .ok (.if_icmp .ne 8, 3) := by decide +kernel
theorem dX6_goOn_59 : decode cX6_goOn 59 = .ok (.iload_n 1, 1) := by decide +kernel
theorem dX6_goOn_60 : decode cX6_goOn 60 = .ok (.ineg, 1) := by decide +kernel
theorem dX6_goOn_61 : decode cX6_goOn 61 = .ok (.goto 4, 3) := by decide +kernel
theorem dX6_goOn_64 : decode cX6_goOn 64 = .ok (.iconst 0, 1) := by decide +kernel
theorem dX6_goOn_65 : decode cX6_goOn 65 = .ok (.iadd, 1) := by decide +kernel
theorem dX6_goOn_66 : decode cX6_goOn 66 = .ok (.putfield 81, 3) := by decide +kernel
theorem dX6_goOn_69 : decode cX6_goOn 69 = .ok (.return_, 1) := by decide +kernel
theorem dX6_cell_0 : decode cX6_cell 0 = .ok (.bipush 16, 2) := by decide +kernel
theorem dX6_cell_2 : decode cX6_cell 2 = .ok (.aload_n 0, 1) := by decide +kernel
theorem dX6_cell_3 : decode cX6_cell 3 = .ok (.getfield 78, 3) := by decide +kernel
theorem dX6_cell_6 : decode cX6_cell 6 = .ok (.imul, 1) := by decide +kernel
theorem dX6_cell_7 : decode cX6_cell 7 = .ok (.aload_n 0, 1) := by decide +kernel
theorem dX6_cell_8 : decode cX6_cell 8 = .ok (.getfield 81, 3) := by decide +kernel
theorem dX6_cell_11 : decode cX6_cell 11 = .ok (.iadd, 1) := by decide +kernel
theorem dX6_cell_12 : decode cX6_cell 12 = .ok (.ireturn, 1) := by decide +kernel
theorem dX6_isOnGround_0 : decode cX6_isOnGround 0 = .ok (.aload_n 0, 1) := by decide +kernel
theorem dX6_isOnGround_1 : decode cX6_isOnGround 1 = .ok (.getfield 78, 3) := by decide +kernel
theorem dX6_isOnGround_4 : decode cX6_isOnGround 4 = .ok (.iconst 0, 1) := by decide +kernel
theorem dX6_isOnGround_5 : decode cX6_isOnGround 5 = .ok (.bipush 15, 2) := by decide +kernel
theorem dX6_isOnGround_7 : decode cX6_isOnGround 7 = .ok (.invokestatic 68, 3) := by decide +kernel
theorem dX6_isOnGround_10 : decode cX6_isOnGround 10 = .ok (.ifCond .eq 20, 3) := by decide +kernel
theorem dX6_isOnGround_13 : decode cX6_isOnGround 13 = .ok (.aload_n 0, 1) := by decide +kernel
theorem dX6_isOnGround_14 : decode cX6_isOnGround 14 = .ok (.getfield 81, 3) := by decide +kernel
theorem dX6_isOnGround_17 : decode cX6_isOnGround 17 = .ok (.iconst 0, 1) := by decide +kernel
theorem dX6_isOnGround_18 : decode cX6_isOnGround 18 = .ok (.bipush 15, 2) := by decide +kernel
theorem dX6_isOnGround_20 : decode cX6_isOnGround 20 = .ok (.invokestatic 68, 3) := by decide +kernel
theorem dX6_isOnGround_23 : decode cX6_isOnGround 23 = .ok (.ifCond .eq 7, 3) := by decide +kernel
theorem dX6_isOnGround_26 : decode cX6_isOnGround 26 = .ok (.iconst 1, 1) := by decide +kernel
theorem dX6_isOnGround_27 : decode cX6_isOnGround 27 = .ok (.goto 4, 3) := by decide +kernel
theorem dX6_isOnGround_30 : decode cX6_isOnGround 30 = .ok (.iconst 0, 1) := by decide +kernel
theorem dX6_isOnGround_31 : decode cX6_isOnGround 31 = .ok (.ireturn, 1) := by decide +kernel
theorem dX6_followBook_0 : decode cX6_followBook 0 = .ok (.aload_n 0, 1) := by decide +kernel
theorem dX6_followBook_1 : decode cX6_followBook 1 = .ok (.invokevirtual 87, 3) := by decide +kernel
theorem dX6_followBook_4 : decode cX6_followBook 4 = .ok (.iconst 0, 1) := by decide +kernel
theorem dX6_followBook_5 : decode cX6_followBook 5 = .ok (.istore_n 2, 1) := by decide +kernel
theorem dX6_followBook_6 : decode cX6_followBook 6 = .ok (.iload_n 2, 1) := by decide +kernel
theorem dX6_followBook_7 : decode cX6_followBook 7 = .ok (.iload_n 1, 1) := by decide +kernel
theorem dX6_followBook_8 : decode cX6_followBook 8 = .ok (.if_icmp .ge 36, 3) := by decide +kernel
theorem dX6_followBook_11 : decode cX6_followBook 11 = .ok (.aload_n 0, 1) := by decide +kernel
theorem dX6_followBook_12 : decode cX6_followBook 12 = .ok (.aload_n 0, 1) := by decide +kernel
theorem dX6_followBook_13 : decode cX6_followBook 13 = .ok (.getfield 7, 3) := by decide +kernel
theorem dX6_followBook_16 : decode cX6_followBook 16 = .ok (.iload_n 2, 1) := by decide +kernel
theorem dX6_followBook_17 : decode cX6_followBook 17 = .ok (.iaload, 1) := by decide +kernel
theorem dX6_followBook_18 : decode cX6_followBook 18 = .ok (.invokevirtual 90, 3) := by decide +kernel
theorem dX6_followBook_21 : decode cX6_followBook 21 = .ok (.aload_n 0, 1) := by decide +kernel
theorem dX6_followBook_22 : decode cX6_followBook 22 = .ok (.aload_n 0, 1) := by decide +kernel
theorem dX6_followBook_23 : decode cX6_followBook 23 = .ok (.getfield 84, 3) := by decide +kernel
theorem dX6_followBook_26 : decode cX6_followBook 26 = .ok (.aload_n 0, 1) := by decide +kernel
theorem dX6_followBook_27 : decode cX6_followBook 27 = .ok (.getfield 13, 3) := by decide +kernel
theorem dX6_followBook_30 : decode cX6_followBook 30 = .ok (.iload_n 2, 1) := by decide +kernel
theorem dX6_followBook_31 : decode cX6_followBook 31 = .ok (.iaload, 1) := by decide +kernel
theorem dX6_followBook_32 : decode cX6_followBook 32 = .ok (.iadd, 1) := by decide +kernel
theorem dX6_followBook_33 : decode cX6_followBook 33 = .ok (.iconst 4, 1) := by decide +kernel
theorem dX6_followBook_34 : decode cX6_followBook 34 = .ok (.irem, 1) := by decide +kernel
theorem dX6_followBook_35 : decode cX6_followBook 35 = .ok (.putfield 84, 3) := by decide +kernel
theorem dX6_followBook_38 : decode cX6_followBook 38 = .ok (.iinc 2 1, 3) := by decide +kernel
theorem dX6_followBook_41 : decode cX6_followBook 41 = .ok (.goto (-35), 3) := by decide +kernel
theorem dX6_followBook_44 : decode cX6_followBook 44 = .ok (.return_, 1) := by decide +kernel
theorem dX6_followTrack_0 : decode cX6_followTrack 0 = .ok (.aload_n 0, 1) := by decide +kernel
theorem dX6_followTrack_1 : decode cX6_followTrack 1 = .ok (.invokevirtual 87, 3) := by decide +kernel
theorem dX6_followTrack_4 : decode cX6_followTrack 4 = .ok (.iload_n 2, 1) := by decide +kernel
theorem dX6_followTrack_5 : decode cX6_followTrack 5 = .ok (.istore_n 3, 1) := by decide +kernel
theorem dX6_followTrack_6 : decode cX6_followTrack 6 = .ok (.bipush 60, 2) := by decide +kernel
theorem dX6_followTrack_8 : decode cX6_followTrack 8 = .ok (.iload_n 1, 1) := by decide +kernel
theorem dX6_followTrack_9 : decode cX6_followTrack 9 = .ok (.imul, 1) := by decide +kernel
theorem dX6_followTrack_10 : decode cX6_followTrack 10 = .ok (.istore 4, 2) := by decide +kernel
theorem dX6_followTrack_12 : decode cX6_followTrack 12 = .ok (.iload 4, 2) := by decide +kernel
theorem dX6_followTrack_14 : decode cX6_followTrack 14 = .ok (.bipush 60, 2) := by decide +kernel
theorem dX6_followTrack_16 : decode cX6_followTrack 16 = .ok (.iload_n 1, 1) := by decide +kernel
theorem dX6_followTrack_17 : decode cX6_followTrack 17 = .ok (.imul, 1) := by decide +kernel
theorem dX6_followTrack_18 : decode cX6_followTrack 18 = .ok (.aload_n 0, 1) := by decide +kernel
theorem dX6_followTrack_19 : decode cX6_followTrack 19 = .ok (.getfield 26, 3) := by decide +kernel
theorem dX6_followTrack_22 : decode cX6_followTrack 22 = .ok (.iload_n 1, 1) := by decide +kernel
theorem dX6_followTrack_23 : decode cX6_followTrack 23 = .ok (.iaload, 1) := by decide +kernel
theorem dX6_followTrack_24 : decode cX6_followTrack 24 = .ok (.iadd, 1) := by decide +kernel
theorem dX6_followTrack_25 : decode cX6_followTrack 25 = .ok (.if_icmp .ge 86, 3) := by decide +kernel
theorem dX6_followTrack_28 : decode cX6_followTrack 28 = .ok (.iload_n 3, 1) := by decide +kernel
theorem dX6_followTrack_29 : decode cX6_followTrack 29 = .ok (.ifCond .lt 82, 3) := by decide +kernel
theorem dX6_followTrack_32 : decode cX6_followTrack 32 = .ok (.iload_n 3, 1) := by decide +kernel
theorem dX6_followTrack_33 : decode cX6_followTrack 33 = .ok (.aload_n 0, 1) := by decide +kernel
theorem dX6_followTrack_34 : decode cX6_followTrack 34 = .ok (.getfield 32, 3) := by decide +kernel
theorem dX6_followTrack_37 : decode cX6_followTrack 37 = .ok (.iload 4, 2) := by decide +kernel
theorem dX6_followTrack_39 : decode cX6_followTrack 39 = .ok (.iaload, 1) := by decide +kernel
theorem dX6_followTrack_40 : decode cX6_followTrack 40 = .ok (.if_icmp .ge 7, 3) := by decide +kernel
theorem dX6_followTrack_43 : decode cX6_followTrack 43 = .ok (.iload_n 3, 1) := by decide +kernel
theorem dX6_followTrack_44 : decode cX6_followTrack 44 = .ok (.goto 10, 3) := by decide +kernel
theorem dX6_followTrack_47 : decode cX6_followTrack 47 = .ok (.aload_n 0, 1) := by decide +kernel
theorem dX6_followTrack_48 : decode cX6_followTrack 48 = .ok (.getfield 32, 3) := by decide +kernel
theorem dX6_followTrack_51 : decode cX6_followTrack 51 = .ok (.iload 4, 2) := by decide +kernel
theorem dX6_followTrack_53 : decode cX6_followTrack 53 = .ok (.iaload, 1) := by decide +kernel
theorem dX6_followTrack_54 : decode cX6_followTrack 54 = .ok (.istore 5, 2) := by decide +kernel
theorem dX6_followTrack_56 : decode cX6_followTrack 56 = .ok (.aload_n 0, 1) := by decide +kernel
theorem dX6_followTrack_57 : decode cX6_followTrack 57 = .ok (.aload_n 0, 1) := by decide +kernel
theorem dX6_followTrack_58 : decode cX6_followTrack 58 = .ok (.getfield 29, 3) := by decide +kernel
theorem dX6_followTrack_61 : decode cX6_followTrack 61 = .ok (.iload 4, 2) := by decide +kernel
theorem dX6_followTrack_63 : decode cX6_followTrack 63 = .ok (.iaload, 1) := by decide +kernel
theorem dX6_followTrack_64 : decode cX6_followTrack 64 = .ok (.iconst (-1), 1) := by decide +kernel
theorem dX6_followTrack_65 : decode cX6_followTrack 65 = .ok (.if_icmp .ne 7, 3) := by decide +kernel
theorem dX6_followTrack_68 : decode cX6_followTrack 68 = .ok (.iconst 0, 1) := by decide +kernel
theorem dX6_followTrack_69 : decode cX6_followTrack 69 = .ok (.goto 5, 3) := by decide +kernel
theorem dX6_followTrack_72 : decode cX6_followTrack 72 = .ok (.iload 5, 2) := by decide +kernel
theorem dX6_followTrack_74 : decode cX6_followTrack 74 = .ok (.invokevirtual 90, 3) := by decide +kernel
theorem dX6_followTrack_77 : decode cX6_followTrack 77 = .ok (.aload_n 0, 1) := by decide +kernel
theorem dX6_followTrack_78 : decode cX6_followTrack 78 = .ok (.aload_n 0, 1) := by decide +kernel
theorem dX6_followTrack_79 : decode cX6_followTrack 79 = .ok (.getfield 84, 3) := by decide +kernel
theorem dX6_followTrack_82 : decode cX6_followTrack 82 = .ok (.aload_n 0, 1) := by decide +kernel
theorem dX6_followTrack_83 : decode cX6_followTrack 83 = .ok (.getfield 35, 3) := by decide +kernel
theorem dX6_followTrack_86 : decode cX6_followTrack 86 = .ok (.iload 4, 2) := by decide +kernel
theorem dX6_followTrack_88 : decode cX6_followTrack 88 = .ok (.iaload, 1) := by decide +kernel
theorem dX6_followTrack_89 : decode cX6_followTrack 89 = .ok (.iadd, 1) := by decide +kernel
theorem dX6_followTrack_90 : decode cX6_followTrack 90 = .ok (.iconst 4, 1) := by decide +kernel
theorem dX6_followTrack_91 : decode cX6_followTrack 91 = .ok (.irem, 1) := by decide +kernel
theorem dX6_followTrack_92 : decode cX6_followTrack 92 = .ok (.putfield 84, 3) := by decide +kernel
theorem dX6_followTrack_95 : decode cX6_followTrack 95 = .ok (.iload_n 3, 1) := by decide +kernel
theorem dX6_followTrack_96 : decode cX6_followTrack 96 = .ok (.aload_n 0, 1) := by decide +kernel
theorem dX6_followTrack_97 : decode cX6_followTrack 97 = .ok (.getfield 32, 3) := by decide +kernel
theorem dX6_followTrack_100 : decode cX6_followTrack 100 = .ok (.iload 4, 2) := by decide +kernel
theorem dX6_followTrack_102 : decode cX6_followTrack 102 = .ok (.iaload, 1) := by decide +kernel
theorem dX6_followTrack_103 : decode cX6_followTrack 103 = .ok (.isub, 1) := by decide +kernel
theorem dX6_followTrack_104 : decode cX6_followTrack 104 = .ok (.istore_n 3, 1) := by decide +kernel
theorem dX6_followTrack_105 : decode cX6_followTrack 105 = .ok (.iinc 4 1, 3) := by decide +kernel
theorem dX6_followTrack_108 : decode cX6_followTrack 108 = .ok (.goto (-96), 3) := by decide +kernel
theorem dX6_followTrack_111 : decode cX6_followTrack 111 = .ok (.return_, 1) := by decide +kernel
theorem dX6_clockOf_0 : decode cX6_clockOf 0 = .ok (.iconst 0, 1) := by decide +kernel
theorem dX6_clockOf_1 : decode cX6_clockOf 1 = .ok (.istore_n 2, 1) := by decide +kernel
theorem dX6_clockOf_2 : decode cX6_clockOf 2 = .ok (.bipush 60, 2) := by decide +kernel
theorem dX6_clockOf_4 : decode cX6_clockOf 4 = .ok (.iload_n 1, 1) := by decide +kernel
theorem dX6_clockOf_5 : decode cX6_clockOf 5 = .ok (.imul, 1) := by decide +kernel
theorem dX6_clockOf_6 : decode cX6_clockOf 6 = .ok (.istore_n 3, 1) := by decide +kernel
theorem dX6_clockOf_7 : decode cX6_clockOf 7 = .ok (.iload_n 3, 1) := by decide +kernel
theorem dX6_clockOf_8 : decode cX6_clockOf 8 = .ok (.bipush 60, 2) := by decide +kernel
theorem dX6_clockOf_10 : decode cX6_clockOf 10 = .ok (.iload_n 1, 1) := by decide +kernel
theorem dX6_clockOf_11 : decode cX6_clockOf 11 = .ok (.imul, 1) := by decide +kernel
theorem dX6_clockOf_12 : decode cX6_clockOf 12 = .ok (.aload_n 0, 1) := by decide +kernel
theorem dX6_clockOf_13 : decode cX6_clockOf 13 = .ok (.getfield 26, 3) := by decide +kernel
theorem dX6_clockOf_16 : decode cX6_clockOf 16 = .ok (.iload_n 1, 1) := by decide +kernel
theorem dX6_clockOf_17 : decode cX6_clockOf 17 = .ok (.iaload, 1) := by decide +kernel
theorem dX6_clockOf_18 : decode cX6_clockOf 18 = .ok (.iadd, 1) := by decide +kernel
theorem dX6_clockOf_19 : decode cX6_clockOf 19 = .ok (.if_icmp .ge 18, 3) := by decide +kernel
theorem dX6_clockOf_22 : decode cX6_clockOf 22 = .ok (.iload_n 2, 1) := by decide +kernel
theorem dX6_clockOf_23 : decode cX6_clockOf 23 = .ok (.aload_n 0, 1) := by decide +kernel
theorem dX6_clockOf_24 : decode cX6_clockOf 24 = .ok (.getfield 32, 3) := by decide +kernel
theorem dX6_clockOf_27 : decode cX6_clockOf 27 = .ok (.iload_n 3, 1) := by decide +kernel
theorem dX6_clockOf_28 : decode cX6_clockOf 28 = .ok (.iaload, 1) := by decide +kernel
theorem dX6_clockOf_29 : decode cX6_clockOf 29 = .ok (.iadd, 1) := by decide +kernel
theorem dX6_clockOf_30 : decode cX6_clockOf 30 = .ok (.istore_n 2, 1) := by decide +kernel
theorem dX6_clockOf_31 : decode cX6_clockOf 31 = .ok (.iinc 3 1, 3) := by decide +kernel
theorem dX6_clockOf_34 : decode cX6_clockOf 34 = .ok (.goto (-27), 3) := by decide +kernel
theorem dX6_clockOf_37 : decode cX6_clockOf 37 = .ok (.iload_n 2, 1) := by decide +kernel
theorem dX6_clockOf_38 : decode cX6_clockOf 38 = .ok (.ireturn, 1) := by decide +kernel
theorem dX6_cellNow_0 : decode cX6_cellNow 0 = .ok (.aload_n 0, 1) := by decide +kernel
theorem dX6_cellNow_1 : decode cX6_cellNow 1 = .ok (.iload_n 1, 1) := by decide +kernel
theorem dX6_cellNow_2 : decode cX6_cellNow 2 = .ok (.aload_n 0, 1) := by decide +kernel
theorem dX6_cellNow_3 : decode cX6_cellNow 3 = .ok (.iload_n 1, 1) := by decide +kernel
theorem dX6_cellNow_4 : decode cX6_cellNow 4 = .ok (.invokevirtual 94, 3) := by decide +kernel
theorem dX6_cellNow_7 : decode cX6_cellNow 7 = .ok (.invokevirtual 98, 3) := by decide +kernel
theorem dX6_cellNow_10 : decode cX6_cellNow 10 = .ok (.aload_n 0, 1) := by decide +kernel
theorem dX6_cellNow_11 : decode cX6_cellNow 11 = .ok (.invokevirtual 102, 3) := by decide +kernel
theorem dX6_cellNow_14 : decode cX6_cellNow 14 = .ok (.ireturn, 1) := by decide +kernel
theorem dX6_cellOfGate_0 : decode cX6_cellOfGate 0 = .ok (.aload_n 0, 1) := by decide +kernel
theorem dX6_cellOfGate_1 : decode cX6_cellOfGate 1 = .ok (.aload_n 0, 1) := by decide +kernel
theorem dX6_cellOfGate_2 : decode cX6_cellOfGate 2 = .ok (.getfield 16, 3) := by decide +kernel
theorem dX6_cellOfGate_5 : decode cX6_cellOfGate 5 = .ok (.iload_n 1, 1) := by decide +kernel
theorem dX6_cellOfGate_6 : decode cX6_cellOfGate 6 = .ok (.iaload, 1) := by decide +kernel
theorem dX6_cellOfGate_7 : decode cX6_cellOfGate 7 = .ok (.iconst 1, 1) := by decide +kernel
theorem dX6_cellOfGate_8 : decode cX6_cellOfGate 8 = .ok (.iadd, 1) := by decide +kernel
theorem dX6_cellOfGate_9 : decode cX6_cellOfGate 9 = .ok (.invokevirtual 106, 3) := by decide +kernel
theorem dX6_cellOfGate_12 : decode cX6_cellOfGate 12 = .ok (.aload_n 0, 1) := by decide +kernel
theorem dX6_cellOfGate_13 : decode cX6_cellOfGate 13 = .ok (.invokevirtual 102, 3) := by decide +kernel
theorem dX6_cellOfGate_16 : decode cX6_cellOfGate 16 = .ok (.ireturn, 1) := by decide +kernel
theorem dX6_firstIn_0 : decode cX6_firstIn 0 = .ok (.aload_n 0, 1) := by decide +kernel
theorem dX6_firstIn_1 : decode cX6_firstIn 1 = .ok (.invokevirtual 87, 3) := by decide +kernel
theorem dX6_firstIn_4 : decode cX6_firstIn 4 = .ok (.iconst 0, 1) := by decide +kernel
theorem dX6_firstIn_5 : decode cX6_firstIn 5 = .ok (.istore 4, 2) := by decide +kernel
theorem dX6_firstIn_7 : decode cX6_firstIn 7 = .ok (.iload_n 3, 1) := by decide +kernel
theorem dX6_firstIn_8 : decode cX6_firstIn 8 = .ok (.ifCond .ne 13, 3) := by decide +kernel
theorem dX6_firstIn_11 : decode cX6_firstIn 11 = .ok (.aload_n 0, 1) := by decide +kernel
theorem dX6_firstIn_12 : decode cX6_firstIn 12 = .ok (.invokevirtual 102, 3) := by decide +kernel
theorem dX6_firstIn_15 : decode cX6_firstIn 15 = .ok (.iload_n 2, 1) := by decide +kernel
theorem dX6_firstIn_16 : decode cX6_firstIn 16 = .ok (.if_icmp .ne 5, 3) := by decide +kernel
theorem dX6_firstIn_19 : decode cX6_firstIn 19 = .ok (.iconst 0, 1) := by decide +kernel
theorem dX6_firstIn_20 : decode cX6_firstIn 20 = .ok (.ireturn, 1) := by decide +kernel
theorem dX6_firstIn_21 : decode cX6_firstIn 21 = .ok (.bipush 60, 2) := by decide +kernel
theorem dX6_firstIn_23 : decode cX6_firstIn 23 = .ok (.iload_n 1, 1) := by decide +kernel
theorem dX6_firstIn_24 : decode cX6_firstIn 24 = .ok (.imul, 1) := by decide +kernel
theorem dX6_firstIn_25 : decode cX6_firstIn 25 = .ok (.istore 5, 2) := by decide +kernel
theorem dX6_firstIn_27 : decode cX6_firstIn 27 = .ok (.iload 5, 2) := by decide +kernel
theorem dX6_firstIn_29 : decode cX6_firstIn 29 = .ok (.bipush 60, 2) := by decide +kernel
theorem dX6_firstIn_31 : decode cX6_firstIn 31 = .ok (.iload_n 1, 1) := by decide +kernel
theorem dX6_firstIn_32 : decode cX6_firstIn 32 = .ok (.imul, 1) := by decide +kernel
theorem dX6_firstIn_33 : decode cX6_firstIn 33 = .ok (.aload_n 0, 1) := by decide +kernel
theorem dX6_firstIn_34 : decode cX6_firstIn 34 = .ok (.getfield 26, 3) := by decide +kernel
theorem dX6_firstIn_37 : decode cX6_firstIn 37 = .ok (.iload_n 1, 1) := by decide +kernel
theorem dX6_firstIn_38 : decode cX6_firstIn 38 = .ok (.iaload, 1) := by decide +kernel
theorem dX6_firstIn_39 : decode cX6_firstIn 39 = .ok (.iadd, 1) := by decide +kernel
theorem dX6_firstIn_40 : decode cX6_firstIn 40 = .ok (.if_icmp .ge 108, 3) := by decide +kernel
theorem dX6_firstIn_43 : decode cX6_firstIn 43 = .ok (.iconst 0, 1) := by decide +kernel
theorem dX6_firstIn_44 : decode cX6_firstIn 44 = .ok (.istore 6, 2) := by decide +kernel
theorem dX6_firstIn_46 : decode cX6_firstIn 46 = .ok (.iload 6, 2) := by decide +kernel
theorem dX6_firstIn_48 : decode cX6_firstIn 48 = .ok (.aload_n 0, 1) := by decide +kernel
theorem dX6_firstIn_49 : decode cX6_firstIn 49 = .ok (.getfield 32, 3) := by decide +kernel
theorem dX6_firstIn_52 : decode cX6_firstIn 52 = .ok (.iload 5, 2) := by decide +kernel
theorem dX6_firstIn_54 : decode cX6_firstIn 54 = .ok (.iaload, 1) := by decide +kernel
theorem dX6_firstIn_55 : decode cX6_firstIn 55 = .ok (.if_icmp .gt 57, 3) := by decide +kernel
theorem dX6_firstIn_58 : decode cX6_firstIn 58 = .ok (.iload 6, 2) := by decide +kernel
theorem dX6_firstIn_60 : decode cX6_firstIn 60 = .ok (.ifCond .le 23, 3) := by decide +kernel
theorem dX6_firstIn_63 : decode cX6_firstIn 63 = .ok (.aload_n 0, 1) := by decide +kernel
theorem dX6_firstIn_64 : decode cX6_firstIn 64 = .ok (.aload_n 0, 1) := by decide +kernel
theorem dX6_firstIn_65 : decode cX6_firstIn 65 = .ok (.getfield 29, 3) := by decide +kernel
theorem dX6_firstIn_68 : decode cX6_firstIn 68 = .ok (.iload 5, 2) := by decide +kernel
theorem dX6_firstIn_70 : decode cX6_firstIn 70 = .ok (.iaload, 1) := by decide +kernel
theorem dX6_firstIn_71 : decode cX6_firstIn 71 = .ok (.iconst (-1), 1) := by decide +kernel
theorem dX6_firstIn_72 : decode cX6_firstIn 72 = .ok (.if_icmp .ne 7, 3) := by decide +kernel
theorem dX6_firstIn_75 : decode cX6_firstIn 75 = .ok (.iconst 0, 1) := by decide +kernel
theorem dX6_firstIn_76 : decode cX6_firstIn 76 = .ok (.goto 4, 3) := by decide +kernel
theorem dX6_firstIn_79 : decode cX6_firstIn 79 = .ok (.iconst 1, 1) := by decide +kernel
theorem dX6_firstIn_80 : decode cX6_firstIn 80 = .ok (.invokevirtual 90, 3) := by decide +kernel
theorem dX6_firstIn_83 : decode cX6_firstIn 83 = .ok (.iload 4, 2) := by decide +kernel
theorem dX6_firstIn_85 : decode cX6_firstIn 85 = .ok (.iload 6, 2) := by decide +kernel
theorem dX6_firstIn_87 : decode cX6_firstIn 87 = .ok (.iadd, 1) := by decide +kernel
theorem dX6_firstIn_88 : decode cX6_firstIn 88 = .ok (.iload_n 3, 1) := by decide +kernel
theorem dX6_firstIn_89 : decode cX6_firstIn 89 = .ok (.if_icmp .lt 17, 3) := by decide +kernel
theorem dX6_firstIn_92 : decode cX6_firstIn 92 = .ok (.aload_n 0, 1) := by decide +kernel
theorem dX6_firstIn_93 : decode cX6_firstIn 93 = .ok (.invokevirtual 102, 3) := by decide +kernel
theorem dX6_firstIn_96 : decode cX6_firstIn 96 = .ok (.iload_n 2, 1) := by decide +kernel
theorem dX6_firstIn_97 : decode cX6_firstIn 97 = .ok (.if_icmp .ne 9, 3) := by decide +kernel
theorem dX6_firstIn_100 : decode cX6_firstIn 100 = .ok (.iload 4, 2) := by decide +kernel
theorem dX6_firstIn_102 : decode cX6_firstIn 102 = .ok (.iload 6, 2) := by decide +kernel
theorem dX6_firstIn_104 : decode cX6_firstIn 104 = .ok (.iadd, 1) := by decide +kernel
theorem dX6_firstIn_105 : decode cX6_firstIn 105 = .ok (.ireturn, 1) := by decide +kernel
theorem dX6_firstIn_106 : decode cX6_firstIn 106 = .ok (.iinc 6 1, 3) := by decide +kernel
theorem dX6_firstIn_109 : decode cX6_firstIn 109 = .ok (.goto (-63), 3) := by decide +kernel
theorem dX6_firstIn_112 : decode cX6_firstIn 112 = .ok (.iload 4, 2) := by decide +kernel
theorem dX6_firstIn_114 : decode cX6_firstIn 114 = .ok (.aload_n 0, 1) := by decide +kernel
theorem dX6_firstIn_115 : decode cX6_firstIn 115 = .ok (.getfield 32, 3) := by decide +kernel
theorem dX6_firstIn_118 : decode cX6_firstIn 118 = .ok (.iload 5, 2) := by decide +kernel
theorem dX6_firstIn_120 : decode cX6_firstIn 120 = .ok (.iaload, 1) := by decide +kernel
theorem dX6_firstIn_121 : decode cX6_firstIn 121 = .ok (.iadd, 1) := by decide +kernel
theorem dX6_firstIn_122 : decode cX6_firstIn 122 = .ok (.istore 4, 2) := by decide +kernel
theorem dX6_firstIn_124 : decode cX6_firstIn 124 = .ok (.aload_n 0, 1) := by decide +kernel
theorem dX6_firstIn_125 : decode cX6_firstIn 125 = .ok (.aload_n 0, 1) := by decide +kernel
theorem dX6_firstIn_126 : decode cX6_firstIn 126 = .ok (.getfield 84, 3) := by decide +kernel
theorem dX6_firstIn_129 : decode cX6_firstIn 129 = .ok (.aload_n 0, 1) := by decide +kernel
theorem dX6_firstIn_130 : decode cX6_firstIn 130 = .ok (.getfield 35, 3) := by decide +kernel
theorem dX6_firstIn_133 : decode cX6_firstIn 133 = .ok (.iload 5, 2) := by decide +kernel
theorem dX6_firstIn_135 : decode cX6_firstIn 135 = .ok (.iaload, 1) := by decide +kernel
theorem dX6_firstIn_136 : decode cX6_firstIn 136 = .ok (.iadd, 1) := by decide +kernel
theorem dX6_firstIn_137 : decode cX6_firstIn 137 = .ok (.iconst 4, 1) := by decide +kernel
theorem dX6_firstIn_138 : decode cX6_firstIn 138 = .ok (.irem, 1) := by decide +kernel
theorem dX6_firstIn_139 : decode cX6_firstIn 139 = .ok (.putfield 84, 3) := by decide +kernel
theorem dX6_firstIn_142 : decode cX6_firstIn 142 = .ok (.iinc 5 1, 3) := by decide +kernel
theorem dX6_firstIn_145 : decode cX6_firstIn 145 = .ok (.goto (-118), 3) := by decide +kernel
theorem dX6_firstIn_148 : decode cX6_firstIn 148 = .ok (.iconst (-1), 1) := by decide +kernel
theorem dX6_firstIn_149 : decode cX6_firstIn 149 = .ok (.ireturn, 1) := by decide +kernel
theorem dX6_passedAt_0 : decode cX6_passedAt 0 = .ok (.iconst 0, 1) := by decide +kernel
theorem dX6_passedAt_1 : decode cX6_passedAt 1 = .ok (.istore_n 3, 1) := by decide +kernel
theorem dX6_passedAt_2 : decode cX6_passedAt 2 = .ok (.iconst (-1), 1) := by decide +kernel
theorem dX6_passedAt_3 : decode cX6_passedAt 3 = .ok (.istore 4, 2) := by decide +kernel
theorem dX6_passedAt_5 : decode cX6_passedAt 5 = .ok (.iconst 0, 1) := by decide +kernel
theorem dX6_passedAt_6 : decode cX6_passedAt 6 = .ok (.istore 5, 2) := by decide +kernel
theorem dX6_passedAt_8 : decode cX6_passedAt 8 = .ok (.iload 5, 2) := by decide +kernel
theorem dX6_passedAt_10 : decode cX6_passedAt 10 = .ok (.iload_n 2, 1) := by decide +kernel
theorem dX6_passedAt_11 : decode cX6_passedAt 11 = .ok (.if_icmp .gt 36, 3) := by decide +kernel
theorem dX6_passedAt_14 : decode cX6_passedAt 14 = .ok (.aload_n 0, 1) := by decide +kernel
theorem dX6_passedAt_15 : decode cX6_passedAt 15 = .ok (.iload_n 1, 1) := by decide +kernel
theorem dX6_passedAt_16 : decode cX6_passedAt 16 = .ok (.aload_n 0, 1) := by decide +kernel
theorem dX6_passedAt_17 : decode cX6_passedAt 17 = .ok (.iload 5, 2) := by decide +kernel
theorem dX6_passedAt_19 : decode cX6_passedAt 19 = .ok (.invokevirtual 109, 3) := by decide +kernel
theorem dX6_passedAt_22 : decode cX6_passedAt 22 = .ok (.iload_n 3, 1) := by decide +kernel
theorem dX6_passedAt_23 : decode cX6_passedAt 23 = .ok (.invokevirtual 112, 3) := by decide +kernel
theorem dX6_passedAt_26 : decode cX6_passedAt 26 = .ok (.istore 4, 2) := by decide +kernel
theorem dX6_passedAt_28 : decode cX6_passedAt 28 = .ok (.iload 4, 2) := by decide +kernel
theorem dX6_passedAt_30 : decode cX6_passedAt 30 = .ok (.iconst (-1), 1) := by decide +kernel
theorem dX6_passedAt_31 : decode cX6_passedAt 31 = .ok (.if_icmp .ne 7, 3) := by decide +kernel
theorem dX6_passedAt_34 : decode cX6_passedAt 34 = .ok (.iload_n 3, 1) := by decide +kernel
theorem dX6_passedAt_35 : decode cX6_passedAt 35 = .ok (.goto 5, 3) := by decide +kernel
theorem dX6_passedAt_38 : decode cX6_passedAt 38 = .ok (.iload 4, 2) := by decide +kernel
theorem dX6_passedAt_40 : decode cX6_passedAt 40 = .ok (.istore_n 3, 1) := by decide +kernel
theorem dX6_passedAt_41 : decode cX6_passedAt 41 = .ok (.iinc 5 1, 3) := by decide +kernel
theorem dX6_passedAt_44 : decode cX6_passedAt 44 = .ok (.goto (-36), 3) := by decide +kernel
theorem dX6_passedAt_47 : decode cX6_passedAt 47 = .ok (.iload 4, 2) := by decide +kernel
theorem dX6_passedAt_49 : decode cX6_passedAt 49 = .ok (.ireturn, 1) := by decide +kernel
theorem dX6_setStart_0 : decode cX6_setStart 0 = .ok (.aload_n 0, 1) := by decide +kernel
theorem dX6_setStart_1 : decode cX6_setStart 1 = .ok (.iload_n 1, 1) := by decide +kernel
theorem dX6_setStart_2 : decode cX6_setStart 2 = .ok (.iconst 0, 1) := by decide +kernel
theorem dX6_setStart_3 : decode cX6_setStart 3 = .ok (.sipush 255, 3) := by decide +kernel
theorem dX6_setStart_6 : decode cX6_setStart 6 = .ok (.invokestatic 68, 3) := by decide +kernel
theorem dX6_setStart_9 : decode cX6_setStart 9 = .ok (.ifCond .ne 7, 3) := by decide +kernel
theorem dX6_setStart_12 : decode cX6_setStart 12 = .ok (.iconst 1, 1) := by decide +kernel
theorem dX6_setStart_13 : decode cX6_setStart 13 = .ok (.goto 22, 3) := by decide +kernel
theorem dX6_setStart_16 : decode cX6_setStart 16 = .ok (.aload_n 0, 1) := by decide +kernel
theorem dX6_setStart_17 : decode cX6_setStart 17 = .ok (.getfield 116, 3) := by decide +kernel
theorem dX6_setStart_20 : decode cX6_setStart 20 = .ok (.ifCond .gt 10, 3) := by decide +kernel
theorem dX6_setStart_23 : decode cX6_setStart 23 = .ok (.aload_n 0, 1) := by decide +kernel
theorem dX6_setStart_24 : decode cX6_setStart 24 = .ok (.getfield 65, 3) := by decide +kernel
theorem dX6_setStart_27 : decode cX6_setStart 27 = .ok (.ifCond .le 7, 3) := by decide +kernel
theorem dX6_setStart_30 : decode cX6_setStart 30 = .ok (.iconst 2, 1) := by decide +kernel
theorem dX6_setStart_31 : decode cX6_setStart 31 = .ok (.goto 4, 3) := by decide +kernel
theorem dX6_setStart_34 : decode cX6_setStart 34 = .ok (.iconst 0, 1) := by decide +kernel
theorem dX6_setStart_35 : decode cX6_setStart 35 = .ok (.invokevirtual 119, 3) := by decide +kernel
theorem dX6_setStart_38 : decode cX6_setStart 38 = .ok (.ifCond .ne 5, 3) := by decide +kernel
theorem dX6_setStart_41 : decode cX6_setStart 41 = .ok (.iconst 0, 1) := by decide +kernel
theorem dX6_setStart_42 : decode cX6_setStart 42 = .ok (.ireturn, 1) := by decide +kernel
theorem dX6_setStart_43 : decode cX6_setStart 43 = .ok (.aload_n 0, 1) := by decide +kernel
theorem dX6_setStart_44 : decode cX6_setStart 44 = .ok (.getfield 75, 3) := by decide +kernel
theorem dX6_setStart_47 : decode cX6_setStart 47 = .ok (.istore_n 2, 1) := by decide +kernel
theorem dX6_setStart_48 : decode cX6_setStart 48 = .ok (.aload_n 0, 1) := by decide +kernel
theorem dX6_setStart_49 : decode cX6_setStart 49 = .ok (.iload_n 1, 1) := by decide +kernel
theorem dX6_setStart_50 : decode cX6_setStart 50 = .ok (.putfield 75, 3) := by decide +kernel
theorem dX6_setStart_53 : decode cX6_setStart 53 = .ok (.iload_n 2, 1) := by decide +kernel
theorem dX6_setStart_54 : decode cX6_setStart 54 = .ok (.ireturn, 1) := by decide +kernel
theorem dX6_addEntry_0 : decode cX6_addEntry 0 = .ok (.iload_n 1, 1) := by decide +kernel
theorem dX6_addEntry_1 : decode cX6_addEntry 1 = .ok (.iconst 1, 1) := by decide +kernel
theorem dX6_addEntry_2 : decode cX6_addEntry 2 = .ok (.bipush 15, 2) := by decide +kernel
theorem dX6_addEntry_4 : decode cX6_addEntry 4 = .ok (.invokestatic 68, 3) := by decide +kernel
theorem dX6_addEntry_7 : decode cX6_addEntry 7 = .ok (.ifCond .eq 16, 3) := by decide +kernel
theorem dX6_addEntry_10 : decode cX6_addEntry 10 = .ok (.iload_n 2, 1) := by decide +kernel
theorem dX6_addEntry_11 : decode cX6_addEntry 11 = .ok (.iconst 0, 1) := by decide +kernel
theorem dX6_addEntry_12 : decode cX6_addEntry 12 = .ok (.iconst 3, 1) := by decide +kernel
theorem dX6_addEntry_13 : decode cX6_addEntry 13 = .ok (.invokestatic 68, 3) := by decide +kernel
theorem dX6_addEntry_16 : decode cX6_addEntry 16 = .ok (.ifCond .eq 7, 3) := by decide +kernel
theorem dX6_addEntry_19 : decode cX6_addEntry 19 = .ok (.iconst 1, 1) := by decide +kernel
theorem dX6_addEntry_20 : decode cX6_addEntry 20 = .ok (.goto 4, 3) := by decide +kernel
theorem dX6_addEntry_23 : decode cX6_addEntry 23 = .ok (.iconst 0, 1) := by decide +kernel
theorem dX6_addEntry_24 : decode cX6_addEntry 24 = .ok (.istore_n 3, 1) := by decide +kernel
theorem dX6_addEntry_25 : decode cX6_addEntry 25 = .ok (.aload_n 0, 1) := by decide +kernel
theorem dX6_addEntry_26 : decode cX6_addEntry 26 = .ok (.aload_n 0, 1) := by decide +kernel
theorem dX6_addEntry_27 : decode cX6_addEntry 27 = .ok (.getfield 116, 3) := by decide +kernel
theorem dX6_addEntry_30 : decode cX6_addEntry 30 = .ok (.invokevirtual 106, 3) := by decide +kernel
theorem dX6_addEntry_33 : decode cX6_addEntry 33 = .ok (.aload_n 0, 1) := by decide +kernel
theorem dX6_addEntry_34 : decode cX6_addEntry 34 = .ok (.iload_n 3, 1) := by decide +kernel
theorem dX6_addEntry_35 : decode cX6_addEntry 35 = .ok (.ifCond .eq 7, 3) := by decide +kernel
theorem dX6_addEntry_38 : decode cX6_addEntry 38 = .ok (.iload_n 1, 1) := by decide +kernel
theorem dX6_addEntry_39 : decode cX6_addEntry 39 = .ok (.goto 4, 3) := by decide +kernel
theorem dX6_addEntry_42 : decode cX6_addEntry 42 = .ok (.iconst 0, 1) := by decide +kernel
theorem dX6_addEntry_43 : decode cX6_addEntry 43 = .ok (.invokevirtual 90, 3) := by decide +kernel
theorem dX6_addEntry_46 : decode cX6_addEntry 46 = .ok (.aload_n 0, 1) := by decide +kernel
theorem dX6_addEntry_47 : decode cX6_addEntry 47 = .ok (.iload_n 3, 1) := by decide +kernel
theorem dX6_addEntry_48 : decode cX6_addEntry 48 = .ok (.ifCond .ne 7, 3) := by decide +kernel
theorem dX6_addEntry_51 : decode cX6_addEntry 51 = .ok (.iconst 1, 1) := by decide +kernel
theorem dX6_addEntry_52 : decode cX6_addEntry 52 = .ok (.goto 24, 3) := by decide +kernel
theorem dX6_addEntry_55 : decode cX6_addEntry 55 = .ok (.aload_n 0, 1) := by decide +kernel
theorem dX6_addEntry_56 : decode cX6_addEntry 56 = .ok (.getfield 116, 3) := by decide +kernel
theorem dX6_addEntry_59 : decode cX6_addEntry 59 = .ok (.bipush 30, 2) := by decide +kernel
theorem dX6_addEntry_61 : decode cX6_addEntry 61 = .ok (.if_icmp .eq 10, 3) := by decide +kernel
theorem dX6_addEntry_64 : decode cX6_addEntry 64 = .ok (.aload_n 0, 1) := by decide +kernel
theorem dX6_addEntry_65 : decode cX6_addEntry 65 = .ok (.invokevirtual 123, 3) := by decide +kernel
theorem dX6_addEntry_68 : decode cX6_addEntry 68 = .ok (.ifCond .ne 7, 3) := by decide +kernel
theorem dX6_addEntry_71 : decode cX6_addEntry 71 = .ok (.iconst 2, 1) := by decide +kernel
theorem dX6_addEntry_72 : decode cX6_addEntry 72 = .ok (.goto 4, 3) := by decide +kernel
theorem dX6_addEntry_75 : decode cX6_addEntry 75 = .ok (.iconst 0, 1) := by decide +kernel
theorem dX6_addEntry_76 : decode cX6_addEntry 76 = .ok (.invokevirtual 119, 3) := by decide +kernel
theorem dX6_addEntry_79 : decode cX6_addEntry 79 = .ok (.ifCond .ne 5, 3) := by decide +kernel
theorem dX6_addEntry_82 : decode cX6_addEntry 82 = .ok (.iconst 0, 1) := by decide +kernel
theorem dX6_addEntry_83 : decode cX6_addEntry 83 = .ok (.ireturn, 1) := by decide +kernel
theorem dX6_addEntry_84 : decode cX6_addEntry 84 = .ok (.aload_n 0, 1) := by decide +kernel
theorem dX6_addEntry_85 : decode cX6_addEntry 85 = .ok (.getfield 7, 3) := by decide +kernel
theorem dX6_addEntry_88 : decode cX6_addEntry 88 = .ok (.aload_n 0, 1) := by decide +kernel
theorem dX6_addEntry_89 : decode cX6_addEntry 89 = .ok (.getfield 116, 3) := by decide +kernel
theorem dX6_addEntry_92 : decode cX6_addEntry 92 = .ok (.iload_n 1, 1) := by decide +kernel
theorem dX6_addEntry_93 : decode cX6_addEntry 93 = .ok (.iastore, 1) := by decide +kernel
theorem dX6_addEntry_94 : decode cX6_addEntry 94 = .ok (.aload_n 0, 1) := by decide +kernel
theorem dX6_addEntry_95 : decode cX6_addEntry 95 = .ok (.getfield 13, 3) := by decide +kernel
theorem dX6_addEntry_98 : decode cX6_addEntry 98 = .ok (.aload_n 0, 1) := by decide +kernel
theorem dX6_addEntry_99 : decode cX6_addEntry 99 = .ok (.getfield 116, 3) := by decide +kernel
theorem dX6_addEntry_102 : decode cX6_addEntry 102 = .ok (.iload_n 2, 1) := by decide +kernel
theorem dX6_addEntry_103 : decode cX6_addEntry 103 = .ok (.iastore, 1) := by decide +kernel
theorem dX6_addEntry_104 : decode cX6_addEntry 104 = .ok (.aload_n 0, 1) := by decide +kernel
theorem dX6_addEntry_105 : decode cX6_addEntry 105 = .ok (.dup, 1) := by decide +kernel
theorem dX6_addEntry_106 : decode cX6_addEntry 106 = .ok (.getfield 116, 3) := by decide +kernel
theorem dX6_addEntry_109 : decode cX6_addEntry 109 = .ok (.iconst 1, 1) := by decide +kernel
theorem dX6_addEntry_110 : decode cX6_addEntry 110 = .ok (.iadd, 1) := by decide +kernel
theorem dX6_addEntry_111 : decode cX6_addEntry 111 = .ok (.putfield 116, 3) := by decide +kernel
theorem dX6_addEntry_114 : decode cX6_addEntry 114 = .ok (.aload_n 0, 1) := by decide +kernel
theorem dX6_addEntry_115 : decode cX6_addEntry 115 = .ok (.invokevirtual 102, 3) := by decide +kernel
theorem dX6_addEntry_118 : decode cX6_addEntry 118 = .ok (.ireturn, 1) := by decide +kernel
theorem dX6_addGate_0 : decode cX6_addGate 0 = .ok (.iload_n 1, 1) := by decide +kernel
theorem dX6_addGate_1 : decode cX6_addGate 1 = .ok (.iconst 0, 1) := by decide +kernel
theorem dX6_addGate_2 : decode cX6_addGate 2 = .ok (.aload_n 0, 1) := by decide +kernel
theorem dX6_addGate_3 : decode cX6_addGate 3 = .ok (.getfield 116, 3) := by decide +kernel
theorem dX6_addGate_6 : decode cX6_addGate 6 = .ok (.iconst 1, 1) := by decide +kernel
theorem dX6_addGate_7 : decode cX6_addGate 7 = .ok (.isub, 1) := by decide +kernel
theorem dX6_addGate_8 : decode cX6_addGate 8 = .ok (.invokestatic 68, 3) := by decide +kernel
theorem dX6_addGate_11 : decode cX6_addGate 11 = .ok (.istore_n 3, 1) := by decide +kernel
theorem dX6_addGate_12 : decode cX6_addGate 12 = .ok (.iload_n 2, 1) := by decide +kernel
theorem dX6_addGate_13 : decode cX6_addGate 13 = .ok (.iconst 0, 1) := by decide +kernel
theorem dX6_addGate_14 : decode cX6_addGate 14 = .ok (.bipush 100, 2) := by decide +kernel
theorem dX6_addGate_16 : decode cX6_addGate 16 = .ok (.invokestatic 68, 3) := by decide +kernel
theorem dX6_addGate_19 : decode cX6_addGate 19 = .ok (.ifCond .eq 29, 3) := by decide +kernel
theorem dX6_addGate_22 : decode cX6_addGate 22 = .ok (.aload_n 0, 1) := by decide +kernel
theorem dX6_addGate_23 : decode cX6_addGate 23 = .ok (.getfield 72, 3) := by decide +kernel
theorem dX6_addGate_26 : decode cX6_addGate 26 = .ok (.ifCond .eq 18, 3) := by decide +kernel
theorem dX6_addGate_29 : decode cX6_addGate 29 = .ok (.iload_n 1, 1) := by decide +kernel
theorem dX6_addGate_30 : decode cX6_addGate 30 = .ok (.aload_n 0, 1) := by decide +kernel
theorem dX6_addGate_31 : decode cX6_addGate 31 = .ok (.getfield 16, 3) := by decide +kernel
theorem dX6_addGate_34 : decode cX6_addGate 34 = .ok (.aload_n 0, 1) := by decide +kernel
theorem dX6_addGate_35 : decode cX6_addGate 35 = .ok (.getfield 72, 3) := by decide +kernel
theorem dX6_addGate_38 : decode cX6_addGate 38 = .ok (.iconst 1, 1) := by decide +kernel
theorem dX6_addGate_39 : decode cX6_addGate 39 = .ok (.isub, 1) := by decide +kernel
theorem dX6_addGate_40 : decode cX6_addGate 40 = .ok (.iaload, 1) := by decide +kernel
theorem dX6_addGate_41 : decode cX6_addGate 41 = .ok (.if_icmp .le 7, 3) := by decide +kernel
theorem dX6_addGate_44 : decode cX6_addGate 44 = .ok (.iconst 1, 1) := by decide +kernel
theorem dX6_addGate_45 : decode cX6_addGate 45 = .ok (.goto 4, 3) := by decide +kernel
theorem dX6_addGate_48 : decode cX6_addGate 48 = .ok (.iconst 0, 1) := by decide +kernel
theorem dX6_addGate_49 : decode cX6_addGate 49 = .ok (.istore 4, 2) := by decide +kernel
theorem dX6_addGate_51 : decode cX6_addGate 51 = .ok (.aload_n 0, 1) := by decide +kernel
theorem dX6_addGate_52 : decode cX6_addGate 52 = .ok (.iload_n 3, 1) := by decide +kernel
theorem dX6_addGate_53 : decode cX6_addGate 53 = .ok (.ifCond .ne 7, 3) := by decide +kernel
theorem dX6_addGate_56 : decode cX6_addGate 56 = .ok (.iconst 1, 1) := by decide +kernel
theorem dX6_addGate_57 : decode cX6_addGate 57 = .ok (.goto 26, 3) := by decide +kernel
theorem dX6_addGate_60 : decode cX6_addGate 60 = .ok (.iload 4, 2) := by decide +kernel
theorem dX6_addGate_62 : decode cX6_addGate 62 = .ok (.ifCond .ne 7, 3) := by decide +kernel
theorem dX6_addGate_65 : decode cX6_addGate 65 = .ok (.iconst 2, 1) := by decide +kernel
theorem dX6_addGate_66 : decode cX6_addGate 66 = .ok (.goto 17, 3) := by decide +kernel
theorem dX6_addGate_69 : decode cX6_addGate 69 = .ok (.aload_n 0, 1) := by decide +kernel
theorem dX6_addGate_70 : decode cX6_addGate 70 = .ok (.getfield 72, 3) := by decide +kernel
theorem dX6_addGate_73 : decode cX6_addGate 73 = .ok (.bipush 10, 2) := by decide +kernel
theorem dX6_addGate_75 : decode cX6_addGate 75 = .ok (.if_icmp .ne 7, 3) := by decide +kernel
theorem dX6_addGate_78 : decode cX6_addGate 78 = .ok (.iconst 3, 1) := by decide +kernel
theorem dX6_addGate_79 : decode cX6_addGate 79 = .ok (.goto 4, 3) := by decide +kernel
theorem dX6_addGate_82 : decode cX6_addGate 82 = .ok (.iconst 0, 1) := by decide +kernel
theorem dX6_addGate_83 : decode cX6_addGate 83 = .ok (.invokevirtual 119, 3) := by decide +kernel
theorem dX6_addGate_86 : decode cX6_addGate 86 = .ok (.ifCond .ne 5, 3) := by decide +kernel
theorem dX6_addGate_89 : decode cX6_addGate 89 = .ok (.iconst 0, 1) := by decide +kernel
theorem dX6_addGate_90 : decode cX6_addGate 90 = .ok (.ireturn, 1) := by decide +kernel
theorem dX6_addGate_91 : decode cX6_addGate 91 = .ok (.aload_n 0, 1) := by decide +kernel
theorem dX6_addGate_92 : decode cX6_addGate 92 = .ok (.getfield 16, 3) := by decide +kernel
theorem dX6_addGate_95 : decode cX6_addGate 95 = .ok (.aload_n 0, 1) := by decide +kernel
theorem dX6_addGate_96 : decode cX6_addGate 96 = .ok (.getfield 72, 3) := by decide +kernel
theorem dX6_addGate_99 : decode cX6_addGate 99 = .ok (.iload_n 1, 1) := by decide +kernel
theorem dX6_addGate_100 : decode cX6_addGate 100 = .ok (.iastore, 1) := by decide +kernel
theorem dX6_addGate_101 : decode cX6_addGate 101 = .ok (.aload_n 0, 1) := by decide +kernel
theorem dX6_addGate_102 : decode cX6_addGate 102 = .ok (.getfield 19, 3) := by decide +kernel
theorem dX6_addGate_105 : decode cX6_addGate 105 = .ok (.aload_n 0, 1) := by decide +kernel
theorem dX6_addGate_106 : decode cX6_addGate 106 = .ok (.getfield 72, 3) := by decide +kernel
theorem dX6_addGate_109 : decode cX6_addGate 109 = .ok (.iload_n 2, 1) := by decide +kernel
theorem dX6_addGate_110 : decode cX6_addGate 110 = .ok (.iastore, 1) := by decide +kernel
theorem dX6_addGate_111 : decode cX6_addGate 111 = .ok (.aload_n 0, 1) := by decide +kernel
theorem dX6_addGate_112 : decode cX6_addGate 112 = .ok (.dup, 1) := by decide +kernel
theorem dX6_addGate_113 : decode cX6_addGate 113 = .ok (.getfield 72, 3) := by decide +kernel
theorem dX6_addGate_116 : decode cX6_addGate 116 = .ok (.iconst 1, 1) := by decide +kernel
theorem dX6_addGate_117 : decode cX6_addGate 117 = .ok (.iadd, 1) := by decide +kernel
theorem dX6_addGate_118 : decode cX6_addGate 118 = .ok (.putfield 72, 3) := by decide +kernel
theorem dX6_addGate_121 : decode cX6_addGate 121 = .ok (.aload_n 0, 1) := by decide +kernel
theorem dX6_addGate_122 : decode cX6_addGate 122 = .ok (.getfield 72, 3) := by decide +kernel
theorem dX6_addGate_125 : decode cX6_addGate 125 = .ok (.iconst 1, 1) := by decide +kernel
theorem dX6_addGate_126 : decode cX6_addGate 126 = .ok (.isub, 1) := by decide +kernel
theorem dX6_addGate_127 : decode cX6_addGate 127 = .ok (.ireturn, 1) := by decide +kernel
theorem dX6_cut_0 : decode cX6_cut 0 = .ok (.aload_n 0, 1) := by decide +kernel
theorem dX6_cut_1 : decode cX6_cut 1 = .ok (.iload_n 1, 1) := by decide +kernel
theorem dX6_cut_2 : decode cX6_cut 2 = .ok (.iconst 0, 1) := by decide +kernel
theorem dX6_cut_3 : decode cX6_cut 3 = .ok (.bipush 10, 2) := by decide +kernel
theorem dX6_cut_5 : decode cX6_cut 5 = .ok (.invokestatic 68, 3) := by decide +kernel
theorem dX6_cut_8 : decode cX6_cut 8 = .ok (.ifCond .eq 7, 3) := by decide +kernel
theorem dX6_cut_11 : decode cX6_cut 11 = .ok (.iconst 0, 1) := by decide +kernel
theorem dX6_cut_12 : decode cX6_cut 12 = .ok (.goto 4, 3) := by decide +kernel
theorem dX6_cut_15 : decode cX6_cut 15 = .ok (.iconst 1, 1) := by decide +kernel
theorem dX6_cut_16 : decode cX6_cut 16 = .ok (.invokevirtual 119, 3) := by decide +kernel
theorem dX6_cut_19 : decode cX6_cut 19 = .ok (.ifCond .ne 5, 3) := by decide +kernel
theorem dX6_cut_22 : decode cX6_cut 22 = .ok (.iconst 0, 1) := by decide +kernel
theorem dX6_cut_23 : decode cX6_cut 23 = .ok (.ireturn, 1) := by decide +kernel
theorem dX6_cut_24 : decode cX6_cut 24 = .ok (.aload_n 0, 1) := by decide +kernel
theorem dX6_cut_25 : decode cX6_cut 25 = .ok (.getfield 22, 3) := by decide +kernel
theorem dX6_cut_28 : decode cX6_cut 28 = .ok (.istore_n 2, 1) := by decide +kernel
theorem dX6_cut_29 : decode cX6_cut 29 = .ok (.aload_n 0, 1) := by decide +kernel
theorem dX6_cut_30 : decode cX6_cut 30 = .ok (.iload_n 1, 1) := by decide +kernel
theorem dX6_cut_31 : decode cX6_cut 31 = .ok (.putfield 22, 3) := by decide +kernel
theorem dX6_cut_34 : decode cX6_cut 34 = .ok (.iload_n 2, 1) := by decide +kernel
theorem dX6_cut_35 : decode cX6_cut 35 = .ok (.ireturn, 1) := by decide +kernel
theorem dX6_enter_0 : decode cX6_enter 0 = .ok (.aload_n 0, 1) := by decide +kernel
theorem dX6_enter_1 : decode cX6_enter 1 = .ok (.aload_n 0, 1) := by decide +kernel
theorem dX6_enter_2 : decode cX6_enter 2 = .ok (.getfield 65, 3) := by decide +kernel
theorem dX6_enter_5 : decode cX6_enter 5 = .ok (.bipush 8, 2) := by decide +kernel
theorem dX6_enter_7 : decode cX6_enter 7 = .ok (.if_icmp .ne 7, 3) := by decide +kernel
theorem dX6_enter_10 : decode cX6_enter 10 = .ok (.iconst 1, 1) := by decide +kernel
theorem dX6_enter_11 : decode cX6_enter 11 = .ok (.goto 4, 3) := by decide +kernel
theorem dX6_enter_14 : decode cX6_enter 14 = .ok (.iconst 0, 1) := by decide +kernel
theorem dX6_enter_15 : decode cX6_enter 15 = .ok (.invokevirtual 119, 3) := by decide +kernel
theorem dX6_enter_18 : decode cX6_enter 18 = .ok (.ifCond .ne 5, 3) := by decide +kernel
theorem dX6_enter_21 : decode cX6_enter 21 = .ok (.iconst 0, 1) := by decide +kernel
theorem dX6_enter_22 : decode cX6_enter 22 = .ok (.ireturn, 1) := by decide +kernel
theorem dX6_enter_23 : decode cX6_enter 23 = .ok (.aload_n 0, 1) := by decide +kernel
theorem dX6_enter_24 : decode cX6_enter 24 = .ok (.dup, 1) := by decide +kernel
theorem dX6_enter_25 : decode cX6_enter 25 = .ok (.getfield 65, 3) := by decide +kernel
theorem dX6_enter_28 : decode cX6_enter 28 = .ok (.iconst 1, 1) := by decide +kernel
theorem dX6_enter_29 : decode cX6_enter 29 = .ok (.iadd, 1) := by decide +kernel
theorem dX6_enter_30 : decode cX6_enter 30 = .ok (.putfield 65, 3) := by decide +kernel
theorem dX6_enter_33 : decode cX6_enter 33 = .ok (.aload_n 0, 1) := by decide +kernel
theorem dX6_enter_34 : decode cX6_enter 34 = .ok (.getfield 65, 3) := by decide +kernel
theorem dX6_enter_37 : decode cX6_enter 37 = .ok (.iconst 1, 1) := by decide +kernel
theorem dX6_enter_38 : decode cX6_enter 38 = .ok (.isub, 1) := by decide +kernel
theorem dX6_enter_39 : decode cX6_enter 39 = .ok (.ireturn, 1) := by decide +kernel
theorem dX6_addPiece_0 : decode cX6_addPiece 0 = .ok (.bipush 60, 2) := by decide +kernel
theorem dX6_addPiece_2 : decode cX6_addPiece 2 = .ok (.iload_n 1, 1) := by decide +kernel
theorem dX6_addPiece_3 : decode cX6_addPiece 3 = .ok (.imul, 1) := by decide +kernel
theorem dX6_addPiece_4 : decode cX6_addPiece 4 = .ok (.aload_n 0, 1) := by decide +kernel
theorem dX6_addPiece_5 : decode cX6_addPiece 5 = .ok (.getfield 26, 3) := by decide +kernel
theorem dX6_addPiece_8 : decode cX6_addPiece 8 = .ok (.iload_n 1, 1) := by decide +kernel
theorem dX6_addPiece_9 : decode cX6_addPiece 9 = .ok (.iaload, 1) := by decide +kernel
theorem dX6_addPiece_10 : decode cX6_addPiece 10 = .ok (.iadd, 1) := by decide +kernel
theorem dX6_addPiece_11 : decode cX6_addPiece 11 = .ok (.istore 5, 2) := by decide +kernel
theorem dX6_addPiece_13 : decode cX6_addPiece 13 = .ok (.aload_n 0, 1) := by decide +kernel
theorem dX6_addPiece_14 : decode cX6_addPiece 14 = .ok (.getfield 29, 3) := by decide +kernel
theorem dX6_addPiece_17 : decode cX6_addPiece 17 = .ok (.iload 5, 2) := by decide +kernel
theorem dX6_addPiece_19 : decode cX6_addPiece 19 = .ok (.iload_n 2, 1) := by decide +kernel
theorem dX6_addPiece_20 : decode cX6_addPiece 20 = .ok (.iastore, 1) := by decide +kernel
theorem dX6_addPiece_21 : decode cX6_addPiece 21 = .ok (.aload_n 0, 1) := by decide +kernel
theorem dX6_addPiece_22 : decode cX6_addPiece 22 = .ok (.getfield 32, 3) := by decide +kernel
theorem dX6_addPiece_25 : decode cX6_addPiece 25 = .ok (.iload 5, 2) := by decide +kernel
theorem dX6_addPiece_27 : decode cX6_addPiece 27 = .ok (.iload_n 3, 1) := by decide +kernel
theorem dX6_addPiece_28 : decode cX6_addPiece 28 = .ok (.iastore, 1) := by decide +kernel
theorem dX6_addPiece_29 : decode cX6_addPiece 29 = .ok (.aload_n 0, 1) := by decide +kernel
theorem dX6_addPiece_30 : decode cX6_addPiece 30 = .ok (.getfield 35, 3) := by decide +kernel
theorem dX6_addPiece_33 : decode cX6_addPiece 33 = .ok (.iload 5, 2) := by decide +kernel
theorem dX6_addPiece_35 : decode cX6_addPiece 35 = .ok (.iload 4, 2) := by decide +kernel
theorem dX6_addPiece_37 : decode cX6_addPiece 37 = .ok (.iastore, 1) := by decide +kernel
theorem dX6_addPiece_38 : decode cX6_addPiece 38 = .ok (.aload_n 0, 1) := by decide +kernel
theorem dX6_addPiece_39 : decode cX6_addPiece 39 = .ok (.getfield 26, 3) := by decide +kernel
theorem dX6_addPiece_42 : decode cX6_addPiece 42 = .ok (.iload_n 1, 1) := by decide +kernel
theorem dX6_addPiece_43 : decode cX6_addPiece 43 = .ok (.dup2, 1) := by decide +kernel
theorem dX6_addPiece_44 : decode cX6_addPiece 44 = .ok (.iaload, 1) := by decide +kernel
theorem dX6_addPiece_45 : decode cX6_addPiece 45 = .ok (.iconst 1, 1) := by decide +kernel
theorem dX6_addPiece_46 : decode cX6_addPiece 46 = .ok (.iadd, 1) := by decide +kernel
theorem dX6_addPiece_47 : decode cX6_addPiece 47 = .ok (.iastore, 1) := by decide +kernel
theorem dX6_addPiece_48 : decode cX6_addPiece 48 = .ok (.aload_n 0, 1) := by decide +kernel
theorem dX6_addPiece_49 : decode cX6_addPiece 49 = .ok (.iload_n 1, 1) := by decide +kernel
theorem dX6_addPiece_50 : decode cX6_addPiece 50 = .ok (.invokevirtual 94, 3) := by decide +kernel
theorem dX6_addPiece_53 : decode cX6_addPiece 53 = .ok (.ireturn, 1) := by decide +kernel
theorem dX6_drive_0 : decode cX6_drive 0 = .ok (.aload_n 0, 1) := by decide +kernel
theorem dX6_drive_1 : decode cX6_drive 1 = .ok (.iload_n 1, 1) := by decide +kernel
theorem dX6_drive_2 : decode cX6_drive 2 = .ok (.invokevirtual 127, 3) := by decide +kernel
theorem dX6_drive_5 : decode cX6_drive 5 = .ok (.istore 4, 2) := by decide +kernel
theorem dX6_drive_7 : decode cX6_drive 7 = .ok (.iload_n 2, 1) := by decide +kernel
theorem dX6_drive_8 : decode cX6_drive 8 = .ok (.iconst 0, 1) := by decide +kernel
theorem dX6_drive_9 : decode cX6_drive 9 = .ok (.bipush 15, 2) := by decide +kernel
theorem dX6_drive_11 : decode cX6_drive 11 = .ok (.invokestatic 68, 3) := by decide +kernel
theorem dX6_drive_14 : decode cX6_drive 14 = .ok (.ifCond .eq 16, 3) := by decide +kernel
theorem dX6_drive_17 : decode cX6_drive 17 = .ok (.iload_n 3, 1) := by decide +kernel
theorem dX6_drive_18 : decode cX6_drive 18 = .ok (.iconst 0, 1) := by decide +kernel
theorem dX6_drive_19 : decode cX6_drive 19 = .ok (.iconst 3, 1) := by decide +kernel
theorem dX6_drive_20 : decode cX6_drive 20 = .ok (.invokestatic 68, 3) := by decide +kernel
theorem dX6_drive_23 : decode cX6_drive 23 = .ok (.ifCond .eq 7, 3) := by decide +kernel
theorem dX6_drive_26 : decode cX6_drive 26 = .ok (.iconst 1, 1) := by decide +kernel
theorem dX6_drive_27 : decode cX6_drive 27 = .ok (.goto 4, 3) := by decide +kernel
theorem dX6_drive_30 : decode cX6_drive 30 = .ok (.iconst 0, 1) := by decide +kernel
theorem dX6_drive_31 : decode cX6_drive 31 = .ok (.istore 5, 2) := by decide +kernel
theorem dX6_drive_33 : decode cX6_drive 33 = .ok (.iload 4, 2) := by decide +kernel
theorem dX6_drive_35 : decode cX6_drive 35 = .ok (.ifCond .eq 33, 3) := by decide +kernel
theorem dX6_drive_38 : decode cX6_drive 38 = .ok (.iload 5, 2) := by decide +kernel
theorem dX6_drive_40 : decode cX6_drive 40 = .ok (.ifCond .eq 28, 3) := by decide +kernel
theorem dX6_drive_43 : decode cX6_drive 43 = .ok (.aload_n 0, 1) := by decide +kernel
theorem dX6_drive_44 : decode cX6_drive 44 = .ok (.getfield 38, 3) := by decide +kernel
theorem dX6_drive_47 : decode cX6_drive 47 = .ok (.iload_n 1, 1) := by decide +kernel
theorem dX6_drive_48 : decode cX6_drive 48 = .ok (.iaload, 1) := by decide +kernel
theorem dX6_drive_49 : decode cX6_drive 49 = .ok (.iconst (-1), 1) := by decide +kernel
theorem dX6_drive_50 : decode cX6_drive 50 = .ok (.if_icmp .ne 18, 3) := by decide +kernel
theorem dX6_drive_53 : decode cX6_drive 53 = .ok (.aload_n 0, 1) := by decide +kernel
theorem dX6_drive_54 : decode cX6_drive 54 = .ok (.getfield 26, 3) := by decide +kernel
theorem dX6_drive_57 : decode cX6_drive 57 = .ok (.iload_n 1, 1) := by decide +kernel
theorem dX6_drive_58 : decode cX6_drive 58 = .ok (.iaload, 1) := by decide +kernel
theorem dX6_drive_59 : decode cX6_drive 59 = .ok (.bipush 60, 2) := by decide +kernel
theorem dX6_drive_61 : decode cX6_drive 61 = .ok (.if_icmp .ge 7, 3) := by decide +kernel
theorem dX6_drive_64 : decode cX6_drive 64 = .ok (.iconst 1, 1) := by decide +kernel
theorem dX6_drive_65 : decode cX6_drive 65 = .ok (.goto 4, 3) := by decide +kernel
theorem dX6_drive_68 : decode cX6_drive 68 = .ok (.iconst 0, 1) := by decide +kernel
theorem dX6_drive_69 : decode cX6_drive 69 = .ok (.istore 6, 2) := by decide +kernel
theorem dX6_drive_71 : decode cX6_drive 71 = .ok (.iload 6, 2) := by decide +kernel
theorem dX6_drive_73 : decode cX6_drive 73 = .ok (.ifCond .eq 24, 3) := by decide +kernel
theorem dX6_drive_76 : decode cX6_drive 76 = .ok (.aload_n 0, 1) := by decide +kernel
theorem dX6_drive_77 : decode cX6_drive 77 = .ok (.iload_n 1, 1) := by decide +kernel
theorem dX6_drive_78 : decode cX6_drive 78 = .ok (.aload_n 0, 1) := by decide +kernel
theorem dX6_drive_79 : decode cX6_drive 79 = .ok (.iload_n 1, 1) := by decide +kernel
theorem dX6_drive_80 : decode cX6_drive 80 = .ok (.invokevirtual 94, 3) := by decide +kernel
theorem dX6_drive_83 : decode cX6_drive 83 = .ok (.invokevirtual 98, 3) := by decide +kernel
theorem dX6_drive_86 : decode cX6_drive 86 = .ok (.aload_n 0, 1) := by decide +kernel
theorem dX6_drive_87 : decode cX6_drive 87 = .ok (.iload_n 2, 1) := by decide +kernel
theorem dX6_drive_88 : decode cX6_drive 88 = .ok (.invokevirtual 90, 3) := by decide +kernel
theorem dX6_drive_91 : decode cX6_drive 91 = .ok (.aload_n 0, 1) := by decide +kernel
theorem dX6_drive_92 : decode cX6_drive 92 = .ok (.invokevirtual 123, 3) := by decide +kernel
theorem dX6_drive_95 : decode cX6_drive 95 = .ok (.istore 6, 2) := by decide +kernel
theorem dX6_drive_97 : decode cX6_drive 97 = .ok (.aload_n 0, 1) := by decide +kernel
theorem dX6_drive_98 : decode cX6_drive 98 = .ok (.iload 4, 2) := by decide +kernel
theorem dX6_drive_100 : decode cX6_drive 100 = .ok (.ifCond .ne 7, 3) := by decide +kernel
theorem dX6_drive_103 : decode cX6_drive 103 = .ok (.iconst 1, 1) := by decide +kernel
theorem dX6_drive_104 : decode cX6_drive 104 = .ok (.goto 22, 3) := by decide +kernel
theorem dX6_drive_107 : decode cX6_drive 107 = .ok (.iload 5, 2) := by decide +kernel
theorem dX6_drive_109 : decode cX6_drive 109 = .ok (.ifCond .ne 7, 3) := by decide +kernel
theorem dX6_drive_112 : decode cX6_drive 112 = .ok (.iconst 2, 1) := by decide +kernel
theorem dX6_drive_113 : decode cX6_drive 113 = .ok (.goto 13, 3) := by decide +kernel
theorem dX6_drive_116 : decode cX6_drive 116 = .ok (.iload 6, 2) := by decide +kernel
theorem dX6_drive_118 : decode cX6_drive 118 = .ok (.ifCond .eq 7, 3) := by decide +kernel
theorem dX6_drive_121 : decode cX6_drive 121 = .ok (.iconst 0, 1) := by decide +kernel
theorem dX6_drive_122 : decode cX6_drive 122 = .ok (.goto 4, 3) := by decide +kernel
theorem dX6_drive_125 : decode cX6_drive 125 = .ok (.iconst 3, 1) := by decide +kernel
theorem dX6_drive_126 : decode cX6_drive 126 = .ok (.invokevirtual 119, 3) := by decide +kernel
theorem dX6_drive_129 : decode cX6_drive 129 = .ok (.ifCond .eq 14, 3) := by decide +kernel
theorem dX6_drive_132 : decode cX6_drive 132 = .ok (.aload_n 0, 1) := by decide +kernel
theorem dX6_drive_133 : decode cX6_drive 133 = .ok (.iload_n 1, 1) := by decide +kernel
theorem dX6_drive_134 : decode cX6_drive 134 = .ok (.iload_n 2, 1) := by decide +kernel
theorem dX6_drive_135 : decode cX6_drive 135 = .ok (.iload_n 2, 1) := by decide +kernel
theorem dX6_drive_136 : decode cX6_drive 136 = .ok (.iload_n 3, 1) := by decide +kernel
theorem dX6_drive_137 : decode cX6_drive 137 = .ok (.invokevirtual 130, 3) := by decide +kernel
theorem dX6_drive_140 : decode cX6_drive 140 = .ok (.goto 4, 3) := by decide +kernel
theorem dX6_drive_143 : decode cX6_drive 143 = .ok (.iconst 0, 1) := by decide +kernel
theorem dX6_drive_144 : decode cX6_drive 144 = .ok (.ireturn, 1) := by decide +kernel
theorem dX6_stand_0 : decode cX6_stand 0 = .ok (.aload_n 0, 1) := by decide +kernel
theorem dX6_stand_1 : decode cX6_stand 1 = .ok (.iload_n 1, 1) := by decide +kernel
theorem dX6_stand_2 : decode cX6_stand 2 = .ok (.invokevirtual 127, 3) := by decide +kernel
theorem dX6_stand_5 : decode cX6_stand 5 = .ok (.istore_n 3, 1) := by decide +kernel
theorem dX6_stand_6 : decode cX6_stand 6 = .ok (.iload_n 2, 1) := by decide +kernel
theorem dX6_stand_7 : decode cX6_stand 7 = .ok (.iconst 1, 1) := by decide +kernel
theorem dX6_stand_8 : decode cX6_stand 8 = .ok (.bipush 100, 2) := by decide +kernel
theorem dX6_stand_10 : decode cX6_stand 10 = .ok (.invokestatic 68, 3) := by decide +kernel
theorem dX6_stand_13 : decode cX6_stand 13 = .ok (.istore 4, 2) := by decide +kernel
theorem dX6_stand_15 : decode cX6_stand 15 = .ok (.aload_n 0, 1) := by decide +kernel
theorem dX6_stand_16 : decode cX6_stand 16 = .ok (.iload_n 3, 1) := by decide +kernel
theorem dX6_stand_17 : decode cX6_stand 17 = .ok (.ifCond .ne 7, 3) := by decide +kernel
theorem dX6_stand_20 : decode cX6_stand 20 = .ok (.iconst 1, 1) := by decide +kernel
theorem dX6_stand_21 : decode cX6_stand 21 = .ok (.goto 28, 3) := by decide +kernel
theorem dX6_stand_24 : decode cX6_stand 24 = .ok (.iload 4, 2) := by decide +kernel
theorem dX6_stand_26 : decode cX6_stand 26 = .ok (.ifCond .ne 7, 3) := by decide +kernel
theorem dX6_stand_29 : decode cX6_stand 29 = .ok (.iconst 2, 1) := by decide +kernel
theorem dX6_stand_30 : decode cX6_stand 30 = .ok (.goto 19, 3) := by decide +kernel
theorem dX6_stand_33 : decode cX6_stand 33 = .ok (.aload_n 0, 1) := by decide +kernel
theorem dX6_stand_34 : decode cX6_stand 34 = .ok (.getfield 26, 3) := by decide +kernel
theorem dX6_stand_37 : decode cX6_stand 37 = .ok (.iload_n 1, 1) := by decide +kernel
theorem dX6_stand_38 : decode cX6_stand 38 = .ok (.iaload, 1) := by decide +kernel
theorem dX6_stand_39 : decode cX6_stand 39 = .ok (.bipush 60, 2) := by decide +kernel
theorem dX6_stand_41 : decode cX6_stand 41 = .ok (.if_icmp .ne 7, 3) := by decide +kernel
theorem dX6_stand_44 : decode cX6_stand 44 = .ok (.iconst 3, 1) := by decide +kernel
theorem dX6_stand_45 : decode cX6_stand 45 = .ok (.goto 4, 3) := by decide +kernel
theorem dX6_stand_48 : decode cX6_stand 48 = .ok (.iconst 0, 1) := by decide +kernel
theorem dX6_stand_49 : decode cX6_stand 49 = .ok (.invokevirtual 119, 3) := by decide +kernel
theorem dX6_stand_52 : decode cX6_stand 52 = .ok (.ifCond .eq 14, 3) := by decide +kernel
theorem dX6_stand_55 : decode cX6_stand 55 = .ok (.aload_n 0, 1) := by decide +kernel
theorem dX6_stand_56 : decode cX6_stand 56 = .ok (.iload_n 1, 1) := by decide +kernel
theorem dX6_stand_57 : decode cX6_stand 57 = .ok (.iconst (-1), 1) := by decide +kernel
theorem dX6_stand_58 : decode cX6_stand 58 = .ok (.iload_n 2, 1) := by decide +kernel
theorem dX6_stand_59 : decode cX6_stand 59 = .ok (.iconst 0, 1) := by decide +kernel
theorem dX6_stand_60 : decode cX6_stand 60 = .ok (.invokevirtual 130, 3) := by decide +kernel
theorem dX6_stand_63 : decode cX6_stand 63 = .ok (.goto 4, 3) := by decide +kernel
theorem dX6_stand_66 : decode cX6_stand 66 = .ok (.iconst 0, 1) := by decide +kernel
theorem dX6_stand_67 : decode cX6_stand 67 = .ok (.ireturn, 1) := by decide +kernel
theorem dX6_breakDown_0 : decode cX6_breakDown 0 = .ok (.aload_n 0, 1) := by decide +kernel
theorem dX6_breakDown_1 : decode cX6_breakDown 1 = .ok (.iload_n 1, 1) := by decide +kernel
theorem dX6_breakDown_2 : decode cX6_breakDown 2 = .ok (.invokevirtual 127, 3) := by decide +kernel
theorem dX6_breakDown_5 : decode cX6_breakDown 5 = .ok (.ifCond .eq 16, 3) := by decide +kernel
theorem dX6_breakDown_8 : decode cX6_breakDown 8 = .ok (.iload_n 2, 1) := by decide +kernel
theorem dX6_breakDown_9 : decode cX6_breakDown 9 = .ok (.iconst 0, 1) := by decide +kernel
theorem dX6_breakDown_10 : decode cX6_breakDown 10 = .ok (.iconst 3, 1) := by decide +kernel
theorem dX6_breakDown_11 : decode cX6_breakDown 11 = .ok (.invokestatic 68, 3) := by decide +kernel
theorem dX6_breakDown_14 : decode cX6_breakDown 14 = .ok (.ifCond .eq 7, 3) := by decide +kernel
theorem dX6_breakDown_17 : decode cX6_breakDown 17 = .ok (.iconst 1, 1) := by decide +kernel
theorem dX6_breakDown_18 : decode cX6_breakDown 18 = .ok (.goto 4, 3) := by decide +kernel
theorem dX6_breakDown_21 : decode cX6_breakDown 21 = .ok (.iconst 0, 1) := by decide +kernel
theorem dX6_breakDown_22 : decode cX6_breakDown 22 = .ok (.istore_n 3, 1) := by decide +kernel
theorem dX6_breakDown_23 : decode cX6_breakDown 23 = .ok (.aload_n 0, 1) := by decide +kernel
theorem dX6_breakDown_24 : decode cX6_breakDown 24 = .ok (.iload_n 3, 1) := by decide +kernel
theorem dX6_breakDown_25 : decode cX6_breakDown 25 = .ok (.ifCond .ne 7, 3) := by decide +kernel
theorem dX6_breakDown_28 : decode cX6_breakDown 28 = .ok (.iconst 1, 1) := by decide +kernel
theorem dX6_breakDown_29 : decode cX6_breakDown 29 = .ok (.goto 18, 3) := by decide +kernel
theorem dX6_breakDown_32 : decode cX6_breakDown 32 = .ok (.aload_n 0, 1) := by decide +kernel
theorem dX6_breakDown_33 : decode cX6_breakDown 33 = .ok (.getfield 38, 3) := by decide +kernel
theorem dX6_breakDown_36 : decode cX6_breakDown 36 = .ok (.iload_n 1, 1) := by decide +kernel
theorem dX6_breakDown_37 : decode cX6_breakDown 37 = .ok (.iaload, 1) := by decide +kernel
theorem dX6_breakDown_38 : decode cX6_breakDown 38 = .ok (.iconst (-1), 1) := by decide +kernel
theorem dX6_breakDown_39 : decode cX6_breakDown 39 = .ok (.if_icmp .ne 7, 3) := by decide +kernel
theorem dX6_breakDown_42 : decode cX6_breakDown 42 = .ok (.iconst 0, 1) := by decide +kernel
theorem dX6_breakDown_43 : decode cX6_breakDown 43 = .ok (.goto 4, 3) := by decide +kernel
theorem dX6_breakDown_46 : decode cX6_breakDown 46 = .ok (.iconst 2, 1) := by decide +kernel
theorem dX6_breakDown_47 : decode cX6_breakDown 47 = .ok (.invokevirtual 119, 3) := by decide +kernel
theorem dX6_breakDown_50 : decode cX6_breakDown 50 = .ok (.ifCond .eq 10, 3) := by decide +kernel
theorem dX6_breakDown_53 : decode cX6_breakDown 53 = .ok (.aload_n 0, 1) := by decide +kernel
theorem dX6_breakDown_54 : decode cX6_breakDown 54 = .ok (.getfield 38, 3) := by decide +kernel
theorem dX6_breakDown_57 : decode cX6_breakDown 57 = .ok (.iload_n 1, 1) := by decide +kernel
theorem dX6_breakDown_58 : decode cX6_breakDown 58 = .ok (.iload_n 2, 1) := by decide +kernel
theorem dX6_breakDown_59 : decode cX6_breakDown 59 = .ok (.iastore, 1) := by decide +kernel
theorem dX6_breakDown_60 : decode cX6_breakDown 60 = .ok (.return_, 1) := by decide +kernel
theorem dX6_mend_0 : decode cX6_mend 0 = .ok (.aload_n 0, 1) := by decide +kernel
theorem dX6_mend_1 : decode cX6_mend 1 = .ok (.iload_n 1, 1) := by decide +kernel
theorem dX6_mend_2 : decode cX6_mend 2 = .ok (.invokevirtual 127, 3) := by decide +kernel
theorem dX6_mend_5 : decode cX6_mend 5 = .ok (.istore_n 2, 1) := by decide +kernel
theorem dX6_mend_6 : decode cX6_mend 6 = .ok (.iload_n 2, 1) := by decide +kernel
theorem dX6_mend_7 : decode cX6_mend 7 = .ok (.ifCond .eq 28, 3) := by decide +kernel
theorem dX6_mend_10 : decode cX6_mend 10 = .ok (.aload_n 0, 1) := by decide +kernel
theorem dX6_mend_11 : decode cX6_mend 11 = .ok (.getfield 38, 3) := by decide +kernel
theorem dX6_mend_14 : decode cX6_mend 14 = .ok (.iload_n 1, 1) := by decide +kernel
theorem dX6_mend_15 : decode cX6_mend 15 = .ok (.iaload, 1) := by decide +kernel
theorem dX6_mend_16 : decode cX6_mend 16 = .ok (.iconst (-1), 1) := by decide +kernel
theorem dX6_mend_17 : decode cX6_mend 17 = .ok (.if_icmp .eq 18, 3) := by decide +kernel
theorem dX6_mend_20 : decode cX6_mend 20 = .ok (.aload_n 0, 1) := by decide +kernel
theorem dX6_mend_21 : decode cX6_mend 21 = .ok (.getfield 26, 3) := by decide +kernel
theorem dX6_mend_24 : decode cX6_mend 24 = .ok (.iload_n 1, 1) := by decide +kernel
theorem dX6_mend_25 : decode cX6_mend 25 = .ok (.iaload, 1) := by decide +kernel
theorem dX6_mend_26 : decode cX6_mend 26 = .ok (.bipush 60, 2) := by decide +kernel
theorem dX6_mend_28 : decode cX6_mend 28 = .ok (.if_icmp .ge 7, 3) := by decide +kernel
theorem dX6_mend_31 : decode cX6_mend 31 = .ok (.iconst 1, 1) := by decide +kernel
theorem dX6_mend_32 : decode cX6_mend 32 = .ok (.goto 4, 3) := by decide +kernel
theorem dX6_mend_35 : decode cX6_mend 35 = .ok (.iconst 0, 1) := by decide +kernel
theorem dX6_mend_36 : decode cX6_mend 36 = .ok (.istore_n 3, 1) := by decide +kernel
theorem dX6_mend_37 : decode cX6_mend 37 = .ok (.iconst (-1), 1) := by decide +kernel
theorem dX6_mend_38 : decode cX6_mend 38 = .ok (.istore 4, 2) := by decide +kernel
theorem dX6_mend_40 : decode cX6_mend 40 = .ok (.aload_n 0, 1) := by decide +kernel
theorem dX6_mend_41 : decode cX6_mend 41 = .ok (.getfield 134, 3) := by decide +kernel
theorem dX6_mend_44 : decode cX6_mend 44 = .ok (.iconst 1, 1) := by decide +kernel
theorem dX6_mend_45 : decode cX6_mend 45 = .ok (.isub, 1) := by decide +kernel
theorem dX6_mend_46 : decode cX6_mend 46 = .ok (.istore 5, 2) := by decide +kernel
theorem dX6_mend_48 : decode cX6_mend 48 = .ok (.iload 5, 2) := by decide +kernel
theorem dX6_mend_50 : decode cX6_mend 50 = .ok (.ifCond .lt 49, 3) := by decide +kernel
theorem dX6_mend_53 : decode cX6_mend 53 = .ok (.iload_n 3, 1) := by decide +kernel
theorem dX6_mend_54 : decode cX6_mend 54 = .ok (.ifCond .eq 45, 3) := by decide +kernel
theorem dX6_mend_57 : decode cX6_mend 57 = .ok (.aload_n 0, 1) := by decide +kernel
theorem dX6_mend_58 : decode cX6_mend 58 = .ok (.getfield 53, 3) := by decide +kernel
theorem dX6_mend_61 : decode cX6_mend 61 = .ok (.iload 5, 2) := by decide +kernel
theorem dX6_mend_63 : decode cX6_mend 63 = .ok (.iaload, 1) := by decide +kernel
theorem dX6_mend_64 : decode cX6_mend 64 = .ok (.iload_n 1, 1) := by decide +kernel
theorem dX6_mend_65 : decode cX6_mend 65 = .ok (.if_icmp .ne 24, 3) := by decide +kernel
theorem dX6_mend_68 : decode cX6_mend 68 = .ok (.aload_n 0, 1) := by decide +kernel
theorem dX6_mend_69 : decode cX6_mend 69 = .ok (.getfield 47, 3) := by decide +kernel
theorem dX6_mend_72 : decode cX6_mend 72 = .ok (.iload 5, 2) := by decide +kernel
theorem dX6_mend_74 : decode cX6_mend 74 = .ok (.iaload, 1) := by decide +kernel
theorem dX6_mend_75 : decode cX6_mend 75 = .ok (.aload_n 0, 1) := by decide +kernel
theorem dX6_mend_76 : decode cX6_mend 76 = .ok (.getfield 38, 3) := by decide +kernel
theorem dX6_mend_79 : decode cX6_mend 79 = .ok (.iload_n 1, 1) := by decide +kernel
theorem dX6_mend_80 : decode cX6_mend 80 = .ok (.iaload, 1) := by decide +kernel
theorem dX6_mend_81 : decode cX6_mend 81 = .ok (.if_icmp .ne 8, 3) := by decide +kernel
theorem dX6_mend_84 : decode cX6_mend 84 = .ok (.iload 5, 2) := by decide +kernel
theorem dX6_mend_86 : decode cX6_mend 86 = .ok (.goto 5, 3) := by decide +kernel
theorem dX6_mend_89 : decode cX6_mend 89 = .ok (.iload 4, 2) := by decide +kernel
theorem dX6_mend_91 : decode cX6_mend 91 = .ok (.istore 4, 2) := by decide +kernel
theorem dX6_mend_93 : decode cX6_mend 93 = .ok (.iinc 5 (-1), 3) := by decide +kernel
theorem dX6_mend_96 : decode cX6_mend 96 = .ok (.goto (-48), 3) := by decide +kernel
theorem dX6_mend_99 : decode cX6_mend 99 = .ok (.aload_n 0, 1) := by decide +kernel
theorem dX6_mend_100 : decode cX6_mend 100 = .ok (.iload_n 2, 1) := by decide +kernel
theorem dX6_mend_101 : decode cX6_mend 101 = .ok (.ifCond .ne 7, 3) := by decide +kernel
theorem dX6_mend_104 : decode cX6_mend 104 = .ok (.iconst 1, 1) := by decide +kernel
theorem dX6_mend_105 : decode cX6_mend 105 = .ok (.goto 22, 3) := by decide +kernel
theorem dX6_mend_108 : decode cX6_mend 108 = .ok (.iload_n 3, 1) := by decide +kernel
theorem dX6_mend_109 : decode cX6_mend 109 = .ok (.ifCond .ne 7, 3) := by decide +kernel
theorem dX6_mend_112 : decode cX6_mend 112 = .ok (.iconst 2, 1) := by decide +kernel
theorem dX6_mend_113 : decode cX6_mend 113 = .ok (.goto 14, 3) := by decide +kernel
theorem dX6_mend_116 : decode cX6_mend 116 = .ok (.iload 4, 2) := by decide +kernel
theorem dX6_mend_118 : decode cX6_mend 118 = .ok (.iconst (-1), 1) := by decide +kernel
theorem dX6_mend_119 : decode cX6_mend 119 = .ok (.if_icmp .ne 7, 3) := by decide +kernel
theorem dX6_mend_122 : decode cX6_mend 122 = .ok (.iconst 3, 1) := by decide +kernel
theorem dX6_mend_123 : decode cX6_mend 123 = .ok (.goto 4, 3) := by decide +kernel
theorem dX6_mend_126 : decode cX6_mend 126 = .ok (.iconst 0, 1) := by decide +kernel
theorem dX6_mend_127 : decode cX6_mend 127 = .ok (.invokevirtual 119, 3) := by decide +kernel
theorem dX6_mend_130 : decode cX6_mend 130 = .ok (.ifCond .ne 5, 3) := by decide +kernel
theorem dX6_mend_133 : decode cX6_mend 133 = .ok (.iconst 0, 1) := by decide +kernel
theorem dX6_mend_134 : decode cX6_mend 134 = .ok (.ireturn, 1) := by decide +kernel
theorem dX6_mend_135 : decode cX6_mend 135 = .ok (.aload_n 0, 1) := by decide +kernel
theorem dX6_mend_136 : decode cX6_mend 136 = .ok (.getfield 53, 3) := by decide +kernel
theorem dX6_mend_139 : decode cX6_mend 139 = .ok (.iload 4, 2) := by decide +kernel
theorem dX6_mend_141 : decode cX6_mend 141 = .ok (.bipush (-2), 2) := by decide +kernel
theorem dX6_mend_143 : decode cX6_mend 143 = .ok (.iastore, 1) := by decide +kernel
theorem dX6_mend_144 : decode cX6_mend 144 = .ok (.aload_n 0, 1) := by decide +kernel
theorem dX6_mend_145 : decode cX6_mend 145 = .ok (.getfield 56, 3) := by decide +kernel
theorem dX6_mend_148 : decode cX6_mend 148 = .ok (.iload 4, 2) := by decide +kernel
theorem dX6_mend_150 : decode cX6_mend 150 = .ok (.iload_n 1, 1) := by decide +kernel
theorem dX6_mend_151 : decode cX6_mend 151 = .ok (.iastore, 1) := by decide +kernel
theorem dX6_mend_152 : decode cX6_mend 152 = .ok (.aload_n 0, 1) := by decide +kernel
theorem dX6_mend_153 : decode cX6_mend 153 = .ok (.iload_n 1, 1) := by decide +kernel
theorem dX6_mend_154 : decode cX6_mend 154 = .ok (.iconst (-1), 1) := by decide +kernel
theorem dX6_mend_155 : decode cX6_mend 155 = .ok (.iconst 3, 1) := by decide +kernel
theorem dX6_mend_156 : decode cX6_mend 156 = .ok (.aload_n 0, 1) := by decide +kernel
theorem dX6_mend_157 : decode cX6_mend 157 = .ok (.getfield 38, 3) := by decide +kernel
theorem dX6_mend_160 : decode cX6_mend 160 = .ok (.iload_n 1, 1) := by decide +kernel
theorem dX6_mend_161 : decode cX6_mend 161 = .ok (.iaload, 1) := by decide +kernel
theorem dX6_mend_162 : decode cX6_mend 162 = .ok (.iconst 1, 1) := by decide +kernel
theorem dX6_mend_163 : decode cX6_mend 163 = .ok (.iadd, 1) := by decide +kernel
theorem dX6_mend_164 : decode cX6_mend 164 = .ok (.imul, 1) := by decide +kernel
theorem dX6_mend_165 : decode cX6_mend 165 = .ok (.iconst 0, 1) := by decide +kernel
theorem dX6_mend_166 : decode cX6_mend 166 = .ok (.invokevirtual 130, 3) := by decide +kernel
theorem dX6_mend_169 : decode cX6_mend 169 = .ok (.istore 5, 2) := by decide +kernel
theorem dX6_mend_171 : decode cX6_mend 171 = .ok (.aload_n 0, 1) := by decide +kernel
theorem dX6_mend_172 : decode cX6_mend 172 = .ok (.getfield 38, 3) := by decide +kernel
theorem dX6_mend_175 : decode cX6_mend 175 = .ok (.iload_n 1, 1) := by decide +kernel
theorem dX6_mend_176 : decode cX6_mend 176 = .ok (.iconst (-1), 1) := by decide +kernel
theorem dX6_mend_177 : decode cX6_mend 177 = .ok (.iastore, 1) := by decide +kernel
theorem dX6_mend_178 : decode cX6_mend 178 = .ok (.iload 4, 2) := by decide +kernel
theorem dX6_mend_180 : decode cX6_mend 180 = .ok (.ireturn, 1) := by decide +kernel
theorem dX6_bring_0 : decode cX6_bring 0 = .ok (.iload_n 1, 1) := by decide +kernel
theorem dX6_bring_1 : decode cX6_bring 1 = .ok (.iconst 0, 1) := by decide +kernel
theorem dX6_bring_2 : decode cX6_bring 2 = .ok (.iconst 3, 1) := by decide +kernel
theorem dX6_bring_3 : decode cX6_bring 3 = .ok (.invokestatic 68, 3) := by decide +kernel
theorem dX6_bring_6 : decode cX6_bring 6 = .ok (.ifCond .eq 20, 3) := by decide +kernel
theorem dX6_bring_9 : decode cX6_bring 9 = .ok (.iload_n 2, 1) := by decide +kernel
theorem dX6_bring_10 : decode cX6_bring 10 = .ok (.iconst (-1), 1) := by decide +kernel
theorem dX6_bring_11 : decode cX6_bring 11 = .ok (.if_icmp .eq 11, 3) := by decide +kernel
theorem dX6_bring_14 : decode cX6_bring 14 = .ok (.aload_n 0, 1) := by decide +kernel
theorem dX6_bring_15 : decode cX6_bring 15 = .ok (.iload_n 2, 1) := by decide +kernel
theorem dX6_bring_16 : decode cX6_bring 16 = .ok (.invokevirtual 127, 3) := by decide +kernel
theorem dX6_bring_19 : decode cX6_bring 19 = .ok (.ifCond .eq 7, 3) := by decide +kernel
theorem dX6_bring_22 : decode cX6_bring 22 = .ok (.iconst 1, 1) := by decide +kernel
theorem dX6_bring_23 : decode cX6_bring 23 = .ok (.goto 4, 3) := by decide +kernel
theorem dX6_bring_26 : decode cX6_bring 26 = .ok (.iconst 0, 1) := by decide +kernel
theorem dX6_bring_27 : decode cX6_bring 27 = .ok (.istore_n 3, 1) := by decide +kernel
theorem dX6_bring_28 : decode cX6_bring 28 = .ok (.aload_n 0, 1) := by decide +kernel
theorem dX6_bring_29 : decode cX6_bring 29 = .ok (.iload_n 3, 1) := by decide +kernel
theorem dX6_bring_30 : decode cX6_bring 30 = .ok (.ifCond .ne 7, 3) := by decide +kernel
theorem dX6_bring_33 : decode cX6_bring 33 = .ok (.iconst 1, 1) := by decide +kernel
theorem dX6_bring_34 : decode cX6_bring 34 = .ok (.goto 17, 3) := by decide +kernel
theorem dX6_bring_37 : decode cX6_bring 37 = .ok (.aload_n 0, 1) := by decide +kernel
theorem dX6_bring_38 : decode cX6_bring 38 = .ok (.getfield 134, 3) := by decide +kernel
theorem dX6_bring_41 : decode cX6_bring 41 = .ok (.bipush 40, 2) := by decide +kernel
theorem dX6_bring_43 : decode cX6_bring 43 = .ok (.if_icmp .ne 7, 3) := by decide +kernel
theorem dX6_bring_46 : decode cX6_bring 46 = .ok (.iconst 2, 1) := by decide +kernel
theorem dX6_bring_47 : decode cX6_bring 47 = .ok (.goto 4, 3) := by decide +kernel
theorem dX6_bring_50 : decode cX6_bring 50 = .ok (.iconst 0, 1) := by decide +kernel
theorem dX6_bring_51 : decode cX6_bring 51 = .ok (.invokevirtual 119, 3) := by decide +kernel
theorem dX6_bring_54 : decode cX6_bring 54 = .ok (.ifCond .ne 5, 3) := by decide +kernel
theorem dX6_bring_57 : decode cX6_bring 57 = .ok (.iconst 0, 1) := by decide +kernel
theorem dX6_bring_58 : decode cX6_bring 58 = .ok (.ireturn, 1) := by decide +kernel
theorem dX6_bring_59 : decode cX6_bring 59 = .ok (.aload_n 0, 1) := by decide +kernel
theorem dX6_bring_60 : decode cX6_bring 60 = .ok (.getfield 47, 3) := by decide +kernel
theorem dX6_bring_63 : decode cX6_bring 63 = .ok (.aload_n 0, 1) := by decide +kernel
theorem dX6_bring_64 : decode cX6_bring 64 = .ok (.getfield 134, 3) := by decide +kernel
theorem dX6_bring_67 : decode cX6_bring 67 = .ok (.iload_n 1, 1) := by decide +kernel
theorem dX6_bring_68 : decode cX6_bring 68 = .ok (.iastore, 1) := by decide +kernel
theorem dX6_bring_69 : decode cX6_bring 69 = .ok (.aload_n 0, 1) := by decide +kernel
theorem dX6_bring_70 : decode cX6_bring 70 = .ok (.getfield 50, 3) := by decide +kernel
theorem dX6_bring_73 : decode cX6_bring 73 = .ok (.aload_n 0, 1) := by decide +kernel
theorem dX6_bring_74 : decode cX6_bring 74 = .ok (.getfield 134, 3) := by decide +kernel
theorem dX6_bring_77 : decode cX6_bring 77 = .ok (.iload_n 2, 1) := by decide +kernel
theorem dX6_bring_78 : decode cX6_bring 78 = .ok (.iastore, 1) := by decide +kernel
theorem dX6_bring_79 : decode cX6_bring 79 = .ok (.aload_n 0, 1) := by decide +kernel
theorem dX6_bring_80 : decode cX6_bring 80 = .ok (.getfield 53, 3) := by decide +kernel
theorem dX6_bring_83 : decode cX6_bring 83 = .ok (.aload_n 0, 1) := by decide +kernel
theorem dX6_bring_84 : decode cX6_bring 84 = .ok (.getfield 134, 3) := by decide +kernel
theorem dX6_bring_87 : decode cX6_bring 87 = .ok (.iload_n 2, 1) := by decide +kernel
theorem dX6_bring_88 : decode cX6_bring 88 = .ok (.iastore, 1) := by decide +kernel
theorem dX6_bring_89 : decode cX6_bring 89 = .ok (.aload_n 0, 1) := by decide +kernel
theorem dX6_bring_90 : decode cX6_bring 90 = .ok (.dup, 1) := by decide +kernel
theorem dX6_bring_91 : decode cX6_bring 91 = .ok (.getfield 134, 3) := by decide +kernel
theorem dX6_bring_94 : decode cX6_bring 94 = .ok (.iconst 1, 1) := by decide +kernel
theorem dX6_bring_95 : decode cX6_bring 95 = .ok (.iadd, 1) := by decide +kernel
theorem dX6_bring_96 : decode cX6_bring 96 = .ok (.putfield 134, 3) := by decide +kernel
theorem dX6_bring_99 : decode cX6_bring 99 = .ok (.aload_n 0, 1) := by decide +kernel
theorem dX6_bring_100 : decode cX6_bring 100 = .ok (.getfield 134, 3) := by decide +kernel
theorem dX6_bring_103 : decode cX6_bring 103 = .ok (.iconst 1, 1) := by decide +kernel
theorem dX6_bring_104 : decode cX6_bring 104 = .ok (.isub, 1) := by decide +kernel
theorem dX6_bring_105 : decode cX6_bring 105 = .ok (.ireturn, 1) := by decide +kernel
theorem dX6_cellOfPlace_0 : decode cX6_cellOfPlace 0 = .ok (.iload_n 1, 1) := by decide +kernel
theorem dX6_cellOfPlace_1 : decode cX6_cellOfPlace 1 = .ok (.iconst (-1), 1) := by decide +kernel
theorem dX6_cellOfPlace_2 : decode cX6_cellOfPlace 2 = .ok (.if_icmp .ne 10, 3) := by decide +kernel
theorem dX6_cellOfPlace_5 : decode cX6_cellOfPlace 5 = .ok (.aload_n 0, 1) := by decide +kernel
theorem dX6_cellOfPlace_6 : decode cX6_cellOfPlace 6 = .ok (.getfield 75, 3) := by decide +kernel
theorem dX6_cellOfPlace_9 : decode cX6_cellOfPlace 9 = .ok (.goto 8, 3) := by decide +kernel
theorem dX6_cellOfPlace_12 : decode cX6_cellOfPlace 12 = .ok (.aload_n 0, 1) := by decide +kernel
theorem dX6_cellOfPlace_13 : decode cX6_cellOfPlace 13 = .ok (.iload_n 1, 1) := by decide +kernel
theorem dX6_cellOfPlace_14 : decode cX6_cellOfPlace 14 = .ok (.invokevirtual 137, 3) := by decide +kernel
theorem dX6_cellOfPlace_17 : decode cX6_cellOfPlace 17 = .ok (.ireturn, 1) := by decide +kernel
theorem dX6_hand_0 : decode cX6_hand 0 = .ok (.iload_n 1, 1) := by decide +kernel
theorem dX6_hand_1 : decode cX6_hand 1 = .ok (.iconst 0, 1) := by decide +kernel
theorem dX6_hand_2 : decode cX6_hand 2 = .ok (.aload_n 0, 1) := by decide +kernel
theorem dX6_hand_3 : decode cX6_hand 3 = .ok (.getfield 134, 3) := by decide +kernel
theorem dX6_hand_6 : decode cX6_hand 6 = .ok (.iconst 1, 1) := by decide +kernel
theorem dX6_hand_7 : decode cX6_hand 7 = .ok (.isub, 1) := by decide +kernel
theorem dX6_hand_8 : decode cX6_hand 8 = .ok (.invokestatic 68, 3) := by decide +kernel
theorem dX6_hand_11 : decode cX6_hand 11 = .ok (.ifCond .eq 20, 3) := by decide +kernel
theorem dX6_hand_14 : decode cX6_hand 14 = .ok (.iload_n 2, 1) := by decide +kernel
theorem dX6_hand_15 : decode cX6_hand 15 = .ok (.iconst (-1), 1) := by decide +kernel
theorem dX6_hand_16 : decode cX6_hand 16 = .ok (.if_icmp .eq 11, 3) := by decide +kernel
theorem dX6_hand_19 : decode cX6_hand 19 = .ok (.aload_n 0, 1) := by decide +kernel
theorem dX6_hand_20 : decode cX6_hand 20 = .ok (.iload_n 2, 1) := by decide +kernel
theorem dX6_hand_21 : decode cX6_hand 21 = .ok (.invokevirtual 127, 3) := by decide +kernel
theorem dX6_hand_24 : decode cX6_hand 24 = .ok (.ifCond .eq 7, 3) := by decide +kernel
theorem dX6_hand_27 : decode cX6_hand 27 = .ok (.iconst 1, 1) := by decide +kernel
theorem dX6_hand_28 : decode cX6_hand 28 = .ok (.goto 4, 3) := by decide +kernel
theorem dX6_hand_31 : decode cX6_hand 31 = .ok (.iconst 0, 1) := by decide +kernel
theorem dX6_hand_32 : decode cX6_hand 32 = .ok (.istore_n 3, 1) := by decide +kernel
theorem dX6_hand_33 : decode cX6_hand 33 = .ok (.iload_n 3, 1) := by decide +kernel
theorem dX6_hand_34 : decode cX6_hand 34 = .ok (.ifCond .eq 28, 3) := by decide +kernel
theorem dX6_hand_37 : decode cX6_hand 37 = .ok (.aload_n 0, 1) := by decide +kernel
theorem dX6_hand_38 : decode cX6_hand 38 = .ok (.getfield 53, 3) := by decide +kernel
theorem dX6_hand_41 : decode cX6_hand 41 = .ok (.iload_n 1, 1) := by decide +kernel
theorem dX6_hand_42 : decode cX6_hand 42 = .ok (.iaload, 1) := by decide +kernel
theorem dX6_hand_43 : decode cX6_hand 43 = .ok (.bipush (-2), 2) := by decide +kernel
theorem dX6_hand_45 : decode cX6_hand 45 = .ok (.if_icmp .eq 17, 3) := by decide +kernel
theorem dX6_hand_48 : decode cX6_hand 48 = .ok (.aload_n 0, 1) := by decide +kernel
theorem dX6_hand_49 : decode cX6_hand 49 = .ok (.getfield 53, 3) := by decide +kernel
theorem dX6_hand_52 : decode cX6_hand 52 = .ok (.iload_n 1, 1) := by decide +kernel
theorem dX6_hand_53 : decode cX6_hand 53 = .ok (.iaload, 1) := by decide +kernel
theorem dX6_hand_54 : decode cX6_hand 54 = .ok (.iload_n 2, 1) := by decide +kernel
theorem dX6_hand_55 : decode cX6_hand 55 = .ok (.if_icmp .eq 7, 3) := by decide +kernel
theorem dX6_hand_58 : decode cX6_hand 58 = .ok (.iconst 1, 1) := by decide +kernel
theorem dX6_hand_59 : decode cX6_hand 59 = .ok (.goto 4, 3) := by decide +kernel
theorem dX6_hand_62 : decode cX6_hand 62 = .ok (.iconst 0, 1) := by decide +kernel
theorem dX6_hand_63 : decode cX6_hand 63 = .ok (.istore 4, 2) := by decide +kernel
theorem dX6_hand_65 : decode cX6_hand 65 = .ok (.iload 4, 2) := by decide +kernel
theorem dX6_hand_67 : decode cX6_hand 67 = .ok (.ifCond .eq 32, 3) := by decide +kernel
theorem dX6_hand_70 : decode cX6_hand 70 = .ok (.aload_n 0, 1) := by decide +kernel
theorem dX6_hand_71 : decode cX6_hand 71 = .ok (.aload_n 0, 1) := by decide +kernel
theorem dX6_hand_72 : decode cX6_hand 72 = .ok (.getfield 53, 3) := by decide +kernel
theorem dX6_hand_75 : decode cX6_hand 75 = .ok (.iload_n 1, 1) := by decide +kernel
theorem dX6_hand_76 : decode cX6_hand 76 = .ok (.iaload, 1) := by decide +kernel
theorem dX6_hand_77 : decode cX6_hand 77 = .ok (.invokevirtual 140, 3) := by decide +kernel
theorem dX6_hand_80 : decode cX6_hand 80 = .ok (.istore 5, 2) := by decide +kernel
theorem dX6_hand_82 : decode cX6_hand 82 = .ok (.iload 5, 2) := by decide +kernel
theorem dX6_hand_84 : decode cX6_hand 84 = .ok (.aload_n 0, 1) := by decide +kernel
theorem dX6_hand_85 : decode cX6_hand 85 = .ok (.iload_n 2, 1) := by decide +kernel
theorem dX6_hand_86 : decode cX6_hand 86 = .ok (.invokevirtual 140, 3) := by decide +kernel
theorem dX6_hand_89 : decode cX6_hand 89 = .ok (.if_icmp .ne 7, 3) := by decide +kernel
theorem dX6_hand_92 : decode cX6_hand 92 = .ok (.iconst 1, 1) := by decide +kernel
theorem dX6_hand_93 : decode cX6_hand 93 = .ok (.goto 4, 3) := by decide +kernel
theorem dX6_hand_96 : decode cX6_hand 96 = .ok (.iconst 0, 1) := by decide +kernel
theorem dX6_hand_97 : decode cX6_hand 97 = .ok (.istore 4, 2) := by decide +kernel
theorem dX6_hand_99 : decode cX6_hand 99 = .ok (.aload_n 0, 1) := by decide +kernel
theorem dX6_hand_100 : decode cX6_hand 100 = .ok (.iload_n 3, 1) := by decide +kernel
theorem dX6_hand_101 : decode cX6_hand 101 = .ok (.ifCond .ne 7, 3) := by decide +kernel
theorem dX6_hand_104 : decode cX6_hand 104 = .ok (.iconst 1, 1) := by decide +kernel
theorem dX6_hand_105 : decode cX6_hand 105 = .ok (.goto 13, 3) := by decide +kernel
theorem dX6_hand_108 : decode cX6_hand 108 = .ok (.iload 4, 2) := by decide +kernel
theorem dX6_hand_110 : decode cX6_hand 110 = .ok (.ifCond .eq 7, 3) := by decide +kernel
theorem dX6_hand_113 : decode cX6_hand 113 = .ok (.iconst 0, 1) := by decide +kernel
theorem dX6_hand_114 : decode cX6_hand 114 = .ok (.goto 4, 3) := by decide +kernel
theorem dX6_hand_117 : decode cX6_hand 117 = .ok (.iconst 2, 1) := by decide +kernel
theorem dX6_hand_118 : decode cX6_hand 118 = .ok (.invokevirtual 119, 3) := by decide +kernel
theorem dX6_hand_121 : decode cX6_hand 121 = .ok (.ifCond .ne 5, 3) := by decide +kernel
theorem dX6_hand_124 : decode cX6_hand 124 = .ok (.iconst 0, 1) := by decide +kernel
theorem dX6_hand_125 : decode cX6_hand 125 = .ok (.ireturn, 1) := by decide +kernel
theorem dX6_hand_126 : decode cX6_hand 126 = .ok (.aload_n 0, 1) := by decide +kernel
theorem dX6_hand_127 : decode cX6_hand 127 = .ok (.getfield 53, 3) := by decide +kernel
theorem dX6_hand_130 : decode cX6_hand 130 = .ok (.iload_n 1, 1) := by decide +kernel
theorem dX6_hand_131 : decode cX6_hand 131 = .ok (.iaload, 1) := by decide +kernel
theorem dX6_hand_132 : decode cX6_hand 132 = .ok (.istore 5, 2) := by decide +kernel
theorem dX6_hand_134 : decode cX6_hand 134 = .ok (.aload_n 0, 1) := by decide +kernel
theorem dX6_hand_135 : decode cX6_hand 135 = .ok (.getfield 53, 3) := by decide +kernel
theorem dX6_hand_138 : decode cX6_hand 138 = .ok (.iload_n 1, 1) := by decide +kernel
theorem dX6_hand_139 : decode cX6_hand 139 = .ok (.iload_n 2, 1) := by decide +kernel
theorem dX6_hand_140 : decode cX6_hand 140 = .ok (.iastore, 1) := by decide +kernel
theorem dX6_hand_141 : decode cX6_hand 141 = .ok (.iload 5, 2) := by decide +kernel
theorem dX6_hand_143 : decode cX6_hand 143 = .ok (.ireturn, 1) := by decide +kernel
theorem dX6_timeOf_0 : decode cX6_timeOf 0 = .ok (.aload_n 0, 1) := by decide +kernel
theorem dX6_timeOf_1 : decode cX6_timeOf 1 = .ok (.getfield 44, 3) := by decide +kernel
theorem dX6_timeOf_4 : decode cX6_timeOf 4 = .ok (.bipush 10, 2) := by decide +kernel
theorem dX6_timeOf_6 : decode cX6_timeOf 6 = .ok (.iload_n 1, 1) := by decide +kernel
theorem dX6_timeOf_7 : decode cX6_timeOf 7 = .ok (.imul, 1) := by decide +kernel
theorem dX6_timeOf_8 : decode cX6_timeOf 8 = .ok (.iload_n 2, 1) := by decide +kernel
theorem dX6_timeOf_9 : decode cX6_timeOf 9 = .ok (.iadd, 1) := by decide +kernel
theorem dX6_timeOf_10 : decode cX6_timeOf 10 = .ok (.iaload, 1) := by decide +kernel
theorem dX6_timeOf_11 : decode cX6_timeOf 11 = .ok (.istore_n 3, 1) := by decide +kernel
theorem dX6_timeOf_12 : decode cX6_timeOf 12 = .ok (.iload_n 3, 1) := by decide +kernel
theorem dX6_timeOf_13 : decode cX6_timeOf 13 = .ok (.iconst (-1), 1) := by decide +kernel
theorem dX6_timeOf_14 : decode cX6_timeOf 14 = .ok (.if_icmp .ne 12, 3) := by decide +kernel
theorem dX6_timeOf_17 : decode cX6_timeOf 17 = .ok (.aload_n 0, 1) := by decide +kernel
theorem dX6_timeOf_18 : decode cX6_timeOf 18 = .ok (.iload_n 1, 1) := by decide +kernel
theorem dX6_timeOf_19 : decode cX6_timeOf 19 = .ok (.iload_n 2, 1) := by decide +kernel
theorem dX6_timeOf_20 : decode cX6_timeOf 20 = .ok (.invokevirtual 143, 3) := by decide +kernel
theorem dX6_timeOf_23 : decode cX6_timeOf 23 = .ok (.goto 4, 3) := by decide +kernel
theorem dX6_timeOf_26 : decode cX6_timeOf 26 = .ok (.iload_n 3, 1) := by decide +kernel
theorem dX6_timeOf_27 : decode cX6_timeOf 27 = .ok (.ireturn, 1) := by decide +kernel
theorem dX6_record_0 : decode cX6_record 0 = .ok (.aload_n 0, 1) := by decide +kernel
theorem dX6_record_1 : decode cX6_record 1 = .ok (.iload_n 1, 1) := by decide +kernel
theorem dX6_record_2 : decode cX6_record 2 = .ok (.invokevirtual 127, 3) := by decide +kernel
theorem dX6_record_5 : decode cX6_record 5 = .ok (.ifCond .eq 15, 3) := by decide +kernel
theorem dX6_record_8 : decode cX6_record 8 = .ok (.aload_n 0, 1) := by decide +kernel
theorem dX6_record_9 : decode cX6_record 9 = .ok (.iload_n 2, 1) := by decide +kernel
theorem dX6_record_10 : decode cX6_record 10 = .ok (.invokevirtual 147, 3) := by decide +kernel
theorem dX6_record_13 : decode cX6_record 13 = .ok (.ifCond .eq 7, 3) := by decide +kernel
theorem dX6_record_16 : decode cX6_record 16 = .ok (.iconst 1, 1) := by decide +kernel
theorem dX6_record_17 : decode cX6_record 17 = .ok (.goto 4, 3) := by decide +kernel
theorem dX6_record_20 : decode cX6_record 20 = .ok (.iconst 0, 1) := by decide +kernel
theorem dX6_record_21 : decode cX6_record 21 = .ok (.istore 4, 2) := by decide +kernel
theorem dX6_record_23 : decode cX6_record 23 = .ok (.aload_n 0, 1) := by decide +kernel
theorem dX6_record_24 : decode cX6_record 24 = .ok (.iload 4, 2) := by decide +kernel
theorem dX6_record_26 : decode cX6_record 26 = .ok (.ifCond .ne 7, 3) := by decide +kernel
theorem dX6_record_29 : decode cX6_record 29 = .ok (.iconst 1, 1) := by decide +kernel
theorem dX6_record_30 : decode cX6_record 30 = .ok (.goto 19, 3) := by decide +kernel
theorem dX6_record_33 : decode cX6_record 33 = .ok (.iload_n 3, 1) := by decide +kernel
theorem dX6_record_34 : decode cX6_record 34 = .ok (.iconst 0, 1) := by decide +kernel
theorem dX6_record_35 : decode cX6_record 35 = .ok (.sipush 10000, 3) := by decide +kernel
theorem dX6_record_38 : decode cX6_record 38 = .ok (.invokestatic 68, 3) := by decide +kernel
theorem dX6_record_41 : decode cX6_record 41 = .ok (.ifCond .eq 7, 3) := by decide +kernel
theorem dX6_record_44 : decode cX6_record 44 = .ok (.iconst 0, 1) := by decide +kernel
theorem dX6_record_45 : decode cX6_record 45 = .ok (.goto 4, 3) := by decide +kernel
theorem dX6_record_48 : decode cX6_record 48 = .ok (.iconst 2, 1) := by decide +kernel
theorem dX6_record_49 : decode cX6_record 49 = .ok (.invokevirtual 119, 3) := by decide +kernel
theorem dX6_record_52 : decode cX6_record 52 = .ok (.ifCond .ne 5, 3) := by decide +kernel
theorem dX6_record_55 : decode cX6_record 55 = .ok (.iconst 0, 1) := by decide +kernel
theorem dX6_record_56 : decode cX6_record 56 = .ok (.ireturn, 1) := by decide +kernel
theorem dX6_record_57 : decode cX6_record 57 = .ok (.aload_n 0, 1) := by decide +kernel
theorem dX6_record_58 : decode cX6_record 58 = .ok (.iload_n 1, 1) := by decide +kernel
theorem dX6_record_59 : decode cX6_record 59 = .ok (.iload_n 2, 1) := by decide +kernel
theorem dX6_record_60 : decode cX6_record 60 = .ok (.invokevirtual 150, 3) := by decide +kernel
theorem dX6_record_63 : decode cX6_record 63 = .ok (.istore 5, 2) := by decide +kernel
theorem dX6_record_65 : decode cX6_record 65 = .ok (.aload_n 0, 1) := by decide +kernel
theorem dX6_record_66 : decode cX6_record 66 = .ok (.getfield 44, 3) := by decide +kernel
theorem dX6_record_69 : decode cX6_record 69 = .ok (.bipush 10, 2) := by decide +kernel
theorem dX6_record_71 : decode cX6_record 71 = .ok (.iload_n 1, 1) := by decide +kernel
theorem dX6_record_72 : decode cX6_record 72 = .ok (.imul, 1) := by decide +kernel
theorem dX6_record_73 : decode cX6_record 73 = .ok (.iload_n 2, 1) := by decide +kernel
theorem dX6_record_74 : decode cX6_record 74 = .ok (.iadd, 1) := by decide +kernel
theorem dX6_record_75 : decode cX6_record 75 = .ok (.iload_n 3, 1) := by decide +kernel
theorem dX6_record_76 : decode cX6_record 76 = .ok (.iastore, 1) := by decide +kernel
theorem dX6_record_77 : decode cX6_record 77 = .ok (.iload 5, 2) := by decide +kernel
theorem dX6_record_79 : decode cX6_record 79 = .ok (.ireturn, 1) := by decide +kernel
theorem dX6_appeal_0 : decode cX6_appeal 0 = .ok (.aload_n 0, 1) := by decide +kernel
theorem dX6_appeal_1 : decode cX6_appeal 1 = .ok (.iload_n 1, 1) := by decide +kernel
theorem dX6_appeal_2 : decode cX6_appeal 2 = .ok (.invokevirtual 127, 3) := by decide +kernel
theorem dX6_appeal_5 : decode cX6_appeal 5 = .ok (.ifCond .eq 15, 3) := by decide +kernel
theorem dX6_appeal_8 : decode cX6_appeal 8 = .ok (.aload_n 0, 1) := by decide +kernel
theorem dX6_appeal_9 : decode cX6_appeal 9 = .ok (.iload_n 2, 1) := by decide +kernel
theorem dX6_appeal_10 : decode cX6_appeal 10 = .ok (.invokevirtual 147, 3) := by decide +kernel
theorem dX6_appeal_13 : decode cX6_appeal 13 = .ok (.ifCond .eq 7, 3) := by decide +kernel
theorem dX6_appeal_16 : decode cX6_appeal 16 = .ok (.iconst 1, 1) := by decide +kernel
theorem dX6_appeal_17 : decode cX6_appeal 17 = .ok (.goto 4, 3) := by decide +kernel
theorem dX6_appeal_20 : decode cX6_appeal 20 = .ok (.iconst 0, 1) := by decide +kernel
theorem dX6_appeal_21 : decode cX6_appeal 21 = .ok (.istore_n 3, 1) := by decide +kernel
theorem dX6_appeal_22 : decode cX6_appeal 22 = .ok (.aload_n 0, 1) := by decide +kernel
theorem dX6_appeal_23 : decode cX6_appeal 23 = .ok (.iload_n 3, 1) := by decide +kernel
theorem dX6_appeal_24 : decode cX6_appeal 24 = .ok (.ifCond .ne 7, 3) := by decide +kernel
theorem dX6_appeal_27 : decode cX6_appeal 27 = .ok (.iconst 1, 1) := by decide +kernel
theorem dX6_appeal_28 : decode cX6_appeal 28 = .ok (.goto 23, 3) := by decide +kernel
theorem dX6_appeal_31 : decode cX6_appeal 31 = .ok (.aload_n 0, 1) := by decide +kernel
theorem dX6_appeal_32 : decode cX6_appeal 32 = .ok (.getfield 44, 3) := by decide +kernel
theorem dX6_appeal_35 : decode cX6_appeal 35 = .ok (.bipush 10, 2) := by decide +kernel
theorem dX6_appeal_37 : decode cX6_appeal 37 = .ok (.iload_n 1, 1) := by decide +kernel
theorem dX6_appeal_38 : decode cX6_appeal 38 = .ok (.imul, 1) := by decide +kernel
theorem dX6_appeal_39 : decode cX6_appeal 39 = .ok (.iload_n 2, 1) := by decide +kernel
theorem dX6_appeal_40 : decode cX6_appeal 40 = .ok (.iadd, 1) := by decide +kernel
theorem dX6_appeal_41 : decode cX6_appeal 41 = .ok (.iaload, 1) := by decide +kernel
theorem dX6_appeal_42 : decode cX6_appeal 42 = .ok (.iconst (-1), 1) := by decide +kernel
theorem dX6_appeal_43 : decode cX6_appeal 43 = .ok (.if_icmp .ne 7, 3) := by decide +kernel
theorem dX6_appeal_46 : decode cX6_appeal 46 = .ok (.iconst 2, 1) := by decide +kernel
theorem dX6_appeal_47 : decode cX6_appeal 47 = .ok (.goto 4, 3) := by decide +kernel
theorem dX6_appeal_50 : decode cX6_appeal 50 = .ok (.iconst 0, 1) := by decide +kernel
theorem dX6_appeal_51 : decode cX6_appeal 51 = .ok (.invokevirtual 119, 3) := by decide +kernel
theorem dX6_appeal_54 : decode cX6_appeal 54 = .ok (.ifCond .ne 5, 3) := by decide +kernel
theorem dX6_appeal_57 : decode cX6_appeal 57 = .ok (.iconst 0, 1) := by decide +kernel
theorem dX6_appeal_58 : decode cX6_appeal 58 = .ok (.ireturn, 1) := by decide +kernel
theorem dX6_appeal_59 : decode cX6_appeal 59 = .ok (.aload_n 0, 1) := by decide +kernel
theorem dX6_appeal_60 : decode cX6_appeal 60 = .ok (.getfield 44, 3) := by decide +kernel
theorem dX6_appeal_63 : decode cX6_appeal 63 = .ok (.bipush 10, 2) := by decide +kernel
theorem dX6_appeal_65 : decode cX6_appeal 65 = .ok (.iload_n 1, 1) := by decide +kernel
theorem dX6_appeal_66 : decode cX6_appeal 66 = .ok (.imul, 1) := by decide +kernel
theorem dX6_appeal_67 : decode cX6_appeal 67 = .ok (.iload_n 2, 1) := by decide +kernel
theorem dX6_appeal_68 : decode cX6_appeal 68 = .ok (.iadd, 1) := by decide +kernel
theorem dX6_appeal_69 : decode cX6_appeal 69 = .ok (.iaload, 1) := by decide +kernel
theorem dX6_appeal_70 : decode cX6_appeal 70 = .ok (.aload_n 0, 1) := by decide +kernel
theorem dX6_appeal_71 : decode cX6_appeal 71 = .ok (.iload_n 1, 1) := by decide +kernel
theorem dX6_appeal_72 : decode cX6_appeal 72 = .ok (.iload_n 2, 1) := by decide +kernel
theorem dX6_appeal_73 : decode cX6_appeal 73 = .ok (.invokevirtual 143, 3) := by decide +kernel
theorem dX6_appeal_76 : decode cX6_appeal 76 = .ok (.if_icmp .eq 7, 3) := by decide +kernel
theorem dX6_appeal_79 : decode cX6_appeal 79 = .ok (.iconst 1, 1) := by decide +kernel
theorem dX6_appeal_80 : decode cX6_appeal 80 = .ok (.goto 4, 3) := by decide +kernel
theorem dX6_appeal_83 : decode cX6_appeal 83 = .ok (.iconst 0, 1) := by decide +kernel
theorem dX6_appeal_84 : decode cX6_appeal 84 = .ok (.istore 4, 2) := by decide +kernel
theorem dX6_appeal_86 : decode cX6_appeal 86 = .ok (.aload_n 0, 1) := by decide +kernel
theorem dX6_appeal_87 : decode cX6_appeal 87 = .ok (.getfield 44, 3) := by decide +kernel
theorem dX6_appeal_90 : decode cX6_appeal 90 = .ok (.bipush 10, 2) := by decide +kernel
theorem dX6_appeal_92 : decode cX6_appeal 92 = .ok (.iload_n 1, 1) := by decide +kernel
theorem dX6_appeal_93 : decode cX6_appeal 93 = .ok (.imul, 1) := by decide +kernel
theorem dX6_appeal_94 : decode cX6_appeal 94 = .ok (.iload_n 2, 1) := by decide +kernel
theorem dX6_appeal_95 : decode cX6_appeal 95 = .ok (.iadd, 1) := by decide +kernel
theorem dX6_appeal_96 : decode cX6_appeal 96 = .ok (.iload 4, 2) := by decide +kernel
theorem dX6_appeal_98 : decode cX6_appeal 98 = .ok (.ifCond .eq 7, 3) := by decide +kernel
theorem dX6_appeal_101 : decode cX6_appeal 101 = .ok (.iconst (-1), 1) := by decide +kernel
theorem dX6_appeal_102 : decode cX6_appeal 102 = .ok (.goto 14, 3) := by decide +kernel
theorem dX6_appeal_105 : decode cX6_appeal 105 = .ok (.aload_n 0, 1) := by decide +kernel
theorem dX6_appeal_106 : decode cX6_appeal 106 = .ok (.getfield 44, 3) := by decide +kernel
theorem dX6_appeal_109 : decode cX6_appeal 109 = .ok (.bipush 10, 2) := by decide +kernel
theorem dX6_appeal_111 : decode cX6_appeal 111 = .ok (.iload_n 1, 1) := by decide +kernel
theorem dX6_appeal_112 : decode cX6_appeal 112 = .ok (.imul, 1) := by decide +kernel
theorem dX6_appeal_113 : decode cX6_appeal 113 = .ok (.iload_n 2, 1) := by decide +kernel
theorem dX6_appeal_114 : decode cX6_appeal 114 = .ok (.iadd, 1) := by decide +kernel
theorem dX6_appeal_115 : decode cX6_appeal 115 = .ok (.iaload, 1) := by decide +kernel
theorem dX6_appeal_116 : decode cX6_appeal 116 = .ok (.iastore, 1) := by decide +kernel
theorem dX6_appeal_117 : decode cX6_appeal 117 = .ok (.aload_n 0, 1) := by decide +kernel
theorem dX6_appeal_118 : decode cX6_appeal 118 = .ok (.getfield 41, 3) := by decide +kernel
theorem dX6_appeal_121 : decode cX6_appeal 121 = .ok (.iload_n 1, 1) := by decide +kernel
theorem dX6_appeal_122 : decode cX6_appeal 122 = .ok (.dup2, 1) := by decide +kernel
theorem dX6_appeal_123 : decode cX6_appeal 123 = .ok (.iaload, 1) := by decide +kernel
theorem dX6_appeal_124 : decode cX6_appeal 124 = .ok (.iload 4, 2) := by decide +kernel
theorem dX6_appeal_126 : decode cX6_appeal 126 = .ok (.ifCond .eq 7, 3) := by decide +kernel
theorem dX6_appeal_129 : decode cX6_appeal 129 = .ok (.iconst 0, 1) := by decide +kernel
theorem dX6_appeal_130 : decode cX6_appeal 130 = .ok (.goto 4, 3) := by decide +kernel
theorem dX6_appeal_133 : decode cX6_appeal 133 = .ok (.iconst 1, 1) := by decide +kernel
theorem dX6_appeal_134 : decode cX6_appeal 134 = .ok (.iadd, 1) := by decide +kernel
theorem dX6_appeal_135 : decode cX6_appeal 135 = .ok (.iastore, 1) := by decide +kernel
theorem dX6_appeal_136 : decode cX6_appeal 136 = .ok (.iload 4, 2) := by decide +kernel
theorem dX6_appeal_138 : decode cX6_appeal 138 = .ok (.ireturn, 1) := by decide +kernel
theorem dX6_gates_0 : decode cX6_gates 0 = .ok (.aload_n 0, 1) := by decide +kernel
theorem dX6_gates_1 : decode cX6_gates 1 = .ok (.iconst 0, 1) := by decide +kernel
theorem dX6_gates_2 : decode cX6_gates 2 = .ok (.putfield 62, 3) := by decide +kernel
theorem dX6_gates_5 : decode cX6_gates 5 = .ok (.aload_n 0, 1) := by decide +kernel
theorem dX6_gates_6 : decode cX6_gates 6 = .ok (.getfield 72, 3) := by decide +kernel
theorem dX6_gates_9 : decode cX6_gates 9 = .ok (.ireturn, 1) := by decide +kernel
theorem dX6_cellOf_0 : decode cX6_cellOf 0 = .ok (.aload_n 0, 1) := by decide +kernel
theorem dX6_cellOf_1 : decode cX6_cellOf 1 = .ok (.aload_n 0, 1) := by decide +kernel
theorem dX6_cellOf_2 : decode cX6_cellOf 2 = .ok (.iload_n 1, 1) := by decide +kernel
theorem dX6_cellOf_3 : decode cX6_cellOf 3 = .ok (.invokevirtual 147, 3) := by decide +kernel
theorem dX6_cellOf_6 : decode cX6_cellOf 6 = .ok (.ifCond .eq 7, 3) := by decide +kernel
theorem dX6_cellOf_9 : decode cX6_cellOf 9 = .ok (.iconst 0, 1) := by decide +kernel
theorem dX6_cellOf_10 : decode cX6_cellOf 10 = .ok (.goto 4, 3) := by decide +kernel
theorem dX6_cellOf_13 : decode cX6_cellOf 13 = .ok (.iconst 1, 1) := by decide +kernel
theorem dX6_cellOf_14 : decode cX6_cellOf 14 = .ok (.invokevirtual 119, 3) := by decide +kernel
theorem dX6_cellOf_17 : decode cX6_cellOf 17 = .ok (.ifCond .eq 11, 3) := by decide +kernel
theorem dX6_cellOf_20 : decode cX6_cellOf 20 = .ok (.aload_n 0, 1) := by decide +kernel
theorem dX6_cellOf_21 : decode cX6_cellOf 21 = .ok (.iload_n 1, 1) := by decide +kernel
theorem dX6_cellOf_22 : decode cX6_cellOf 22 = .ok (.invokevirtual 109, 3) := by decide +kernel
theorem dX6_cellOf_25 : decode cX6_cellOf 25 = .ok (.goto 4, 3) := by decide +kernel
theorem dX6_cellOf_28 : decode cX6_cellOf 28 = .ok (.iconst 0, 1) := by decide +kernel
theorem dX6_cellOf_29 : decode cX6_cellOf 29 = .ok (.ireturn, 1) := by decide +kernel
theorem dX6_dueAt_0 : decode cX6_dueAt 0 = .ok (.aload_n 0, 1) := by decide +kernel
theorem dX6_dueAt_1 : decode cX6_dueAt 1 = .ok (.getfield 19, 3) := by decide +kernel
theorem dX6_dueAt_4 : decode cX6_dueAt 4 = .ok (.iload_n 1, 1) := by decide +kernel
theorem dX6_dueAt_5 : decode cX6_dueAt 5 = .ok (.iaload, 1) := by decide +kernel
theorem dX6_dueAt_6 : decode cX6_dueAt 6 = .ok (.istore_n 2, 1) := by decide +kernel
theorem dX6_dueAt_7 : decode cX6_dueAt 7 = .ok (.iconst 0, 1) := by decide +kernel
theorem dX6_dueAt_8 : decode cX6_dueAt 8 = .ok (.istore_n 3, 1) := by decide +kernel
theorem dX6_dueAt_9 : decode cX6_dueAt 9 = .ok (.iload_n 3, 1) := by decide +kernel
theorem dX6_dueAt_10 : decode cX6_dueAt 10 = .ok (.aload_n 0, 1) := by decide +kernel
theorem dX6_dueAt_11 : decode cX6_dueAt 11 = .ok (.getfield 16, 3) := by decide +kernel
theorem dX6_dueAt_14 : decode cX6_dueAt 14 = .ok (.iload_n 1, 1) := by decide +kernel
theorem dX6_dueAt_15 : decode cX6_dueAt 15 = .ok (.iaload, 1) := by decide +kernel
theorem dX6_dueAt_16 : decode cX6_dueAt 16 = .ok (.if_icmp .gt 18, 3) := by decide +kernel
theorem dX6_dueAt_19 : decode cX6_dueAt 19 = .ok (.iload_n 2, 1) := by decide +kernel
theorem dX6_dueAt_20 : decode cX6_dueAt 20 = .ok (.aload_n 0, 1) := by decide +kernel
theorem dX6_dueAt_21 : decode cX6_dueAt 21 = .ok (.getfield 7, 3) := by decide +kernel
theorem dX6_dueAt_24 : decode cX6_dueAt 24 = .ok (.iload_n 3, 1) := by decide +kernel
theorem dX6_dueAt_25 : decode cX6_dueAt 25 = .ok (.iaload, 1) := by decide +kernel
theorem dX6_dueAt_26 : decode cX6_dueAt 26 = .ok (.iadd, 1) := by decide +kernel
theorem dX6_dueAt_27 : decode cX6_dueAt 27 = .ok (.istore_n 2, 1) := by decide +kernel
theorem dX6_dueAt_28 : decode cX6_dueAt 28 = .ok (.iinc 3 1, 3) := by decide +kernel
theorem dX6_dueAt_31 : decode cX6_dueAt 31 = .ok (.goto (-22), 3) := by decide +kernel
theorem dX6_dueAt_34 : decode cX6_dueAt 34 = .ok (.iload_n 2, 1) := by decide +kernel
theorem dX6_dueAt_35 : decode cX6_dueAt 35 = .ok (.ireturn, 1) := by decide +kernel
theorem dX6_due_0 : decode cX6_due 0 = .ok (.aload_n 0, 1) := by decide +kernel
theorem dX6_due_1 : decode cX6_due 1 = .ok (.aload_n 0, 1) := by decide +kernel
theorem dX6_due_2 : decode cX6_due 2 = .ok (.iload_n 1, 1) := by decide +kernel
theorem dX6_due_3 : decode cX6_due 3 = .ok (.invokevirtual 147, 3) := by decide +kernel
theorem dX6_due_6 : decode cX6_due 6 = .ok (.ifCond .eq 7, 3) := by decide +kernel
theorem dX6_due_9 : decode cX6_due 9 = .ok (.iconst 0, 1) := by decide +kernel
theorem dX6_due_10 : decode cX6_due 10 = .ok (.goto 4, 3) := by decide +kernel
theorem dX6_due_13 : decode cX6_due 13 = .ok (.iconst 1, 1) := by decide +kernel
theorem dX6_due_14 : decode cX6_due 14 = .ok (.invokevirtual 119, 3) := by decide +kernel
theorem dX6_due_17 : decode cX6_due 17 = .ok (.ifCond .eq 11, 3) := by decide +kernel
theorem dX6_due_20 : decode cX6_due 20 = .ok (.aload_n 0, 1) := by decide +kernel
theorem dX6_due_21 : decode cX6_due 21 = .ok (.iload_n 1, 1) := by decide +kernel
theorem dX6_due_22 : decode cX6_due 22 = .ok (.invokevirtual 153, 3) := by decide +kernel
theorem dX6_due_25 : decode cX6_due 25 = .ok (.goto 4, 3) := by decide +kernel
theorem dX6_due_28 : decode cX6_due 28 = .ok (.iconst 0, 1) := by decide +kernel
theorem dX6_due_29 : decode cX6_due 29 = .ok (.ireturn, 1) := by decide +kernel
theorem dX6_followed_0 : decode cX6_followed 0 = .ok (.aload_n 0, 1) := by decide +kernel
theorem dX6_followed_1 : decode cX6_followed 1 = .ok (.aload_n 0, 1) := by decide +kernel
theorem dX6_followed_2 : decode cX6_followed 2 = .ok (.iload_n 1, 1) := by decide +kernel
theorem dX6_followed_3 : decode cX6_followed 3 = .ok (.invokevirtual 127, 3) := by decide +kernel
theorem dX6_followed_6 : decode cX6_followed 6 = .ok (.ifCond .eq 7, 3) := by decide +kernel
theorem dX6_followed_9 : decode cX6_followed 9 = .ok (.iconst 0, 1) := by decide +kernel
theorem dX6_followed_10 : decode cX6_followed 10 = .ok (.goto 4, 3) := by decide +kernel
theorem dX6_followed_13 : decode cX6_followed 13 = .ok (.iconst 1, 1) := by decide +kernel
theorem dX6_followed_14 : decode cX6_followed 14 = .ok (.invokevirtual 119, 3) := by decide +kernel
theorem dX6_followed_17 : decode cX6_followed 17 = .ok (.ifCond .ne 5, 3) := by decide +kernel
theorem dX6_followed_20 : decode cX6_followed 20 = .ok (.iconst 0, 1) := by decide +kernel
theorem dX6_followed_21 : decode cX6_followed 21 = .ok (.ireturn, 1) := by decide +kernel
theorem dX6_followed_22 : decode cX6_followed 22 = .ok (.iconst 0, 1) := by decide +kernel
theorem dX6_followed_23 : decode cX6_followed 23 = .ok (.istore_n 2, 1) := by decide +kernel
theorem dX6_followed_24 : decode cX6_followed 24 = .ok (.iconst 0, 1) := by decide +kernel
theorem dX6_followed_25 : decode cX6_followed 25 = .ok (.istore_n 3, 1) := by decide +kernel
theorem dX6_followed_26 : decode cX6_followed 26 = .ok (.bipush 60, 2) := by decide +kernel
theorem dX6_followed_28 : decode cX6_followed 28 = .ok (.iload_n 1, 1) := by decide +kernel
theorem dX6_followed_29 : decode cX6_followed 29 = .ok (.imul, 1) := by decide +kernel
theorem dX6_followed_30 : decode cX6_followed 30 = .ok (.istore 4, 2) := by decide +kernel
theorem dX6_followed_32 : decode cX6_followed 32 = .ok (.iload 4, 2) := by decide +kernel
theorem dX6_followed_34 : decode cX6_followed 34 = .ok (.bipush 60, 2) := by decide +kernel
theorem dX6_followed_36 : decode cX6_followed 36 = .ok (.iload_n 1, 1) := by decide +kernel
theorem dX6_followed_37 : decode cX6_followed 37 = .ok (.imul, 1) := by decide +kernel
theorem dX6_followed_38 : decode cX6_followed 38 = .ok (.aload_n 0, 1) := by decide +kernel
theorem dX6_followed_39 : decode cX6_followed 39 = .ok (.getfield 26, 3) := by decide +kernel
theorem dX6_followed_42 : decode cX6_followed 42 = .ok (.iload_n 1, 1) := by decide +kernel
theorem dX6_followed_43 : decode cX6_followed 43 = .ok (.iaload, 1) := by decide +kernel
theorem dX6_followed_44 : decode cX6_followed 44 = .ok (.iadd, 1) := by decide +kernel
theorem dX6_followed_45 : decode cX6_followed 45 = .ok (.if_icmp .ge 82, 3) := by decide +kernel
theorem dX6_followed_48 : decode cX6_followed 48 = .ok (.aload_n 0, 1) := by decide +kernel
theorem dX6_followed_49 : decode cX6_followed 49 = .ok (.getfield 29, 3) := by decide +kernel
theorem dX6_followed_52 : decode cX6_followed 52 = .ok (.iload 4, 2) := by decide +kernel
theorem dX6_followed_54 : decode cX6_followed 54 = .ok (.iaload, 1) := by decide +kernel
theorem dX6_followed_55 : decode cX6_followed 55 = .ok (.iconst (-1), 1) := by decide +kernel
theorem dX6_followed_56 : decode cX6_followed 56 = .ok (.if_icmp .eq 65, 3) := by decide +kernel
theorem dX6_followed_59 : decode cX6_followed 59 = .ok (.iload_n 3, 1) := by decide +kernel
theorem dX6_followed_60 : decode cX6_followed 60 = .ok (.ifCond .ne 61, 3) := by decide +kernel
theorem dX6_followed_63 : decode cX6_followed 63 = .ok (.iload_n 2, 1) := by decide +kernel
theorem dX6_followed_64 : decode cX6_followed 64 = .ok (.aload_n 0, 1) := by decide +kernel
theorem dX6_followed_65 : decode cX6_followed 65 = .ok (.getfield 116, 3) := by decide +kernel
theorem dX6_followed_68 : decode cX6_followed 68 = .ok (.if_icmp .eq 35, 3) := by decide +kernel
theorem dX6_followed_71 : decode cX6_followed 71 = .ok (.aload_n 0, 1) := by decide +kernel
theorem dX6_followed_72 : decode cX6_followed 72 = .ok (.getfield 29, 3) := by decide +kernel
theorem dX6_followed_75 : decode cX6_followed 75 = .ok (.iload 4, 2) := by decide +kernel
theorem dX6_followed_77 : decode cX6_followed 77 = .ok (.iaload, 1) := by decide +kernel
theorem dX6_followed_78 : decode cX6_followed 78 = .ok (.aload_n 0, 1) := by decide +kernel
theorem dX6_followed_79 : decode cX6_followed 79 = .ok (.getfield 7, 3) := by decide +kernel
theorem dX6_followed_82 : decode cX6_followed 82 = .ok (.iload_n 2, 1) := by decide +kernel
theorem dX6_followed_83 : decode cX6_followed 83 = .ok (.iaload, 1) := by decide +kernel
theorem dX6_followed_84 : decode cX6_followed 84 = .ok (.if_icmp .ne 19, 3) := by decide +kernel
theorem dX6_followed_87 : decode cX6_followed 87 = .ok (.aload_n 0, 1) := by decide +kernel
theorem dX6_followed_88 : decode cX6_followed 88 = .ok (.getfield 35, 3) := by decide +kernel
theorem dX6_followed_91 : decode cX6_followed 91 = .ok (.iload 4, 2) := by decide +kernel
theorem dX6_followed_93 : decode cX6_followed 93 = .ok (.iaload, 1) := by decide +kernel
theorem dX6_followed_94 : decode cX6_followed 94 = .ok (.aload_n 0, 1) := by decide +kernel
theorem dX6_followed_95 : decode cX6_followed 95 = .ok (.getfield 13, 3) := by decide +kernel
theorem dX6_followed_98 : decode cX6_followed 98 = .ok (.iload_n 2, 1) := by decide +kernel
theorem dX6_followed_99 : decode cX6_followed 99 = .ok (.iaload, 1) := by decide +kernel
theorem dX6_followed_100 : decode cX6_followed 100 = .ok (.if_icmp .eq 7, 3) := by decide +kernel
theorem dX6_followed_103 : decode cX6_followed 103 = .ok (.iconst 1, 1) := by decide +kernel
theorem dX6_followed_104 : decode cX6_followed 104 = .ok (.goto 4, 3) := by decide +kernel
theorem dX6_followed_107 : decode cX6_followed 107 = .ok (.iconst 0, 1) := by decide +kernel
theorem dX6_followed_108 : decode cX6_followed 108 = .ok (.istore_n 3, 1) := by decide +kernel
theorem dX6_followed_109 : decode cX6_followed 109 = .ok (.iload_n 2, 1) := by decide +kernel
theorem dX6_followed_110 : decode cX6_followed 110 = .ok (.iload_n 3, 1) := by decide +kernel
theorem dX6_followed_111 : decode cX6_followed 111 = .ok (.ifCond .eq 7, 3) := by decide +kernel
theorem dX6_followed_114 : decode cX6_followed 114 = .ok (.iconst 0, 1) := by decide +kernel
theorem dX6_followed_115 : decode cX6_followed 115 = .ok (.goto 4, 3) := by decide +kernel
theorem dX6_followed_118 : decode cX6_followed 118 = .ok (.iconst 1, 1) := by decide +kernel
theorem dX6_followed_119 : decode cX6_followed 119 = .ok (.iadd, 1) := by decide +kernel
theorem dX6_followed_120 : decode cX6_followed 120 = .ok (.istore_n 2, 1) := by decide +kernel
theorem dX6_followed_121 : decode cX6_followed 121 = .ok (.iinc 4 1, 3) := by decide +kernel
theorem dX6_followed_124 : decode cX6_followed 124 = .ok (.goto (-92), 3) := by decide +kernel
theorem dX6_followed_127 : decode cX6_followed 127 = .ok (.iload_n 2, 1) := by decide +kernel
theorem dX6_followed_128 : decode cX6_followed 128 = .ok (.ireturn, 1) := by decide +kernel
theorem dX6_cellAt_0 : decode cX6_cellAt 0 = .ok (.aload_n 0, 1) := by decide +kernel
theorem dX6_cellAt_1 : decode cX6_cellAt 1 = .ok (.iload_n 1, 1) := by decide +kernel
theorem dX6_cellAt_2 : decode cX6_cellAt 2 = .ok (.invokevirtual 127, 3) := by decide +kernel
theorem dX6_cellAt_5 : decode cX6_cellAt 5 = .ok (.istore_n 3, 1) := by decide +kernel
theorem dX6_cellAt_6 : decode cX6_cellAt 6 = .ok (.aload_n 0, 1) := by decide +kernel
theorem dX6_cellAt_7 : decode cX6_cellAt 7 = .ok (.iload_n 3, 1) := by decide +kernel
theorem dX6_cellAt_8 : decode cX6_cellAt 8 = .ok (.ifCond .ne 7, 3) := by decide +kernel
theorem dX6_cellAt_11 : decode cX6_cellAt 11 = .ok (.iconst 1, 1) := by decide +kernel
theorem dX6_cellAt_12 : decode cX6_cellAt 12 = .ok (.goto 21, 3) := by decide +kernel
theorem dX6_cellAt_15 : decode cX6_cellAt 15 = .ok (.iload_n 2, 1) := by decide +kernel
theorem dX6_cellAt_16 : decode cX6_cellAt 16 = .ok (.iconst 0, 1) := by decide +kernel
theorem dX6_cellAt_17 : decode cX6_cellAt 17 = .ok (.aload_n 0, 1) := by decide +kernel
theorem dX6_cellAt_18 : decode cX6_cellAt 18 = .ok (.iload_n 1, 1) := by decide +kernel
theorem dX6_cellAt_19 : decode cX6_cellAt 19 = .ok (.invokevirtual 94, 3) := by decide +kernel
theorem dX6_cellAt_22 : decode cX6_cellAt 22 = .ok (.invokestatic 68, 3) := by decide +kernel
theorem dX6_cellAt_25 : decode cX6_cellAt 25 = .ok (.ifCond .eq 7, 3) := by decide +kernel
theorem dX6_cellAt_28 : decode cX6_cellAt 28 = .ok (.iconst 0, 1) := by decide +kernel
theorem dX6_cellAt_29 : decode cX6_cellAt 29 = .ok (.goto 4, 3) := by decide +kernel
theorem dX6_cellAt_32 : decode cX6_cellAt 32 = .ok (.iconst 2, 1) := by decide +kernel
theorem dX6_cellAt_33 : decode cX6_cellAt 33 = .ok (.invokevirtual 119, 3) := by decide +kernel
theorem dX6_cellAt_36 : decode cX6_cellAt 36 = .ok (.ifCond .ne 5, 3) := by decide +kernel
theorem dX6_cellAt_39 : decode cX6_cellAt 39 = .ok (.iconst 0, 1) := by decide +kernel
theorem dX6_cellAt_40 : decode cX6_cellAt 40 = .ok (.ireturn, 1) := by decide +kernel
theorem dX6_cellAt_41 : decode cX6_cellAt 41 = .ok (.aload_n 0, 1) := by decide +kernel
theorem dX6_cellAt_42 : decode cX6_cellAt 42 = .ok (.iload_n 1, 1) := by decide +kernel
theorem dX6_cellAt_43 : decode cX6_cellAt 43 = .ok (.iload_n 2, 1) := by decide +kernel
theorem dX6_cellAt_44 : decode cX6_cellAt 44 = .ok (.invokevirtual 98, 3) := by decide +kernel
theorem dX6_cellAt_47 : decode cX6_cellAt 47 = .ok (.aload_n 0, 1) := by decide +kernel
theorem dX6_cellAt_48 : decode cX6_cellAt 48 = .ok (.invokevirtual 102, 3) := by decide +kernel
theorem dX6_cellAt_51 : decode cX6_cellAt 51 = .ok (.ireturn, 1) := by decide +kernel
theorem dX6_clock_0 : decode cX6_clock 0 = .ok (.aload_n 0, 1) := by decide +kernel
theorem dX6_clock_1 : decode cX6_clock 1 = .ok (.aload_n 0, 1) := by decide +kernel
theorem dX6_clock_2 : decode cX6_clock 2 = .ok (.iload_n 1, 1) := by decide +kernel
theorem dX6_clock_3 : decode cX6_clock 3 = .ok (.invokevirtual 127, 3) := by decide +kernel
theorem dX6_clock_6 : decode cX6_clock 6 = .ok (.ifCond .eq 7, 3) := by decide +kernel
theorem dX6_clock_9 : decode cX6_clock 9 = .ok (.iconst 0, 1) := by decide +kernel
theorem dX6_clock_10 : decode cX6_clock 10 = .ok (.goto 4, 3) := by decide +kernel
theorem dX6_clock_13 : decode cX6_clock 13 = .ok (.iconst 1, 1) := by decide +kernel
theorem dX6_clock_14 : decode cX6_clock 14 = .ok (.invokevirtual 119, 3) := by decide +kernel
theorem dX6_clock_17 : decode cX6_clock 17 = .ok (.ifCond .eq 11, 3) := by decide +kernel
theorem dX6_clock_20 : decode cX6_clock 20 = .ok (.aload_n 0, 1) := by decide +kernel
theorem dX6_clock_21 : decode cX6_clock 21 = .ok (.iload_n 1, 1) := by decide +kernel
theorem dX6_clock_22 : decode cX6_clock 22 = .ok (.invokevirtual 94, 3) := by decide +kernel
theorem dX6_clock_25 : decode cX6_clock 25 = .ok (.goto 4, 3) := by decide +kernel
theorem dX6_clock_28 : decode cX6_clock 28 = .ok (.iconst 0, 1) := by decide +kernel
theorem dX6_clock_29 : decode cX6_clock 29 = .ok (.ireturn, 1) := by decide +kernel
theorem dX6_byTrack_0 : decode cX6_byTrack 0 = .ok (.aload_n 0, 1) := by decide +kernel
theorem dX6_byTrack_1 : decode cX6_byTrack 1 = .ok (.iload_n 1, 1) := by decide +kernel
theorem dX6_byTrack_2 : decode cX6_byTrack 2 = .ok (.iload_n 2, 1) := by decide +kernel
theorem dX6_byTrack_3 : decode cX6_byTrack 3 = .ok (.invokevirtual 156, 3) := by decide +kernel
theorem dX6_byTrack_6 : decode cX6_byTrack 6 = .ok (.ireturn, 1) := by decide +kernel
theorem dX6_byMinutes_0 : decode cX6_byMinutes 0 = .ok (.aload_n 0, 1) := by decide +kernel
theorem dX6_byMinutes_1 : decode cX6_byMinutes 1 = .ok (.aload_n 0, 1) := by decide +kernel
theorem dX6_byMinutes_2 : decode cX6_byMinutes 2 = .ok (.iload_n 1, 1) := by decide +kernel
theorem dX6_byMinutes_3 : decode cX6_byMinutes 3 = .ok (.invokevirtual 127, 3) := by decide +kernel
theorem dX6_byMinutes_6 : decode cX6_byMinutes 6 = .ok (.ifCond .eq 15, 3) := by decide +kernel
theorem dX6_byMinutes_9 : decode cX6_byMinutes 9 = .ok (.aload_n 0, 1) := by decide +kernel
theorem dX6_byMinutes_10 : decode cX6_byMinutes 10 = .ok (.iload_n 2, 1) := by decide +kernel
theorem dX6_byMinutes_11 : decode cX6_byMinutes 11 = .ok (.invokevirtual 147, 3) := by decide +kernel
theorem dX6_byMinutes_14 : decode cX6_byMinutes 14 = .ok (.ifCond .eq 7, 3) := by decide +kernel
theorem dX6_byMinutes_17 : decode cX6_byMinutes 17 = .ok (.iconst 0, 1) := by decide +kernel
theorem dX6_byMinutes_18 : decode cX6_byMinutes 18 = .ok (.goto 4, 3) := by decide +kernel
theorem dX6_byMinutes_21 : decode cX6_byMinutes 21 = .ok (.iconst 1, 1) := by decide +kernel
theorem dX6_byMinutes_22 : decode cX6_byMinutes 22 = .ok (.invokevirtual 119, 3) := by decide +kernel
theorem dX6_byMinutes_25 : decode cX6_byMinutes 25 = .ok (.ifCond .eq 12, 3) := by decide +kernel
theorem dX6_byMinutes_28 : decode cX6_byMinutes 28 = .ok (.aload_n 0, 1) := by decide +kernel
theorem dX6_byMinutes_29 : decode cX6_byMinutes 29 = .ok (.iload_n 1, 1) := by decide +kernel
theorem dX6_byMinutes_30 : decode cX6_byMinutes 30 = .ok (.iload_n 2, 1) := by decide +kernel
theorem dX6_byMinutes_31 : decode cX6_byMinutes 31 = .ok (.invokevirtual 143, 3) := by decide +kernel
theorem dX6_byMinutes_34 : decode cX6_byMinutes 34 = .ok (.goto 4, 3) := by decide +kernel
theorem dX6_byMinutes_37 : decode cX6_byMinutes 37 = .ok (.iconst 0, 1) := by decide +kernel
theorem dX6_byMinutes_38 : decode cX6_byMinutes 38 = .ok (.ireturn, 1) := by decide +kernel
theorem dX6_time_0 : decode cX6_time 0 = .ok (.aload_n 0, 1) := by decide +kernel
theorem dX6_time_1 : decode cX6_time 1 = .ok (.aload_n 0, 1) := by decide +kernel
theorem dX6_time_2 : decode cX6_time 2 = .ok (.iload_n 1, 1) := by decide +kernel
theorem dX6_time_3 : decode cX6_time 3 = .ok (.invokevirtual 127, 3) := by decide +kernel
theorem dX6_time_6 : decode cX6_time 6 = .ok (.ifCond .eq 15, 3) := by decide +kernel
theorem dX6_time_9 : decode cX6_time 9 = .ok (.aload_n 0, 1) := by decide +kernel
theorem dX6_time_10 : decode cX6_time 10 = .ok (.iload_n 2, 1) := by decide +kernel
theorem dX6_time_11 : decode cX6_time 11 = .ok (.invokevirtual 147, 3) := by decide +kernel
theorem dX6_time_14 : decode cX6_time 14 = .ok (.ifCond .eq 7, 3) := by decide +kernel
theorem dX6_time_17 : decode cX6_time 17 = .ok (.iconst 0, 1) := by decide +kernel
theorem dX6_time_18 : decode cX6_time 18 = .ok (.goto 4, 3) := by decide +kernel
theorem dX6_time_21 : decode cX6_time 21 = .ok (.iconst 1, 1) := by decide +kernel
theorem dX6_time_22 : decode cX6_time 22 = .ok (.invokevirtual 119, 3) := by decide +kernel
theorem dX6_time_25 : decode cX6_time 25 = .ok (.ifCond .eq 12, 3) := by decide +kernel
theorem dX6_time_28 : decode cX6_time 28 = .ok (.aload_n 0, 1) := by decide +kernel
theorem dX6_time_29 : decode cX6_time 29 = .ok (.iload_n 1, 1) := by decide +kernel
theorem dX6_time_30 : decode cX6_time 30 = .ok (.iload_n 2, 1) := by decide +kernel
theorem dX6_time_31 : decode cX6_time 31 = .ok (.invokevirtual 150, 3) := by decide +kernel
theorem dX6_time_34 : decode cX6_time 34 = .ok (.goto 4, 3) := by decide +kernel
theorem dX6_time_37 : decode cX6_time 37 = .ok (.iconst 0, 1) := by decide +kernel
theorem dX6_time_38 : decode cX6_time 38 = .ok (.ireturn, 1) := by decide +kernel
theorem dX6_pointsOf_0 : decode cX6_pointsOf 0 = .ok (.bipush 10, 2) := by decide +kernel
theorem dX6_pointsOf_2 : decode cX6_pointsOf 2 = .ok (.aload_n 0, 1) := by decide +kernel
theorem dX6_pointsOf_3 : decode cX6_pointsOf 3 = .ok (.getfield 41, 3) := by decide +kernel
theorem dX6_pointsOf_6 : decode cX6_pointsOf 6 = .ok (.iload_n 1, 1) := by decide +kernel
theorem dX6_pointsOf_7 : decode cX6_pointsOf 7 = .ok (.iaload, 1) := by decide +kernel
theorem dX6_pointsOf_8 : decode cX6_pointsOf 8 = .ok (.imul, 1) := by decide +kernel
theorem dX6_pointsOf_9 : decode cX6_pointsOf 9 = .ok (.istore_n 2, 1) := by decide +kernel
theorem dX6_pointsOf_10 : decode cX6_pointsOf 10 = .ok (.iconst 0, 1) := by decide +kernel
theorem dX6_pointsOf_11 : decode cX6_pointsOf 11 = .ok (.istore_n 3, 1) := by decide +kernel
theorem dX6_pointsOf_12 : decode cX6_pointsOf 12 = .ok (.iconst 0, 1) := by decide +kernel
theorem dX6_pointsOf_13 : decode cX6_pointsOf 13 = .ok (.istore 4, 2) := by decide +kernel
theorem dX6_pointsOf_15 : decode cX6_pointsOf 15 = .ok (.iload 4, 2) := by decide +kernel
theorem dX6_pointsOf_17 : decode cX6_pointsOf 17 = .ok (.aload_n 0, 1) := by decide +kernel
theorem dX6_pointsOf_18 : decode cX6_pointsOf 18 = .ok (.getfield 72, 3) := by decide +kernel
theorem dX6_pointsOf_21 : decode cX6_pointsOf 21 = .ok (.if_icmp .ge 130, 3) := by decide +kernel
theorem dX6_pointsOf_24 : decode cX6_pointsOf 24 = .ok (.iload 4, 2) := by decide +kernel
theorem dX6_pointsOf_26 : decode cX6_pointsOf 26 = .ok (.aload_n 0, 1) := by decide +kernel
theorem dX6_pointsOf_27 : decode cX6_pointsOf 27 = .ok (.getfield 22, 3) := by decide +kernel
theorem dX6_pointsOf_30 : decode cX6_pointsOf 30 = .ok (.if_icmp .ge 121, 3) := by decide +kernel
theorem dX6_pointsOf_33 : decode cX6_pointsOf 33 = .ok (.aload_n 0, 1) := by decide +kernel
theorem dX6_pointsOf_34 : decode cX6_pointsOf 34 = .ok (.iload_n 1, 1) := by decide +kernel
theorem dX6_pointsOf_35 : decode cX6_pointsOf 35 = .ok (.aload_n 0, 1) := by decide +kernel
theorem dX6_pointsOf_36 : decode cX6_pointsOf 36 = .ok (.iload 4, 2) := by decide +kernel
theorem dX6_pointsOf_38 : decode cX6_pointsOf 38 = .ok (.invokevirtual 109, 3) := by decide +kernel
theorem dX6_pointsOf_41 : decode cX6_pointsOf 41 = .ok (.iload_n 3, 1) := by decide +kernel
theorem dX6_pointsOf_42 : decode cX6_pointsOf 42 = .ok (.invokevirtual 112, 3) := by decide +kernel
theorem dX6_pointsOf_45 : decode cX6_pointsOf 45 = .ok (.istore 5, 2) := by decide +kernel
theorem dX6_pointsOf_47 : decode cX6_pointsOf 47 = .ok (.iload 5, 2) := by decide +kernel
theorem dX6_pointsOf_49 : decode cX6_pointsOf 49 = .ok (.iconst (-1), 1) := by decide +kernel
theorem dX6_pointsOf_50 : decode cX6_pointsOf 50 = .ok (.if_icmp .ne 7, 3) := by decide +kernel
theorem dX6_pointsOf_53 : decode cX6_pointsOf 53 = .ok (.iload_n 3, 1) := by decide +kernel
theorem dX6_pointsOf_54 : decode cX6_pointsOf 54 = .ok (.goto 5, 3) := by decide +kernel
theorem dX6_pointsOf_57 : decode cX6_pointsOf 57 = .ok (.iload 5, 2) := by decide +kernel
theorem dX6_pointsOf_59 : decode cX6_pointsOf 59 = .ok (.istore_n 3, 1) := by decide +kernel
theorem dX6_pointsOf_60 : decode cX6_pointsOf 60 = .ok (.aload_n 0, 1) := by decide +kernel
theorem dX6_pointsOf_61 : decode cX6_pointsOf 61 = .ok (.getfield 44, 3) := by decide +kernel
theorem dX6_pointsOf_64 : decode cX6_pointsOf 64 = .ok (.bipush 10, 2) := by decide +kernel
theorem dX6_pointsOf_66 : decode cX6_pointsOf 66 = .ok (.iload_n 1, 1) := by decide +kernel
theorem dX6_pointsOf_67 : decode cX6_pointsOf 67 = .ok (.imul, 1) := by decide +kernel
theorem dX6_pointsOf_68 : decode cX6_pointsOf 68 = .ok (.iload 4, 2) := by decide +kernel
theorem dX6_pointsOf_70 : decode cX6_pointsOf 70 = .ok (.iadd, 1) := by decide +kernel
theorem dX6_pointsOf_71 : decode cX6_pointsOf 71 = .ok (.iaload, 1) := by decide +kernel
theorem dX6_pointsOf_72 : decode cX6_pointsOf 72 = .ok (.istore 6, 2) := by decide +kernel
theorem dX6_pointsOf_74 : decode cX6_pointsOf 74 = .ok (.iload 6, 2) := by decide +kernel
theorem dX6_pointsOf_76 : decode cX6_pointsOf 76 = .ok (.iconst (-1), 1) := by decide +kernel
theorem dX6_pointsOf_77 : decode cX6_pointsOf 77 = .ok (.if_icmp .ne 8, 3) := by decide +kernel
theorem dX6_pointsOf_80 : decode cX6_pointsOf 80 = .ok (.iload 5, 2) := by decide +kernel
theorem dX6_pointsOf_82 : decode cX6_pointsOf 82 = .ok (.goto 5, 3) := by decide +kernel
theorem dX6_pointsOf_85 : decode cX6_pointsOf 85 = .ok (.iload 6, 2) := by decide +kernel
theorem dX6_pointsOf_87 : decode cX6_pointsOf 87 = .ok (.istore 7, 2) := by decide +kernel
theorem dX6_pointsOf_89 : decode cX6_pointsOf 89 = .ok (.iload 7, 2) := by decide +kernel
theorem dX6_pointsOf_91 : decode cX6_pointsOf 91 = .ok (.aload_n 0, 1) := by decide +kernel
theorem dX6_pointsOf_92 : decode cX6_pointsOf 92 = .ok (.iload 4, 2) := by decide +kernel
theorem dX6_pointsOf_94 : decode cX6_pointsOf 94 = .ok (.invokevirtual 153, 3) := by decide +kernel
theorem dX6_pointsOf_97 : decode cX6_pointsOf 97 = .ok (.isub, 1) := by decide +kernel
theorem dX6_pointsOf_98 : decode cX6_pointsOf 98 = .ok (.istore 8, 2) := by decide +kernel
theorem dX6_pointsOf_100 : decode cX6_pointsOf 100 = .ok (.iload 7, 2) := by decide +kernel
theorem dX6_pointsOf_102 : decode cX6_pointsOf 102 = .ok (.iconst (-1), 1) := by decide +kernel
theorem dX6_pointsOf_103 : decode cX6_pointsOf 103 = .ok (.if_icmp .ne 8, 3) := by decide +kernel
theorem dX6_pointsOf_106 : decode cX6_pointsOf 106 = .ok (.bipush 60, 2) := by decide +kernel
theorem dX6_pointsOf_108 : decode cX6_pointsOf 108 = .ok (.goto 18, 3) := by decide +kernel
theorem dX6_pointsOf_111 : decode cX6_pointsOf 111 = .ok (.iload 8, 2) := by decide +kernel
theorem dX6_pointsOf_113 : decode cX6_pointsOf 113 = .ok (.ifCond .ge 11, 3) := by decide +kernel
theorem dX6_pointsOf_116 : decode cX6_pointsOf 116 = .ok (.bipush (-2), 2) := by decide +kernel
theorem dX6_pointsOf_118 : decode cX6_pointsOf 118 = .ok (.iload 8, 2) := by decide +kernel
theorem dX6_pointsOf_120 : decode cX6_pointsOf 120 = .ok (.imul, 1) := by decide +kernel
theorem dX6_pointsOf_121 : decode cX6_pointsOf 121 = .ok (.goto 5, 3) := by decide +kernel
theorem dX6_pointsOf_124 : decode cX6_pointsOf 124 = .ok (.iload 8, 2) := by decide +kernel
theorem dX6_pointsOf_126 : decode cX6_pointsOf 126 = .ok (.istore 9, 2) := by decide +kernel
theorem dX6_pointsOf_128 : decode cX6_pointsOf 128 = .ok (.iload_n 2, 1) := by decide +kernel
theorem dX6_pointsOf_129 : decode cX6_pointsOf 129 = .ok (.iload 9, 2) := by decide +kernel
theorem dX6_pointsOf_131 : decode cX6_pointsOf 131 = .ok (.bipush 60, 2) := by decide +kernel
theorem dX6_pointsOf_133 : decode cX6_pointsOf 133 = .ok (.if_icmp .le 8, 3) := by decide +kernel
theorem dX6_pointsOf_136 : decode cX6_pointsOf 136 = .ok (.bipush 60, 2) := by decide +kernel
theorem dX6_pointsOf_138 : decode cX6_pointsOf 138 = .ok (.goto 5, 3) := by decide +kernel
theorem dX6_pointsOf_141 : decode cX6_pointsOf 141 = .ok (.iload 9, 2) := by decide +kernel
theorem dX6_pointsOf_143 : decode cX6_pointsOf 143 = .ok (.iadd, 1) := by decide +kernel
theorem dX6_pointsOf_144 : decode cX6_pointsOf 144 = .ok (.istore_n 2, 1) := by decide +kernel
theorem dX6_pointsOf_145 : decode cX6_pointsOf 145 = .ok (.iinc 4 1, 3) := by decide +kernel
theorem dX6_pointsOf_148 : decode cX6_pointsOf 148 = .ok (.goto (-133), 3) := by decide +kernel
theorem dX6_pointsOf_151 : decode cX6_pointsOf 151 = .ok (.iload_n 2, 1) := by decide +kernel
theorem dX6_pointsOf_152 : decode cX6_pointsOf 152 = .ok (.ireturn, 1) := by decide +kernel
theorem dX6_points_0 : decode cX6_points 0 = .ok (.aload_n 0, 1) := by decide +kernel
theorem dX6_points_1 : decode cX6_points 1 = .ok (.aload_n 0, 1) := by decide +kernel
theorem dX6_points_2 : decode cX6_points 2 = .ok (.iload_n 1, 1) := by decide +kernel
theorem dX6_points_3 : decode cX6_points 3 = .ok (.invokevirtual 127, 3) := by decide +kernel
theorem dX6_points_6 : decode cX6_points 6 = .ok (.ifCond .eq 7, 3) := by decide +kernel
theorem dX6_points_9 : decode cX6_points 9 = .ok (.iconst 0, 1) := by decide +kernel
theorem dX6_points_10 : decode cX6_points 10 = .ok (.goto 4, 3) := by decide +kernel
theorem dX6_points_13 : decode cX6_points 13 = .ok (.iconst 1, 1) := by decide +kernel
theorem dX6_points_14 : decode cX6_points 14 = .ok (.invokevirtual 119, 3) := by decide +kernel
theorem dX6_points_17 : decode cX6_points 17 = .ok (.ifCond .eq 11, 3) := by decide +kernel
theorem dX6_points_20 : decode cX6_points 20 = .ok (.aload_n 0, 1) := by decide +kernel
theorem dX6_points_21 : decode cX6_points 21 = .ok (.iload_n 1, 1) := by decide +kernel
theorem dX6_points_22 : decode cX6_points 22 = .ok (.invokevirtual 159, 3) := by decide +kernel
theorem dX6_points_25 : decode cX6_points 25 = .ok (.goto 4, 3) := by decide +kernel
theorem dX6_points_28 : decode cX6_points 28 = .ok (.iconst 0, 1) := by decide +kernel
theorem dX6_points_29 : decode cX6_points 29 = .ok (.ireturn, 1) := by decide +kernel
theorem dX6_table_0 : decode cX6_table 0 = .ok (.aload_n 0, 1) := by decide +kernel
theorem dX6_table_1 : decode cX6_table 1 = .ok (.iload_n 1, 1) := by decide +kernel
theorem dX6_table_2 : decode cX6_table 2 = .ok (.iconst 0, 1) := by decide +kernel
theorem dX6_table_3 : decode cX6_table 3 = .ok (.aload_n 0, 1) := by decide +kernel
theorem dX6_table_4 : decode cX6_table 4 = .ok (.getfield 65, 3) := by decide +kernel
theorem dX6_table_7 : decode cX6_table 7 = .ok (.iconst 1, 1) := by decide +kernel
theorem dX6_table_8 : decode cX6_table 8 = .ok (.isub, 1) := by decide +kernel
theorem dX6_table_9 : decode cX6_table 9 = .ok (.invokestatic 68, 3) := by decide +kernel
theorem dX6_table_12 : decode cX6_table 12 = .ok (.ifCond .eq 7, 3) := by decide +kernel
theorem dX6_table_15 : decode cX6_table 15 = .ok (.iconst 0, 1) := by decide +kernel
theorem dX6_table_16 : decode cX6_table 16 = .ok (.goto 4, 3) := by decide +kernel
theorem dX6_table_19 : decode cX6_table 19 = .ok (.iconst 1, 1) := by decide +kernel
theorem dX6_table_20 : decode cX6_table 20 = .ok (.invokevirtual 119, 3) := by decide +kernel
theorem dX6_table_23 : decode cX6_table 23 = .ok (.ifCond .ne 5, 3) := by decide +kernel
theorem dX6_table_26 : decode cX6_table 26 = .ok (.iconst 0, 1) := by decide +kernel
theorem dX6_table_27 : decode cX6_table 27 = .ok (.ireturn, 1) := by decide +kernel
theorem dX6_table_28 : decode cX6_table 28 = .ok (.iconst 0, 1) := by decide +kernel
theorem dX6_table_29 : decode cX6_table 29 = .ok (.istore_n 2, 1) := by decide +kernel
theorem dX6_table_30 : decode cX6_table 30 = .ok (.iload_n 2, 1) := by decide +kernel
theorem dX6_table_31 : decode cX6_table 31 = .ok (.aload_n 0, 1) := by decide +kernel
theorem dX6_table_32 : decode cX6_table 32 = .ok (.getfield 65, 3) := by decide +kernel
theorem dX6_table_35 : decode cX6_table 35 = .ok (.if_icmp .ge 20, 3) := by decide +kernel
theorem dX6_table_38 : decode cX6_table 38 = .ok (.aload_n 0, 1) := by decide +kernel
theorem dX6_table_39 : decode cX6_table 39 = .ok (.getfield 59, 3) := by decide +kernel
theorem dX6_table_42 : decode cX6_table 42 = .ok (.iload_n 2, 1) := by decide +kernel
theorem dX6_table_43 : decode cX6_table 43 = .ok (.aload_n 0, 1) := by decide +kernel
theorem dX6_table_44 : decode cX6_table 44 = .ok (.iload_n 2, 1) := by decide +kernel
theorem dX6_table_45 : decode cX6_table 45 = .ok (.invokevirtual 159, 3) := by decide +kernel
theorem dX6_table_48 : decode cX6_table 48 = .ok (.iastore, 1) := by decide +kernel
theorem dX6_table_49 : decode cX6_table 49 = .ok (.iinc 2 1, 3) := by decide +kernel
theorem dX6_table_52 : decode cX6_table 52 = .ok (.goto (-22), 3) := by decide +kernel
theorem dX6_table_55 : decode cX6_table 55 = .ok (.iconst 0, 1) := by decide +kernel
theorem dX6_table_56 : decode cX6_table 56 = .ok (.istore_n 2, 1) := by decide +kernel
theorem dX6_table_57 : decode cX6_table 57 = .ok (.iload_n 2, 1) := by decide +kernel
theorem dX6_table_58 : decode cX6_table 58 = .ok (.aload_n 0, 1) := by decide +kernel
theorem dX6_table_59 : decode cX6_table 59 = .ok (.getfield 65, 3) := by decide +kernel
theorem dX6_table_62 : decode cX6_table 62 = .ok (.if_icmp .ge 76, 3) := by decide +kernel
theorem dX6_table_65 : decode cX6_table 65 = .ok (.iconst 0, 1) := by decide +kernel
theorem dX6_table_66 : decode cX6_table 66 = .ok (.istore_n 3, 1) := by decide +kernel
theorem dX6_table_67 : decode cX6_table 67 = .ok (.iconst 0, 1) := by decide +kernel
theorem dX6_table_68 : decode cX6_table 68 = .ok (.istore 4, 2) := by decide +kernel
theorem dX6_table_70 : decode cX6_table 70 = .ok (.iload 4, 2) := by decide +kernel
theorem dX6_table_72 : decode cX6_table 72 = .ok (.aload_n 0, 1) := by decide +kernel
theorem dX6_table_73 : decode cX6_table 73 = .ok (.getfield 65, 3) := by decide +kernel
theorem dX6_table_76 : decode cX6_table 76 = .ok (.if_icmp .ge 49, 3) := by decide +kernel
theorem dX6_table_79 : decode cX6_table 79 = .ok (.aload_n 0, 1) := by decide +kernel
theorem dX6_table_80 : decode cX6_table 80 = .ok (.getfield 59, 3) := by decide +kernel
theorem dX6_table_83 : decode cX6_table 83 = .ok (.iload 4, 2) := by decide +kernel
theorem dX6_table_85 : decode cX6_table 85 = .ok (.iaload, 1) := by decide +kernel
theorem dX6_table_86 : decode cX6_table 86 = .ok (.aload_n 0, 1) := by decide +kernel
theorem dX6_table_87 : decode cX6_table 87 = .ok (.getfield 59, 3) := by decide +kernel
theorem dX6_table_90 : decode cX6_table 90 = .ok (.iload_n 2, 1) := by decide +kernel
theorem dX6_table_91 : decode cX6_table 91 = .ok (.iaload, 1) := by decide +kernel
theorem dX6_table_92 : decode cX6_table 92 = .ok (.isub, 1) := by decide +kernel
theorem dX6_table_93 : decode cX6_table 93 = .ok (.istore 5, 2) := by decide +kernel
theorem dX6_table_95 : decode cX6_table 95 = .ok (.iload_n 3, 1) := by decide +kernel
theorem dX6_table_96 : decode cX6_table 96 = .ok (.iload 5, 2) := by decide +kernel
theorem dX6_table_98 : decode cX6_table 98 = .ok (.ifCond .lt 14, 3) := by decide +kernel
theorem dX6_table_101 : decode cX6_table 101 = .ok (.iload 5, 2) := by decide +kernel
theorem dX6_table_103 : decode cX6_table 103 = .ok (.ifCond .ne 13, 3) := by decide +kernel
theorem dX6_table_106 : decode cX6_table 106 = .ok (.iload 4, 2) := by decide +kernel
theorem dX6_table_108 : decode cX6_table 108 = .ok (.iload_n 2, 1) := by decide +kernel
theorem dX6_table_109 : decode cX6_table 109 = .ok (.if_icmp .ge 7, 3) := by decide +kernel
theorem dX6_table_112 : decode cX6_table 112 = .ok (.iconst 1, 1) := by decide +kernel
theorem dX6_table_113 : decode cX6_table 113 = .ok (.goto 4, 3) := by decide +kernel
theorem dX6_table_116 : decode cX6_table 116 = .ok (.iconst 0, 1) := by decide +kernel
theorem dX6_table_117 : decode cX6_table 117 = .ok (.iadd, 1) := by decide +kernel
theorem dX6_table_118 : decode cX6_table 118 = .ok (.istore_n 3, 1) := by decide +kernel
theorem dX6_table_119 : decode cX6_table 119 = .ok (.iinc 4 1, 3) := by decide +kernel
theorem dX6_table_122 : decode cX6_table 122 = .ok (.goto (-52), 3) := by decide +kernel
theorem dX6_table_125 : decode cX6_table 125 = .ok (.iload_n 3, 1) := by decide +kernel
theorem dX6_table_126 : decode cX6_table 126 = .ok (.iload_n 1, 1) := by decide +kernel
theorem dX6_table_127 : decode cX6_table 127 = .ok (.if_icmp .ne 5, 3) := by decide +kernel
theorem dX6_table_130 : decode cX6_table 130 = .ok (.iload_n 2, 1) := by decide +kernel
theorem dX6_table_131 : decode cX6_table 131 = .ok (.ireturn, 1) := by decide +kernel
theorem dX6_table_132 : decode cX6_table 132 = .ok (.iinc 2 1, 3) := by decide +kernel
theorem dX6_table_135 : decode cX6_table 135 = .ok (.goto (-78), 3) := by decide +kernel
theorem dX6_table_138 : decode cX6_table 138 = .ok (.iconst 0, 1) := by decide +kernel
theorem dX6_table_139 : decode cX6_table 139 = .ok (.ireturn, 1) := by decide +kernel
theorem dX6_isPart_0 : decode cX6_isPart 0 = .ok (.iload_n 1, 1) := by decide +kernel
theorem dX6_isPart_1 : decode cX6_isPart 1 = .ok (.iconst 0, 1) := by decide +kernel
theorem dX6_isPart_2 : decode cX6_isPart 2 = .ok (.aload_n 0, 1) := by decide +kernel
theorem dX6_isPart_3 : decode cX6_isPart 3 = .ok (.getfield 134, 3) := by decide +kernel
theorem dX6_isPart_6 : decode cX6_isPart 6 = .ok (.iconst 1, 1) := by decide +kernel
theorem dX6_isPart_7 : decode cX6_isPart 7 = .ok (.isub, 1) := by decide +kernel
theorem dX6_isPart_8 : decode cX6_isPart 8 = .ok (.invokestatic 68, 3) := by decide +kernel
theorem dX6_isPart_11 : decode cX6_isPart 11 = .ok (.ireturn, 1) := by decide +kernel
theorem dX6_where_0 : decode cX6_where 0 = .ok (.aload_n 0, 1) := by decide +kernel
theorem dX6_where_1 : decode cX6_where 1 = .ok (.aload_n 0, 1) := by decide +kernel
theorem dX6_where_2 : decode cX6_where 2 = .ok (.iload_n 1, 1) := by decide +kernel
theorem dX6_where_3 : decode cX6_where 3 = .ok (.invokevirtual 162, 3) := by decide +kernel
theorem dX6_where_6 : decode cX6_where 6 = .ok (.ifCond .eq 7, 3) := by decide +kernel
theorem dX6_where_9 : decode cX6_where 9 = .ok (.iconst 0, 1) := by decide +kernel
theorem dX6_where_10 : decode cX6_where 10 = .ok (.goto 4, 3) := by decide +kernel
theorem dX6_where_13 : decode cX6_where 13 = .ok (.iconst 1, 1) := by decide +kernel
theorem dX6_where_14 : decode cX6_where 14 = .ok (.invokevirtual 119, 3) := by decide +kernel
theorem dX6_where_17 : decode cX6_where 17 = .ok (.ifCond .eq 12, 3) := by decide +kernel
theorem dX6_where_20 : decode cX6_where 20 = .ok (.aload_n 0, 1) := by decide +kernel
theorem dX6_where_21 : decode cX6_where 21 = .ok (.getfield 53, 3) := by decide +kernel
theorem dX6_where_24 : decode cX6_where 24 = .ok (.iload_n 1, 1) := by decide +kernel
theorem dX6_where_25 : decode cX6_where 25 = .ok (.iaload, 1) := by decide +kernel
theorem dX6_where_26 : decode cX6_where 26 = .ok (.goto 4, 3) := by decide +kernel
theorem dX6_where_29 : decode cX6_where 29 = .ok (.iconst 0, 1) := by decide +kernel
theorem dX6_where_30 : decode cX6_where 30 = .ok (.ireturn, 1) := by decide +kernel
theorem dX6_lent_0 : decode cX6_lent 0 = .ok (.aload_n 0, 1) := by decide +kernel
theorem dX6_lent_1 : decode cX6_lent 1 = .ok (.aload_n 0, 1) := by decide +kernel
theorem dX6_lent_2 : decode cX6_lent 2 = .ok (.iload_n 1, 1) := by decide +kernel
theorem dX6_lent_3 : decode cX6_lent 3 = .ok (.invokevirtual 127, 3) := by decide +kernel
theorem dX6_lent_6 : decode cX6_lent 6 = .ok (.ifCond .eq 7, 3) := by decide +kernel
theorem dX6_lent_9 : decode cX6_lent 9 = .ok (.iconst 0, 1) := by decide +kernel
theorem dX6_lent_10 : decode cX6_lent 10 = .ok (.goto 4, 3) := by decide +kernel
theorem dX6_lent_13 : decode cX6_lent 13 = .ok (.iconst 1, 1) := by decide +kernel
theorem dX6_lent_14 : decode cX6_lent 14 = .ok (.invokevirtual 119, 3) := by decide +kernel
theorem dX6_lent_17 : decode cX6_lent 17 = .ok (.ifCond .ne 5, 3) := by decide +kernel
theorem dX6_lent_20 : decode cX6_lent 20 = .ok (.iconst 0, 1) := by decide +kernel
theorem dX6_lent_21 : decode cX6_lent 21 = .ok (.ireturn, 1) := by decide +kernel
theorem dX6_lent_22 : decode cX6_lent 22 = .ok (.iconst 0, 1) := by decide +kernel
theorem dX6_lent_23 : decode cX6_lent 23 = .ok (.istore_n 2, 1) := by decide +kernel
theorem dX6_lent_24 : decode cX6_lent 24 = .ok (.iconst 0, 1) := by decide +kernel
theorem dX6_lent_25 : decode cX6_lent 25 = .ok (.istore_n 3, 1) := by decide +kernel
theorem dX6_lent_26 : decode cX6_lent 26 = .ok (.iload_n 3, 1) := by decide +kernel
theorem dX6_lent_27 : decode cX6_lent 27 = .ok (.aload_n 0, 1) := by decide +kernel
theorem dX6_lent_28 : decode cX6_lent 28 = .ok (.getfield 134, 3) := by decide +kernel
theorem dX6_lent_31 : decode cX6_lent 31 = .ok (.if_icmp .ge 78, 3) := by decide +kernel
theorem dX6_lent_34 : decode cX6_lent 34 = .ok (.aload_n 0, 1) := by decide +kernel
theorem dX6_lent_35 : decode cX6_lent 35 = .ok (.getfield 53, 3) := by decide +kernel
theorem dX6_lent_38 : decode cX6_lent 38 = .ok (.iload_n 3, 1) := by decide +kernel
theorem dX6_lent_39 : decode cX6_lent 39 = .ok (.iaload, 1) := by decide +kernel
theorem dX6_lent_40 : decode cX6_lent 40 = .ok (.bipush (-2), 2) := by decide +kernel
theorem dX6_lent_42 : decode cX6_lent 42 = .ok (.if_icmp .ne 21, 3) := by decide +kernel
theorem dX6_lent_45 : decode cX6_lent 45 = .ok (.aload_n 0, 1) := by decide +kernel
theorem dX6_lent_46 : decode cX6_lent 46 = .ok (.getfield 56, 3) := by decide +kernel
theorem dX6_lent_49 : decode cX6_lent 49 = .ok (.iload_n 3, 1) := by decide +kernel
theorem dX6_lent_50 : decode cX6_lent 50 = .ok (.iaload, 1) := by decide +kernel
theorem dX6_lent_51 : decode cX6_lent 51 = .ok (.iload_n 1, 1) := by decide +kernel
theorem dX6_lent_52 : decode cX6_lent 52 = .ok (.if_icmp .eq 7, 3) := by decide +kernel
theorem dX6_lent_55 : decode cX6_lent 55 = .ok (.iconst 1, 1) := by decide +kernel
theorem dX6_lent_56 : decode cX6_lent 56 = .ok (.goto 22, 3) := by decide +kernel
theorem dX6_lent_59 : decode cX6_lent 59 = .ok (.iconst 0, 1) := by decide +kernel
theorem dX6_lent_60 : decode cX6_lent 60 = .ok (.goto 18, 3) := by decide +kernel
theorem dX6_lent_63 : decode cX6_lent 63 = .ok (.aload_n 0, 1) := by decide +kernel
theorem dX6_lent_64 : decode cX6_lent 64 = .ok (.getfield 53, 3) := by decide +kernel
theorem dX6_lent_67 : decode cX6_lent 67 = .ok (.iload_n 3, 1) := by decide +kernel
theorem dX6_lent_68 : decode cX6_lent 68 = .ok (.iaload, 1) := by decide +kernel
theorem dX6_lent_69 : decode cX6_lent 69 = .ok (.iload_n 1, 1) := by decide +kernel
theorem dX6_lent_70 : decode cX6_lent 70 = .ok (.if_icmp .eq 7, 3) := by decide +kernel
theorem dX6_lent_73 : decode cX6_lent 73 = .ok (.iconst 1, 1) := by decide +kernel
theorem dX6_lent_74 : decode cX6_lent 74 = .ok (.goto 4, 3) := by decide +kernel
theorem dX6_lent_77 : decode cX6_lent 77 = .ok (.iconst 0, 1) := by decide +kernel
theorem dX6_lent_78 : decode cX6_lent 78 = .ok (.istore 4, 2) := by decide +kernel
theorem dX6_lent_80 : decode cX6_lent 80 = .ok (.iload_n 2, 1) := by decide +kernel
theorem dX6_lent_81 : decode cX6_lent 81 = .ok (.aload_n 0, 1) := by decide +kernel
theorem dX6_lent_82 : decode cX6_lent 82 = .ok (.getfield 50, 3) := by decide +kernel
theorem dX6_lent_85 : decode cX6_lent 85 = .ok (.iload_n 3, 1) := by decide +kernel
theorem dX6_lent_86 : decode cX6_lent 86 = .ok (.iaload, 1) := by decide +kernel
theorem dX6_lent_87 : decode cX6_lent 87 = .ok (.iload_n 1, 1) := by decide +kernel
theorem dX6_lent_88 : decode cX6_lent 88 = .ok (.if_icmp .ne 12, 3) := by decide +kernel
theorem dX6_lent_91 : decode cX6_lent 91 = .ok (.iload 4, 2) := by decide +kernel
theorem dX6_lent_93 : decode cX6_lent 93 = .ok (.ifCond .eq 7, 3) := by decide +kernel
theorem dX6_lent_96 : decode cX6_lent 96 = .ok (.iconst 1, 1) := by decide +kernel
theorem dX6_lent_97 : decode cX6_lent 97 = .ok (.goto 4, 3) := by decide +kernel
theorem dX6_lent_100 : decode cX6_lent 100 = .ok (.iconst 0, 1) := by decide +kernel
theorem dX6_lent_101 : decode cX6_lent 101 = .ok (.iadd, 1) := by decide +kernel
theorem dX6_lent_102 : decode cX6_lent 102 = .ok (.istore_n 2, 1) := by decide +kernel
theorem dX6_lent_103 : decode cX6_lent 103 = .ok (.iinc 3 1, 3) := by decide +kernel
theorem dX6_lent_106 : decode cX6_lent 106 = .ok (.goto (-80), 3) := by decide +kernel
theorem dX6_lent_109 : decode cX6_lent 109 = .ok (.iload_n 2, 1) := by decide +kernel
theorem dX6_lent_110 : decode cX6_lent 110 = .ok (.ireturn, 1) := by decide +kernel
theorem dX6_isBroken_0 : decode cX6_isBroken 0 = .ok (.aload_n 0, 1) := by decide +kernel
theorem dX6_isBroken_1 : decode cX6_isBroken 1 = .ok (.aload_n 0, 1) := by decide +kernel
theorem dX6_isBroken_2 : decode cX6_isBroken 2 = .ok (.iload_n 1, 1) := by decide +kernel
theorem dX6_isBroken_3 : decode cX6_isBroken 3 = .ok (.invokevirtual 127, 3) := by decide +kernel
theorem dX6_isBroken_6 : decode cX6_isBroken 6 = .ok (.ifCond .eq 7, 3) := by decide +kernel
theorem dX6_isBroken_9 : decode cX6_isBroken 9 = .ok (.iconst 0, 1) := by decide +kernel
theorem dX6_isBroken_10 : decode cX6_isBroken 10 = .ok (.goto 4, 3) := by decide +kernel
theorem dX6_isBroken_13 : decode cX6_isBroken 13 = .ok (.iconst 1, 1) := by decide +kernel
theorem dX6_isBroken_14 : decode cX6_isBroken 14 = .ok (.invokevirtual 119, 3) := by decide +kernel
theorem dX6_isBroken_17 : decode cX6_isBroken 17 = .ok (.ifCond .eq 17, 3) := by decide +kernel
theorem dX6_isBroken_20 : decode cX6_isBroken 20 = .ok (.aload_n 0, 1) := by decide +kernel
theorem dX6_isBroken_21 : decode cX6_isBroken 21 = .ok (.getfield 38, 3) := by decide +kernel
theorem dX6_isBroken_24 : decode cX6_isBroken 24 = .ok (.iload_n 1, 1) := by decide +kernel
theorem dX6_isBroken_25 : decode cX6_isBroken 25 = .ok (.iaload, 1) := by decide +kernel
theorem dX6_isBroken_26 : decode cX6_isBroken 26 = .ok (.iconst (-1), 1) := by decide +kernel
theorem dX6_isBroken_27 : decode cX6_isBroken 27 = .ok (.if_icmp .eq 7, 3) := by decide +kernel
theorem dX6_isBroken_30 : decode cX6_isBroken 30 = .ok (.iconst 1, 1) := by decide +kernel
theorem dX6_isBroken_31 : decode cX6_isBroken 31 = .ok (.goto 4, 3) := by decide +kernel
theorem dX6_isBroken_34 : decode cX6_isBroken 34 = .ok (.iconst 0, 1) := by decide +kernel
theorem dX6_isBroken_35 : decode cX6_isBroken 35 = .ok (.ireturn, 1) := by decide +kernel
end
section
/-! decode rows of the class -/
theorem dX0_init_0 : decode cX0_init 0 = .ok (.aload_n 0, 1) := by decide +kernel
theorem dX0_init_1 : decode cX0_init 1 = .ok (.invokespecial 3, 3) := by decide +kernel
theorem dX0_init_4 : decode cX0_init 4 = .ok (.aload_n 0, 1) := by decide +kernel
theorem dX0_init_5 : decode cX0_init 5 = .ok (.new 9, 3) := by decide +kernel
theorem dX0_init_8 : decode cX0_init 8 = .ok (.dup, 1) := by decide +kernel
theorem dX0_init_9 : decode cX0_init 9 = .ok (.bipush 60, 2) := by decide +kernel
theorem dX0_init_11 : decode cX0_init 11 = .ok (.iload_n 1, 1) := by decide +kernel
theorem dX0_init_12 : decode cX0_init 12 = .ok (.invokespecial 11, 3) := by decide +kernel
theorem dX0_init_15 : decode cX0_init 15 = .ok (.putfield 14, 3) := by decide +kernel
theorem dX0_init_18 : decode cX0_init 18 = .ok (.aload_n 0, 1) := by decide +kernel
theorem dX0_init_19 : decode cX0_init 19 = .ok (.bipush 10, 2) := by decide +kernel
theorem dX0_init_21 : decode cX0_init 21 = .ok (.newarray .int, 2) := by decide +kernel
theorem dX0_init_23 : decode cX0_init 23 = .ok (.putfield 20, 3) := by decide +kernel
theorem dX0_init_26 : decode cX0_init 26 = .ok (.iconst 0, 1) := by decide +kernel
theorem dX0_init_27 : decode cX0_init 27 = .ok (.istore_n 2, 1) := by decide +kernel
theorem dX0_init_28 : decode cX0_init 28 = .ok (.iload_n 2, 1) := by decide +kernel
theorem dX0_init_29 : decode cX0_init 29 = .ok (.bipush 10, 2) := by decide +kernel
theorem dX0_init_31 : decode cX0_init 31 = .ok (.if_icmp .ge 16, 3) := by decide +kernel
theorem dX0_init_34 : decode cX0_init 34 = .ok (.aload_n 0, 1) := by decide +kernel
theorem dX0_init_35 : decode cX0_init 35 = .ok (.getfield 20, 3) := by decide +kernel
theorem dX0_init_38 : decode cX0_init 38 = .ok (.iload_n 2, 1) := by decide +kernel
theorem dX0_init_39 : decode cX0_init 39 = .ok (.iconst (-1), 1) := by decide +kernel
theorem dX0_init_40 : decode cX0_init 40 = .ok (.iastore, 1) := by decide +kernel
theorem dX0_init_41 : decode cX0_init 41 = .ok (.iinc 2 1, 3) := by decide +kernel
theorem dX0_init_44 : decode cX0_init 44 = .ok (.goto (-16), 3) := by decide +kernel
theorem dX0_init_47 : decode cX0_init 47 = .ok (.aload_n 0, 1) := by decide +kernel
theorem dX0_init_48 : decode cX0_init 48 = .ok (.iconst (-1), 1) := by decide +kernel
theorem dX0_init_49 : decode cX0_init 49 = .ok (.putfield 24, 3) := by decide +kernel
theorem dX0_init_52 : decode cX0_init 52 = .ok (.aload_n 0, 1) := by decide +kernel
theorem dX0_init_53 : decode cX0_init 53 = .ok (.iconst 0, 1) := by decide +kernel
theorem dX0_init_54 : decode cX0_init 54 = .ok (.putfield 28, 3) := by decide +kernel
theorem dX0_init_57 : decode cX0_init 57 = .ok (.return_, 1) := by decide +kernel
theorem dX0_isDown_0 : decode cX0_isDown 0 = .ok (.aload_n 0, 1) := by decide +kernel
theorem dX0_isDown_1 : decode cX0_isDown 1 = .ok (.getfield 24, 3) := by decide +kernel
theorem dX0_isDown_4 : decode cX0_isDown 4 = .ok (.iconst (-1), 1) := by decide +kernel
theorem dX0_isDown_5 : decode cX0_isDown 5 = .ok (.if_icmp .eq 7, 3) := by decide +kernel
theorem dX0_isDown_8 : decode cX0_isDown 8 = .ok (.iconst 1, 1) := by decide +kernel
theorem dX0_isDown_9 : decode cX0_isDown 9 = .ok (.goto 4, 3) := by decide +kernel
theorem dX0_isDown_12 : decode cX0_isDown 12 = .ok (.iconst 0, 1) := by decide +kernel
theorem dX0_isDown_13 : decode cX0_isDown 13 = .ok (.ireturn, 1) := by decide +kernel
theorem dX0_recordAt_0 : decode cX0_recordAt 0 = .ok (.iload_n 1, 1) := by decide +kernel
theorem dX0_recordAt_1 : decode cX0_recordAt 1 = .ok (.iconst 0, 1) := by decide +kernel
theorem dX0_recordAt_2 : decode cX0_recordAt 2 = .ok (.bipush 9, 2) := by decide +kernel
theorem dX0_recordAt_4 : decode cX0_recordAt 4 = .ok (.invokestatic 31, 3) := by decide +kernel
theorem dX0_recordAt_7 : decode cX0_recordAt 7 = .ok (.ifCond .eq 12, 3) := by decide +kernel
theorem dX0_recordAt_10 : decode cX0_recordAt 10 = .ok (.aload_n 0, 1) := by decide +kernel
theorem dX0_recordAt_11 : decode cX0_recordAt 11 = .ok (.getfield 20, 3) := by decide +kernel
theorem dX0_recordAt_14 : decode cX0_recordAt 14 = .ok (.iload_n 1, 1) := by decide +kernel
theorem dX0_recordAt_15 : decode cX0_recordAt 15 = .ok (.iaload, 1) := by decide +kernel
theorem dX0_recordAt_16 : decode cX0_recordAt 16 = .ok (.goto 4, 3) := by decide +kernel
theorem dX0_recordAt_19 : decode cX0_recordAt 19 = .ok (.iconst (-1), 1) := by decide +kernel
theorem dX0_recordAt_20 : decode cX0_recordAt 20 = .ok (.ireturn, 1) := by decide +kernel
theorem dX0_setRecord_0 : decode cX0_setRecord 0 = .ok (.iload_n 1, 1) := by decide +kernel
theorem dX0_setRecord_1 : decode cX0_setRecord 1 = .ok (.iconst 0, 1) := by decide +kernel
theorem dX0_setRecord_2 : decode cX0_setRecord 2 = .ok (.bipush 9, 2) := by decide +kernel
theorem dX0_setRecord_4 : decode cX0_setRecord 4 = .ok (.invokestatic 31, 3) := by decide +kernel
theorem dX0_setRecord_7 : decode cX0_setRecord 7 = .ok (.ifCond .eq 10, 3) := by decide +kernel
theorem dX0_setRecord_10 : decode cX0_setRecord 10 = .ok (.aload_n 0, 1) := by decide +kernel
theorem dX0_setRecord_11 : decode cX0_setRecord 11 = .ok (.getfield 20, 3) := by decide +kernel
theorem dX0_setRecord_14 : decode cX0_setRecord 14 = .ok (.iload_n 1, 1) := by decide +kernel
theorem dX0_setRecord_15 : decode cX0_setRecord 15 = .ok (.iload_n 2, 1) := by decide +kernel
theorem dX0_setRecord_16 : decode cX0_setRecord 16 = .ok (.iastore, 1) := by decide +kernel
theorem dX0_setRecord_17 : decode cX0_setRecord 17 = .ok (.return_, 1) := by decide +kernel
theorem dX0_timeAt_0 : decode cX0_timeAt 0 = .ok (.aload_n 0, 1) := by decide +kernel
theorem dX0_timeAt_1 : decode cX0_timeAt 1 = .ok (.iload_n 1, 1) := by decide +kernel
theorem dX0_timeAt_2 : decode cX0_timeAt 2 = .ok (.invokevirtual 35, 3) := by decide +kernel
theorem dX0_timeAt_5 : decode cX0_timeAt 5 = .ok (.istore_n 3, 1) := by decide +kernel
theorem dX0_timeAt_6 : decode cX0_timeAt 6 = .ok (.iload_n 3, 1) := by decide +kernel
theorem dX0_timeAt_7 : decode cX0_timeAt 7 = .ok (.iconst (-1), 1) := by decide +kernel
theorem dX0_timeAt_8 : decode cX0_timeAt 8 = .ok (.if_icmp .ne 7, 3) := by decide +kernel
theorem dX0_timeAt_11 : decode cX0_timeAt 11 = .ok (.iload_n 2, 1) := by decide +kernel
theorem dX0_timeAt_12 : decode cX0_timeAt 12 = .ok (.goto 4, 3) := by decide +kernel
theorem dX0_timeAt_15 : decode cX0_timeAt 15 = .ok (.iload_n 3, 1) := by decide +kernel
theorem dX0_timeAt_16 : decode cX0_timeAt 16 = .ok (.ireturn, 1) := by decide +kernel
theorem dX1_init_0 : decode cX1_init 0 = .ok (.aload_n 0, 1) := by decide +kernel
theorem dX1_init_1 : decode cX1_init 1 = .ok (.invokespecial 3, 3) := by decide +kernel
theorem dX1_init_4 : decode cX1_init 4 = .ok (.aload_n 0, 1) := by decide +kernel
theorem dX1_init_5 : decode cX1_init 5 = .ok (.iload_n 1, 1) := by decide +kernel
theorem dX1_init_6 : decode cX1_init 6 = .ok (.putfield 9, 3) := by decide +kernel
theorem dX1_init_9 : decode cX1_init 9 = .ok (.aload_n 0, 1) := by decide +kernel
theorem dX1_init_10 : decode cX1_init 10 = .ok (.iload_n 2, 1) := by decide +kernel
theorem dX1_init_11 : decode cX1_init 11 = .ok (.putfield 15, 3) := by decide +kernel
theorem dX1_init_14 : decode cX1_init 14 = .ok (.aload_n 0, 1) := by decide +kernel
theorem dX1_init_15 : decode cX1_init 15 = .ok (.iload_n 3, 1) := by decide +kernel
theorem dX1_init_16 : decode cX1_init 16 = .ok (.putfield 18, 3) := by decide +kernel
theorem dX1_init_19 : decode cX1_init 19 = .ok (.return_, 1) := by decide +kernel
theorem dX1_pointsFor_0 : decode cX1_pointsFor 0 = .ok (.iload_n 1, 1) := by decide +kernel
theorem dX1_pointsFor_1 : decode cX1_pointsFor 1 = .ok (.iconst (-1), 1) := by decide +kernel
theorem dX1_pointsFor_2 : decode cX1_pointsFor 2 = .ok (.if_icmp .ne 6, 3) := by decide +kernel
theorem dX1_pointsFor_5 : decode cX1_pointsFor 5 = .ok (.bipush 60, 2) := by decide +kernel
theorem dX1_pointsFor_7 : decode cX1_pointsFor 7 = .ok (.ireturn, 1) := by decide +kernel
theorem dX1_pointsFor_8 : decode cX1_pointsFor 8 = .ok (.iload_n 1, 1) := by decide +kernel
theorem dX1_pointsFor_9 : decode cX1_pointsFor 9 = .ok (.aload_n 0, 1) := by decide +kernel
theorem dX1_pointsFor_10 : decode cX1_pointsFor 10 = .ok (.getfield 18, 3) := by decide +kernel
theorem dX1_pointsFor_13 : decode cX1_pointsFor 13 = .ok (.isub, 1) := by decide +kernel
theorem dX1_pointsFor_14 : decode cX1_pointsFor 14 = .ok (.istore_n 2, 1) := by decide +kernel
theorem dX1_pointsFor_15 : decode cX1_pointsFor 15 = .ok (.bipush 60, 2) := by decide +kernel
theorem dX1_pointsFor_17 : decode cX1_pointsFor 17 = .ok (.iload_n 2, 1) := by decide +kernel
theorem dX1_pointsFor_18 : decode cX1_pointsFor 18 = .ok (.ifCond .ge 10, 3) := by decide +kernel
theorem dX1_pointsFor_21 : decode cX1_pointsFor 21 = .ok (.iload_n 2, 1) := by decide +kernel
theorem dX1_pointsFor_22 : decode cX1_pointsFor 22 = .ok (.ineg, 1) := by decide +kernel
theorem dX1_pointsFor_23 : decode cX1_pointsFor 23 = .ok (.iconst 2, 1) := by decide +kernel
theorem dX1_pointsFor_24 : decode cX1_pointsFor 24 = .ok (.imul, 1) := by decide +kernel
theorem dX1_pointsFor_25 : decode cX1_pointsFor 25 = .ok (.goto 4, 3) := by decide +kernel
theorem dX1_pointsFor_28 : decode cX1_pointsFor 28 = .ok (.iload_n 2, 1) := by decide +kernel
theorem dX1_pointsFor_29 : decode cX1_pointsFor 29 = .ok (.invokestatic 21, 3) := by decide +kernel
theorem dX1_pointsFor_32 : decode cX1_pointsFor 32 = .ok (.ireturn, 1) := by decide +kernel
theorem dX2_init_0 : decode cX2_init 0 = .ok (.aload_n 0, 1) := by decide +kernel
theorem dX2_init_1 : decode cX2_init 1 = .ok (.invokespecial 3, 3) := by decide +kernel
theorem dX2_init_4 : decode cX2_init 4 = .ok (.aload_n 0, 1) := by decide +kernel
theorem dX2_init_5 : decode cX2_init 5 = .ok (.iload_n 1, 1) := by decide +kernel
theorem dX2_init_6 : decode cX2_init 6 = .ok (.putfield 9, 3) := by decide +kernel
theorem dX2_init_9 : decode cX2_init 9 = .ok (.aload_n 0, 1) := by decide +kernel
theorem dX2_init_10 : decode cX2_init 10 = .ok (.iload_n 2, 1) := by decide +kernel
theorem dX2_init_11 : decode cX2_init 11 = .ok (.putfield 15, 3) := by decide +kernel
theorem dX2_init_14 : decode cX2_init 14 = .ok (.aload_n 0, 1) := by decide +kernel
theorem dX2_init_15 : decode cX2_init 15 = .ok (.iload_n 2, 1) := by decide +kernel
theorem dX2_init_16 : decode cX2_init 16 = .ok (.putfield 18, 3) := by decide +kernel
theorem dX2_init_19 : decode cX2_init 19 = .ok (.aload_n 0, 1) := by decide +kernel
theorem dX2_init_20 : decode cX2_init 20 = .ok (.iconst (-1), 1) := by decide +kernel
theorem dX2_init_21 : decode cX2_init 21 = .ok (.putfield 21, 3) := by decide +kernel
theorem dX2_init_24 : decode cX2_init 24 = .ok (.return_, 1) := by decide +kernel
theorem dX2_useUp_0 : decode cX2_useUp 0 = .ok (.aload_n 0, 1) := by decide +kernel
theorem dX2_useUp_1 : decode cX2_useUp 1 = .ok (.bipush (-2), 2) := by decide +kernel
theorem dX2_useUp_3 : decode cX2_useUp 3 = .ok (.putfield 18, 3) := by decide +kernel
theorem dX2_useUp_6 : decode cX2_useUp 6 = .ok (.aload_n 0, 1) := by decide +kernel
theorem dX2_useUp_7 : decode cX2_useUp 7 = .ok (.iload_n 1, 1) := by decide +kernel
theorem dX2_useUp_8 : decode cX2_useUp 8 = .ok (.putfield 21, 3) := by decide +kernel
theorem dX2_useUp_11 : decode cX2_useUp 11 = .ok (.return_, 1) := by decide +kernel
theorem dX2_isLentBy_0 : decode cX2_isLentBy 0 = .ok (.aload_n 0, 1) := by decide +kernel
theorem dX2_isLentBy_1 : decode cX2_isLentBy 1 = .ok (.getfield 15, 3) := by decide +kernel
theorem dX2_isLentBy_4 : decode cX2_isLentBy 4 = .ok (.iload_n 1, 1) := by decide +kernel
theorem dX2_isLentBy_5 : decode cX2_isLentBy 5 = .ok (.if_icmp .ne 31, 3) := by decide +kernel
theorem dX2_isLentBy_8 : decode cX2_isLentBy 8 = .ok (.aload_n 0, 1) := by decide +kernel
theorem dX2_isLentBy_9 : decode cX2_isLentBy 9 = .ok (.getfield 18, 3) := by decide +kernel
theorem dX2_isLentBy_12 : decode cX2_isLentBy 12 = .ok (.bipush (-2), 2) := by decide +kernel
theorem dX2_isLentBy_14 : decode cX2_isLentBy 14 = .ok (.if_icmp .ne 10, 3) := by decide +kernel
theorem dX2_isLentBy_17 : decode cX2_isLentBy 17 = .ok (.aload_n 0, 1) := by decide +kernel
theorem dX2_isLentBy_18 : decode cX2_isLentBy 18 = .ok (.getfield 21, 3) := by decide +kernel
theorem dX2_isLentBy_21 : decode cX2_isLentBy 21 = .ok (.goto 7, 3) := by decide +kernel
theorem dX2_isLentBy_24 : decode cX2_isLentBy 24 = .ok (.aload_n 0, 1) := by decide +kernel
theorem dX2_isLentBy_25 : decode cX2_isLentBy 25 = .ok (.getfield 18, 3) := by decide +kernel
theorem dX2_isLentBy_28 : decode cX2_isLentBy 28 = .ok (.iload_n 1, 1) := by decide +kernel
theorem dX2_isLentBy_29 : decode cX2_isLentBy 29 = .ok (.if_icmp .eq 7, 3) := by decide +kernel
theorem dX2_isLentBy_32 : decode cX2_isLentBy 32 = .ok (.iconst 1, 1) := by decide +kernel
theorem dX2_isLentBy_33 : decode cX2_isLentBy 33 = .ok (.goto 4, 3) := by decide +kernel
theorem dX2_isLentBy_36 : decode cX2_isLentBy 36 = .ok (.iconst 0, 1) := by decide +kernel
theorem dX2_isLentBy_37 : decode cX2_isLentBy 37 = .ok (.ireturn, 1) := by decide +kernel
theorem dX3_init_0 : decode cX3_init 0 = .ok (.aload_n 0, 1) := by decide +kernel
theorem dX3_init_1 : decode cX3_init 1 = .ok (.invokespecial 3, 3) := by decide +kernel
theorem dX3_init_4 : decode cX3_init 4 = .ok (.aload_n 0, 1) := by decide +kernel
theorem dX3_init_5 : decode cX3_init 5 = .ok (.iload_n 1, 1) := by decide +kernel
theorem dX3_init_6 : decode cX3_init 6 = .ok (.putfield 9, 3) := by decide +kernel
theorem dX3_init_9 : decode cX3_init 9 = .ok (.aload_n 0, 1) := by decide +kernel
theorem dX3_init_10 : decode cX3_init 10 = .ok (.iload_n 2, 1) := by decide +kernel
theorem dX3_init_11 : decode cX3_init 11 = .ok (.putfield 15, 3) := by decide +kernel
theorem dX3_init_14 : decode cX3_init 14 = .ok (.aload_n 0, 1) := by decide +kernel
theorem dX3_init_15 : decode cX3_init 15 = .ok (.iload_n 3, 1) := by decide +kernel
theorem dX3_init_16 : decode cX3_init 16 = .ok (.putfield 18, 3) := by decide +kernel
theorem dX3_init_19 : decode cX3_init 19 = .ok (.aload_n 0, 1) := by decide +kernel
theorem dX3_init_20 : decode cX3_init 20 = .ok (.iload 4, 2) := by decide +kernel
theorem dX3_init_22 : decode cX3_init 22 = .ok (.putfield 21, 3) := by decide +kernel
theorem dX3_init_25 : decode cX3_init 25 = .ok (.aload_n 0, 1) := by decide +kernel
theorem dX3_init_26 : decode cX3_init 26 = .ok (.iload 5, 2) := by decide +kernel
theorem dX3_init_28 : decode cX3_init 28 = .ok (.putfield 24, 3) := by decide +kernel
theorem dX3_init_31 : decode cX3_init 31 = .ok (.aload_n 0, 1) := by decide +kernel
theorem dX3_init_32 : decode cX3_init 32 = .ok (.iload 6, 2) := by decide +kernel
theorem dX3_init_34 : decode cX3_init 34 = .ok (.putfield 27, 3) := by decide +kernel
theorem dX3_init_37 : decode cX3_init 37 = .ok (.return_, 1) := by decide +kernel
theorem dX3_end_0 : decode cX3_end 0 = .ok (.aload_n 0, 1) := by decide +kernel
theorem dX3_end_1 : decode cX3_end 1 = .ok (.getfield 9, 3) := by decide +kernel
theorem dX3_end_4 : decode cX3_end 4 = .ok (.aload_n 0, 1) := by decide +kernel
theorem dX3_end_5 : decode cX3_end 5 = .ok (.getfield 15, 3) := by decide +kernel
theorem dX3_end_8 : decode cX3_end 8 = .ok (.iadd, 1) := by decide +kernel
theorem dX3_end_9 : decode cX3_end 9 = .ok (.ireturn, 1) := by decide +kernel
theorem dX3_lastCell_0 : decode cX3_lastCell 0 = .ok (.aload_n 0, 1) := by decide +kernel
theorem dX3_lastCell_1 : decode cX3_lastCell 1 = .ok (.aload_n 0, 1) := by decide +kernel
theorem dX3_lastCell_2 : decode cX3_lastCell 2 = .ok (.getfield 15, 3) := by decide +kernel
theorem dX3_lastCell_5 : decode cX3_lastCell 5 = .ok (.invokevirtual 31, 3) := by decide +kernel
theorem dX3_lastCell_8 : decode cX3_lastCell 8 = .ok (.ireturn, 1) := by decide +kernel
theorem dX3_cellAfter_0 : decode cX3_cellAfter 0 = .ok (.aload_n 0, 1) := by decide +kernel
theorem dX3_cellAfter_1 : decode cX3_cellAfter 1 = .ok (.getfield 27, 3) := by decide +kernel
theorem dX3_cellAfter_4 : decode cX3_cellAfter 4 = .ok (.ifCond .ne 8, 3) := by decide +kernel
theorem dX3_cellAfter_7 : decode cX3_cellAfter 7 = .ok (.aload_n 0, 1) := by decide +kernel
theorem dX3_cellAfter_8 : decode cX3_cellAfter 8 = .ok (.getfield 18, 3) := by decide +kernel
theorem dX3_cellAfter_11 : decode cX3_cellAfter 11 = .ok (.ireturn, 1) := by decide +kernel
theorem dX3_cellAfter_12 : decode cX3_cellAfter 12 = .ok (.aload_n 0, 1) := by decide +kernel
theorem dX3_cellAfter_13 : decode cX3_cellAfter 13 = .ok (.getfield 21, 3) := by decide +kernel
theorem dX3_cellAfter_16 : decode cX3_cellAfter 16 = .ok (.iconst 3, 1) := by decide +kernel
theorem dX3_cellAfter_17 : decode cX3_cellAfter 17 = .ok (.iand, 1) := by decide +kernel
theorem dX3_cellAfter_18 : decode cX3_cellAfter 18 = .ok (.istore_n 2, 1) := by decide +kernel
theorem dX3_cellAfter_19 : decode cX3_cellAfter 19 = .ok (.aload_n 0, 1) := by decide +kernel
theorem dX3_cellAfter_20 : decode cX3_cellAfter 20 = .ok (.getfield 18, 3) := by decide +kernel
theorem dX3_cellAfter_23 : decode cX3_cellAfter 23 = .ok (.iload_n 1, 1) := by decide +kernel
theorem dX3_cellAfter_24 : decode cX3_cellAfter 24 = .ok (.getstatic 35, 3) := by decide +kernel
theorem dX3_cellAfter_27 : decode cX3_cellAfter 27 = .ok (.iload_n 2, 1) := by decide +kernel
theorem dX3_cellAfter_28 : decode cX3_cellAfter 28 = .ok (.iaload, 1) := by decide +kernel
theorem dX3_cellAfter_29 : decode cX3_cellAfter 29 = .ok (.iconst 4, 1) := by decide +kernel
theorem dX3_cellAfter_30 : decode cX3_cellAfter 30 = .ok (.ishl, 1) := by decide +kernel
theorem dX3_cellAfter_31 : decode cX3_cellAfter 31 = .ok (.getstatic 39, 3) := by decide +kernel
theorem dX3_cellAfter_34 : decode cX3_cellAfter 34 = .ok (.iload_n 2, 1) := by decide +kernel
theorem dX3_cellAfter_35 : decode cX3_cellAfter 35 = .ok (.iaload, 1) := by decide +kernel
theorem dX3_cellAfter_36 : decode cX3_cellAfter 36 = .ok (.iadd, 1) := by decide +kernel
theorem dX3_cellAfter_37 : decode cX3_cellAfter 37 = .ok (.imul, 1) := by decide +kernel
theorem dX3_cellAfter_38 : decode cX3_cellAfter 38 = .ok (.iadd, 1) := by decide +kernel
theorem dX3_cellAfter_39 : decode cX3_cellAfter 39 = .ok (.ireturn, 1) := by decide +kernel
theorem dX3_firstMinuteIn_0 : decode cX3_firstMinuteIn 0 = .ok (.aload_n 0, 1) := by decide +kernel
theorem dX3_firstMinuteIn_1 : decode cX3_firstMinuteIn 1 = .ok (.getfield 27, 3) := by decide +kernel
theorem dX3_firstMinuteIn_4 : decode cX3_firstMinuteIn 4 = .ok (.ifCond .ne 32, 3) := by decide +kernel
theorem dX3_firstMinuteIn_7 : decode cX3_firstMinuteIn 7 = .ok (.aload_n 0, 1) := by decide +kernel
theorem dX3_firstMinuteIn_8 : decode cX3_firstMinuteIn 8 = .ok (.getfield 18, 3) := by decide +kernel
theorem dX3_firstMinuteIn_11 : decode cX3_firstMinuteIn 11 = .ok (.iload_n 1, 1) := by decide +kernel
theorem dX3_firstMinuteIn_12 : decode cX3_firstMinuteIn 12 = .ok (.if_icmp .ne 22, 3) := by decide +kernel
theorem dX3_firstMinuteIn_15 : decode cX3_firstMinuteIn 15 = .ok (.aload_n 0, 1) := by decide +kernel
theorem dX3_firstMinuteIn_16 : decode cX3_firstMinuteIn 16 = .ok (.invokevirtual 42, 3) := by decide +kernel
theorem dX3_firstMinuteIn_19 : decode cX3_firstMinuteIn 19 = .ok (.iload_n 2, 1) := by decide +kernel
theorem dX3_firstMinuteIn_20 : decode cX3_firstMinuteIn 20 = .ok (.if_icmp .lt 14, 3) := by decide +kernel
theorem dX3_firstMinuteIn_23 : decode cX3_firstMinuteIn 23 = .ok (.aload_n 0, 1) := by decide +kernel
theorem dX3_firstMinuteIn_24 : decode cX3_firstMinuteIn 24 = .ok (.getfield 9, 3) := by decide +kernel
theorem dX3_firstMinuteIn_27 : decode cX3_firstMinuteIn 27 = .ok (.iload_n 2, 1) := by decide +kernel
theorem dX3_firstMinuteIn_28 : decode cX3_firstMinuteIn 28 = .ok (.invokestatic 46, 3) := by decide +kernel
theorem dX3_firstMinuteIn_31 : decode cX3_firstMinuteIn 31 = .ok (.goto 4, 3) := by decide +kernel
theorem dX3_firstMinuteIn_34 : decode cX3_firstMinuteIn 34 = .ok (.iconst (-1), 1) := by decide +kernel
theorem dX3_firstMinuteIn_35 : decode cX3_firstMinuteIn 35 = .ok (.ireturn, 1) := by decide +kernel
theorem dX3_firstMinuteIn_36 : decode cX3_firstMinuteIn 36 = .ok (.aload_n 0, 1) := by decide +kernel
theorem dX3_firstMinuteIn_37 : decode cX3_firstMinuteIn 37 = .ok (.iload_n 1, 1) := by decide +kernel
theorem dX3_firstMinuteIn_38 : decode cX3_firstMinuteIn 38 = .ok (.invokevirtual 52, 3) := by decide +kernel
theorem dX3_firstMinuteIn_41 : decode cX3_firstMinuteIn 41 = .ok (.istore_n 3, 1) := by decide +kernel
theorem dX3_firstMinuteIn_42 : decode cX3_firstMinuteIn 42 = .ok (.aload_n 0, 1) := by decide +kernel
theorem dX3_firstMinuteIn_43 : decode cX3_firstMinuteIn 43 = .ok (.iload_n 3, 1) := by decide +kernel
theorem dX3_firstMinuteIn_44 : decode cX3_firstMinuteIn 44 = .ok (.invokevirtual 31, 3) := by decide +kernel
theorem dX3_firstMinuteIn_47 : decode cX3_firstMinuteIn 47 = .ok (.iload_n 1, 1) := by decide +kernel
theorem dX3_firstMinuteIn_48 : decode cX3_firstMinuteIn 48 = .ok (.if_icmp .ne 34, 3) := by decide +kernel
theorem dX3_firstMinuteIn_51 : decode cX3_firstMinuteIn 51 = .ok (.iload_n 3, 1) := by decide +kernel
theorem dX3_firstMinuteIn_52 : decode cX3_firstMinuteIn 52 = .ok (.iconst 0, 1) := by decide +kernel
theorem dX3_firstMinuteIn_53 : decode cX3_firstMinuteIn 53 = .ok (.aload_n 0, 1) := by decide +kernel
theorem dX3_firstMinuteIn_54 : decode cX3_firstMinuteIn 54 = .ok (.getfield 15, 3) := by decide +kernel
theorem dX3_firstMinuteIn_57 : decode cX3_firstMinuteIn 57 = .ok (.invokestatic 55, 3) := by decide +kernel
theorem dX3_firstMinuteIn_60 : decode cX3_firstMinuteIn 60 = .ok (.ifCond .eq 22, 3) := by decide +kernel
theorem dX3_firstMinuteIn_63 : decode cX3_firstMinuteIn 63 = .ok (.aload_n 0, 1) := by decide +kernel
theorem dX3_firstMinuteIn_64 : decode cX3_firstMinuteIn 64 = .ok (.getfield 9, 3) := by decide +kernel
theorem dX3_firstMinuteIn_67 : decode cX3_firstMinuteIn 67 = .ok (.iload_n 3, 1) := by decide +kernel
theorem dX3_firstMinuteIn_68 : decode cX3_firstMinuteIn 68 = .ok (.iadd, 1) := by decide +kernel
theorem dX3_firstMinuteIn_69 : decode cX3_firstMinuteIn 69 = .ok (.iload_n 2, 1) := by decide +kernel
theorem dX3_firstMinuteIn_70 : decode cX3_firstMinuteIn 70 = .ok (.if_icmp .lt 12, 3) := by decide +kernel
theorem dX3_firstMinuteIn_73 : decode cX3_firstMinuteIn 73 = .ok (.aload_n 0, 1) := by decide +kernel
theorem dX3_firstMinuteIn_74 : decode cX3_firstMinuteIn 74 = .ok (.getfield 9, 3) := by decide +kernel
theorem dX3_firstMinuteIn_77 : decode cX3_firstMinuteIn 77 = .ok (.iload_n 3, 1) := by decide +kernel
theorem dX3_firstMinuteIn_78 : decode cX3_firstMinuteIn 78 = .ok (.iadd, 1) := by decide +kernel
theorem dX3_firstMinuteIn_79 : decode cX3_firstMinuteIn 79 = .ok (.goto 4, 3) := by decide +kernel
theorem dX3_firstMinuteIn_82 : decode cX3_firstMinuteIn 82 = .ok (.iconst (-1), 1) := by decide +kernel
theorem dX3_firstMinuteIn_83 : decode cX3_firstMinuteIn 83 = .ok (.ireturn, 1) := by decide +kernel
theorem dX3_cellsOnTo_0 : decode cX3_cellsOnTo 0 = .ok (.aload_n 0, 1) := by decide +kernel
theorem dX3_cellsOnTo_1 : decode cX3_cellsOnTo 1 = .ok (.getfield 21, 3) := by decide +kernel
theorem dX3_cellsOnTo_4 : decode cX3_cellsOnTo 4 = .ok (.iconst 3, 1) := by decide +kernel
theorem dX3_cellsOnTo_5 : decode cX3_cellsOnTo 5 = .ok (.iand, 1) := by decide +kernel
theorem dX3_cellsOnTo_6 : decode cX3_cellsOnTo 6 = .ok (.istore_n 2, 1) := by decide +kernel
theorem dX3_cellsOnTo_7 : decode cX3_cellsOnTo 7 = .ok (.iload_n 1, 1) := by decide +kernel
theorem dX3_cellsOnTo_8 : decode cX3_cellsOnTo 8 = .ok (.iconst 4, 1) := by decide +kernel
theorem dX3_cellsOnTo_9 : decode cX3_cellsOnTo 9 = .ok (.ishr, 1) := by decide +kernel
theorem dX3_cellsOnTo_10 : decode cX3_cellsOnTo 10 = .ok (.aload_n 0, 1) := by decide +kernel
theorem dX3_cellsOnTo_11 : decode cX3_cellsOnTo 11 = .ok (.getfield 18, 3) := by decide +kernel
theorem dX3_cellsOnTo_14 : decode cX3_cellsOnTo 14 = .ok (.iconst 4, 1) := by decide +kernel
theorem dX3_cellsOnTo_15 : decode cX3_cellsOnTo 15 = .ok (.ishr, 1) := by decide +kernel
theorem dX3_cellsOnTo_16 : decode cX3_cellsOnTo 16 = .ok (.isub, 1) := by decide +kernel
theorem dX3_cellsOnTo_17 : decode cX3_cellsOnTo 17 = .ok (.istore_n 3, 1) := by decide +kernel
theorem dX3_cellsOnTo_18 : decode cX3_cellsOnTo 18 = .ok (.iload_n 1, 1) := by decide +kernel
theorem dX3_cellsOnTo_19 : decode cX3_cellsOnTo 19 = .ok (.bipush 15, 2) := by decide +kernel
theorem dX3_cellsOnTo_21 : decode cX3_cellsOnTo 21 = .ok (.iand, 1) := by decide +kernel
theorem dX3_cellsOnTo_22 : decode cX3_cellsOnTo 22 = .ok (.aload_n 0, 1) := by decide +kernel
theorem dX3_cellsOnTo_23 : decode cX3_cellsOnTo 23 = .ok (.getfield 18, 3) := by decide +kernel
theorem dX3_cellsOnTo_26 : decode cX3_cellsOnTo 26 = .ok (.bipush 15, 2) := by decide +kernel
theorem dX3_cellsOnTo_28 : decode cX3_cellsOnTo 28 = .ok (.iand, 1) := by decide +kernel
theorem dX3_cellsOnTo_29 : decode cX3_cellsOnTo 29 = .ok (.isub, 1) := by decide +kernel
theorem dX3_cellsOnTo_30 : decode cX3_cellsOnTo 30 = .ok (.istore 4, 2) := by decide +kernel
theorem dX3_cellsOnTo_32 : decode cX3_cellsOnTo 32 = .ok (.iload_n 3, 1) := by decide +kernel
theorem dX3_cellsOnTo_33 : decode cX3_cellsOnTo 33 = .ok (.getstatic 35, 3) := by decide +kernel
theorem dX3_cellsOnTo_36 : decode cX3_cellsOnTo 36 = .ok (.iload_n 2, 1) := by decide +kernel
theorem dX3_cellsOnTo_37 : decode cX3_cellsOnTo 37 = .ok (.iaload, 1) := by decide +kernel
theorem dX3_cellsOnTo_38 : decode cX3_cellsOnTo 38 = .ok (.imul, 1) := by decide +kernel
theorem dX3_cellsOnTo_39 : decode cX3_cellsOnTo 39 = .ok (.iload 4, 2) := by decide +kernel
theorem dX3_cellsOnTo_41 : decode cX3_cellsOnTo 41 = .ok (.getstatic 39, 3) := by decide +kernel
theorem dX3_cellsOnTo_44 : decode cX3_cellsOnTo 44 = .ok (.iload_n 2, 1) := by decide +kernel
theorem dX3_cellsOnTo_45 : decode cX3_cellsOnTo 45 = .ok (.iaload, 1) := by decide +kernel
theorem dX3_cellsOnTo_46 : decode cX3_cellsOnTo 46 = .ok (.imul, 1) := by decide +kernel
theorem dX3_cellsOnTo_47 : decode cX3_cellsOnTo 47 = .ok (.iadd, 1) := by decide +kernel
theorem dX3_cellsOnTo_48 : decode cX3_cellsOnTo 48 = .ok (.ireturn, 1) := by decide +kernel
theorem dX3_isDrivenLike_0 : decode cX3_isDrivenLike 0 = .ok (.aload_n 0, 1) := by decide +kernel
theorem dX3_isDrivenLike_1 : decode cX3_isDrivenLike 1 = .ok (.getfield 27, 3) := by decide +kernel
theorem dX3_isDrivenLike_4 : decode cX3_isDrivenLike 4 = .ok (.ifCond .eq 29, 3) := by decide +kernel
theorem dX3_isDrivenLike_7 : decode cX3_isDrivenLike 7 = .ok (.aload_n 0, 1) := by decide +kernel
theorem dX3_isDrivenLike_8 : decode cX3_isDrivenLike 8 = .ok (.getfield 15, 3) := by decide +kernel
theorem dX3_isDrivenLike_11 : decode cX3_isDrivenLike 11 = .ok (.aload_n 1, 1) := by decide +kernel
theorem dX3_isDrivenLike_12 : decode cX3_isDrivenLike 12 = .ok (.getfield 15, 3) := by decide +kernel
theorem dX3_isDrivenLike_15 : decode cX3_isDrivenLike 15 = .ok (.if_icmp .ne 18, 3) := by decide +kernel
theorem dX3_isDrivenLike_18 : decode cX3_isDrivenLike 18 = .ok (.aload_n 0, 1) := by decide +kernel
theorem dX3_isDrivenLike_19 : decode cX3_isDrivenLike 19 = .ok (.getfield 24, 3) := by decide +kernel
theorem dX3_isDrivenLike_22 : decode cX3_isDrivenLike 22 = .ok (.aload_n 1, 1) := by decide +kernel
theorem dX3_isDrivenLike_23 : decode cX3_isDrivenLike 23 = .ok (.getfield 24, 3) := by decide +kernel
theorem dX3_isDrivenLike_26 : decode cX3_isDrivenLike 26 = .ok (.if_icmp .ne 7, 3) := by decide +kernel
theorem dX3_isDrivenLike_29 : decode cX3_isDrivenLike 29 = .ok (.iconst 1, 1) := by decide +kernel
theorem dX3_isDrivenLike_30 : decode cX3_isDrivenLike 30 = .ok (.goto 4, 3) := by decide +kernel
theorem dX3_isDrivenLike_33 : decode cX3_isDrivenLike 33 = .ok (.iconst 0, 1) := by decide +kernel
theorem dX3_isDrivenLike_34 : decode cX3_isDrivenLike 34 = .ok (.ireturn, 1) := by decide +kernel
theorem dX4_init_0 : decode cX4_init 0 = .ok (.aload_n 0, 1) := by decide +kernel
theorem dX4_init_1 : decode cX4_init 1 = .ok (.invokespecial 3, 3) := by decide +kernel
theorem dX4_init_4 : decode cX4_init 4 = .ok (.aload_n 0, 1) := by decide +kernel
theorem dX4_init_5 : decode cX4_init 5 = .ok (.iload_n 1, 1) := by decide +kernel
theorem dX4_init_6 : decode cX4_init 6 = .ok (.anewarray 9, 3) := by decide +kernel
theorem dX4_init_9 : decode cX4_init 9 = .ok (.putfield 11, 3) := by decide +kernel
theorem dX4_init_12 : decode cX4_init 12 = .ok (.aload_n 0, 1) := by decide +kernel
theorem dX4_init_13 : decode cX4_init 13 = .ok (.iconst 0, 1) := by decide +kernel
theorem dX4_init_14 : decode cX4_init 14 = .ok (.putfield 17, 3) := by decide +kernel
theorem dX4_init_17 : decode cX4_init 17 = .ok (.aload_n 0, 1) := by decide +kernel
theorem dX4_init_18 : decode cX4_init 18 = .ok (.iload_n 2, 1) := by decide +kernel
theorem dX4_init_19 : decode cX4_init 19 = .ok (.putfield 21, 3) := by decide +kernel
theorem dX4_init_22 : decode cX4_init 22 = .ok (.aload_n 0, 1) := by decide +kernel
theorem dX4_init_23 : decode cX4_init 23 = .ok (.iconst 0, 1) := by decide +kernel
theorem dX4_init_24 : decode cX4_init 24 = .ok (.putfield 24, 3) := by decide +kernel
theorem dX4_init_27 : decode cX4_init 27 = .ok (.aload_n 0, 1) := by decide +kernel
theorem dX4_init_28 : decode cX4_init 28 = .ok (.iconst 0, 1) := by decide +kernel
theorem dX4_init_29 : decode cX4_init 29 = .ok (.putfield 27, 3) := by decide +kernel
theorem dX4_init_32 : decode cX4_init 32 = .ok (.return_, 1) := by decide +kernel
theorem dX4_beginIn_0 : decode cX4_beginIn 0 = .ok (.aload_n 0, 1) := by decide +kernel
theorem dX4_beginIn_1 : decode cX4_beginIn 1 = .ok (.iload_n 1, 1) := by decide +kernel
theorem dX4_beginIn_2 : decode cX4_beginIn 2 = .ok (.putfield 21, 3) := by decide +kernel
theorem dX4_beginIn_5 : decode cX4_beginIn 5 = .ok (.return_, 1) := by decide +kernel
theorem dX4_isFull_0 : decode cX4_isFull 0 = .ok (.aload_n 0, 1) := by decide +kernel
theorem dX4_isFull_1 : decode cX4_isFull 1 = .ok (.getfield 17, 3) := by decide +kernel
theorem dX4_isFull_4 : decode cX4_isFull 4 = .ok (.aload_n 0, 1) := by decide +kernel
theorem dX4_isFull_5 : decode cX4_isFull 5 = .ok (.getfield 11, 3) := by decide +kernel
theorem dX4_isFull_8 : decode cX4_isFull 8 = .ok (.arraylength, 1) := by decide +kernel
theorem dX4_isFull_9 : decode cX4_isFull 9 = .ok (.if_icmp .lt 7, 3) := by decide +kernel
theorem dX4_isFull_12 : decode cX4_isFull 12 = .ok (.iconst 1, 1) := by decide +kernel
theorem dX4_isFull_13 : decode cX4_isFull 13 = .ok (.goto 4, 3) := by decide +kernel
theorem dX4_isFull_16 : decode cX4_isFull 16 = .ok (.iconst 0, 1) := by decide +kernel
theorem dX4_isFull_17 : decode cX4_isFull 17 = .ok (.ireturn, 1) := by decide +kernel
theorem dX4_staysOnGround_0 : decode cX4_staysOnGround 0 = .ok (.aload_n 0, 1) := by decide +kernel
theorem dX4_staysOnGround_1 : decode cX4_staysOnGround 1 = .ok (.getfield 24, 3) := by decide +kernel
theorem dX4_staysOnGround_4 : decode cX4_staysOnGround 4 = .ok (.iconst 3, 1) := by decide +kernel
theorem dX4_staysOnGround_5 : decode cX4_staysOnGround 5 = .ok (.iand, 1) := by decide +kernel
theorem dX4_staysOnGround_6 : decode cX4_staysOnGround 6 = .ok (.istore_n 2, 1) := by decide +kernel
theorem dX4_staysOnGround_7 : decode cX4_staysOnGround 7 = .ok (.aload_n 0, 1) := by decide +kernel
theorem dX4_staysOnGround_8 : decode cX4_staysOnGround 8 = .ok (.getfield 21, 3) := by decide +kernel
theorem dX4_staysOnGround_11 : decode cX4_staysOnGround 11 = .ok (.iconst 4, 1) := by decide +kernel
theorem dX4_staysOnGround_12 : decode cX4_staysOnGround 12 = .ok (.ishr, 1) := by decide +kernel
theorem dX4_staysOnGround_13 : decode cX4_staysOnGround 13 = .ok (.iload_n 1, 1) := by decide +kernel
theorem dX4_staysOnGround_14 : decode cX4_staysOnGround 14 = .ok (.getstatic 30, 3) := by decide +kernel
theorem dX4_staysOnGround_17 : decode cX4_staysOnGround 17 = .ok (.iload_n 2, 1) := by decide +kernel
theorem dX4_staysOnGround_18 : decode cX4_staysOnGround 18 = .ok (.iaload, 1) := by decide +kernel
theorem dX4_staysOnGround_19 : decode cX4_staysOnGround 19 = .ok (.imul, 1) := by decide +kernel
theorem dX4_staysOnGround_20 : decode cX4_staysOnGround 20 = .ok (.iadd, 1) := by decide +kernel
theorem dX4_staysOnGround_21 : decode cX4_staysOnGround 21 = .ok (.istore_n 3, 1) := by decide +kernel
theorem dX4_staysOnGround_22 : decode cX4_staysOnGround 22 = .ok (.aload_n 0, 1) := by decide +kernel
theorem dX4_staysOnGround_23 : decode cX4_staysOnGround 23 = .ok (.getfield 21, 3) := by decide +kernel
theorem dX4_staysOnGround_26 : decode cX4_staysOnGround 26 = .ok (.bipush 15, 2) := by decide +kernel
theorem dX4_staysOnGround_28 : decode cX4_staysOnGround 28 = .ok (.iand, 1) := by decide +kernel
theorem dX4_staysOnGround_29 : decode cX4_staysOnGround 29 = .ok (.iload_n 1, 1) := by decide +kernel
theorem dX4_staysOnGround_30 : decode cX4_staysOnGround 30 = .ok (.getstatic 34, 3) := by decide +kernel
theorem dX4_staysOnGround_33 : decode cX4_staysOnGround 33 = .ok (.iload_n 2, 1) := by decide +kernel
theorem dX4_staysOnGround_34 : decode cX4_staysOnGround 34 = .ok (.iaload, 1) := by decide +kernel
theorem dX4_staysOnGround_35 : decode cX4_staysOnGround 35 = .ok (.imul, 1) := by decide +kernel
theorem dX4_staysOnGround_36 : decode cX4_staysOnGround 36 = .ok (.iadd, 1) := by decide +kernel
theorem dX4_staysOnGround_37 : decode cX4_staysOnGround 37 = .ok (.istore 4, 2) := by decide +kernel
theorem dX4_staysOnGround_39 : decode cX4_staysOnGround 39 = .ok (.iload_n 3, 1) := by decide +kernel
theorem dX4_staysOnGround_40 : decode cX4_staysOnGround 40 = .ok (.iconst 0, 1) := by decide +kernel
theorem dX4_staysOnGround_41 : decode cX4_staysOnGround 41 = .ok (.bipush 15, 2) := by decide +kernel
theorem dX4_staysOnGround_43 : decode cX4_staysOnGround 43 = .ok (.invokestatic 37, 3) := by decide +kernel
theorem dX4_staysOnGround_46 : decode cX4_staysOnGround 46 = .ok (.ifCond .eq 18, 3) := by decide +kernel
theorem dX4_staysOnGround_49 : decode cX4_staysOnGround 49 = .ok (.iload 4, 2) := by decide +kernel
theorem dX4_staysOnGround_51 : decode cX4_staysOnGround 51 = .ok (.iconst 0, 1) := by decide +kernel
theorem dX4_staysOnGround_52 : decode cX4_staysOnGround 52 = .ok (.bipush 15, 2) := by decide +kernel
theorem dX4_staysOnGround_54 : decode cX4_staysOnGround 54 = .ok (.invokestatic 37, 3) := by decide +kernel
theorem dX4_staysOnGround_57 : decode cX4_staysOnGround 57 = .ok (.ifCond .eq 7, 3) := by decide +kernel
theorem dX4_staysOnGround_60 : decode cX4_staysOnGround 60 = .ok (.iconst 1, 1) := by decide +kernel
theorem dX4_staysOnGround_61 : decode cX4_staysOnGround 61 = .ok (.goto 4, 3) := by decide +kernel
theorem dX4_staysOnGround_64 : decode cX4_staysOnGround 64 = .ok (.iconst 0, 1) := by decide +kernel
theorem dX4_staysOnGround_65 : decode cX4_staysOnGround 65 = .ok (.ireturn, 1) := by decide +kernel
theorem dX4_goOn_0 : decode cX4_goOn 0 = .ok (.aload_n 0, 1) := by decide +kernel
theorem dX4_goOn_1 : decode cX4_goOn 1 = .ok (.new 9, 3) := by decide +kernel
theorem dX4_goOn_4 : decode cX4_goOn 4 = .ok (.dup, 1) := by decide +kernel
theorem dX4_goOn_5 : decode cX4_goOn 5 = .ok (.aload_n 0, 1) := by decide +kernel
theorem dX4_goOn_6 : decode cX4_goOn 6 = .ok (.getfield 27, 3) := by decide +kernel
theorem dX4_goOn_9 : decode cX4_goOn 9 = .ok (.iload_n 1, 1) := by decide +kernel
theorem dX4_goOn_10 : decode cX4_goOn 10 = .ok (.aload_n 0, 1) := by decide +kernel
theorem dX4_goOn_11 : decode cX4_goOn 11 = .ok (.getfield 21, 3) := by decide +kernel
theorem dX4_goOn_14 : decode cX4_goOn 14 = .ok (.aload_n 0, 1) := by decide +kernel
theorem dX4_goOn_15 : decode cX4_goOn 15 = .ok (.getfield 24, 3) := by decide +kernel
theorem dX4_goOn_18 : decode cX4_goOn 18 = .ok (.iload_n 2, 1) := by decide +kernel
theorem dX4_goOn_19 : decode cX4_goOn 19 = .ok (.iconst 1, 1) := by decide +kernel
theorem dX4_goOn_20 : decode cX4_goOn 20 = .ok (.invokespecial 41, 3) := by decide +kernel
theorem dX4_goOn_23 : decode cX4_goOn 23 = .ok (.invokevirtual 44, 3) := by decide +kernel
theorem dX4_goOn_26 : decode cX4_goOn 26 = .ok (.return_, 1) := by decide +kernel
theorem dX4_stay_0 : decode cX4_stay 0 = .ok (.aload_n 0, 1) := by decide +kernel
theorem dX4_stay_1 : decode cX4_stay 1 = .ok (.new 9, 3) := by decide +kernel
theorem dX4_stay_4 : decode cX4_stay 4 = .ok (.dup, 1) := by decide +kernel
theorem dX4_stay_5 : decode cX4_stay 5 = .ok (.aload_n 0, 1) := by decide +kernel
theorem dX4_stay_6 : decode cX4_stay 6 = .ok (.getfield 27, 3) := by decide +kernel
theorem dX4_stay_9 : decode cX4_stay 9 = .ok (.iload_n 1, 1) := by decide +kernel
theorem dX4_stay_10 : decode cX4_stay 10 = .ok (.aload_n 0, 1) := by decide +kernel
theorem dX4_stay_11 : decode cX4_stay 11 = .ok (.getfield 21, 3) := by decide +kernel
theorem dX4_stay_14 : decode cX4_stay 14 = .ok (.aload_n 0, 1) := by decide +kernel
theorem dX4_stay_15 : decode cX4_stay 15 = .ok (.getfield 24, 3) := by decide +kernel
theorem dX4_stay_18 : decode cX4_stay 18 = .ok (.iconst 0, 1) := by decide +kernel
theorem dX4_stay_19 : decode cX4_stay 19 = .ok (.iconst 0, 1) := by decide +kernel
theorem dX4_stay_20 : decode cX4_stay 20 = .ok (.invokespecial 41, 3) := by decide +kernel
theorem dX4_stay_23 : decode cX4_stay 23 = .ok (.invokevirtual 44, 3) := by decide +kernel
theorem dX4_stay_26 : decode cX4_stay 26 = .ok (.return_, 1) := by decide +kernel
theorem dX4_append_0 : decode cX4_append 0 = .ok (.aload_n 0, 1) := by decide +kernel
theorem dX4_append_1 : decode cX4_append 1 = .ok (.invokevirtual 48, 3) := by decide +kernel
theorem dX4_append_4 : decode cX4_append 4 = .ok (.ifCond .eq 4, 3) := by decide +kernel
theorem dX4_append_7 : decode cX4_append 7 = .ok (.return_, 1) := by decide +kernel
theorem dX4_append_8 : decode cX4_append 8 = .ok (.aload_n 0, 1) := by decide +kernel
theorem dX4_append_9 : decode cX4_append 9 = .ok (.getfield 11, 3) := by decide +kernel
theorem dX4_append_12 : decode cX4_append 12 = .ok (.aload_n 0, 1) := by decide +kernel
theorem dX4_append_13 : decode cX4_append 13 = .ok (.getfield 17, 3) := by decide +kernel
theorem dX4_append_16 : decode cX4_append 16 = .ok (.aload_n 1, 1) := by decide +kernel
theorem dX4_append_17 : decode cX4_append 17 = .ok (.aastore, 1) := by decide +kernel
theorem dX4_append_18 : decode cX4_append 18 = .ok (.aload_n 0, 1) := by decide +kernel
theorem dX4_append_19 : decode cX4_append 19 = .ok (.dup, 1) := by decide +kernel
theorem dX4_append_20 : decode cX4_append 20 = .ok (.getfield 17, 3) := by decide +kernel
theorem dX4_append_23 : decode cX4_append 23 = .ok (.iconst 1, 1) := by decide +kernel
theorem dX4_append_24 : decode cX4_append 24 = .ok (.iadd, 1) := by decide +kernel
theorem dX4_append_25 : decode cX4_append 25 = .ok (.putfield 17, 3) := by decide +kernel
theorem dX4_append_28 : decode cX4_append 28 = .ok (.aload_n 0, 1) := by decide +kernel
theorem dX4_append_29 : decode cX4_append 29 = .ok (.aload_n 1, 1) := by decide +kernel
theorem dX4_append_30 : decode cX4_append 30 = .ok (.invokevirtual 52, 3) := by decide +kernel
theorem dX4_append_33 : decode cX4_append 33 = .ok (.putfield 27, 3) := by decide +kernel
theorem dX4_append_36 : decode cX4_append 36 = .ok (.aload_n 0, 1) := by decide +kernel
theorem dX4_append_37 : decode cX4_append 37 = .ok (.aload_n 1, 1) := by decide +kernel
theorem dX4_append_38 : decode cX4_append 38 = .ok (.invokevirtual 56, 3) := by decide +kernel
theorem dX4_append_41 : decode cX4_append 41 = .ok (.putfield 21, 3) := by decide +kernel
theorem dX4_append_44 : decode cX4_append 44 = .ok (.aload_n 0, 1) := by decide +kernel
theorem dX4_append_45 : decode cX4_append 45 = .ok (.aload_n 1, 1) := by decide +kernel
theorem dX4_append_46 : decode cX4_append 46 = .ok (.getfield 59, 3) := by decide +kernel
theorem dX4_append_49 : decode cX4_append 49 = .ok (.aload_n 1, 1) := by decide +kernel
theorem dX4_append_50 : decode cX4_append 50 = .ok (.getfield 60, 3) := by decide +kernel
theorem dX4_append_53 : decode cX4_append 53 = .ok (.iadd, 1) := by decide +kernel
theorem dX4_append_54 : decode cX4_append 54 = .ok (.iconst 3, 1) := by decide +kernel
theorem dX4_append_55 : decode cX4_append 55 = .ok (.iand, 1) := by decide +kernel
theorem dX4_append_56 : decode cX4_append 56 = .ok (.putfield 24, 3) := by decide +kernel
theorem dX4_append_59 : decode cX4_append 59 = .ok (.return_, 1) := by decide +kernel
theorem dX4_pieceAt_0 : decode cX4_pieceAt 0 = .ok (.iload_n 1, 1) := by decide +kernel
theorem dX4_pieceAt_1 : decode cX4_pieceAt 1 = .ok (.iconst 0, 1) := by decide +kernel
theorem dX4_pieceAt_2 : decode cX4_pieceAt 2 = .ok (.aload_n 0, 1) := by decide +kernel
theorem dX4_pieceAt_3 : decode cX4_pieceAt 3 = .ok (.getfield 17, 3) := by decide +kernel
theorem dX4_pieceAt_6 : decode cX4_pieceAt 6 = .ok (.iconst 1, 1) := by decide +kernel
theorem dX4_pieceAt_7 : decode cX4_pieceAt 7 = .ok (.isub, 1) := by decide +kernel
theorem dX4_pieceAt_8 : decode cX4_pieceAt 8 = .ok (.invokestatic 37, 3) := by decide +kernel
theorem dX4_pieceAt_11 : decode cX4_pieceAt 11 = .ok (.ifCond .eq 12, 3) := by decide +kernel
theorem dX4_pieceAt_14 : decode cX4_pieceAt 14 = .ok (.aload_n 0, 1) := by decide +kernel
theorem dX4_pieceAt_15 : decode cX4_pieceAt 15 = .ok (.getfield 11, 3) := by decide +kernel
theorem dX4_pieceAt_18 : decode cX4_pieceAt 18 = .ok (.iload_n 1, 1) := by decide +kernel
theorem dX4_pieceAt_19 : decode cX4_pieceAt 19 = .ok (.aaload, 1) := by decide +kernel
theorem dX4_pieceAt_20 : decode cX4_pieceAt 20 = .ok (.goto 4, 3) := by decide +kernel
theorem dX4_pieceAt_23 : decode cX4_pieceAt 23 = .ok (.aconst_null, 1) := by decide +kernel
theorem dX4_pieceAt_24 : decode cX4_pieceAt 24 = .ok (.areturn, 1) := by decide +kernel
theorem dX4_firstMinuteIn_0 : decode cX4_firstMinuteIn 0 = .ok (.iconst 0, 1) := by decide +kernel
theorem dX4_firstMinuteIn_1 : decode cX4_firstMinuteIn 1 = .ok (.istore_n 3, 1) := by decide +kernel
theorem dX4_firstMinuteIn_2 : decode cX4_firstMinuteIn 2 = .ok (.iload_n 3, 1) := by decide +kernel
theorem dX4_firstMinuteIn_3 : decode cX4_firstMinuteIn 3 = .ok (.aload_n 0, 1) := by decide +kernel
theorem dX4_firstMinuteIn_4 : decode cX4_firstMinuteIn 4 = .ok (.getfield 17, 3) := by decide +kernel
theorem dX4_firstMinuteIn_7 : decode cX4_firstMinuteIn 7 = .ok (.if_icmp .ge 43, 3) := by decide +kernel
theorem dX4_firstMinuteIn_10 : decode cX4_firstMinuteIn 10 = .ok (.aload_n 0, 1) := by decide +kernel
theorem dX4_firstMinuteIn_11 : decode cX4_firstMinuteIn 11 = .ok (.iload_n 3, 1) := by decide +kernel
theorem dX4_firstMinuteIn_12 : decode cX4_firstMinuteIn 12 = .ok (.invokevirtual 63, 3) := by decide +kernel
theorem dX4_firstMinuteIn_15 : decode cX4_firstMinuteIn 15 = .ok (.astore 4, 2) := by decide +kernel
theorem dX4_firstMinuteIn_17 : decode cX4_firstMinuteIn 17 = .ok (.aload 4, 2) := by decide +kernel
theorem dX4_firstMinuteIn_19 : decode cX4_firstMinuteIn 19 = .ok (.ifnonnull 7, 3) := by decide +kernel
theorem dX4_firstMinuteIn_22 : decode cX4_firstMinuteIn 22 = .ok (.iconst (-1), 1) := by decide +kernel
theorem dX4_firstMinuteIn_23 : decode cX4_firstMinuteIn 23 = .ok (.goto 10, 3) := by decide +kernel
theorem dX4_firstMinuteIn_26 : decode cX4_firstMinuteIn 26 = .ok (.aload 4, 2) := by decide +kernel
theorem dX4_firstMinuteIn_28 : decode cX4_firstMinuteIn 28 = .ok (.iload_n 1, 1) := by decide +kernel
theorem dX4_firstMinuteIn_29 : decode cX4_firstMinuteIn 29 = .ok (.iload_n 2, 1) := by decide +kernel
theorem dX4_firstMinuteIn_30 : decode cX4_firstMinuteIn 30 = .ok (.invokevirtual 67, 3) := by decide +kernel
theorem dX4_firstMinuteIn_33 : decode cX4_firstMinuteIn 33 = .ok (.istore 5, 2) := by decide +kernel
theorem dX4_firstMinuteIn_35 : decode cX4_firstMinuteIn 35 = .ok (.iload 5, 2) := by decide +kernel
theorem dX4_firstMinuteIn_37 : decode cX4_firstMinuteIn 37 = .ok (.iconst (-1), 1) := by decide +kernel
theorem dX4_firstMinuteIn_38 : decode cX4_firstMinuteIn 38 = .ok (.if_icmp .eq 6, 3) := by decide +kernel
theorem dX4_firstMinuteIn_41 : decode cX4_firstMinuteIn 41 = .ok (.iload 5, 2) := by decide +kernel
theorem dX4_firstMinuteIn_43 : decode cX4_firstMinuteIn 43 = .ok (.ireturn, 1) := by decide +kernel
theorem dX4_firstMinuteIn_44 : decode cX4_firstMinuteIn 44 = .ok (.iinc 3 1, 3) := by decide +kernel
theorem dX4_firstMinuteIn_47 : decode cX4_firstMinuteIn 47 = .ok (.goto (-45), 3) := by decide +kernel
theorem dX4_firstMinuteIn_50 : decode cX4_firstMinuteIn 50 = .ok (.aload_n 0, 1) := by decide +kernel
theorem dX4_firstMinuteIn_51 : decode cX4_firstMinuteIn 51 = .ok (.getfield 17, 3) := by decide +kernel
theorem dX4_firstMinuteIn_54 : decode cX4_firstMinuteIn 54 = .ok (.ifCond .ne 15, 3) := by decide +kernel
theorem dX4_firstMinuteIn_57 : decode cX4_firstMinuteIn 57 = .ok (.aload_n 0, 1) := by decide +kernel
theorem dX4_firstMinuteIn_58 : decode cX4_firstMinuteIn 58 = .ok (.getfield 21, 3) := by decide +kernel
theorem dX4_firstMinuteIn_61 : decode cX4_firstMinuteIn 61 = .ok (.iload_n 1, 1) := by decide +kernel
theorem dX4_firstMinuteIn_62 : decode cX4_firstMinuteIn 62 = .ok (.if_icmp .ne 7, 3) := by decide +kernel
theorem dX4_firstMinuteIn_65 : decode cX4_firstMinuteIn 65 = .ok (.iconst 0, 1) := by decide +kernel
theorem dX4_firstMinuteIn_66 : decode cX4_firstMinuteIn 66 = .ok (.goto 4, 3) := by decide +kernel
theorem dX4_firstMinuteIn_69 : decode cX4_firstMinuteIn 69 = .ok (.iconst (-1), 1) := by decide +kernel
theorem dX4_firstMinuteIn_70 : decode cX4_firstMinuteIn 70 = .ok (.ireturn, 1) := by decide +kernel
theorem dX4_firstOfAllMinutes_0 : decode cX4_firstOfAllMinutes 0 = .ok (.iconst 0, 1) := by decide +kernel
theorem dX4_firstOfAllMinutes_1 : decode cX4_firstOfAllMinutes 1 = .ok (.istore_n 3, 1) := by decide +kernel
theorem dX4_firstOfAllMinutes_2 : decode cX4_firstOfAllMinutes 2 = .ok (.iload_n 2, 1) := by decide +kernel
theorem dX4_firstOfAllMinutes_3 : decode cX4_firstOfAllMinutes 3 = .ok (.istore 4, 2) := by decide +kernel
theorem dX4_firstOfAllMinutes_5 : decode cX4_firstOfAllMinutes 5 = .ok (.iload 4, 2) := by decide +kernel
theorem dX4_firstOfAllMinutes_7 : decode cX4_firstOfAllMinutes 7 = .ok (.aload_n 0, 1) := by decide +kernel
theorem dX4_firstOfAllMinutes_8 : decode cX4_firstOfAllMinutes 8 = .ok (.getfield 27, 3) := by decide +kernel
theorem dX4_firstOfAllMinutes_11 : decode cX4_firstOfAllMinutes 11 = .ok (.if_icmp .gt 31, 3) := by decide +kernel
theorem dX4_firstOfAllMinutes_14 : decode cX4_firstOfAllMinutes 14 = .ok (.aload_n 0, 1) := by decide +kernel
theorem dX4_firstOfAllMinutes_15 : decode cX4_firstOfAllMinutes 15 = .ok (.iload 4, 2) := by decide +kernel
theorem dX4_firstOfAllMinutes_17 : decode cX4_firstOfAllMinutes 17 = .ok (.iload_n 3, 1) := by decide +kernel
theorem dX4_firstOfAllMinutes_18 : decode cX4_firstOfAllMinutes 18 = .ok (.invokevirtual 71, 3) := by decide +kernel
theorem dX4_firstOfAllMinutes_21 : decode cX4_firstOfAllMinutes 21 = .ok (.istore_n 3, 1) := by decide +kernel
theorem dX4_firstOfAllMinutes_22 : decode cX4_firstOfAllMinutes 22 = .ok (.aload_n 0, 1) := by decide +kernel
theorem dX4_firstOfAllMinutes_23 : decode cX4_firstOfAllMinutes 23 = .ok (.iload 4, 2) := by decide +kernel
theorem dX4_firstOfAllMinutes_25 : decode cX4_firstOfAllMinutes 25 = .ok (.iload_n 3, 1) := by decide +kernel
theorem dX4_firstOfAllMinutes_26 : decode cX4_firstOfAllMinutes 26 = .ok (.invokevirtual 74, 3) := by decide +kernel
theorem dX4_firstOfAllMinutes_29 : decode cX4_firstOfAllMinutes 29 = .ok (.iload_n 1, 1) := by decide +kernel
theorem dX4_firstOfAllMinutes_30 : decode cX4_firstOfAllMinutes 30 = .ok (.if_icmp .ne 6, 3) := by decide +kernel
theorem dX4_firstOfAllMinutes_33 : decode cX4_firstOfAllMinutes 33 = .ok (.iload 4, 2) := by decide +kernel
theorem dX4_firstOfAllMinutes_35 : decode cX4_firstOfAllMinutes 35 = .ok (.ireturn, 1) := by decide +kernel
theorem dX4_firstOfAllMinutes_36 : decode cX4_firstOfAllMinutes 36 = .ok (.iinc 4 1, 3) := by decide +kernel
theorem dX4_firstOfAllMinutes_39 : decode cX4_firstOfAllMinutes 39 = .ok (.goto (-34), 3) := by decide +kernel
theorem dX4_firstOfAllMinutes_42 : decode cX4_firstOfAllMinutes 42 = .ok (.iconst (-1), 1) := by decide +kernel
theorem dX4_firstOfAllMinutes_43 : decode cX4_firstOfAllMinutes 43 = .ok (.ireturn, 1) := by decide +kernel
theorem dX4_pieceAtMinute_0 : decode cX4_pieceAtMinute 0 = .ok (.iload_n 2, 1) := by decide +kernel
theorem dX4_pieceAtMinute_1 : decode cX4_pieceAtMinute 1 = .ok (.istore_n 3, 1) := by decide +kernel
theorem dX4_pieceAtMinute_2 : decode cX4_pieceAtMinute 2 = .ok (.iload_n 3, 1) := by decide +kernel
theorem dX4_pieceAtMinute_3 : decode cX4_pieceAtMinute 3 = .ok (.aload_n 0, 1) := by decide +kernel
theorem dX4_pieceAtMinute_4 : decode cX4_pieceAtMinute 4 = .ok (.getfield 17, 3) := by decide +kernel
theorem dX4_pieceAtMinute_7 : decode cX4_pieceAtMinute 7 = .ok (.iconst 1, 1) := by decide +kernel
theorem dX4_pieceAtMinute_8 : decode cX4_pieceAtMinute 8 = .ok (.isub, 1) := by decide +kernel
theorem dX4_pieceAtMinute_9 : decode cX4_pieceAtMinute 9 = .ok (.if_icmp .ge 18, 3) := by decide +kernel
theorem dX4_pieceAtMinute_12 : decode cX4_pieceAtMinute 12 = .ok (.aload_n 0, 1) := by decide +kernel
theorem dX4_pieceAtMinute_13 : decode cX4_pieceAtMinute 13 = .ok (.iload_n 3, 1) := by decide +kernel
theorem dX4_pieceAtMinute_14 : decode cX4_pieceAtMinute 14 = .ok (.iload_n 1, 1) := by decide +kernel
theorem dX4_pieceAtMinute_15 : decode cX4_pieceAtMinute 15 = .ok (.invokevirtual 77, 3) := by decide +kernel
theorem dX4_pieceAtMinute_18 : decode cX4_pieceAtMinute 18 = .ok (.ifCond .eq 9, 3) := by decide +kernel
theorem dX4_pieceAtMinute_21 : decode cX4_pieceAtMinute 21 = .ok (.iinc 3 1, 3) := by decide +kernel
theorem dX4_pieceAtMinute_24 : decode cX4_pieceAtMinute 24 = .ok (.goto (-22), 3) := by decide +kernel
theorem dX4_pieceAtMinute_27 : decode cX4_pieceAtMinute 27 = .ok (.iload_n 3, 1) := by decide +kernel
theorem dX4_pieceAtMinute_28 : decode cX4_pieceAtMinute 28 = .ok (.ireturn, 1) := by decide +kernel
theorem dX4_endsAhead_0 : decode cX4_endsAhead 0 = .ok (.aload_n 0, 1) := by decide +kernel
theorem dX4_endsAhead_1 : decode cX4_endsAhead 1 = .ok (.iload_n 1, 1) := by decide +kernel
theorem dX4_endsAhead_2 : decode cX4_endsAhead 2 = .ok (.invokevirtual 63, 3) := by decide +kernel
theorem dX4_endsAhead_5 : decode cX4_endsAhead 5 = .ok (.astore_n 3, 1) := by decide +kernel
theorem dX4_endsAhead_6 : decode cX4_endsAhead 6 = .ok (.aload_n 3, 1) := by decide +kernel
theorem dX4_endsAhead_7 : decode cX4_endsAhead 7 = .ok (.ifnull 15, 3) := by decide +kernel
theorem dX4_endsAhead_10 : decode cX4_endsAhead 10 = .ok (.aload_n 3, 1) := by decide +kernel
theorem dX4_endsAhead_11 : decode cX4_endsAhead 11 = .ok (.invokevirtual 52, 3) := by decide +kernel
theorem dX4_endsAhead_14 : decode cX4_endsAhead 14 = .ok (.iload_n 2, 1) := by decide +kernel
theorem dX4_endsAhead_15 : decode cX4_endsAhead 15 = .ok (.if_icmp .ge 7, 3) := by decide +kernel
theorem dX4_endsAhead_18 : decode cX4_endsAhead 18 = .ok (.iconst 1, 1) := by decide +kernel
theorem dX4_endsAhead_19 : decode cX4_endsAhead 19 = .ok (.goto 4, 3) := by decide +kernel
theorem dX4_endsAhead_22 : decode cX4_endsAhead 22 = .ok (.iconst 0, 1) := by decide +kernel
theorem dX4_endsAhead_23 : decode cX4_endsAhead 23 = .ok (.ireturn, 1) := by decide +kernel
theorem dX4_cellAtMinute_0 : decode cX4_cellAtMinute 0 = .ok (.aload_n 0, 1) := by decide +kernel
theorem dX4_cellAtMinute_1 : decode cX4_cellAtMinute 1 = .ok (.iload_n 2, 1) := by decide +kernel
theorem dX4_cellAtMinute_2 : decode cX4_cellAtMinute 2 = .ok (.invokevirtual 63, 3) := by decide +kernel
theorem dX4_cellAtMinute_5 : decode cX4_cellAtMinute 5 = .ok (.astore_n 3, 1) := by decide +kernel
theorem dX4_cellAtMinute_6 : decode cX4_cellAtMinute 6 = .ok (.aload_n 3, 1) := by decide +kernel
theorem dX4_cellAtMinute_7 : decode cX4_cellAtMinute 7 = .ok (.ifnonnull 10, 3) := by decide +kernel
theorem dX4_cellAtMinute_10 : decode cX4_cellAtMinute 10 = .ok (.aload_n 0, 1) := by decide +kernel
theorem dX4_cellAtMinute_11 : decode cX4_cellAtMinute 11 = .ok (.getfield 21, 3) := by decide +kernel
theorem dX4_cellAtMinute_14 : decode cX4_cellAtMinute 14 = .ok (.goto 13, 3) := by decide +kernel
theorem dX4_cellAtMinute_17 : decode cX4_cellAtMinute 17 = .ok (.aload_n 3, 1) := by decide +kernel
theorem dX4_cellAtMinute_18 : decode cX4_cellAtMinute 18 = .ok (.iload_n 1, 1) := by decide +kernel
theorem dX4_cellAtMinute_19 : decode cX4_cellAtMinute 19 = .ok (.aload_n 3, 1) := by decide +kernel
theorem dX4_cellAtMinute_20 : decode cX4_cellAtMinute 20 = .ok (.getfield 81, 3) := by decide +kernel
theorem dX4_cellAtMinute_23 : decode cX4_cellAtMinute 23 = .ok (.isub, 1) := by decide +kernel
theorem dX4_cellAtMinute_24 : decode cX4_cellAtMinute 24 = .ok (.invokevirtual 84, 3) := by decide +kernel
theorem dX4_cellAtMinute_27 : decode cX4_cellAtMinute 27 = .ok (.ireturn, 1) := by decide +kernel
theorem dX4_followedOf_0 : decode cX4_followedOf 0 = .ok (.iconst 0, 1) := by decide +kernel
theorem dX4_followedOf_1 : decode cX4_followedOf 1 = .ok (.istore_n 2, 1) := by decide +kernel
theorem dX4_followedOf_2 : decode cX4_followedOf 2 = .ok (.iconst 0, 1) := by decide +kernel
theorem dX4_followedOf_3 : decode cX4_followedOf 3 = .ok (.istore_n 3, 1) := by decide +kernel
theorem dX4_followedOf_4 : decode cX4_followedOf 4 = .ok (.iload_n 3, 1) := by decide +kernel
theorem dX4_followedOf_5 : decode cX4_followedOf 5 = .ok (.aload_n 0, 1) := by decide +kernel
theorem dX4_followedOf_6 : decode cX4_followedOf 6 = .ok (.getfield 17, 3) := by decide +kernel
theorem dX4_followedOf_9 : decode cX4_followedOf 9 = .ok (.if_icmp .ge 59, 3) := by decide +kernel
theorem dX4_followedOf_12 : decode cX4_followedOf 12 = .ok (.aload_n 0, 1) := by decide +kernel
theorem dX4_followedOf_13 : decode cX4_followedOf 13 = .ok (.iload_n 3, 1) := by decide +kernel
theorem dX4_followedOf_14 : decode cX4_followedOf 14 = .ok (.invokevirtual 63, 3) := by decide +kernel
theorem dX4_followedOf_17 : decode cX4_followedOf 17 = .ok (.astore 4, 2) := by decide +kernel
theorem dX4_followedOf_19 : decode cX4_followedOf 19 = .ok (.aload 4, 2) := by decide +kernel
theorem dX4_followedOf_21 : decode cX4_followedOf 21 = .ok (.ifnull 41, 3) := by decide +kernel
theorem dX4_followedOf_24 : decode cX4_followedOf 24 = .ok (.aload 4, 2) := by decide +kernel
theorem dX4_followedOf_26 : decode cX4_followedOf 26 = .ok (.getfield 88, 3) := by decide +kernel
theorem dX4_followedOf_29 : decode cX4_followedOf 29 = .ok (.ifCond .ne 6, 3) := by decide +kernel
theorem dX4_followedOf_32 : decode cX4_followedOf 32 = .ok (.goto 30, 3) := by decide +kernel
theorem dX4_followedOf_35 : decode cX4_followedOf 35 = .ok (.aload_n 1, 1) := by decide +kernel
theorem dX4_followedOf_36 : decode cX4_followedOf 36 = .ok (.iload_n 2, 1) := by decide +kernel
theorem dX4_followedOf_37 : decode cX4_followedOf 37 = .ok (.invokevirtual 63, 3) := by decide +kernel
theorem dX4_followedOf_40 : decode cX4_followedOf 40 = .ok (.astore 5, 2) := by decide +kernel
theorem dX4_followedOf_42 : decode cX4_followedOf 42 = .ok (.aload 5, 2) := by decide +kernel
theorem dX4_followedOf_44 : decode cX4_followedOf 44 = .ok (.ifnull 13, 3) := by decide +kernel
theorem dX4_followedOf_47 : decode cX4_followedOf 47 = .ok (.aload 4, 2) := by decide +kernel
theorem dX4_followedOf_49 : decode cX4_followedOf 49 = .ok (.aload 5, 2) := by decide +kernel
theorem dX4_followedOf_51 : decode cX4_followedOf 51 = .ok (.invokevirtual 92, 3) := by decide +kernel
theorem dX4_followedOf_54 : decode cX4_followedOf 54 = .ok (.ifCond .ne 5, 3) := by decide +kernel
theorem dX4_followedOf_57 : decode cX4_followedOf 57 = .ok (.iload_n 2, 1) := by decide +kernel
theorem dX4_followedOf_58 : decode cX4_followedOf 58 = .ok (.ireturn, 1) := by decide +kernel
theorem dX4_followedOf_59 : decode cX4_followedOf 59 = .ok (.iinc 2 1, 3) := by decide +kernel
theorem dX4_followedOf_62 : decode cX4_followedOf 62 = .ok (.iinc 3 1, 3) := by decide +kernel
theorem dX4_followedOf_65 : decode cX4_followedOf 65 = .ok (.goto (-61), 3) := by decide +kernel
theorem dX4_followedOf_68 : decode cX4_followedOf 68 = .ok (.iload_n 2, 1) := by decide +kernel
theorem dX4_followedOf_69 : decode cX4_followedOf 69 = .ok (.ireturn, 1) := by decide +kernel
theorem dX5_init_0 : decode cX5_init 0 = .ok (.aload_n 0, 1) := by decide +kernel
theorem dX5_init_1 : decode cX5_init 1 = .ok (.invokespecial 1, 3) := by decide +kernel
theorem dX5_init_4 : decode cX5_init 4 = .ok (.aload_n 0, 1) := by decide +kernel
theorem dX5_init_5 : decode cX5_init 5 = .ok (.iconst 0, 1) := by decide +kernel
theorem dX5_init_6 : decode cX5_init 6 = .ok (.putfield 7, 3) := by decide +kernel
theorem dX5_init_9 : decode cX5_init 9 = .ok (.aload_n 0, 1) := by decide +kernel
theorem dX5_init_10 : decode cX5_init 10 = .ok (.new 13, 3) := by decide +kernel
theorem dX5_init_13 : decode cX5_init 13 = .ok (.dup, 1) := by decide +kernel
theorem dX5_init_14 : decode cX5_init 14 = .ok (.bipush 30, 2) := by decide +kernel
theorem dX5_init_16 : decode cX5_init 16 = .ok (.iconst 0, 1) := by decide +kernel
theorem dX5_init_17 : decode cX5_init 17 = .ok (.invokespecial 15, 3) := by decide +kernel
theorem dX5_init_20 : decode cX5_init 20 = .ok (.putfield 18, 3) := by decide +kernel
theorem dX5_init_23 : decode cX5_init 23 = .ok (.aload_n 0, 1) := by decide +kernel
theorem dX5_init_24 : decode cX5_init 24 = .ok (.bipush 10, 2) := by decide +kernel
theorem dX5_init_26 : decode cX5_init 26 = .ok (.anewarray 22, 3) := by decide +kernel
theorem dX5_init_29 : decode cX5_init 29 = .ok (.putfield 24, 3) := by decide +kernel
theorem dX5_init_32 : decode cX5_init 32 = .ok (.aload_n 0, 1) := by decide +kernel
theorem dX5_init_33 : decode cX5_init 33 = .ok (.iconst 0, 1) := by decide +kernel
theorem dX5_init_34 : decode cX5_init 34 = .ok (.putfield 28, 3) := by decide +kernel
theorem dX5_init_37 : decode cX5_init 37 = .ok (.aload_n 0, 1) := by decide +kernel
theorem dX5_init_38 : decode cX5_init 38 = .ok (.bipush 10, 2) := by decide +kernel
theorem dX5_init_40 : decode cX5_init 40 = .ok (.putfield 31, 3) := by decide +kernel
theorem dX5_init_43 : decode cX5_init 43 = .ok (.aload_n 0, 1) := by decide +kernel
theorem dX5_init_44 : decode cX5_init 44 = .ok (.bipush 8, 2) := by decide +kernel
theorem dX5_init_46 : decode cX5_init 46 = .ok (.anewarray 34, 3) := by decide +kernel
theorem dX5_init_49 : decode cX5_init 49 = .ok (.putfield 36, 3) := by decide +kernel
theorem dX5_init_52 : decode cX5_init 52 = .ok (.aload_n 0, 1) := by decide +kernel
theorem dX5_init_53 : decode cX5_init 53 = .ok (.iconst 0, 1) := by decide +kernel
theorem dX5_init_54 : decode cX5_init 54 = .ok (.putfield 40, 3) := by decide +kernel
theorem dX5_init_57 : decode cX5_init 57 = .ok (.aload_n 0, 1) := by decide +kernel
theorem dX5_init_58 : decode cX5_init 58 = .ok (.bipush 40, 2) := by decide +kernel
theorem dX5_init_60 : decode cX5_init 60 = .ok (.anewarray 43, 3) := by decide +kernel
theorem dX5_init_63 : decode cX5_init 63 = .ok (.putfield 45, 3) := by decide +kernel
theorem dX5_init_66 : decode cX5_init 66 = .ok (.aload_n 0, 1) := by decide +kernel
theorem dX5_init_67 : decode cX5_init 67 = .ok (.iconst 0, 1) := by decide +kernel
theorem dX5_init_68 : decode cX5_init 68 = .ok (.putfield 49, 3) := by decide +kernel
theorem dX5_init_71 : decode cX5_init 71 = .ok (.aload_n 0, 1) := by decide +kernel
theorem dX5_init_72 : decode cX5_init 72 = .ok (.bipush 8, 2) := by decide +kernel
theorem dX5_init_74 : decode cX5_init 74 = .ok (.newarray .int, 2) := by decide +kernel
theorem dX5_init_76 : decode cX5_init 76 = .ok (.putfield 52, 3) := by decide +kernel
theorem dX5_init_79 : decode cX5_init 79 = .ok (.return_, 1) := by decide +kernel
theorem dX5_setStart_0 : decode cX5_setStart 0 = .ok (.iload_n 1, 1) := by decide +kernel
theorem dX5_setStart_1 : decode cX5_setStart 1 = .ok (.iconst 0, 1) := by decide +kernel
theorem dX5_setStart_2 : decode cX5_setStart 2 = .ok (.sipush 255, 3) := by decide +kernel
theorem dX5_setStart_5 : decode cX5_setStart 5 = .ok (.invokestatic 56, 3) := by decide +kernel
theorem dX5_setStart_8 : decode cX5_setStart 8 = .ok (.invokestatic 60, 3) := by decide +kernel
theorem dX5_setStart_11 : decode cX5_setStart 11 = .ok (.aload_n 0, 1) := by decide +kernel
theorem dX5_setStart_12 : decode cX5_setStart 12 = .ok (.getfield 18, 3) := by decide +kernel
theorem dX5_setStart_15 : decode cX5_setStart 15 = .ok (.getfield 64, 3) := by decide +kernel
theorem dX5_setStart_18 : decode cX5_setStart 18 = .ok (.ifCond .ne 14, 3) := by decide +kernel
theorem dX5_setStart_21 : decode cX5_setStart 21 = .ok (.aload_n 0, 1) := by decide +kernel
theorem dX5_setStart_22 : decode cX5_setStart 22 = .ok (.getfield 40, 3) := by decide +kernel
theorem dX5_setStart_25 : decode cX5_setStart 25 = .ok (.ifCond .ne 7, 3) := by decide +kernel
theorem dX5_setStart_28 : decode cX5_setStart 28 = .ok (.iconst 1, 1) := by decide +kernel
theorem dX5_setStart_29 : decode cX5_setStart 29 = .ok (.goto 4, 3) := by decide +kernel
theorem dX5_setStart_32 : decode cX5_setStart 32 = .ok (.iconst 0, 1) := by decide +kernel
theorem dX5_setStart_33 : decode cX5_setStart 33 = .ok (.invokestatic 67, 3) := by decide +kernel
theorem dX5_setStart_36 : decode cX5_setStart 36 = .ok (.aload_n 0, 1) := by decide +kernel
theorem dX5_setStart_37 : decode cX5_setStart 37 = .ok (.getfield 7, 3) := by decide +kernel
theorem dX5_setStart_40 : decode cX5_setStart 40 = .ok (.istore_n 2, 1) := by decide +kernel
theorem dX5_setStart_41 : decode cX5_setStart 41 = .ok (.aload_n 0, 1) := by decide +kernel
theorem dX5_setStart_42 : decode cX5_setStart 42 = .ok (.iload_n 1, 1) := by decide +kernel
theorem dX5_setStart_43 : decode cX5_setStart 43 = .ok (.putfield 7, 3) := by decide +kernel
theorem dX5_setStart_46 : decode cX5_setStart 46 = .ok (.aload_n 0, 1) := by decide +kernel
theorem dX5_setStart_47 : decode cX5_setStart 47 = .ok (.getfield 18, 3) := by decide +kernel
theorem dX5_setStart_50 : decode cX5_setStart 50 = .ok (.iload_n 1, 1) := by decide +kernel
theorem dX5_setStart_51 : decode cX5_setStart 51 = .ok (.invokevirtual 70, 3) := by decide +kernel
theorem dX5_setStart_54 : decode cX5_setStart 54 = .ok (.iload_n 2, 1) := by decide +kernel
theorem dX5_setStart_55 : decode cX5_setStart 55 = .ok (.ireturn, 1) := by decide +kernel
theorem dX5_addEntry_0 : decode cX5_addEntry 0 = .ok (.iload_n 1, 1) := by decide +kernel
theorem dX5_addEntry_1 : decode cX5_addEntry 1 = .ok (.iconst 1, 1) := by decide +kernel
theorem dX5_addEntry_2 : decode cX5_addEntry 2 = .ok (.bipush 15, 2) := by decide +kernel
theorem dX5_addEntry_4 : decode cX5_addEntry 4 = .ok (.invokestatic 56, 3) := by decide +kernel
theorem dX5_addEntry_7 : decode cX5_addEntry 7 = .ok (.ifCond .eq 16, 3) := by decide +kernel
theorem dX5_addEntry_10 : decode cX5_addEntry 10 = .ok (.iload_n 2, 1) := by decide +kernel
theorem dX5_addEntry_11 : decode cX5_addEntry 11 = .ok (.iconst 0, 1) := by decide +kernel
theorem dX5_addEntry_12 : decode cX5_addEntry 12 = .ok (.iconst 3, 1) := by decide +kernel
theorem dX5_addEntry_13 : decode cX5_addEntry 13 = .ok (.invokestatic 56, 3) := by decide +kernel
theorem dX5_addEntry_16 : decode cX5_addEntry 16 = .ok (.ifCond .eq 7, 3) := by decide +kernel
theorem dX5_addEntry_19 : decode cX5_addEntry 19 = .ok (.iconst 1, 1) := by decide +kernel
theorem dX5_addEntry_20 : decode cX5_addEntry 20 = .ok (.goto 4, 3) := by decide +kernel
theorem dX5_addEntry_23 : decode cX5_addEntry 23 = .ok (.iconst 0, 1) := by decide +kernel
theorem dX5_addEntry_24 : decode cX5_addEntry 24 = .ok (.invokestatic 60, 3) := by decide +kernel
theorem dX5_addEntry_27 : decode cX5_addEntry 27 = .ok (.aload_n 0, 1) := by decide +kernel
theorem dX5_addEntry_28 : decode cX5_addEntry 28 = .ok (.getfield 18, 3) := by decide +kernel
theorem dX5_addEntry_31 : decode cX5_addEntry 31 = .ok (.invokevirtual 74, 3) := by decide +kernel
theorem dX5_addEntry_34 : decode cX5_addEntry 34 = .ok (.ifCond .ne 18, 3) := by decide +kernel
theorem dX5_addEntry_37 : decode cX5_addEntry 37 = .ok (.aload_n 0, 1) := by decide +kernel
theorem dX5_addEntry_38 : decode cX5_addEntry 38 = .ok (.getfield 18, 3) := by decide +kernel
theorem dX5_addEntry_41 : decode cX5_addEntry 41 = .ok (.iload_n 1, 1) := by decide +kernel
theorem dX5_addEntry_42 : decode cX5_addEntry 42 = .ok (.invokevirtual 78, 3) := by decide +kernel
theorem dX5_addEntry_45 : decode cX5_addEntry 45 = .ok (.ifCond .eq 7, 3) := by decide +kernel
theorem dX5_addEntry_48 : decode cX5_addEntry 48 = .ok (.iconst 1, 1) := by decide +kernel
theorem dX5_addEntry_49 : decode cX5_addEntry 49 = .ok (.goto 4, 3) := by decide +kernel
theorem dX5_addEntry_52 : decode cX5_addEntry 52 = .ok (.iconst 0, 1) := by decide +kernel
theorem dX5_addEntry_53 : decode cX5_addEntry 53 = .ok (.invokestatic 67, 3) := by decide +kernel
theorem dX5_addEntry_56 : decode cX5_addEntry 56 = .ok (.aload_n 0, 1) := by decide +kernel
theorem dX5_addEntry_57 : decode cX5_addEntry 57 = .ok (.getfield 18, 3) := by decide +kernel
theorem dX5_addEntry_60 : decode cX5_addEntry 60 = .ok (.iload_n 1, 1) := by decide +kernel
theorem dX5_addEntry_61 : decode cX5_addEntry 61 = .ok (.iload_n 2, 1) := by decide +kernel
theorem dX5_addEntry_62 : decode cX5_addEntry 62 = .ok (.invokevirtual 82, 3) := by decide +kernel
theorem dX5_addEntry_65 : decode cX5_addEntry 65 = .ok (.aload_n 0, 1) := by decide +kernel
theorem dX5_addEntry_66 : decode cX5_addEntry 66 = .ok (.getfield 18, 3) := by decide +kernel
theorem dX5_addEntry_69 : decode cX5_addEntry 69 = .ok (.getfield 85, 3) := by decide +kernel
theorem dX5_addEntry_72 : decode cX5_addEntry 72 = .ok (.ireturn, 1) := by decide +kernel
theorem dX5_addGate_0 : decode cX5_addGate 0 = .ok (.aload_n 0, 1) := by decide +kernel
theorem dX5_addGate_1 : decode cX5_addGate 1 = .ok (.iload_n 1, 1) := by decide +kernel
theorem dX5_addGate_2 : decode cX5_addGate 2 = .ok (.invokevirtual 88, 3) := by decide +kernel
theorem dX5_addGate_5 : decode cX5_addGate 5 = .ok (.astore_n 3, 1) := by decide +kernel
theorem dX5_addGate_6 : decode cX5_addGate 6 = .ok (.iload_n 2, 1) := by decide +kernel
theorem dX5_addGate_7 : decode cX5_addGate 7 = .ok (.iconst 0, 1) := by decide +kernel
theorem dX5_addGate_8 : decode cX5_addGate 8 = .ok (.bipush 100, 2) := by decide +kernel
theorem dX5_addGate_10 : decode cX5_addGate 10 = .ok (.invokestatic 56, 3) := by decide +kernel
theorem dX5_addGate_13 : decode cX5_addGate 13 = .ok (.ifCond .eq 15, 3) := by decide +kernel
theorem dX5_addGate_16 : decode cX5_addGate 16 = .ok (.iload_n 1, 1) := by decide +kernel
theorem dX5_addGate_17 : decode cX5_addGate 17 = .ok (.aload_n 0, 1) := by decide +kernel
theorem dX5_addGate_18 : decode cX5_addGate 18 = .ok (.invokevirtual 92, 3) := by decide +kernel
theorem dX5_addGate_21 : decode cX5_addGate 21 = .ok (.if_icmp .le 7, 3) := by decide +kernel
theorem dX5_addGate_24 : decode cX5_addGate 24 = .ok (.iconst 1, 1) := by decide +kernel
theorem dX5_addGate_25 : decode cX5_addGate 25 = .ok (.goto 4, 3) := by decide +kernel
theorem dX5_addGate_28 : decode cX5_addGate 28 = .ok (.iconst 0, 1) := by decide +kernel
theorem dX5_addGate_29 : decode cX5_addGate 29 = .ok (.invokestatic 60, 3) := by decide +kernel
theorem dX5_addGate_32 : decode cX5_addGate 32 = .ok (.aload_n 0, 1) := by decide +kernel
theorem dX5_addGate_33 : decode cX5_addGate 33 = .ok (.getfield 28, 3) := by decide +kernel
theorem dX5_addGate_36 : decode cX5_addGate 36 = .ok (.bipush 10, 2) := by decide +kernel
theorem dX5_addGate_38 : decode cX5_addGate 38 = .ok (.if_icmp .ge 7, 3) := by decide +kernel
theorem dX5_addGate_41 : decode cX5_addGate 41 = .ok (.iconst 1, 1) := by decide +kernel
theorem dX5_addGate_42 : decode cX5_addGate 42 = .ok (.goto 4, 3) := by decide +kernel
theorem dX5_addGate_45 : decode cX5_addGate 45 = .ok (.iconst 0, 1) := by decide +kernel
theorem dX5_addGate_46 : decode cX5_addGate 46 = .ok (.invokestatic 67, 3) := by decide +kernel
theorem dX5_addGate_49 : decode cX5_addGate 49 = .ok (.aload_n 0, 1) := by decide +kernel
theorem dX5_addGate_50 : decode cX5_addGate 50 = .ok (.getfield 28, 3) := by decide +kernel
theorem dX5_addGate_53 : decode cX5_addGate 53 = .ok (.istore 4, 2) := by decide +kernel
theorem dX5_addGate_55 : decode cX5_addGate 55 = .ok (.aload_n 0, 1) := by decide +kernel
theorem dX5_addGate_56 : decode cX5_addGate 56 = .ok (.getfield 24, 3) := by decide +kernel
theorem dX5_addGate_59 : decode cX5_addGate 59 = .ok (.iload 4, 2) := by decide +kernel
theorem dX5_addGate_61 : decode cX5_addGate 61 = .ok (.new 22, 3) := by decide +kernel
theorem dX5_addGate_64 : decode cX5_addGate 64 = .ok (.dup, 1) := by decide +kernel
theorem dX5_addGate_65 : decode cX5_addGate 65 = .ok (.iload_n 1, 1) := by decide +kernel
theorem dX5_addGate_66 : decode cX5_addGate 66 = .ok (.aload_n 3, 1) := by decide +kernel
theorem dX5_addGate_67 : decode cX5_addGate 67 = .ok (.invokevirtual 96, 3) := by decide +kernel
theorem dX5_addGate_70 : decode cX5_addGate 70 = .ok (.aload_n 3, 1) := by decide +kernel
theorem dX5_addGate_71 : decode cX5_addGate 71 = .ok (.invokevirtual 101, 3) := by decide +kernel
theorem dX5_addGate_74 : decode cX5_addGate 74 = .ok (.iload_n 2, 1) := by decide +kernel
theorem dX5_addGate_75 : decode cX5_addGate 75 = .ok (.iadd, 1) := by decide +kernel
theorem dX5_addGate_76 : decode cX5_addGate 76 = .ok (.invokespecial 104, 3) := by decide +kernel
theorem dX5_addGate_79 : decode cX5_addGate 79 = .ok (.aastore, 1) := by decide +kernel
theorem dX5_addGate_80 : decode cX5_addGate 80 = .ok (.aload_n 0, 1) := by decide +kernel
theorem dX5_addGate_81 : decode cX5_addGate 81 = .ok (.dup, 1) := by decide +kernel
theorem dX5_addGate_82 : decode cX5_addGate 82 = .ok (.getfield 28, 3) := by decide +kernel
theorem dX5_addGate_85 : decode cX5_addGate 85 = .ok (.iconst 1, 1) := by decide +kernel
theorem dX5_addGate_86 : decode cX5_addGate 86 = .ok (.iadd, 1) := by decide +kernel
theorem dX5_addGate_87 : decode cX5_addGate 87 = .ok (.putfield 28, 3) := by decide +kernel
theorem dX5_addGate_90 : decode cX5_addGate 90 = .ok (.iload 4, 2) := by decide +kernel
theorem dX5_addGate_92 : decode cX5_addGate 92 = .ok (.ireturn, 1) := by decide +kernel
theorem dX5_cut_0 : decode cX5_cut 0 = .ok (.iload_n 1, 1) := by decide +kernel
theorem dX5_cut_1 : decode cX5_cut 1 = .ok (.iconst 0, 1) := by decide +kernel
theorem dX5_cut_2 : decode cX5_cut 2 = .ok (.bipush 10, 2) := by decide +kernel
theorem dX5_cut_4 : decode cX5_cut 4 = .ok (.invokestatic 56, 3) := by decide +kernel
theorem dX5_cut_7 : decode cX5_cut 7 = .ok (.invokestatic 60, 3) := by decide +kernel
theorem dX5_cut_10 : decode cX5_cut 10 = .ok (.aload_n 0, 1) := by decide +kernel
theorem dX5_cut_11 : decode cX5_cut 11 = .ok (.getfield 31, 3) := by decide +kernel
theorem dX5_cut_14 : decode cX5_cut 14 = .ok (.istore_n 2, 1) := by decide +kernel
theorem dX5_cut_15 : decode cX5_cut 15 = .ok (.aload_n 0, 1) := by decide +kernel
theorem dX5_cut_16 : decode cX5_cut 16 = .ok (.iload_n 1, 1) := by decide +kernel
theorem dX5_cut_17 : decode cX5_cut 17 = .ok (.putfield 31, 3) := by decide +kernel
theorem dX5_cut_20 : decode cX5_cut 20 = .ok (.iload_n 2, 1) := by decide +kernel
theorem dX5_cut_21 : decode cX5_cut 21 = .ok (.ireturn, 1) := by decide +kernel
theorem dX5_enter_0 : decode cX5_enter 0 = .ok (.aload_n 0, 1) := by decide +kernel
theorem dX5_enter_1 : decode cX5_enter 1 = .ok (.getfield 40, 3) := by decide +kernel
theorem dX5_enter_4 : decode cX5_enter 4 = .ok (.bipush 8, 2) := by decide +kernel
theorem dX5_enter_6 : decode cX5_enter 6 = .ok (.if_icmp .ge 7, 3) := by decide +kernel
theorem dX5_enter_9 : decode cX5_enter 9 = .ok (.iconst 1, 1) := by decide +kernel
theorem dX5_enter_10 : decode cX5_enter 10 = .ok (.goto 4, 3) := by decide +kernel
theorem dX5_enter_13 : decode cX5_enter 13 = .ok (.iconst 0, 1) := by decide +kernel
theorem dX5_enter_14 : decode cX5_enter 14 = .ok (.invokestatic 67, 3) := by decide +kernel
theorem dX5_enter_17 : decode cX5_enter 17 = .ok (.aload_n 0, 1) := by decide +kernel
theorem dX5_enter_18 : decode cX5_enter 18 = .ok (.getfield 40, 3) := by decide +kernel
theorem dX5_enter_21 : decode cX5_enter 21 = .ok (.istore_n 1, 1) := by decide +kernel
theorem dX5_enter_22 : decode cX5_enter 22 = .ok (.aload_n 0, 1) := by decide +kernel
theorem dX5_enter_23 : decode cX5_enter 23 = .ok (.getfield 36, 3) := by decide +kernel
theorem dX5_enter_26 : decode cX5_enter 26 = .ok (.iload_n 1, 1) := by decide +kernel
theorem dX5_enter_27 : decode cX5_enter 27 = .ok (.new 34, 3) := by decide +kernel
theorem dX5_enter_30 : decode cX5_enter 30 = .ok (.dup, 1) := by decide +kernel
theorem dX5_enter_31 : decode cX5_enter 31 = .ok (.aload_n 0, 1) := by decide +kernel
theorem dX5_enter_32 : decode cX5_enter 32 = .ok (.getfield 7, 3) := by decide +kernel
theorem dX5_enter_35 : decode cX5_enter 35 = .ok (.invokespecial 107, 3) := by decide +kernel
theorem dX5_enter_38 : decode cX5_enter 38 = .ok (.aastore, 1) := by decide +kernel
theorem dX5_enter_39 : decode cX5_enter 39 = .ok (.aload_n 0, 1) := by decide +kernel
theorem dX5_enter_40 : decode cX5_enter 40 = .ok (.dup, 1) := by decide +kernel
theorem dX5_enter_41 : decode cX5_enter 41 = .ok (.getfield 40, 3) := by decide +kernel
theorem dX5_enter_44 : decode cX5_enter 44 = .ok (.iconst 1, 1) := by decide +kernel
theorem dX5_enter_45 : decode cX5_enter 45 = .ok (.iadd, 1) := by decide +kernel
theorem dX5_enter_46 : decode cX5_enter 46 = .ok (.putfield 40, 3) := by decide +kernel
theorem dX5_enter_49 : decode cX5_enter 49 = .ok (.iload_n 1, 1) := by decide +kernel
theorem dX5_enter_50 : decode cX5_enter 50 = .ok (.ireturn, 1) := by decide +kernel
theorem dX5_drive_0 : decode cX5_drive 0 = .ok (.aload_n 0, 1) := by decide +kernel
theorem dX5_drive_1 : decode cX5_drive 1 = .ok (.iload_n 1, 1) := by decide +kernel
theorem dX5_drive_2 : decode cX5_drive 2 = .ok (.invokevirtual 109, 3) := by decide +kernel
theorem dX5_drive_5 : decode cX5_drive 5 = .ok (.astore 4, 2) := by decide +kernel
theorem dX5_drive_7 : decode cX5_drive 7 = .ok (.iload_n 2, 1) := by decide +kernel
theorem dX5_drive_8 : decode cX5_drive 8 = .ok (.iconst 0, 1) := by decide +kernel
theorem dX5_drive_9 : decode cX5_drive 9 = .ok (.bipush 15, 2) := by decide +kernel
theorem dX5_drive_11 : decode cX5_drive 11 = .ok (.invokestatic 56, 3) := by decide +kernel
theorem dX5_drive_14 : decode cX5_drive 14 = .ok (.ifCond .eq 16, 3) := by decide +kernel
theorem dX5_drive_17 : decode cX5_drive 17 = .ok (.iload_n 3, 1) := by decide +kernel
theorem dX5_drive_18 : decode cX5_drive 18 = .ok (.iconst 0, 1) := by decide +kernel
theorem dX5_drive_19 : decode cX5_drive 19 = .ok (.iconst 3, 1) := by decide +kernel
theorem dX5_drive_20 : decode cX5_drive 20 = .ok (.invokestatic 56, 3) := by decide +kernel
theorem dX5_drive_23 : decode cX5_drive 23 = .ok (.ifCond .eq 7, 3) := by decide +kernel
theorem dX5_drive_26 : decode cX5_drive 26 = .ok (.iconst 1, 1) := by decide +kernel
theorem dX5_drive_27 : decode cX5_drive 27 = .ok (.goto 4, 3) := by decide +kernel
theorem dX5_drive_30 : decode cX5_drive 30 = .ok (.iconst 0, 1) := by decide +kernel
theorem dX5_drive_31 : decode cX5_drive 31 = .ok (.invokestatic 60, 3) := by decide +kernel
theorem dX5_drive_34 : decode cX5_drive 34 = .ok (.aload 4, 2) := by decide +kernel
theorem dX5_drive_36 : decode cX5_drive 36 = .ok (.invokevirtual 113, 3) := by decide +kernel
theorem dX5_drive_39 : decode cX5_drive 39 = .ok (.ifCond .ne 30, 3) := by decide +kernel
theorem dX5_drive_42 : decode cX5_drive 42 = .ok (.aload 4, 2) := by decide +kernel
theorem dX5_drive_44 : decode cX5_drive 44 = .ok (.getfield 116, 3) := by decide +kernel
theorem dX5_drive_47 : decode cX5_drive 47 = .ok (.invokevirtual 74, 3) := by decide +kernel
theorem dX5_drive_50 : decode cX5_drive 50 = .ok (.ifCond .ne 19, 3) := by decide +kernel
theorem dX5_drive_53 : decode cX5_drive 53 = .ok (.aload 4, 2) := by decide +kernel
theorem dX5_drive_55 : decode cX5_drive 55 = .ok (.getfield 116, 3) := by decide +kernel
theorem dX5_drive_58 : decode cX5_drive 58 = .ok (.iload_n 2, 1) := by decide +kernel
theorem dX5_drive_59 : decode cX5_drive 59 = .ok (.invokevirtual 78, 3) := by decide +kernel
theorem dX5_drive_62 : decode cX5_drive 62 = .ok (.ifCond .eq 7, 3) := by decide +kernel
theorem dX5_drive_65 : decode cX5_drive 65 = .ok (.iconst 1, 1) := by decide +kernel
theorem dX5_drive_66 : decode cX5_drive 66 = .ok (.goto 4, 3) := by decide +kernel
theorem dX5_drive_69 : decode cX5_drive 69 = .ok (.iconst 0, 1) := by decide +kernel
theorem dX5_drive_70 : decode cX5_drive 70 = .ok (.invokestatic 67, 3) := by decide +kernel
theorem dX5_drive_73 : decode cX5_drive 73 = .ok (.aload 4, 2) := by decide +kernel
theorem dX5_drive_75 : decode cX5_drive 75 = .ok (.getfield 116, 3) := by decide +kernel
theorem dX5_drive_78 : decode cX5_drive 78 = .ok (.iload_n 2, 1) := by decide +kernel
theorem dX5_drive_79 : decode cX5_drive 79 = .ok (.iload_n 3, 1) := by decide +kernel
theorem dX5_drive_80 : decode cX5_drive 80 = .ok (.invokevirtual 82, 3) := by decide +kernel
theorem dX5_drive_83 : decode cX5_drive 83 = .ok (.aload 4, 2) := by decide +kernel
theorem dX5_drive_85 : decode cX5_drive 85 = .ok (.getfield 116, 3) := by decide +kernel
theorem dX5_drive_88 : decode cX5_drive 88 = .ok (.getfield 119, 3) := by decide +kernel
theorem dX5_drive_91 : decode cX5_drive 91 = .ok (.ireturn, 1) := by decide +kernel
theorem dX5_stand_0 : decode cX5_stand 0 = .ok (.aload_n 0, 1) := by decide +kernel
theorem dX5_stand_1 : decode cX5_stand 1 = .ok (.iload_n 1, 1) := by decide +kernel
theorem dX5_stand_2 : decode cX5_stand 2 = .ok (.invokevirtual 109, 3) := by decide +kernel
theorem dX5_stand_5 : decode cX5_stand 5 = .ok (.astore_n 3, 1) := by decide +kernel
theorem dX5_stand_6 : decode cX5_stand 6 = .ok (.iload_n 2, 1) := by decide +kernel
theorem dX5_stand_7 : decode cX5_stand 7 = .ok (.iconst 1, 1) := by decide +kernel
theorem dX5_stand_8 : decode cX5_stand 8 = .ok (.bipush 100, 2) := by decide +kernel
theorem dX5_stand_10 : decode cX5_stand 10 = .ok (.invokestatic 56, 3) := by decide +kernel
theorem dX5_stand_13 : decode cX5_stand 13 = .ok (.invokestatic 60, 3) := by decide +kernel
theorem dX5_stand_16 : decode cX5_stand 16 = .ok (.aload_n 3, 1) := by decide +kernel
theorem dX5_stand_17 : decode cX5_stand 17 = .ok (.getfield 116, 3) := by decide +kernel
theorem dX5_stand_20 : decode cX5_stand 20 = .ok (.invokevirtual 74, 3) := by decide +kernel
theorem dX5_stand_23 : decode cX5_stand 23 = .ok (.ifCond .ne 7, 3) := by decide +kernel
theorem dX5_stand_26 : decode cX5_stand 26 = .ok (.iconst 1, 1) := by decide +kernel
theorem dX5_stand_27 : decode cX5_stand 27 = .ok (.goto 4, 3) := by decide +kernel
theorem dX5_stand_30 : decode cX5_stand 30 = .ok (.iconst 0, 1) := by decide +kernel
theorem dX5_stand_31 : decode cX5_stand 31 = .ok (.invokestatic 67, 3) := by decide +kernel
theorem dX5_stand_34 : decode cX5_stand 34 = .ok (.aload_n 3, 1) := by decide +kernel
theorem dX5_stand_35 : decode cX5_stand 35 = .ok (.getfield 116, 3) := by decide +kernel
theorem dX5_stand_38 : decode cX5_stand 38 = .ok (.iload_n 2, 1) := by decide +kernel
theorem dX5_stand_39 : decode cX5_stand 39 = .ok (.invokevirtual 122, 3) := by decide +kernel
theorem dX5_stand_42 : decode cX5_stand 42 = .ok (.aload_n 3, 1) := by decide +kernel
theorem dX5_stand_43 : decode cX5_stand 43 = .ok (.getfield 116, 3) := by decide +kernel
theorem dX5_stand_46 : decode cX5_stand 46 = .ok (.getfield 119, 3) := by decide +kernel
theorem dX5_stand_49 : decode cX5_stand 49 = .ok (.ireturn, 1) := by decide +kernel
theorem dX5_breakDown_0 : decode cX5_breakDown 0 = .ok (.aload_n 0, 1) := by decide +kernel
theorem dX5_breakDown_1 : decode cX5_breakDown 1 = .ok (.iload_n 1, 1) := by decide +kernel
theorem dX5_breakDown_2 : decode cX5_breakDown 2 = .ok (.invokevirtual 109, 3) := by decide +kernel
theorem dX5_breakDown_5 : decode cX5_breakDown 5 = .ok (.astore_n 3, 1) := by decide +kernel
theorem dX5_breakDown_6 : decode cX5_breakDown 6 = .ok (.iload_n 2, 1) := by decide +kernel
theorem dX5_breakDown_7 : decode cX5_breakDown 7 = .ok (.iconst 0, 1) := by decide +kernel
theorem dX5_breakDown_8 : decode cX5_breakDown 8 = .ok (.iconst 3, 1) := by decide +kernel
theorem dX5_breakDown_9 : decode cX5_breakDown 9 = .ok (.invokestatic 56, 3) := by decide +kernel
theorem dX5_breakDown_12 : decode cX5_breakDown 12 = .ok (.invokestatic 125, 3) := by decide +kernel
theorem dX5_breakDown_15 : decode cX5_breakDown 15 = .ok (.aload_n 3, 1) := by decide +kernel
theorem dX5_breakDown_16 : decode cX5_breakDown 16 = .ok (.invokevirtual 113, 3) := by decide +kernel
theorem dX5_breakDown_19 : decode cX5_breakDown 19 = .ok (.ifCond .ne 7, 3) := by decide +kernel
theorem dX5_breakDown_22 : decode cX5_breakDown 22 = .ok (.iconst 1, 1) := by decide +kernel
theorem dX5_breakDown_23 : decode cX5_breakDown 23 = .ok (.goto 4, 3) := by decide +kernel
theorem dX5_breakDown_26 : decode cX5_breakDown 26 = .ok (.iconst 0, 1) := by decide +kernel
theorem dX5_breakDown_27 : decode cX5_breakDown 27 = .ok (.invokestatic 67, 3) := by decide +kernel
theorem dX5_breakDown_30 : decode cX5_breakDown 30 = .ok (.aload_n 3, 1) := by decide +kernel
theorem dX5_breakDown_31 : decode cX5_breakDown 31 = .ok (.iload_n 2, 1) := by decide +kernel
theorem dX5_breakDown_32 : decode cX5_breakDown 32 = .ok (.putfield 128, 3) := by decide +kernel
theorem dX5_breakDown_35 : decode cX5_breakDown 35 = .ok (.return_, 1) := by decide +kernel
theorem dX5_mend_0 : decode cX5_mend 0 = .ok (.aload_n 0, 1) := by decide +kernel
theorem dX5_mend_1 : decode cX5_mend 1 = .ok (.iload_n 1, 1) := by decide +kernel
theorem dX5_mend_2 : decode cX5_mend 2 = .ok (.invokevirtual 109, 3) := by decide +kernel
theorem dX5_mend_5 : decode cX5_mend 5 = .ok (.astore_n 2, 1) := by decide +kernel
theorem dX5_mend_6 : decode cX5_mend 6 = .ok (.aload_n 2, 1) := by decide +kernel
theorem dX5_mend_7 : decode cX5_mend 7 = .ok (.invokevirtual 113, 3) := by decide +kernel
theorem dX5_mend_10 : decode cX5_mend 10 = .ok (.ifCond .eq 17, 3) := by decide +kernel
theorem dX5_mend_13 : decode cX5_mend 13 = .ok (.aload_n 2, 1) := by decide +kernel
theorem dX5_mend_14 : decode cX5_mend 14 = .ok (.getfield 116, 3) := by decide +kernel
theorem dX5_mend_17 : decode cX5_mend 17 = .ok (.invokevirtual 74, 3) := by decide +kernel
theorem dX5_mend_20 : decode cX5_mend 20 = .ok (.ifCond .ne 7, 3) := by decide +kernel
theorem dX5_mend_23 : decode cX5_mend 23 = .ok (.iconst 1, 1) := by decide +kernel
theorem dX5_mend_24 : decode cX5_mend 24 = .ok (.goto 4, 3) := by decide +kernel
theorem dX5_mend_27 : decode cX5_mend 27 = .ok (.iconst 0, 1) := by decide +kernel
theorem dX5_mend_28 : decode cX5_mend 28 = .ok (.invokestatic 67, 3) := by decide +kernel
theorem dX5_mend_31 : decode cX5_mend 31 = .ok (.aload_n 0, 1) := by decide +kernel
theorem dX5_mend_32 : decode cX5_mend 32 = .ok (.iload_n 1, 1) := by decide +kernel
theorem dX5_mend_33 : decode cX5_mend 33 = .ok (.aload_n 2, 1) := by decide +kernel
theorem dX5_mend_34 : decode cX5_mend 34 = .ok (.getfield 128, 3) := by decide +kernel
theorem dX5_mend_37 : decode cX5_mend 37 = .ok (.invokevirtual 131, 3) := by decide +kernel
theorem dX5_mend_40 : decode cX5_mend 40 = .ok (.istore_n 3, 1) := by decide +kernel
theorem dX5_mend_41 : decode cX5_mend 41 = .ok (.iload_n 3, 1) := by decide +kernel
theorem dX5_mend_42 : decode cX5_mend 42 = .ok (.iconst (-1), 1) := by decide +kernel
theorem dX5_mend_43 : decode cX5_mend 43 = .ok (.if_icmp .ne 13, 3) := by decide +kernel
theorem dX5_mend_46 : decode cX5_mend 46 = .ok (.new 135, 3) := by decide +kernel
theorem dX5_mend_49 : decode cX5_mend 49 = .ok (.dup, 1) := by decide +kernel
theorem dX5_mend_50 : decode cX5_mend 50 = .ok (.ldc 137, 2) := by decide +kernel
theorem dX5_mend_52 : decode cX5_mend 52 = .ok (.invokespecial 139, 3) := by decide +kernel
theorem dX5_mend_55 : decode cX5_mend 55 = .ok (.athrow, 1) := by decide +kernel
theorem dX5_mend_56 : decode cX5_mend 56 = .ok (.aload_n 0, 1) := by decide +kernel
theorem dX5_mend_57 : decode cX5_mend 57 = .ok (.iload_n 3, 1) := by decide +kernel
theorem dX5_mend_58 : decode cX5_mend 58 = .ok (.invokevirtual 142, 3) := by decide +kernel
theorem dX5_mend_61 : decode cX5_mend 61 = .ok (.iload_n 1, 1) := by decide +kernel
theorem dX5_mend_62 : decode cX5_mend 62 = .ok (.invokevirtual 146, 3) := by decide +kernel
theorem dX5_mend_65 : decode cX5_mend 65 = .ok (.aload_n 2, 1) := by decide +kernel
theorem dX5_mend_66 : decode cX5_mend 66 = .ok (.getfield 116, 3) := by decide +kernel
theorem dX5_mend_69 : decode cX5_mend 69 = .ok (.iconst 3, 1) := by decide +kernel
theorem dX5_mend_70 : decode cX5_mend 70 = .ok (.aload_n 2, 1) := by decide +kernel
theorem dX5_mend_71 : decode cX5_mend 71 = .ok (.getfield 128, 3) := by decide +kernel
theorem dX5_mend_74 : decode cX5_mend 74 = .ok (.iconst 1, 1) := by decide +kernel
theorem dX5_mend_75 : decode cX5_mend 75 = .ok (.iadd, 1) := by decide +kernel
theorem dX5_mend_76 : decode cX5_mend 76 = .ok (.imul, 1) := by decide +kernel
theorem dX5_mend_77 : decode cX5_mend 77 = .ok (.invokevirtual 122, 3) := by decide +kernel
theorem dX5_mend_80 : decode cX5_mend 80 = .ok (.aload_n 2, 1) := by decide +kernel
theorem dX5_mend_81 : decode cX5_mend 81 = .ok (.iconst (-1), 1) := by decide +kernel
theorem dX5_mend_82 : decode cX5_mend 82 = .ok (.putfield 128, 3) := by decide +kernel
theorem dX5_mend_85 : decode cX5_mend 85 = .ok (.iload_n 3, 1) := by decide +kernel
theorem dX5_mend_86 : decode cX5_mend 86 = .ok (.ireturn, 1) := by decide +kernel
theorem dX5_bring_0 : decode cX5_bring 0 = .ok (.iload_n 1, 1) := by decide +kernel
theorem dX5_bring_1 : decode cX5_bring 1 = .ok (.iconst 0, 1) := by decide +kernel
theorem dX5_bring_2 : decode cX5_bring 2 = .ok (.iconst 3, 1) := by decide +kernel
theorem dX5_bring_3 : decode cX5_bring 3 = .ok (.invokestatic 56, 3) := by decide +kernel
theorem dX5_bring_6 : decode cX5_bring 6 = .ok (.ifCond .eq 15, 3) := by decide +kernel
theorem dX5_bring_9 : decode cX5_bring 9 = .ok (.aload_n 0, 1) := by decide +kernel
theorem dX5_bring_10 : decode cX5_bring 10 = .ok (.iload_n 2, 1) := by decide +kernel
theorem dX5_bring_11 : decode cX5_bring 11 = .ok (.invokevirtual 149, 3) := by decide +kernel
theorem dX5_bring_14 : decode cX5_bring 14 = .ok (.ifCond .eq 7, 3) := by decide +kernel
theorem dX5_bring_17 : decode cX5_bring 17 = .ok (.iconst 1, 1) := by decide +kernel
theorem dX5_bring_18 : decode cX5_bring 18 = .ok (.goto 4, 3) := by decide +kernel
theorem dX5_bring_21 : decode cX5_bring 21 = .ok (.iconst 0, 1) := by decide +kernel
theorem dX5_bring_22 : decode cX5_bring 22 = .ok (.invokestatic 125, 3) := by decide +kernel
theorem dX5_bring_25 : decode cX5_bring 25 = .ok (.aload_n 0, 1) := by decide +kernel
theorem dX5_bring_26 : decode cX5_bring 26 = .ok (.getfield 49, 3) := by decide +kernel
theorem dX5_bring_29 : decode cX5_bring 29 = .ok (.bipush 40, 2) := by decide +kernel
theorem dX5_bring_31 : decode cX5_bring 31 = .ok (.if_icmp .ge 7, 3) := by decide +kernel
theorem dX5_bring_34 : decode cX5_bring 34 = .ok (.iconst 1, 1) := by decide +kernel
theorem dX5_bring_35 : decode cX5_bring 35 = .ok (.goto 4, 3) := by decide +kernel
theorem dX5_bring_38 : decode cX5_bring 38 = .ok (.iconst 0, 1) := by decide +kernel
theorem dX5_bring_39 : decode cX5_bring 39 = .ok (.invokestatic 67, 3) := by decide +kernel
theorem dX5_bring_42 : decode cX5_bring 42 = .ok (.aload_n 0, 1) := by decide +kernel
theorem dX5_bring_43 : decode cX5_bring 43 = .ok (.getfield 49, 3) := by decide +kernel
theorem dX5_bring_46 : decode cX5_bring 46 = .ok (.istore_n 3, 1) := by decide +kernel
theorem dX5_bring_47 : decode cX5_bring 47 = .ok (.aload_n 0, 1) := by decide +kernel
theorem dX5_bring_48 : decode cX5_bring 48 = .ok (.getfield 45, 3) := by decide +kernel
theorem dX5_bring_51 : decode cX5_bring 51 = .ok (.iload_n 3, 1) := by decide +kernel
theorem dX5_bring_52 : decode cX5_bring 52 = .ok (.new 43, 3) := by decide +kernel
theorem dX5_bring_55 : decode cX5_bring 55 = .ok (.dup, 1) := by decide +kernel
theorem dX5_bring_56 : decode cX5_bring 56 = .ok (.iload_n 1, 1) := by decide +kernel
theorem dX5_bring_57 : decode cX5_bring 57 = .ok (.iload_n 2, 1) := by decide +kernel
theorem dX5_bring_58 : decode cX5_bring 58 = .ok (.invokespecial 152, 3) := by decide +kernel
theorem dX5_bring_61 : decode cX5_bring 61 = .ok (.aastore, 1) := by decide +kernel
theorem dX5_bring_62 : decode cX5_bring 62 = .ok (.aload_n 0, 1) := by decide +kernel
theorem dX5_bring_63 : decode cX5_bring 63 = .ok (.dup, 1) := by decide +kernel
theorem dX5_bring_64 : decode cX5_bring 64 = .ok (.getfield 49, 3) := by decide +kernel
theorem dX5_bring_67 : decode cX5_bring 67 = .ok (.iconst 1, 1) := by decide +kernel
theorem dX5_bring_68 : decode cX5_bring 68 = .ok (.iadd, 1) := by decide +kernel
theorem dX5_bring_69 : decode cX5_bring 69 = .ok (.putfield 49, 3) := by decide +kernel
theorem dX5_bring_72 : decode cX5_bring 72 = .ok (.iload_n 3, 1) := by decide +kernel
theorem dX5_bring_73 : decode cX5_bring 73 = .ok (.ireturn, 1) := by decide +kernel
theorem dX5_hand_0 : decode cX5_hand 0 = .ok (.aload_n 0, 1) := by decide +kernel
theorem dX5_hand_1 : decode cX5_hand 1 = .ok (.iload_n 1, 1) := by decide +kernel
theorem dX5_hand_2 : decode cX5_hand 2 = .ok (.invokevirtual 142, 3) := by decide +kernel
theorem dX5_hand_5 : decode cX5_hand 5 = .ok (.astore_n 3, 1) := by decide +kernel
theorem dX5_hand_6 : decode cX5_hand 6 = .ok (.aload_n 0, 1) := by decide +kernel
theorem dX5_hand_7 : decode cX5_hand 7 = .ok (.iload_n 2, 1) := by decide +kernel
theorem dX5_hand_8 : decode cX5_hand 8 = .ok (.invokevirtual 149, 3) := by decide +kernel
theorem dX5_hand_11 : decode cX5_hand 11 = .ok (.invokestatic 125, 3) := by decide +kernel
theorem dX5_hand_14 : decode cX5_hand 14 = .ok (.aload_n 3, 1) := by decide +kernel
theorem dX5_hand_15 : decode cX5_hand 15 = .ok (.getfield 153, 3) := by decide +kernel
theorem dX5_hand_18 : decode cX5_hand 18 = .ok (.istore 4, 2) := by decide +kernel
theorem dX5_hand_20 : decode cX5_hand 20 = .ok (.iload 4, 2) := by decide +kernel
theorem dX5_hand_22 : decode cX5_hand 22 = .ok (.bipush (-2), 2) := by decide +kernel
theorem dX5_hand_24 : decode cX5_hand 24 = .ok (.if_icmp .eq 27, 3) := by decide +kernel
theorem dX5_hand_27 : decode cX5_hand 27 = .ok (.iload 4, 2) := by decide +kernel
theorem dX5_hand_29 : decode cX5_hand 29 = .ok (.iload_n 2, 1) := by decide +kernel
theorem dX5_hand_30 : decode cX5_hand 30 = .ok (.if_icmp .eq 21, 3) := by decide +kernel
theorem dX5_hand_33 : decode cX5_hand 33 = .ok (.aload_n 0, 1) := by decide +kernel
theorem dX5_hand_34 : decode cX5_hand 34 = .ok (.iload 4, 2) := by decide +kernel
theorem dX5_hand_36 : decode cX5_hand 36 = .ok (.invokevirtual 156, 3) := by decide +kernel
theorem dX5_hand_39 : decode cX5_hand 39 = .ok (.aload_n 0, 1) := by decide +kernel
theorem dX5_hand_40 : decode cX5_hand 40 = .ok (.iload_n 2, 1) := by decide +kernel
theorem dX5_hand_41 : decode cX5_hand 41 = .ok (.invokevirtual 156, 3) := by decide +kernel
theorem dX5_hand_44 : decode cX5_hand 44 = .ok (.if_icmp .ne 7, 3) := by decide +kernel
theorem dX5_hand_47 : decode cX5_hand 47 = .ok (.iconst 1, 1) := by decide +kernel
theorem dX5_hand_48 : decode cX5_hand 48 = .ok (.goto 4, 3) := by decide +kernel
theorem dX5_hand_51 : decode cX5_hand 51 = .ok (.iconst 0, 1) := by decide +kernel
theorem dX5_hand_52 : decode cX5_hand 52 = .ok (.invokestatic 67, 3) := by decide +kernel
theorem dX5_hand_55 : decode cX5_hand 55 = .ok (.aload_n 3, 1) := by decide +kernel
theorem dX5_hand_56 : decode cX5_hand 56 = .ok (.iload_n 2, 1) := by decide +kernel
theorem dX5_hand_57 : decode cX5_hand 57 = .ok (.putfield 153, 3) := by decide +kernel
theorem dX5_hand_60 : decode cX5_hand 60 = .ok (.iload 4, 2) := by decide +kernel
theorem dX5_hand_62 : decode cX5_hand 62 = .ok (.ireturn, 1) := by decide +kernel
theorem dX5_record_0 : decode cX5_record 0 = .ok (.aload_n 0, 1) := by decide +kernel
theorem dX5_record_1 : decode cX5_record 1 = .ok (.iload_n 1, 1) := by decide +kernel
theorem dX5_record_2 : decode cX5_record 2 = .ok (.invokevirtual 109, 3) := by decide +kernel
theorem dX5_record_5 : decode cX5_record 5 = .ok (.astore 4, 2) := by decide +kernel
theorem dX5_record_7 : decode cX5_record 7 = .ok (.aload_n 0, 1) := by decide +kernel
theorem dX5_record_8 : decode cX5_record 8 = .ok (.iload_n 2, 1) := by decide +kernel
theorem dX5_record_9 : decode cX5_record 9 = .ok (.invokevirtual 160, 3) := by decide +kernel
theorem dX5_record_12 : decode cX5_record 12 = .ok (.iload_n 3, 1) := by decide +kernel
theorem dX5_record_13 : decode cX5_record 13 = .ok (.iconst 0, 1) := by decide +kernel
theorem dX5_record_14 : decode cX5_record 14 = .ok (.sipush 10000, 3) := by decide +kernel
theorem dX5_record_17 : decode cX5_record 17 = .ok (.invokestatic 56, 3) := by decide +kernel
theorem dX5_record_20 : decode cX5_record 20 = .ok (.invokestatic 60, 3) := by decide +kernel
theorem dX5_record_23 : decode cX5_record 23 = .ok (.aload 4, 2) := by decide +kernel
theorem dX5_record_25 : decode cX5_record 25 = .ok (.iload_n 2, 1) := by decide +kernel
theorem dX5_record_26 : decode cX5_record 26 = .ok (.aload_n 0, 1) := by decide +kernel
theorem dX5_record_27 : decode cX5_record 27 = .ok (.aload 4, 2) := by decide +kernel
theorem dX5_record_29 : decode cX5_record 29 = .ok (.iload_n 2, 1) := by decide +kernel
theorem dX5_record_30 : decode cX5_record 30 = .ok (.invokevirtual 163, 3) := by decide +kernel
theorem dX5_record_33 : decode cX5_record 33 = .ok (.invokevirtual 167, 3) := by decide +kernel
theorem dX5_record_36 : decode cX5_record 36 = .ok (.istore 5, 2) := by decide +kernel
theorem dX5_record_38 : decode cX5_record 38 = .ok (.aload 4, 2) := by decide +kernel
theorem dX5_record_40 : decode cX5_record 40 = .ok (.iload_n 2, 1) := by decide +kernel
theorem dX5_record_41 : decode cX5_record 41 = .ok (.iload_n 3, 1) := by decide +kernel
theorem dX5_record_42 : decode cX5_record 42 = .ok (.invokevirtual 170, 3) := by decide +kernel
theorem dX5_record_45 : decode cX5_record 45 = .ok (.iload 5, 2) := by decide +kernel
theorem dX5_record_47 : decode cX5_record 47 = .ok (.ireturn, 1) := by decide +kernel
theorem dX5_appeal_0 : decode cX5_appeal 0 = .ok (.aload_n 0, 1) := by decide +kernel
theorem dX5_appeal_1 : decode cX5_appeal 1 = .ok (.iload_n 1, 1) := by decide +kernel
theorem dX5_appeal_2 : decode cX5_appeal 2 = .ok (.invokevirtual 109, 3) := by decide +kernel
theorem dX5_appeal_5 : decode cX5_appeal 5 = .ok (.astore_n 3, 1) := by decide +kernel
theorem dX5_appeal_6 : decode cX5_appeal 6 = .ok (.aload_n 0, 1) := by decide +kernel
theorem dX5_appeal_7 : decode cX5_appeal 7 = .ok (.iload_n 2, 1) := by decide +kernel
theorem dX5_appeal_8 : decode cX5_appeal 8 = .ok (.invokevirtual 160, 3) := by decide +kernel
theorem dX5_appeal_11 : decode cX5_appeal 11 = .ok (.aload_n 3, 1) := by decide +kernel
theorem dX5_appeal_12 : decode cX5_appeal 12 = .ok (.iload_n 2, 1) := by decide +kernel
theorem dX5_appeal_13 : decode cX5_appeal 13 = .ok (.invokevirtual 173, 3) := by decide +kernel
theorem dX5_appeal_16 : decode cX5_appeal 16 = .ok (.istore 4, 2) := by decide +kernel
theorem dX5_appeal_18 : decode cX5_appeal 18 = .ok (.iload 4, 2) := by decide +kernel
theorem dX5_appeal_20 : decode cX5_appeal 20 = .ok (.iconst (-1), 1) := by decide +kernel
theorem dX5_appeal_21 : decode cX5_appeal 21 = .ok (.if_icmp .eq 7, 3) := by decide +kernel
theorem dX5_appeal_24 : decode cX5_appeal 24 = .ok (.iconst 1, 1) := by decide +kernel
theorem dX5_appeal_25 : decode cX5_appeal 25 = .ok (.goto 4, 3) := by decide +kernel
theorem dX5_appeal_28 : decode cX5_appeal 28 = .ok (.iconst 0, 1) := by decide +kernel
theorem dX5_appeal_29 : decode cX5_appeal 29 = .ok (.invokestatic 67, 3) := by decide +kernel
theorem dX5_appeal_32 : decode cX5_appeal 32 = .ok (.iload 4, 2) := by decide +kernel
theorem dX5_appeal_34 : decode cX5_appeal 34 = .ok (.aload_n 0, 1) := by decide +kernel
theorem dX5_appeal_35 : decode cX5_appeal 35 = .ok (.aload_n 3, 1) := by decide +kernel
theorem dX5_appeal_36 : decode cX5_appeal 36 = .ok (.iload_n 2, 1) := by decide +kernel
theorem dX5_appeal_37 : decode cX5_appeal 37 = .ok (.invokevirtual 163, 3) := by decide +kernel
theorem dX5_appeal_40 : decode cX5_appeal 40 = .ok (.if_icmp .ne 15, 3) := by decide +kernel
theorem dX5_appeal_43 : decode cX5_appeal 43 = .ok (.aload_n 3, 1) := by decide +kernel
theorem dX5_appeal_44 : decode cX5_appeal 44 = .ok (.dup, 1) := by decide +kernel
theorem dX5_appeal_45 : decode cX5_appeal 45 = .ok (.getfield 176, 3) := by decide +kernel
theorem dX5_appeal_48 : decode cX5_appeal 48 = .ok (.iconst 1, 1) := by decide +kernel
theorem dX5_appeal_49 : decode cX5_appeal 49 = .ok (.iadd, 1) := by decide +kernel
theorem dX5_appeal_50 : decode cX5_appeal 50 = .ok (.putfield 176, 3) := by decide +kernel
theorem dX5_appeal_53 : decode cX5_appeal 53 = .ok (.iconst 0, 1) := by decide +kernel
theorem dX5_appeal_54 : decode cX5_appeal 54 = .ok (.ireturn, 1) := by decide +kernel
theorem dX5_appeal_55 : decode cX5_appeal 55 = .ok (.aload_n 3, 1) := by decide +kernel
theorem dX5_appeal_56 : decode cX5_appeal 56 = .ok (.iload_n 2, 1) := by decide +kernel
theorem dX5_appeal_57 : decode cX5_appeal 57 = .ok (.iconst (-1), 1) := by decide +kernel
theorem dX5_appeal_58 : decode cX5_appeal 58 = .ok (.invokevirtual 170, 3) := by decide +kernel
theorem dX5_appeal_61 : decode cX5_appeal 61 = .ok (.iconst 1, 1) := by decide +kernel
theorem dX5_appeal_62 : decode cX5_appeal 62 = .ok (.ireturn, 1) := by decide +kernel
theorem dX5_gates_0 : decode cX5_gates 0 = .ok (.aload_n 0, 1) := by decide +kernel
theorem dX5_gates_1 : decode cX5_gates 1 = .ok (.getfield 28, 3) := by decide +kernel
theorem dX5_gates_4 : decode cX5_gates 4 = .ok (.ireturn, 1) := by decide +kernel
theorem dX5_cellOf_0 : decode cX5_cellOf 0 = .ok (.aload_n 0, 1) := by decide +kernel
theorem dX5_cellOf_1 : decode cX5_cellOf 1 = .ok (.iload_n 1, 1) := by decide +kernel
theorem dX5_cellOf_2 : decode cX5_cellOf 2 = .ok (.invokevirtual 179, 3) := by decide +kernel
theorem dX5_cellOf_5 : decode cX5_cellOf 5 = .ok (.getfield 183, 3) := by decide +kernel
theorem dX5_cellOf_8 : decode cX5_cellOf 8 = .ok (.ireturn, 1) := by decide +kernel
theorem dX5_due_0 : decode cX5_due 0 = .ok (.aload_n 0, 1) := by decide +kernel
theorem dX5_due_1 : decode cX5_due 1 = .ok (.iload_n 1, 1) := by decide +kernel
theorem dX5_due_2 : decode cX5_due 2 = .ok (.invokevirtual 179, 3) := by decide +kernel
theorem dX5_due_5 : decode cX5_due 5 = .ok (.getfield 184, 3) := by decide +kernel
theorem dX5_due_8 : decode cX5_due 8 = .ok (.ireturn, 1) := by decide +kernel
theorem dX5_followed_0 : decode cX5_followed 0 = .ok (.aload_n 0, 1) := by decide +kernel
theorem dX5_followed_1 : decode cX5_followed 1 = .ok (.iload_n 1, 1) := by decide +kernel
theorem dX5_followed_2 : decode cX5_followed 2 = .ok (.invokevirtual 109, 3) := by decide +kernel
theorem dX5_followed_5 : decode cX5_followed 5 = .ok (.getfield 116, 3) := by decide +kernel
theorem dX5_followed_8 : decode cX5_followed 8 = .ok (.aload_n 0, 1) := by decide +kernel
theorem dX5_followed_9 : decode cX5_followed 9 = .ok (.getfield 18, 3) := by decide +kernel
theorem dX5_followed_12 : decode cX5_followed 12 = .ok (.invokevirtual 187, 3) := by decide +kernel
theorem dX5_followed_15 : decode cX5_followed 15 = .ok (.ireturn, 1) := by decide +kernel
theorem dX5_cellAt_0 : decode cX5_cellAt 0 = .ok (.aload_n 0, 1) := by decide +kernel
theorem dX5_cellAt_1 : decode cX5_cellAt 1 = .ok (.iload_n 1, 1) := by decide +kernel
theorem dX5_cellAt_2 : decode cX5_cellAt 2 = .ok (.invokevirtual 109, 3) := by decide +kernel
theorem dX5_cellAt_5 : decode cX5_cellAt 5 = .ok (.getfield 116, 3) := by decide +kernel
theorem dX5_cellAt_8 : decode cX5_cellAt 8 = .ok (.astore_n 3, 1) := by decide +kernel
theorem dX5_cellAt_9 : decode cX5_cellAt 9 = .ok (.iload_n 2, 1) := by decide +kernel
theorem dX5_cellAt_10 : decode cX5_cellAt 10 = .ok (.iconst 0, 1) := by decide +kernel
theorem dX5_cellAt_11 : decode cX5_cellAt 11 = .ok (.aload_n 3, 1) := by decide +kernel
theorem dX5_cellAt_12 : decode cX5_cellAt 12 = .ok (.getfield 119, 3) := by decide +kernel
theorem dX5_cellAt_15 : decode cX5_cellAt 15 = .ok (.invokestatic 56, 3) := by decide +kernel
theorem dX5_cellAt_18 : decode cX5_cellAt 18 = .ok (.invokestatic 60, 3) := by decide +kernel
theorem dX5_cellAt_21 : decode cX5_cellAt 21 = .ok (.aload_n 3, 1) := by decide +kernel
theorem dX5_cellAt_22 : decode cX5_cellAt 22 = .ok (.iload_n 2, 1) := by decide +kernel
theorem dX5_cellAt_23 : decode cX5_cellAt 23 = .ok (.aload_n 3, 1) := by decide +kernel
theorem dX5_cellAt_24 : decode cX5_cellAt 24 = .ok (.iload_n 2, 1) := by decide +kernel
theorem dX5_cellAt_25 : decode cX5_cellAt 25 = .ok (.iconst 0, 1) := by decide +kernel
theorem dX5_cellAt_26 : decode cX5_cellAt 26 = .ok (.invokevirtual 191, 3) := by decide +kernel
theorem dX5_cellAt_29 : decode cX5_cellAt 29 = .ok (.invokevirtual 194, 3) := by decide +kernel
theorem dX5_cellAt_32 : decode cX5_cellAt 32 = .ok (.ireturn, 1) := by decide +kernel
theorem dX5_clock_0 : decode cX5_clock 0 = .ok (.aload_n 0, 1) := by decide +kernel
theorem dX5_clock_1 : decode cX5_clock 1 = .ok (.iload_n 1, 1) := by decide +kernel
theorem dX5_clock_2 : decode cX5_clock 2 = .ok (.invokevirtual 109, 3) := by decide +kernel
theorem dX5_clock_5 : decode cX5_clock 5 = .ok (.getfield 116, 3) := by decide +kernel
theorem dX5_clock_8 : decode cX5_clock 8 = .ok (.getfield 119, 3) := by decide +kernel
theorem dX5_clock_11 : decode cX5_clock 11 = .ok (.ireturn, 1) := by decide +kernel
theorem dX5_byTrack_0 : decode cX5_byTrack 0 = .ok (.aload_n 0, 1) := by decide +kernel
theorem dX5_byTrack_1 : decode cX5_byTrack 1 = .ok (.iload_n 1, 1) := by decide +kernel
theorem dX5_byTrack_2 : decode cX5_byTrack 2 = .ok (.invokevirtual 109, 3) := by decide +kernel
theorem dX5_byTrack_5 : decode cX5_byTrack 5 = .ok (.astore_n 3, 1) := by decide +kernel
theorem dX5_byTrack_6 : decode cX5_byTrack 6 = .ok (.aload_n 0, 1) := by decide +kernel
theorem dX5_byTrack_7 : decode cX5_byTrack 7 = .ok (.iload_n 2, 1) := by decide +kernel
theorem dX5_byTrack_8 : decode cX5_byTrack 8 = .ok (.invokevirtual 160, 3) := by decide +kernel
theorem dX5_byTrack_11 : decode cX5_byTrack 11 = .ok (.aload_n 0, 1) := by decide +kernel
theorem dX5_byTrack_12 : decode cX5_byTrack 12 = .ok (.aload_n 3, 1) := by decide +kernel
theorem dX5_byTrack_13 : decode cX5_byTrack 13 = .ok (.iload_n 2, 1) := by decide +kernel
theorem dX5_byTrack_14 : decode cX5_byTrack 14 = .ok (.invokevirtual 163, 3) := by decide +kernel
theorem dX5_byTrack_17 : decode cX5_byTrack 17 = .ok (.ireturn, 1) := by decide +kernel
theorem dX5_byMinutes_0 : decode cX5_byMinutes 0 = .ok (.aload_n 0, 1) := by decide +kernel
theorem dX5_byMinutes_1 : decode cX5_byMinutes 1 = .ok (.iload_n 1, 1) := by decide +kernel
theorem dX5_byMinutes_2 : decode cX5_byMinutes 2 = .ok (.invokevirtual 109, 3) := by decide +kernel
theorem dX5_byMinutes_5 : decode cX5_byMinutes 5 = .ok (.getfield 116, 3) := by decide +kernel
theorem dX5_byMinutes_8 : decode cX5_byMinutes 8 = .ok (.astore_n 3, 1) := by decide +kernel
theorem dX5_byMinutes_9 : decode cX5_byMinutes 9 = .ok (.aload_n 0, 1) := by decide +kernel
theorem dX5_byMinutes_10 : decode cX5_byMinutes 10 = .ok (.iload_n 2, 1) := by decide +kernel
theorem dX5_byMinutes_11 : decode cX5_byMinutes 11 = .ok (.invokevirtual 160, 3) := by decide +kernel
theorem dX5_byMinutes_14 : decode cX5_byMinutes 14 = .ok (.iconst 0, 1) := by decide +kernel
theorem dX5_byMinutes_15 : decode cX5_byMinutes 15 = .ok (.istore 4, 2) := by decide +kernel
theorem dX5_byMinutes_17 : decode cX5_byMinutes 17 = .ok (.iconst (-1), 1) := by decide +kernel
theorem dX5_byMinutes_18 : decode cX5_byMinutes 18 = .ok (.istore 5, 2) := by decide +kernel
theorem dX5_byMinutes_20 : decode cX5_byMinutes 20 = .ok (.iconst 0, 1) := by decide +kernel
theorem dX5_byMinutes_21 : decode cX5_byMinutes 21 = .ok (.istore 6, 2) := by decide +kernel
theorem dX5_byMinutes_23 : decode cX5_byMinutes 23 = .ok (.iload 6, 2) := by decide +kernel
theorem dX5_byMinutes_25 : decode cX5_byMinutes 25 = .ok (.iload_n 2, 1) := by decide +kernel
theorem dX5_byMinutes_26 : decode cX5_byMinutes 26 = .ok (.if_icmp .gt 35, 3) := by decide +kernel
theorem dX5_byMinutes_29 : decode cX5_byMinutes 29 = .ok (.aload_n 3, 1) := by decide +kernel
theorem dX5_byMinutes_30 : decode cX5_byMinutes 30 = .ok (.aload_n 0, 1) := by decide +kernel
theorem dX5_byMinutes_31 : decode cX5_byMinutes 31 = .ok (.iload 6, 2) := by decide +kernel
theorem dX5_byMinutes_33 : decode cX5_byMinutes 33 = .ok (.invokevirtual 179, 3) := by decide +kernel
theorem dX5_byMinutes_36 : decode cX5_byMinutes 36 = .ok (.getfield 183, 3) := by decide +kernel
theorem dX5_byMinutes_39 : decode cX5_byMinutes 39 = .ok (.iload 4, 2) := by decide +kernel
theorem dX5_byMinutes_41 : decode cX5_byMinutes 41 = .ok (.invokevirtual 197, 3) := by decide +kernel
theorem dX5_byMinutes_44 : decode cX5_byMinutes 44 = .ok (.istore 5, 2) := by decide +kernel
theorem dX5_byMinutes_46 : decode cX5_byMinutes 46 = .ok (.iload 4, 2) := by decide +kernel
theorem dX5_byMinutes_48 : decode cX5_byMinutes 48 = .ok (.iload 5, 2) := by decide +kernel
theorem dX5_byMinutes_50 : decode cX5_byMinutes 50 = .ok (.invokestatic 200, 3) := by decide +kernel
theorem dX5_byMinutes_53 : decode cX5_byMinutes 53 = .ok (.istore 4, 2) := by decide +kernel
theorem dX5_byMinutes_55 : decode cX5_byMinutes 55 = .ok (.iinc 6 1, 3) := by decide +kernel
theorem dX5_byMinutes_58 : decode cX5_byMinutes 58 = .ok (.goto (-35), 3) := by decide +kernel
theorem dX5_byMinutes_61 : decode cX5_byMinutes 61 = .ok (.iload 5, 2) := by decide +kernel
theorem dX5_byMinutes_63 : decode cX5_byMinutes 63 = .ok (.ireturn, 1) := by decide +kernel
theorem dX5_time_0 : decode cX5_time 0 = .ok (.aload_n 0, 1) := by decide +kernel
theorem dX5_time_1 : decode cX5_time 1 = .ok (.iload_n 1, 1) := by decide +kernel
theorem dX5_time_2 : decode cX5_time 2 = .ok (.invokevirtual 109, 3) := by decide +kernel
theorem dX5_time_5 : decode cX5_time 5 = .ok (.astore_n 3, 1) := by decide +kernel
theorem dX5_time_6 : decode cX5_time 6 = .ok (.aload_n 0, 1) := by decide +kernel
theorem dX5_time_7 : decode cX5_time 7 = .ok (.iload_n 2, 1) := by decide +kernel
theorem dX5_time_8 : decode cX5_time 8 = .ok (.invokevirtual 160, 3) := by decide +kernel
theorem dX5_time_11 : decode cX5_time 11 = .ok (.aload_n 3, 1) := by decide +kernel
theorem dX5_time_12 : decode cX5_time 12 = .ok (.iload_n 2, 1) := by decide +kernel
theorem dX5_time_13 : decode cX5_time 13 = .ok (.aload_n 0, 1) := by decide +kernel
theorem dX5_time_14 : decode cX5_time 14 = .ok (.aload_n 3, 1) := by decide +kernel
theorem dX5_time_15 : decode cX5_time 15 = .ok (.iload_n 2, 1) := by decide +kernel
theorem dX5_time_16 : decode cX5_time 16 = .ok (.invokevirtual 163, 3) := by decide +kernel
theorem dX5_time_19 : decode cX5_time 19 = .ok (.invokevirtual 167, 3) := by decide +kernel
theorem dX5_time_22 : decode cX5_time 22 = .ok (.ireturn, 1) := by decide +kernel
theorem dX5_points_0 : decode cX5_points 0 = .ok (.aload_n 0, 1) := by decide +kernel
theorem dX5_points_1 : decode cX5_points 1 = .ok (.aload_n 0, 1) := by decide +kernel
theorem dX5_points_2 : decode cX5_points 2 = .ok (.iload_n 1, 1) := by decide +kernel
theorem dX5_points_3 : decode cX5_points 3 = .ok (.invokevirtual 109, 3) := by decide +kernel
theorem dX5_points_6 : decode cX5_points 6 = .ok (.invokevirtual 205, 3) := by decide +kernel
theorem dX5_points_9 : decode cX5_points 9 = .ok (.ireturn, 1) := by decide +kernel
theorem dX5_table_0 : decode cX5_table 0 = .ok (.iload_n 1, 1) := by decide +kernel
theorem dX5_table_1 : decode cX5_table 1 = .ok (.iconst 0, 1) := by decide +kernel
theorem dX5_table_2 : decode cX5_table 2 = .ok (.aload_n 0, 1) := by decide +kernel
theorem dX5_table_3 : decode cX5_table 3 = .ok (.getfield 40, 3) := by decide +kernel
theorem dX5_table_6 : decode cX5_table 6 = .ok (.iconst 1, 1) := by decide +kernel
theorem dX5_table_7 : decode cX5_table 7 = .ok (.isub, 1) := by decide +kernel
theorem dX5_table_8 : decode cX5_table 8 = .ok (.invokestatic 56, 3) := by decide +kernel
theorem dX5_table_11 : decode cX5_table 11 = .ok (.invokestatic 125, 3) := by decide +kernel
theorem dX5_table_14 : decode cX5_table 14 = .ok (.iconst 0, 1) := by decide +kernel
theorem dX5_table_15 : decode cX5_table 15 = .ok (.istore_n 2, 1) := by decide +kernel
theorem dX5_table_16 : decode cX5_table 16 = .ok (.iload_n 2, 1) := by decide +kernel
theorem dX5_table_17 : decode cX5_table 17 = .ok (.aload_n 0, 1) := by decide +kernel
theorem dX5_table_18 : decode cX5_table 18 = .ok (.getfield 40, 3) := by decide +kernel
theorem dX5_table_21 : decode cX5_table 21 = .ok (.if_icmp .ge 24, 3) := by decide +kernel
theorem dX5_table_24 : decode cX5_table 24 = .ok (.aload_n 0, 1) := by decide +kernel
theorem dX5_table_25 : decode cX5_table 25 = .ok (.getfield 52, 3) := by decide +kernel
theorem dX5_table_28 : decode cX5_table 28 = .ok (.iload_n 2, 1) := by decide +kernel
theorem dX5_table_29 : decode cX5_table 29 = .ok (.aload_n 0, 1) := by decide +kernel
theorem dX5_table_30 : decode cX5_table 30 = .ok (.aload_n 0, 1) := by decide +kernel
theorem dX5_table_31 : decode cX5_table 31 = .ok (.iload_n 2, 1) := by decide +kernel
theorem dX5_table_32 : decode cX5_table 32 = .ok (.invokevirtual 109, 3) := by decide +kernel
theorem dX5_table_35 : decode cX5_table 35 = .ok (.invokevirtual 205, 3) := by decide +kernel
theorem dX5_table_38 : decode cX5_table 38 = .ok (.iastore, 1) := by decide +kernel
theorem dX5_table_39 : decode cX5_table 39 = .ok (.iinc 2 1, 3) := by decide +kernel
theorem dX5_table_42 : decode cX5_table 42 = .ok (.goto (-26), 3) := by decide +kernel
theorem dX5_table_45 : decode cX5_table 45 = .ok (.iconst 0, 1) := by decide +kernel
theorem dX5_table_46 : decode cX5_table 46 = .ok (.istore_n 2, 1) := by decide +kernel
theorem dX5_table_47 : decode cX5_table 47 = .ok (.iload_n 2, 1) := by decide +kernel
theorem dX5_table_48 : decode cX5_table 48 = .ok (.aload_n 0, 1) := by decide +kernel
theorem dX5_table_49 : decode cX5_table 49 = .ok (.getfield 40, 3) := by decide +kernel
theorem dX5_table_52 : decode cX5_table 52 = .ok (.iconst 1, 1) := by decide +kernel
theorem dX5_table_53 : decode cX5_table 53 = .ok (.isub, 1) := by decide +kernel
theorem dX5_table_54 : decode cX5_table 54 = .ok (.if_icmp .ge 18, 3) := by decide +kernel
theorem dX5_table_57 : decode cX5_table 57 = .ok (.aload_n 0, 1) := by decide +kernel
theorem dX5_table_58 : decode cX5_table 58 = .ok (.iload_n 2, 1) := by decide +kernel
theorem dX5_table_59 : decode cX5_table 59 = .ok (.invokevirtual 209, 3) := by decide +kernel
theorem dX5_table_62 : decode cX5_table 62 = .ok (.iload_n 1, 1) := by decide +kernel
theorem dX5_table_63 : decode cX5_table 63 = .ok (.if_icmp .eq 9, 3) := by decide +kernel
theorem dX5_table_66 : decode cX5_table 66 = .ok (.iinc 2 1, 3) := by decide +kernel
theorem dX5_table_69 : decode cX5_table 69 = .ok (.goto (-22), 3) := by decide +kernel
theorem dX5_table_72 : decode cX5_table 72 = .ok (.iload_n 2, 1) := by decide +kernel
theorem dX5_table_73 : decode cX5_table 73 = .ok (.ireturn, 1) := by decide +kernel
theorem dX5_where_0 : decode cX5_where 0 = .ok (.aload_n 0, 1) := by decide +kernel
theorem dX5_where_1 : decode cX5_where 1 = .ok (.iload_n 1, 1) := by decide +kernel
theorem dX5_where_2 : decode cX5_where 2 = .ok (.invokevirtual 142, 3) := by decide +kernel
theorem dX5_where_5 : decode cX5_where 5 = .ok (.getfield 153, 3) := by decide +kernel
theorem dX5_where_8 : decode cX5_where 8 = .ok (.ireturn, 1) := by decide +kernel
theorem dX5_lent_0 : decode cX5_lent 0 = .ok (.aload_n 0, 1) := by decide +kernel
theorem dX5_lent_1 : decode cX5_lent 1 = .ok (.iload_n 1, 1) := by decide +kernel
theorem dX5_lent_2 : decode cX5_lent 2 = .ok (.invokevirtual 212, 3) := by decide +kernel
theorem dX5_lent_5 : decode cX5_lent 5 = .ok (.invokestatic 125, 3) := by decide +kernel
theorem dX5_lent_8 : decode cX5_lent 8 = .ok (.iconst 0, 1) := by decide +kernel
theorem dX5_lent_9 : decode cX5_lent 9 = .ok (.istore_n 2, 1) := by decide +kernel
theorem dX5_lent_10 : decode cX5_lent 10 = .ok (.iconst 0, 1) := by decide +kernel
theorem dX5_lent_11 : decode cX5_lent 11 = .ok (.istore_n 3, 1) := by decide +kernel
theorem dX5_lent_12 : decode cX5_lent 12 = .ok (.iload_n 3, 1) := by decide +kernel
theorem dX5_lent_13 : decode cX5_lent 13 = .ok (.aload_n 0, 1) := by decide +kernel
theorem dX5_lent_14 : decode cX5_lent 14 = .ok (.getfield 49, 3) := by decide +kernel
theorem dX5_lent_17 : decode cX5_lent 17 = .ok (.if_icmp .ge 24, 3) := by decide +kernel
theorem dX5_lent_20 : decode cX5_lent 20 = .ok (.aload_n 0, 1) := by decide +kernel
theorem dX5_lent_21 : decode cX5_lent 21 = .ok (.iload_n 3, 1) := by decide +kernel
theorem dX5_lent_22 : decode cX5_lent 22 = .ok (.invokevirtual 142, 3) := by decide +kernel
theorem dX5_lent_25 : decode cX5_lent 25 = .ok (.iload_n 1, 1) := by decide +kernel
theorem dX5_lent_26 : decode cX5_lent 26 = .ok (.invokevirtual 215, 3) := by decide +kernel
theorem dX5_lent_29 : decode cX5_lent 29 = .ok (.ifCond .eq 6, 3) := by decide +kernel
theorem dX5_lent_32 : decode cX5_lent 32 = .ok (.iinc 2 1, 3) := by decide +kernel
theorem dX5_lent_35 : decode cX5_lent 35 = .ok (.iinc 3 1, 3) := by decide +kernel
theorem dX5_lent_38 : decode cX5_lent 38 = .ok (.goto (-26), 3) := by decide +kernel
theorem dX5_lent_41 : decode cX5_lent 41 = .ok (.iload_n 2, 1) := by decide +kernel
theorem dX5_lent_42 : decode cX5_lent 42 = .ok (.ireturn, 1) := by decide +kernel
theorem dX5_isBroken_0 : decode cX5_isBroken 0 = .ok (.aload_n 0, 1) := by decide +kernel
theorem dX5_isBroken_1 : decode cX5_isBroken 1 = .ok (.iload_n 1, 1) := by decide +kernel
theorem dX5_isBroken_2 : decode cX5_isBroken 2 = .ok (.invokevirtual 109, 3) := by decide +kernel
theorem dX5_isBroken_5 : decode cX5_isBroken 5 = .ok (.invokevirtual 113, 3) := by decide +kernel
theorem dX5_isBroken_8 : decode cX5_isBroken 8 = .ok (.ireturn, 1) := by decide +kernel
theorem dX5_isWithin_0 : decode cX5_isWithin 0 = .ok (.iload_n 0, 1) := by decide +kernel
theorem dX5_isWithin_1 : decode cX5_isWithin 1 = .ok (.iload_n 1, 1) := by decide +kernel
theorem dX5_isWithin_2 : decode cX5_isWithin 2 = .ok (.if_icmp .lt 12, 3) := by decide +kernel
theorem dX5_isWithin_5 : decode cX5_isWithin 5 = .ok (.iload_n 0, 1) := by decide +kernel
theorem dX5_isWithin_6 : decode cX5_isWithin 6 = .ok (.iload_n 2, 1) := by decide +kernel
theorem dX5_isWithin_7 : decode cX5_isWithin 7 = .ok (.if_icmp .gt 7, 3) := by decide +kernel
theorem dX5_isWithin_10 : decode cX5_isWithin 10 = .ok (.iconst 1, 1) := by decide +kernel
theorem dX5_isWithin_11 : decode cX5_isWithin 11 = .ok (.goto 4, 3) := by decide +kernel
theorem dX5_isWithin_14 : decode cX5_isWithin 14 = .ok (.iconst 0, 1) := by decide +kernel
theorem dX5_isWithin_15 : decode cX5_isWithin 15 = .ok (.ireturn, 1) := by decide +kernel
theorem dX5_checkIndex_0 : decode cX5_checkIndex 0 = .ok (.iload_n 0, 1) := by decide +kernel
theorem dX5_checkIndex_1 : decode cX5_checkIndex 1 = .ok (.ifCond .ne 13, 3) := by decide +kernel
theorem dX5_checkIndex_4 : decode cX5_checkIndex 4 = .ok (.new 218, 3) := by decide +kernel
theorem dX5_checkIndex_7 : decode cX5_checkIndex 7 = .ok (.dup, 1) := by decide +kernel
theorem dX5_checkIndex_8 : decode cX5_checkIndex 8 = .ok (.ldc 220, 2) := by decide +kernel
theorem dX5_checkIndex_10 : decode cX5_checkIndex 10 = .ok (.invokespecial 222, 3) := by decide +kernel
theorem dX5_checkIndex_13 : decode cX5_checkIndex 13 = .ok (.athrow, 1) := by decide +kernel
theorem dX5_checkIndex_14 : decode cX5_checkIndex 14 = .ok (.return_, 1) := by decide +kernel
theorem dX5_checkArgument_0 : decode cX5_checkArgument 0 = .ok (.iload_n 0, 1) := by decide +kernel
theorem dX5_checkArgument_1 : decode cX5_checkArgument 1 = .ok (.ifCond .ne 13, 3) := by decide +kernel
theorem dX5_checkArgument_4 : decode cX5_checkArgument 4 = .ok (.new 223, 3) := by decide +kernel
theorem dX5_checkArgument_7 : decode cX5_checkArgument 7 = .ok (.dup, 1) := by decide +kernel
theorem dX5_checkArgument_8 : decode cX5_checkArgument 8 = .ok (.ldc 225, 2) := by decide +kernel
theorem dX5_checkArgument_10 : decode cX5_checkArgument 10 = .ok (.invokespecial 227, 3) := by decide +kernel
theorem dX5_checkArgument_13 : decode cX5_checkArgument 13 = .ok (.athrow, 1) := by decide +kernel
theorem dX5_checkArgument_14 : decode cX5_checkArgument 14 = .ok (.return_, 1) := by decide +kernel
theorem dX5_checkState_0 : decode cX5_checkState 0 = .ok (.iload_n 0, 1) := by decide +kernel
theorem dX5_checkState_1 : decode cX5_checkState 1 = .ok (.ifCond .ne 13, 3) := by decide +kernel
theorem dX5_checkState_4 : decode cX5_checkState 4 = .ok (.new 228, 3) := by decide +kernel
theorem dX5_checkState_7 : decode cX5_checkState 7 = .ok (.dup, 1) := by decide +kernel
theorem dX5_checkState_8 : decode cX5_checkState 8 = .ok (.ldc 230, 2) := by decide +kernel
theorem dX5_checkState_10 : decode cX5_checkState 10 = .ok (.invokespecial 232, 3) := by decide +kernel
theorem dX5_checkState_13 : decode cX5_checkState 13 = .ok (.athrow, 1) := by decide +kernel
theorem dX5_checkState_14 : decode cX5_checkState 14 = .ok (.return_, 1) := by decide +kernel
theorem dX5_isCar_0 : decode cX5_isCar 0 = .ok (.iload_n 1, 1) := by decide +kernel
theorem dX5_isCar_1 : decode cX5_isCar 1 = .ok (.iconst 0, 1) := by decide +kernel
theorem dX5_isCar_2 : decode cX5_isCar 2 = .ok (.aload_n 0, 1) := by decide +kernel
theorem dX5_isCar_3 : decode cX5_isCar 3 = .ok (.getfield 40, 3) := by decide +kernel
theorem dX5_isCar_6 : decode cX5_isCar 6 = .ok (.iconst 1, 1) := by decide +kernel
theorem dX5_isCar_7 : decode cX5_isCar 7 = .ok (.isub, 1) := by decide +kernel
theorem dX5_isCar_8 : decode cX5_isCar 8 = .ok (.invokestatic 56, 3) := by decide +kernel
theorem dX5_isCar_11 : decode cX5_isCar 11 = .ok (.ireturn, 1) := by decide +kernel
theorem dX5_isPlace_0 : decode cX5_isPlace 0 = .ok (.iload_n 1, 1) := by decide +kernel
theorem dX5_isPlace_1 : decode cX5_isPlace 1 = .ok (.iconst (-1), 1) := by decide +kernel
theorem dX5_isPlace_2 : decode cX5_isPlace 2 = .ok (.if_icmp .eq 11, 3) := by decide +kernel
theorem dX5_isPlace_5 : decode cX5_isPlace 5 = .ok (.aload_n 0, 1) := by decide +kernel
theorem dX5_isPlace_6 : decode cX5_isPlace 6 = .ok (.iload_n 1, 1) := by decide +kernel
theorem dX5_isPlace_7 : decode cX5_isPlace 7 = .ok (.invokevirtual 212, 3) := by decide +kernel
theorem dX5_isPlace_10 : decode cX5_isPlace 10 = .ok (.ifCond .eq 7, 3) := by decide +kernel
theorem dX5_isPlace_13 : decode cX5_isPlace 13 = .ok (.iconst 1, 1) := by decide +kernel
theorem dX5_isPlace_14 : decode cX5_isPlace 14 = .ok (.goto 4, 3) := by decide +kernel
theorem dX5_isPlace_17 : decode cX5_isPlace 17 = .ok (.iconst 0, 1) := by decide +kernel
theorem dX5_isPlace_18 : decode cX5_isPlace 18 = .ok (.ireturn, 1) := by decide +kernel
theorem dX5_checkGate_0 : decode cX5_checkGate 0 = .ok (.iload_n 1, 1) := by decide +kernel
theorem dX5_checkGate_1 : decode cX5_checkGate 1 = .ok (.iconst 0, 1) := by decide +kernel
theorem dX5_checkGate_2 : decode cX5_checkGate 2 = .ok (.aload_n 0, 1) := by decide +kernel
theorem dX5_checkGate_3 : decode cX5_checkGate 3 = .ok (.getfield 28, 3) := by decide +kernel
theorem dX5_checkGate_6 : decode cX5_checkGate 6 = .ok (.iconst 1, 1) := by decide +kernel
theorem dX5_checkGate_7 : decode cX5_checkGate 7 = .ok (.isub, 1) := by decide +kernel
theorem dX5_checkGate_8 : decode cX5_checkGate 8 = .ok (.invokestatic 56, 3) := by decide +kernel
theorem dX5_checkGate_11 : decode cX5_checkGate 11 = .ok (.invokestatic 125, 3) := by decide +kernel
theorem dX5_checkGate_14 : decode cX5_checkGate 14 = .ok (.return_, 1) := by decide +kernel
theorem dX5_entryAt_0 : decode cX5_entryAt 0 = .ok (.aload_n 0, 1) := by decide +kernel
theorem dX5_entryAt_1 : decode cX5_entryAt 1 = .ok (.getfield 18, 3) := by decide +kernel
theorem dX5_entryAt_4 : decode cX5_entryAt 4 = .ok (.iload_n 1, 1) := by decide +kernel
theorem dX5_entryAt_5 : decode cX5_entryAt 5 = .ok (.invokevirtual 233, 3) := by decide +kernel
theorem dX5_entryAt_8 : decode cX5_entryAt 8 = .ok (.astore_n 2, 1) := by decide +kernel
theorem dX5_entryAt_9 : decode cX5_entryAt 9 = .ok (.aload_n 2, 1) := by decide +kernel
theorem dX5_entryAt_10 : decode cX5_entryAt 10 = .ok (.ifnonnull 13, 3) := by decide +kernel
theorem dX5_entryAt_13 : decode cX5_entryAt 13 = .ok (.new 218, 3) := by decide +kernel
theorem dX5_entryAt_16 : decode cX5_entryAt 16 = .ok (.dup, 1) := by decide +kernel
theorem dX5_entryAt_17 : decode cX5_entryAt 17 = .ok (.ldc 236, 2) := by decide +kernel
theorem dX5_entryAt_19 : decode cX5_entryAt 19 = .ok (.invokespecial 222, 3) := by decide +kernel
theorem dX5_entryAt_22 : decode cX5_entryAt 22 = .ok (.athrow, 1) := by decide +kernel
theorem dX5_entryAt_23 : decode cX5_entryAt 23 = .ok (.aload_n 2, 1) := by decide +kernel
theorem dX5_entryAt_24 : decode cX5_entryAt 24 = .ok (.areturn, 1) := by decide +kernel
theorem dX5_gateAt_0 : decode cX5_gateAt 0 = .ok (.iload_n 1, 1) := by decide +kernel
theorem dX5_gateAt_1 : decode cX5_gateAt 1 = .ok (.iconst 0, 1) := by decide +kernel
theorem dX5_gateAt_2 : decode cX5_gateAt 2 = .ok (.aload_n 0, 1) := by decide +kernel
theorem dX5_gateAt_3 : decode cX5_gateAt 3 = .ok (.getfield 28, 3) := by decide +kernel
theorem dX5_gateAt_6 : decode cX5_gateAt 6 = .ok (.iconst 1, 1) := by decide +kernel
theorem dX5_gateAt_7 : decode cX5_gateAt 7 = .ok (.isub, 1) := by decide +kernel
theorem dX5_gateAt_8 : decode cX5_gateAt 8 = .ok (.invokestatic 56, 3) := by decide +kernel
theorem dX5_gateAt_11 : decode cX5_gateAt 11 = .ok (.ifCond .eq 12, 3) := by decide +kernel
theorem dX5_gateAt_14 : decode cX5_gateAt 14 = .ok (.aload_n 0, 1) := by decide +kernel
theorem dX5_gateAt_15 : decode cX5_gateAt 15 = .ok (.getfield 24, 3) := by decide +kernel
theorem dX5_gateAt_18 : decode cX5_gateAt 18 = .ok (.iload_n 1, 1) := by decide +kernel
theorem dX5_gateAt_19 : decode cX5_gateAt 19 = .ok (.aaload, 1) := by decide +kernel
theorem dX5_gateAt_20 : decode cX5_gateAt 20 = .ok (.goto 4, 3) := by decide +kernel
theorem dX5_gateAt_23 : decode cX5_gateAt 23 = .ok (.aconst_null, 1) := by decide +kernel
theorem dX5_gateAt_24 : decode cX5_gateAt 24 = .ok (.astore_n 2, 1) := by decide +kernel
theorem dX5_gateAt_25 : decode cX5_gateAt 25 = .ok (.aload_n 2, 1) := by decide +kernel
theorem dX5_gateAt_26 : decode cX5_gateAt 26 = .ok (.ifnonnull 13, 3) := by decide +kernel
theorem dX5_gateAt_29 : decode cX5_gateAt 29 = .ok (.new 218, 3) := by decide +kernel
theorem dX5_gateAt_32 : decode cX5_gateAt 32 = .ok (.dup, 1) := by decide +kernel
theorem dX5_gateAt_33 : decode cX5_gateAt 33 = .ok (.ldc 238, 2) := by decide +kernel
theorem dX5_gateAt_35 : decode cX5_gateAt 35 = .ok (.invokespecial 222, 3) := by decide +kernel
theorem dX5_gateAt_38 : decode cX5_gateAt 38 = .ok (.athrow, 1) := by decide +kernel
theorem dX5_gateAt_39 : decode cX5_gateAt 39 = .ok (.aload_n 2, 1) := by decide +kernel
theorem dX5_gateAt_40 : decode cX5_gateAt 40 = .ok (.areturn, 1) := by decide +kernel
theorem dX5_carAt_0 : decode cX5_carAt 0 = .ok (.aload_n 0, 1) := by decide +kernel
theorem dX5_carAt_1 : decode cX5_carAt 1 = .ok (.iload_n 1, 1) := by decide +kernel
theorem dX5_carAt_2 : decode cX5_carAt 2 = .ok (.invokevirtual 212, 3) := by decide +kernel
theorem dX5_carAt_5 : decode cX5_carAt 5 = .ok (.ifCond .eq 12, 3) := by decide +kernel
theorem dX5_carAt_8 : decode cX5_carAt 8 = .ok (.aload_n 0, 1) := by decide +kernel
theorem dX5_carAt_9 : decode cX5_carAt 9 = .ok (.getfield 36, 3) := by decide +kernel
theorem dX5_carAt_12 : decode cX5_carAt 12 = .ok (.iload_n 1, 1) := by decide +kernel
theorem dX5_carAt_13 : decode cX5_carAt 13 = .ok (.aaload, 1) := by decide +kernel
theorem dX5_carAt_14 : decode cX5_carAt 14 = .ok (.goto 4, 3) := by decide +kernel
theorem dX5_carAt_17 : decode cX5_carAt 17 = .ok (.aconst_null, 1) := by decide +kernel
theorem dX5_carAt_18 : decode cX5_carAt 18 = .ok (.astore_n 2, 1) := by decide +kernel
theorem dX5_carAt_19 : decode cX5_carAt 19 = .ok (.aload_n 2, 1) := by decide +kernel
theorem dX5_carAt_20 : decode cX5_carAt 20 = .ok (.ifnonnull 13, 3) := by decide +kernel
theorem dX5_carAt_23 : decode cX5_carAt 23 = .ok (.new 218, 3) := by decide +kernel
theorem dX5_carAt_26 : decode cX5_carAt 26 = .ok (.dup, 1) := by decide +kernel
theorem dX5_carAt_27 : decode cX5_carAt 27 = .ok (.ldc 240, 2) := by decide +kernel
theorem dX5_carAt_29 : decode cX5_carAt 29 = .ok (.invokespecial 222, 3) := by decide +kernel
theorem dX5_carAt_32 : decode cX5_carAt 32 = .ok (.athrow, 1) := by decide +kernel
theorem dX5_carAt_33 : decode cX5_carAt 33 = .ok (.aload_n 2, 1) := by decide +kernel
theorem dX5_carAt_34 : decode cX5_carAt 34 = .ok (.areturn, 1) := by decide +kernel
theorem dX5_partAt_0 : decode cX5_partAt 0 = .ok (.iload_n 1, 1) := by decide +kernel
theorem dX5_partAt_1 : decode cX5_partAt 1 = .ok (.iconst 0, 1) := by decide +kernel
theorem dX5_partAt_2 : decode cX5_partAt 2 = .ok (.aload_n 0, 1) := by decide +kernel
theorem dX5_partAt_3 : decode cX5_partAt 3 = .ok (.getfield 49, 3) := by decide +kernel
theorem dX5_partAt_6 : decode cX5_partAt 6 = .ok (.iconst 1, 1) := by decide +kernel
theorem dX5_partAt_7 : decode cX5_partAt 7 = .ok (.isub, 1) := by decide +kernel
theorem dX5_partAt_8 : decode cX5_partAt 8 = .ok (.invokestatic 56, 3) := by decide +kernel
theorem dX5_partAt_11 : decode cX5_partAt 11 = .ok (.ifCond .eq 12, 3) := by decide +kernel
theorem dX5_partAt_14 : decode cX5_partAt 14 = .ok (.aload_n 0, 1) := by decide +kernel
theorem dX5_partAt_15 : decode cX5_partAt 15 = .ok (.getfield 45, 3) := by decide +kernel
theorem dX5_partAt_18 : decode cX5_partAt 18 = .ok (.iload_n 1, 1) := by decide +kernel
theorem dX5_partAt_19 : decode cX5_partAt 19 = .ok (.aaload, 1) := by decide +kernel
theorem dX5_partAt_20 : decode cX5_partAt 20 = .ok (.goto 4, 3) := by decide +kernel
theorem dX5_partAt_23 : decode cX5_partAt 23 = .ok (.aconst_null, 1) := by decide +kernel
theorem dX5_partAt_24 : decode cX5_partAt 24 = .ok (.astore_n 2, 1) := by decide +kernel
theorem dX5_partAt_25 : decode cX5_partAt 25 = .ok (.aload_n 2, 1) := by decide +kernel
theorem dX5_partAt_26 : decode cX5_partAt 26 = .ok (.ifnonnull 13, 3) := by decide +kernel
theorem dX5_partAt_29 : decode cX5_partAt 29 = .ok (.new 218, 3) := by decide +kernel
theorem dX5_partAt_32 : decode cX5_partAt 32 = .ok (.dup, 1) := by decide +kernel
theorem dX5_partAt_33 : decode cX5_partAt 33 = .ok (.ldc 242, 2) := by decide +kernel
theorem dX5_partAt_35 : decode cX5_partAt 35 = .ok (.invokespecial 222, 3) := by decide +kernel
theorem dX5_partAt_38 : decode cX5_partAt 38 = .ok (.athrow, 1) := by decide +kernel
theorem dX5_partAt_39 : decode cX5_partAt 39 = .ok (.aload_n 2, 1) := by decide +kernel
theorem dX5_partAt_40 : decode cX5_partAt 40 = .ok (.areturn, 1) := by decide +kernel
theorem dX5_lastGateEntry_0 : decode cX5_lastGateEntry 0 = .ok (.aload_n 0, 1) := by decide +kernel
theorem dX5_lastGateEntry_1 : decode cX5_lastGateEntry 1 = .ok (.getfield 28, 3) := by decide +kernel
theorem dX5_lastGateEntry_4 : decode cX5_lastGateEntry 4 = .ok (.ifCond .ne 7, 3) := by decide +kernel
theorem dX5_lastGateEntry_7 : decode cX5_lastGateEntry 7 = .ok (.iconst (-1), 1) := by decide +kernel
theorem dX5_lastGateEntry_8 : decode cX5_lastGateEntry 8 = .ok (.goto 16, 3) := by decide +kernel
theorem dX5_lastGateEntry_11 : decode cX5_lastGateEntry 11 = .ok (.aload_n 0, 1) := by decide +kernel
theorem dX5_lastGateEntry_12 : decode cX5_lastGateEntry 12 = .ok (.aload_n 0, 1) := by decide +kernel
theorem dX5_lastGateEntry_13 : decode cX5_lastGateEntry 13 = .ok (.getfield 28, 3) := by decide +kernel
theorem dX5_lastGateEntry_16 : decode cX5_lastGateEntry 16 = .ok (.iconst 1, 1) := by decide +kernel
theorem dX5_lastGateEntry_17 : decode cX5_lastGateEntry 17 = .ok (.isub, 1) := by decide +kernel
theorem dX5_lastGateEntry_18 : decode cX5_lastGateEntry 18 = .ok (.invokevirtual 179, 3) := by decide +kernel
theorem dX5_lastGateEntry_21 : decode cX5_lastGateEntry 21 = .ok (.getfield 244, 3) := by decide +kernel
theorem dX5_lastGateEntry_24 : decode cX5_lastGateEntry 24 = .ok (.ireturn, 1) := by decide +kernel
theorem dX5_cellOfPlace_0 : decode cX5_cellOfPlace 0 = .ok (.iload_n 1, 1) := by decide +kernel
theorem dX5_cellOfPlace_1 : decode cX5_cellOfPlace 1 = .ok (.iconst (-1), 1) := by decide +kernel
theorem dX5_cellOfPlace_2 : decode cX5_cellOfPlace 2 = .ok (.if_icmp .ne 10, 3) := by decide +kernel
theorem dX5_cellOfPlace_5 : decode cX5_cellOfPlace 5 = .ok (.aload_n 0, 1) := by decide +kernel
theorem dX5_cellOfPlace_6 : decode cX5_cellOfPlace 6 = .ok (.getfield 7, 3) := by decide +kernel
theorem dX5_cellOfPlace_9 : decode cX5_cellOfPlace 9 = .ok (.goto 14, 3) := by decide +kernel
theorem dX5_cellOfPlace_12 : decode cX5_cellOfPlace 12 = .ok (.aload_n 0, 1) := by decide +kernel
theorem dX5_cellOfPlace_13 : decode cX5_cellOfPlace 13 = .ok (.iload_n 1, 1) := by decide +kernel
theorem dX5_cellOfPlace_14 : decode cX5_cellOfPlace 14 = .ok (.invokevirtual 109, 3) := by decide +kernel
theorem dX5_cellOfPlace_17 : decode cX5_cellOfPlace 17 = .ok (.getfield 116, 3) := by decide +kernel
theorem dX5_cellOfPlace_20 : decode cX5_cellOfPlace 20 = .ok (.getfield 85, 3) := by decide +kernel
theorem dX5_cellOfPlace_23 : decode cX5_cellOfPlace 23 = .ok (.ireturn, 1) := by decide +kernel
theorem dX5_firstPartIn_0 : decode cX5_firstPartIn 0 = .ok (.iconst 0, 1) := by decide +kernel
theorem dX5_firstPartIn_1 : decode cX5_firstPartIn 1 = .ok (.istore_n 3, 1) := by decide +kernel
theorem dX5_firstPartIn_2 : decode cX5_firstPartIn 2 = .ok (.iload_n 3, 1) := by decide +kernel
theorem dX5_firstPartIn_3 : decode cX5_firstPartIn 3 = .ok (.aload_n 0, 1) := by decide +kernel
theorem dX5_firstPartIn_4 : decode cX5_firstPartIn 4 = .ok (.getfield 49, 3) := by decide +kernel
theorem dX5_firstPartIn_7 : decode cX5_firstPartIn 7 = .ok (.if_icmp .ge 36, 3) := by decide +kernel
theorem dX5_firstPartIn_10 : decode cX5_firstPartIn 10 = .ok (.aload_n 0, 1) := by decide +kernel
theorem dX5_firstPartIn_11 : decode cX5_firstPartIn 11 = .ok (.iload_n 3, 1) := by decide +kernel
theorem dX5_firstPartIn_12 : decode cX5_firstPartIn 12 = .ok (.invokevirtual 142, 3) := by decide +kernel
theorem dX5_firstPartIn_15 : decode cX5_firstPartIn 15 = .ok (.astore 4, 2) := by decide +kernel
theorem dX5_firstPartIn_17 : decode cX5_firstPartIn 17 = .ok (.aload 4, 2) := by decide +kernel
theorem dX5_firstPartIn_19 : decode cX5_firstPartIn 19 = .ok (.getfield 153, 3) := by decide +kernel
theorem dX5_firstPartIn_22 : decode cX5_firstPartIn 22 = .ok (.iload_n 1, 1) := by decide +kernel
theorem dX5_firstPartIn_23 : decode cX5_firstPartIn 23 = .ok (.if_icmp .ne 14, 3) := by decide +kernel
theorem dX5_firstPartIn_26 : decode cX5_firstPartIn 26 = .ok (.aload 4, 2) := by decide +kernel
theorem dX5_firstPartIn_28 : decode cX5_firstPartIn 28 = .ok (.getfield 247, 3) := by decide +kernel
theorem dX5_firstPartIn_31 : decode cX5_firstPartIn 31 = .ok (.iload_n 2, 1) := by decide +kernel
theorem dX5_firstPartIn_32 : decode cX5_firstPartIn 32 = .ok (.if_icmp .ne 5, 3) := by decide +kernel
theorem dX5_firstPartIn_35 : decode cX5_firstPartIn 35 = .ok (.iload_n 3, 1) := by decide +kernel
theorem dX5_firstPartIn_36 : decode cX5_firstPartIn 36 = .ok (.ireturn, 1) := by decide +kernel
theorem dX5_firstPartIn_37 : decode cX5_firstPartIn 37 = .ok (.iinc 3 1, 3) := by decide +kernel
theorem dX5_firstPartIn_40 : decode cX5_firstPartIn 40 = .ok (.goto (-38), 3) := by decide +kernel
theorem dX5_firstPartIn_43 : decode cX5_firstPartIn 43 = .ok (.iconst (-1), 1) := by decide +kernel
theorem dX5_firstPartIn_44 : decode cX5_firstPartIn 44 = .ok (.ireturn, 1) := by decide +kernel
theorem dX5_passMinute_0 : decode cX5_passMinute 0 = .ok (.iconst 0, 1) := by decide +kernel
theorem dX5_passMinute_1 : decode cX5_passMinute 1 = .ok (.istore_n 3, 1) := by decide +kernel
theorem dX5_passMinute_2 : decode cX5_passMinute 2 = .ok (.iconst (-1), 1) := by decide +kernel
theorem dX5_passMinute_3 : decode cX5_passMinute 3 = .ok (.istore 4, 2) := by decide +kernel
theorem dX5_passMinute_5 : decode cX5_passMinute 5 = .ok (.iconst 0, 1) := by decide +kernel
theorem dX5_passMinute_6 : decode cX5_passMinute 6 = .ok (.istore 5, 2) := by decide +kernel
theorem dX5_passMinute_8 : decode cX5_passMinute 8 = .ok (.iload 5, 2) := by decide +kernel
theorem dX5_passMinute_10 : decode cX5_passMinute 10 = .ok (.iload_n 2, 1) := by decide +kernel
theorem dX5_passMinute_11 : decode cX5_passMinute 11 = .ok (.if_icmp .gt 35, 3) := by decide +kernel
theorem dX5_passMinute_14 : decode cX5_passMinute 14 = .ok (.aload_n 1, 1) := by decide +kernel
theorem dX5_passMinute_15 : decode cX5_passMinute 15 = .ok (.getfield 116, 3) := by decide +kernel
theorem dX5_passMinute_18 : decode cX5_passMinute 18 = .ok (.aload_n 0, 1) := by decide +kernel
theorem dX5_passMinute_19 : decode cX5_passMinute 19 = .ok (.iload 5, 2) := by decide +kernel
theorem dX5_passMinute_21 : decode cX5_passMinute 21 = .ok (.invokevirtual 179, 3) := by decide +kernel
theorem dX5_passMinute_24 : decode cX5_passMinute 24 = .ok (.getfield 183, 3) := by decide +kernel
theorem dX5_passMinute_27 : decode cX5_passMinute 27 = .ok (.iload_n 3, 1) := by decide +kernel
theorem dX5_passMinute_28 : decode cX5_passMinute 28 = .ok (.invokevirtual 250, 3) := by decide +kernel
theorem dX5_passMinute_31 : decode cX5_passMinute 31 = .ok (.istore 4, 2) := by decide +kernel
theorem dX5_passMinute_33 : decode cX5_passMinute 33 = .ok (.iload_n 3, 1) := by decide +kernel
theorem dX5_passMinute_34 : decode cX5_passMinute 34 = .ok (.iload 4, 2) := by decide +kernel
theorem dX5_passMinute_36 : decode cX5_passMinute 36 = .ok (.invokestatic 200, 3) := by decide +kernel
theorem dX5_passMinute_39 : decode cX5_passMinute 39 = .ok (.istore_n 3, 1) := by decide +kernel
theorem dX5_passMinute_40 : decode cX5_passMinute 40 = .ok (.iinc 5 1, 3) := by decide +kernel
theorem dX5_passMinute_43 : decode cX5_passMinute 43 = .ok (.goto (-35), 3) := by decide +kernel
theorem dX5_passMinute_46 : decode cX5_passMinute 46 = .ok (.iload 4, 2) := by decide +kernel
theorem dX5_passMinute_48 : decode cX5_passMinute 48 = .ok (.ireturn, 1) := by decide +kernel
theorem dX5_pointsOf_0 : decode cX5_pointsOf 0 = .ok (.bipush 10, 2) := by decide +kernel
theorem dX5_pointsOf_2 : decode cX5_pointsOf 2 = .ok (.aload_n 1, 1) := by decide +kernel
theorem dX5_pointsOf_3 : decode cX5_pointsOf 3 = .ok (.getfield 176, 3) := by decide +kernel
theorem dX5_pointsOf_6 : decode cX5_pointsOf 6 = .ok (.imul, 1) := by decide +kernel
theorem dX5_pointsOf_7 : decode cX5_pointsOf 7 = .ok (.istore_n 2, 1) := by decide +kernel
theorem dX5_pointsOf_8 : decode cX5_pointsOf 8 = .ok (.iconst 0, 1) := by decide +kernel
theorem dX5_pointsOf_9 : decode cX5_pointsOf 9 = .ok (.istore_n 3, 1) := by decide +kernel
theorem dX5_pointsOf_10 : decode cX5_pointsOf 10 = .ok (.iconst 0, 1) := by decide +kernel
theorem dX5_pointsOf_11 : decode cX5_pointsOf 11 = .ok (.istore 4, 2) := by decide +kernel
theorem dX5_pointsOf_13 : decode cX5_pointsOf 13 = .ok (.iload 4, 2) := by decide +kernel
theorem dX5_pointsOf_15 : decode cX5_pointsOf 15 = .ok (.aload_n 0, 1) := by decide +kernel
theorem dX5_pointsOf_16 : decode cX5_pointsOf 16 = .ok (.getfield 28, 3) := by decide +kernel
theorem dX5_pointsOf_19 : decode cX5_pointsOf 19 = .ok (.if_icmp .ge 64, 3) := by decide +kernel
theorem dX5_pointsOf_22 : decode cX5_pointsOf 22 = .ok (.iload 4, 2) := by decide +kernel
theorem dX5_pointsOf_24 : decode cX5_pointsOf 24 = .ok (.aload_n 0, 1) := by decide +kernel
theorem dX5_pointsOf_25 : decode cX5_pointsOf 25 = .ok (.getfield 31, 3) := by decide +kernel
theorem dX5_pointsOf_28 : decode cX5_pointsOf 28 = .ok (.if_icmp .ge 55, 3) := by decide +kernel
theorem dX5_pointsOf_31 : decode cX5_pointsOf 31 = .ok (.aload_n 0, 1) := by decide +kernel
theorem dX5_pointsOf_32 : decode cX5_pointsOf 32 = .ok (.iload 4, 2) := by decide +kernel
theorem dX5_pointsOf_34 : decode cX5_pointsOf 34 = .ok (.invokevirtual 179, 3) := by decide +kernel
theorem dX5_pointsOf_37 : decode cX5_pointsOf 37 = .ok (.astore 5, 2) := by decide +kernel
theorem dX5_pointsOf_39 : decode cX5_pointsOf 39 = .ok (.aload_n 1, 1) := by decide +kernel
theorem dX5_pointsOf_40 : decode cX5_pointsOf 40 = .ok (.getfield 116, 3) := by decide +kernel
theorem dX5_pointsOf_43 : decode cX5_pointsOf 43 = .ok (.aload 5, 2) := by decide +kernel
theorem dX5_pointsOf_45 : decode cX5_pointsOf 45 = .ok (.getfield 183, 3) := by decide +kernel
theorem dX5_pointsOf_48 : decode cX5_pointsOf 48 = .ok (.iload_n 3, 1) := by decide +kernel
theorem dX5_pointsOf_49 : decode cX5_pointsOf 49 = .ok (.invokevirtual 250, 3) := by decide +kernel
theorem dX5_pointsOf_52 : decode cX5_pointsOf 52 = .ok (.istore 6, 2) := by decide +kernel
theorem dX5_pointsOf_54 : decode cX5_pointsOf 54 = .ok (.iload_n 3, 1) := by decide +kernel
theorem dX5_pointsOf_55 : decode cX5_pointsOf 55 = .ok (.iload 6, 2) := by decide +kernel
theorem dX5_pointsOf_57 : decode cX5_pointsOf 57 = .ok (.invokestatic 200, 3) := by decide +kernel
theorem dX5_pointsOf_60 : decode cX5_pointsOf 60 = .ok (.istore_n 3, 1) := by decide +kernel
theorem dX5_pointsOf_61 : decode cX5_pointsOf 61 = .ok (.iload_n 2, 1) := by decide +kernel
theorem dX5_pointsOf_62 : decode cX5_pointsOf 62 = .ok (.aload 5, 2) := by decide +kernel
theorem dX5_pointsOf_64 : decode cX5_pointsOf 64 = .ok (.aload_n 1, 1) := by decide +kernel
theorem dX5_pointsOf_65 : decode cX5_pointsOf 65 = .ok (.iload 4, 2) := by decide +kernel
theorem dX5_pointsOf_67 : decode cX5_pointsOf 67 = .ok (.iload 6, 2) := by decide +kernel
theorem dX5_pointsOf_69 : decode cX5_pointsOf 69 = .ok (.invokevirtual 167, 3) := by decide +kernel
theorem dX5_pointsOf_72 : decode cX5_pointsOf 72 = .ok (.invokevirtual 253, 3) := by decide +kernel
theorem dX5_pointsOf_75 : decode cX5_pointsOf 75 = .ok (.iadd, 1) := by decide +kernel
theorem dX5_pointsOf_76 : decode cX5_pointsOf 76 = .ok (.istore_n 2, 1) := by decide +kernel
theorem dX5_pointsOf_77 : decode cX5_pointsOf 77 = .ok (.iinc 4 1, 3) := by decide +kernel
theorem dX5_pointsOf_80 : decode cX5_pointsOf 80 = .ok (.goto (-67), 3) := by decide +kernel
theorem dX5_pointsOf_83 : decode cX5_pointsOf 83 = .ok (.iload_n 2, 1) := by decide +kernel
theorem dX5_pointsOf_84 : decode cX5_pointsOf 84 = .ok (.ireturn, 1) := by decide +kernel
theorem dX5_placeOf_0 : decode cX5_placeOf 0 = .ok (.iconst 0, 1) := by decide +kernel
theorem dX5_placeOf_1 : decode cX5_placeOf 1 = .ok (.istore_n 2, 1) := by decide +kernel
theorem dX5_placeOf_2 : decode cX5_placeOf 2 = .ok (.iconst 0, 1) := by decide +kernel
theorem dX5_placeOf_3 : decode cX5_placeOf 3 = .ok (.istore_n 3, 1) := by decide +kernel
theorem dX5_placeOf_4 : decode cX5_placeOf 4 = .ok (.iload_n 3, 1) := by decide +kernel
theorem dX5_placeOf_5 : decode cX5_placeOf 5 = .ok (.aload_n 0, 1) := by decide +kernel
theorem dX5_placeOf_6 : decode cX5_placeOf 6 = .ok (.getfield 40, 3) := by decide +kernel
theorem dX5_placeOf_9 : decode cX5_placeOf 9 = .ok (.if_icmp .ge 47, 3) := by decide +kernel
theorem dX5_placeOf_12 : decode cX5_placeOf 12 = .ok (.aload_n 0, 1) := by decide +kernel
theorem dX5_placeOf_13 : decode cX5_placeOf 13 = .ok (.getfield 52, 3) := by decide +kernel
theorem dX5_placeOf_16 : decode cX5_placeOf 16 = .ok (.iload_n 3, 1) := by decide +kernel
theorem dX5_placeOf_17 : decode cX5_placeOf 17 = .ok (.iaload, 1) := by decide +kernel
theorem dX5_placeOf_18 : decode cX5_placeOf 18 = .ok (.aload_n 0, 1) := by decide +kernel
theorem dX5_placeOf_19 : decode cX5_placeOf 19 = .ok (.getfield 52, 3) := by decide +kernel
theorem dX5_placeOf_22 : decode cX5_placeOf 22 = .ok (.iload_n 1, 1) := by decide +kernel
theorem dX5_placeOf_23 : decode cX5_placeOf 23 = .ok (.iaload, 1) := by decide +kernel
theorem dX5_placeOf_24 : decode cX5_placeOf 24 = .ok (.if_icmp .lt 23, 3) := by decide +kernel
theorem dX5_placeOf_27 : decode cX5_placeOf 27 = .ok (.aload_n 0, 1) := by decide +kernel
theorem dX5_placeOf_28 : decode cX5_placeOf 28 = .ok (.getfield 52, 3) := by decide +kernel
theorem dX5_placeOf_31 : decode cX5_placeOf 31 = .ok (.iload_n 3, 1) := by decide +kernel
theorem dX5_placeOf_32 : decode cX5_placeOf 32 = .ok (.iaload, 1) := by decide +kernel
theorem dX5_placeOf_33 : decode cX5_placeOf 33 = .ok (.aload_n 0, 1) := by decide +kernel
theorem dX5_placeOf_34 : decode cX5_placeOf 34 = .ok (.getfield 52, 3) := by decide +kernel
theorem dX5_placeOf_37 : decode cX5_placeOf 37 = .ok (.iload_n 1, 1) := by decide +kernel
theorem dX5_placeOf_38 : decode cX5_placeOf 38 = .ok (.iaload, 1) := by decide +kernel
theorem dX5_placeOf_39 : decode cX5_placeOf 39 = .ok (.if_icmp .ne 11, 3) := by decide +kernel
theorem dX5_placeOf_42 : decode cX5_placeOf 42 = .ok (.iload_n 3, 1) := by decide +kernel
theorem dX5_placeOf_43 : decode cX5_placeOf 43 = .ok (.iload_n 1, 1) := by decide +kernel
theorem dX5_placeOf_44 : decode cX5_placeOf 44 = .ok (.if_icmp .ge 6, 3) := by decide +kernel
theorem dX5_placeOf_47 : decode cX5_placeOf 47 = .ok (.iinc 2 1, 3) := by decide +kernel
theorem dX5_placeOf_50 : decode cX5_placeOf 50 = .ok (.iinc 3 1, 3) := by decide +kernel
theorem dX5_placeOf_53 : decode cX5_placeOf 53 = .ok (.goto (-49), 3) := by decide +kernel
theorem dX5_placeOf_56 : decode cX5_placeOf 56 = .ok (.iload_n 2, 1) := by decide +kernel
theorem dX5_placeOf_57 : decode cX5_placeOf 57 = .ok (.ireturn, 1) := by decide +kernel
end
section
/-! the walk in symbols: J z is the int of z; SW says: at this pc, with these locals and this stack, over any heap that holds this world, the machine comes to Q -/
def J (z : Int) : Int32 := Int32.ofInt z
theorem J_add (a b : Int) : J a + J b = J (a + b) := (Int32.ofInt_add a b).symm
theorem J_sub (a b : Int) : J a - J b = J (a - b) := (Int32.ofInt_sub a b).symm
theorem J_mul (a b : Int) : J a * J b = J (a * b) := (Int32.ofInt_mul a b).symm
theorem J_neg (a : Int) : -J a = J (-a) := (Int32.ofInt_neg a).symm
theorem J_bmod {z : Int} (h1 : -2147483648 ≤ z) (h2 : z < 2147483648) : z.bmod (2 ^ 32) = z := by
  rw [Int.bmod_eq_of_le (by omega) (by omega)]
theorem J_toInt {z : Int} (h : -2147483648 ≤ z ∧ z < 2147483648) : (J z).toInt = z := by
  rw [J, Int32.toInt_ofInt, J_bmod h.1 h.2]
theorem J_asI (x : Int32) : J x.toInt = x := Int32.ofInt_toInt x
theorem J_rng (x : Int32) : -2147483648 ≤ x.toInt ∧ x.toInt < 2147483648 := by
  have h1 := Int32.le_toInt x
  have h2 := Int32.toInt_lt x
  omega
theorem J_of (x : Int32) : ∃ z : Int, x = J z ∧ -2147483648 ≤ z ∧ z < 2147483648 := ⟨x.toInt, (J_asI x).symm, J_rng x⟩
theorem J_nI (n : Nat) : nI n = J (n : Int) := (Int32.ofInt_eq_ofNat).symm
theorem J_nat {z : Int} (h : 0 ≤ z) : J z = nI z.toNat := by
  rw [J_nI, Int.toNat_of_nonneg h]
theorem J_lt {a b : Int} (ha : -2147483648 ≤ a ∧ a < 2147483648) (hb : -2147483648 ≤ b ∧ b < 2147483648) : J a < J b ↔ a < b := by
  rw [Int32.lt_iff_toInt_lt, J_toInt ha, J_toInt hb]
theorem J_le {a b : Int} (ha : -2147483648 ≤ a ∧ a < 2147483648) (hb : -2147483648 ≤ b ∧ b < 2147483648) : J a ≤ J b ↔ a ≤ b := by
  rw [Int32.le_iff_toInt_le, J_toInt ha, J_toInt hb]
theorem J_eq {a b : Int} (ha : -2147483648 ≤ a ∧ a < 2147483648) (hb : -2147483648 ≤ b ∧ b < 2147483648) : J a = J b ↔ a = b := by
  rw [← Int32.toInt_inj, J_toInt ha, J_toInt hb]
theorem J_0 : (0 : Int32) = J 0 := rfl
theorem J_cl {i : Int} (h : 0 ≤ i) (h2 : i < 2147483648) : (J i).toNatClampNeg = i.toNat := by
  rw [J_nat h]
  exact nI_clamp (by omega)
theorem J_in {i : Int} {n : Nat} (h0 : 0 ≤ i) (h1 : i < n) (hn : n < 2147483648) : vp_in (J i) n := by
  rw [J_nat h0]
  exact vp_in_nI (by omega) (by omega)
theorem J_and {a m : Int} (k : Nat) (h0 : 0 ≤ a) (h1 : a < 2147483648) (hm : (J m).toBitVec.toNat = 2 ^ k - 1) : J a &&& J m = J (a % (2 ^ k : Nat)) := by
  rw [J_nat h0, pk_andN (by omega) k hm, J_nI]
  congr 1
  rw [Int.natCast_emod, Int.toNat_of_nonneg h0]
theorem J_shr {a d : Int} (k : Nat) (h0 : 0 ≤ a) (h1 : a < 2147483648) (hs : ((J d &&& 31).toBitVec.smod 32).toNat = k) : J a >>> (J d &&& 31) = J (a / (2 ^ k : Nat)) := by
  rw [J_nat h0, pk_shrN (by omega) _ k hs, J_nI]
  congr 1
  rw [Int.natCast_ediv, Int.toNat_of_nonneg h0]
theorem J_div {a d : Int} (h0 : 0 ≤ a) (h1 : a < 2147483648) (hd : 0 < d) (hd2 : d < 2147483648) : J a / J d = J (a / d) := by
  rw [J_nat h0, J_nat (Int.le_of_lt hd), pk_div (by omega) (by omega) (by omega), J_nI]
  congr 1
  rw [Int.natCast_ediv, Int.toNat_of_nonneg h0, Int.toNat_of_nonneg (Int.le_of_lt hd)]
theorem J_rem {a d : Int} (h0 : 0 ≤ a) (h1 : a < 2147483648) (hd : 0 < d) (hd2 : d < 2147483648) : J a - J a / J d * J d = J (a % d) := by
  rw [J_nat h0, J_nat (Int.le_of_lt hd), pk_rem (by omega) (by omega) (by omega), J_nI]
  congr 1
  rw [Int.natCast_emod, Int.toNat_of_nonneg h0, Int.toNat_of_nonneg (Int.le_of_lt hd)]
/-- the arrays' classes -/
abbrev TYS (k : Nat → ClassId) : List (ClassId × FieldType) := [(k 0, .int), (k 1, .long), (k 2, .object RX0), (k 3, .object RX1), (k 4, .object RX2), (k 5, .object RX3)]
/-- the texts of the exceptions -/
def cTx : List (Nat × String) := [(137, "no part of the kind in the car"), (220, "no such number"), (225, "out of range"), (230, "not possible now"), (236, "no such entry"), (238, "no such gate"), (240, "no such car"), (242, "no such part")]
def stepX : Nat → Value := fun j => if j = 1 then .int (J 1) else if j = 3 then .int (J (-1)) else .int (J 0)
def stepY : Nat → Value := fun j => if j = 0 then .int (J 1) else if j = 2 then .int (J (-1)) else .int (J 0)
def cNF : List (String × Nat × String × String × String × String) := [("OriginRally", 64, "OriginRally$Way", "size", "I", "OriginRally"), ("OriginRally", 85, "OriginRally$Way", "cell", "I", "OriginRally"), ("OriginRally", 119, "OriginRally$Way", "minute", "I", "OriginRally"), ("OriginRally$Way", 30, "OriginRally", "STEP_X", "[I", "OriginRally"), ("OriginRally$Way", 34, "OriginRally", "STEP_Y", "[I", "OriginRally"), ("OriginRally$Way", 81, "OriginRally$Piece", "begin", "I", "OriginRally"), ("OriginRally$Way", 59, "OriginRally$Piece", "heading", "I", "OriginRally"), ("OriginRally$Way", 60, "OriginRally$Piece", "turn", "I", "OriginRally"), ("OriginRally$Way", 88, "OriginRally$Piece", "isDriven", "Z", "OriginRally"), ("OriginRally$Piece", 35, "OriginRally", "STEP_X", "[I", "OriginRally"), ("OriginRally$Piece", 39, "OriginRally", "STEP_Y", "[I", "OriginRally"), ("OriginRally", 244, "OriginRally$Gate", "entry", "I", "OriginRally"), ("OriginRally", 183, "OriginRally$Gate", "cell", "I", "OriginRally"), ("OriginRally", 184, "OriginRally$Gate", "dueMinute", "I", "OriginRally"), ("OriginRally", 116, "OriginRally$Car", "track", "LOriginRally$Way;", "OriginRally"), ("OriginRally", 128, "OriginRally$Car", "downBy", "I", "OriginRally"), ("OriginRally", 176, "OriginRally$Car", "lostAppeals", "I", "OriginRally"), ("OriginRally", 247, "OriginRally$Part", "kind", "I", "OriginRally"), ("OriginRally", 153, "OriginRally$Part", "place", "I", "OriginRally")]
def cNM : List (String × Nat × MethodName × String) := [("OriginRally$Way", 37, ⟨"OriginRally", "isWithin", "(III)Z"⟩, "OriginRally"), ("OriginRally$Piece", 55, ⟨"OriginRally", "isWithin", "(III)Z"⟩, "OriginRally"), ("OriginRally$Car", 31, ⟨"OriginRally", "isWithin", "(III)Z"⟩, "OriginRally")]
def cAO : List String := [RX0, RX1, RX2, RX3]
def cEx : List String := ["java/lang/IndexOutOfBoundsException", "java/lang/IllegalArgumentException", "java/lang/IllegalStateException", "java/util/NoSuchElementException"]
/-- what the tables say of the machine, but for what is in WG: texts, links between nest mates, arrays of references, casts of exceptions -/
def cT (U : State) : Prop :=
  (∀ q ∈ cTx, ∃ a, vk_R RX5 q.1 q.2 a U) ∧ (∀ q ∈ cNF, va_Nw (.fieldLinkNest q.1 q.2.1 q.2.2.1 q.2.2.2.1 q.2.2.2.2.1 q.2.2.2.2.2) U) ∧ (∀ q ∈ cNM, va_Nw (.methodLinkNest q.1 q.2.1 q.2.2.1 q.2.2.2) U) ∧
  (∀ C ∈ cAO, va_AO C U) ∧ (∀ C ∈ cEx, va_Nw (.castable C C) U) ∧ ∀ C ∈ cEx, ∀ E ∈ cEx, C ≠ E → va_Nc C E U
theorem cT.moved {s U : State} (hW : s.WarmedH U.vm) (h : cT s) : cT U :=
  ⟨fun q hq => (h.1 q hq).elim fun a ha => ⟨a, vk_R.warm hW ha⟩, fun q hq => va_Nw.warmF hW (h.2.1 q hq), fun q hq => va_Nw.warmM hW (h.2.2.1 q hq), fun q hq => va_AO.moved hW.alike (h.2.2.2.1 q hq), fun q hq => va_Nw.warmC hW (h.2.2.2.2.1 q hq), fun C hC E hE hn => va_Nc.moved hW.alike (h.2.2.2.2.2 C hC E hE hn)⟩
theorem cT.same {s U : State} (hv : U.vm = s.vm) (h : cT s) : cT U := by
  have hA : s.vm.Alike U.vm := by rw [hv]; exact Vm.Alike.refl _
  exact ⟨fun q hq => (h.1 q hq).elim fun a ha => ⟨a, vk_R.same hv ha⟩, fun q hq => va_Nw.same rfl hv.symm (h.2.1 q hq), fun q hq => va_Nw.same rfl hv.symm (h.2.2.1 q hq), fun q hq => va_AO.moved hA (h.2.2.2.1 q hq), fun q hq => va_Nw.same rfl hv.symm (h.2.2.2.2.1 q hq), fun C hC E hE hn => va_Nc.moved hA (h.2.2.2.2.2 C hC E hE hn)⟩
/-- what the surroundings give: statics that nobody writes, and cT -/
def cG (A : Nat → Prop) (U : State) (H : Heap) : Prop :=
  vx_Zq Bundle.tN "UNASSIGNED_STACK" Bundle.steD A U H ∧ vx_Zq Bundle.tN "SUPPRESSED_SENTINEL" Bundle.listD A U H ∧
  (∃ t, va_Z RX5 "STEP_X" "[I" (.ref t) A U H ∧ va_T .int t 4 stepX A U H) ∧ (∃ t, va_Z RX5 "STEP_Y" "[I" (.ref t) A U H ∧ va_T .int t 4 stepY A U H) ∧ cT U
theorem cG.moved {A : Nat → Prop} {s U : State} {H : Heap} (hW : s.WarmedH U.vm) (h : cG A s H) : cG A U H := by
  obtain ⟨h1, h2, ⟨t, h3, h4⟩, ⟨t', h5, h6⟩, h7⟩ := h
  exact ⟨vx_Zq.moved hW.alike h1, vx_Zq.moved hW.alike h2, ⟨t, h3.moved hW.alike, h4.moved hW.alike⟩, ⟨t', h5.moved hW.alike, h6.moved hW.alike⟩, cT.moved hW h7⟩
theorem cG.same {A : Nat → Prop} {s U : State} {H : Heap} (hv : U.vm = s.vm) (h : cG A s H) : cG A U H := by
  obtain ⟨h1, h2, ⟨t, h3, h4⟩, ⟨t', h5, h6⟩, h7⟩ := h
  have hA : s.vm.Alike U.vm := by rw [hv]; exact Vm.Alike.refl _
  exact ⟨vx_Zq.moved hA h1, vx_Zq.moved hA h2, ⟨t, h3.moved hA, h4.moved hA⟩, ⟨t', h5.moved hA, h6.moved hA⟩, cT.same hv h7⟩
theorem cG.kept {A : Nat → Prop} {s : State} {H H1 : Heap} (h : cG A s H) (hq : ∀ a : Nat, a < H.size → ¬ A a → H1[a]? = H[a]?) : cG A s H1 := by
  obtain ⟨h1, h2, ⟨t, h3, h4⟩, ⟨t', h5, h6⟩, h7⟩ := h
  exact ⟨h1.kept hq, h2.kept hq, ⟨t, h3.kept hq, h4.kept hq⟩, ⟨t', h5.kept hq, h6.kept hq⟩, h7⟩
theorem cG.narrow {A B : Nat → Prop} {s : State} {H : Heap} (h : cG A s H) (hAB : ∀ q, B q → A q) : cG B s H := by
  obtain ⟨h1, h2, ⟨t, h3, h4⟩, ⟨t', h5, h6⟩, h7⟩ := h
  exact ⟨h1.narrow hAB, h2.narrow hAB, ⟨t, h3.narrow hAB, h4.narrow hAB⟩, ⟨t', h5.narrow hAB, h6.narrow hAB⟩, h7⟩
/-- what a body knows all along -/
def sw_C (p : Program) (s : State) (m : MethodId) (args : Array Value) (c : Code) (cc : ByteArray) (nL : Nat) (own : String) (Ts : List Cond) (D : va_G) (k : Nat → ClassId) (A : Nat → Prop) : Prop :=
  CallFix p m c cc nL s args Ts own ∧ va_K D vwCl (TYS k) s ∧ (∀ q, s.heap.size ≤ q → A q) ∧ cG A s s.heap
def SW (p : Program) (l : Launch) (e : Env) (R : Room) (s : State) (m : MethodId) (args : Array Value) (below : List Frame) (meth : Method) (c : Code) (nL : Nat) (D : va_G) (A : Nat → Prop) (cells slots : Nat) (Q : State → Prop) (w : va_W) (pc : Nat) (lv : List (Nat × Value)) (st : List Value) : Prop :=
  ∀ (H : Heap) (locs : List Loc) (ls : Array Slot), va_P D vwCl w H → va_D A w → va_S A s.heap H locs → lv_has ls nL lv → W p l e R s m args below meth c H locs cells slots Q (F0 m pc ls st)
section SWr
variable {p : Program} {l : Launch} {e : Env} {R : Room} {s : State} {m : MethodId} {args : Array Value} {below : List Frame} {meth : Method} {c : Code} {nL : Nat} {D : va_G} {A : Nat → Prop} {cells slots : Nat} {Q : State → Prop}
variable {cc : ByteArray} {own : String} {Ts : List Cond} {k : Nat → ClassId} {w : va_W} {pc : Nat} {lv : List (Nat × Value)} {st : List Value}
theorem sw_ts (X : sw_C p s m args c cc nL own Ts D k A) : ∀ w ∈ Ts, w.before args s = true := X.1.2.2.2.2
theorem sw_widen {c1 s1 : Nat} (h1 : cells ≤ c1) (h2 : slots ≤ s1) (kk : SW p l e R s m args below meth c nL D A c1 s1 Q w pc lv st) : SW p l e R s m args below meth c nL D A cells slots Q w pc lv st :=
  fun H locs ls hP hD hS hl => W.widen h1 h2 (kk H locs ls hP hD hS hl)
theorem sw_sub {lv' : List (Nat × Value)} (ks : List Nat) (h : lv_pick lv ks = lv') (kk : SW p l e R s m args below meth c nL D A cells slots Q w pc lv' st) : SW p l e R s m args below meth c nL D A cells slots Q w pc lv st :=
  fun H locs ls hP hD hS hl => kk H locs ls hP hD hS (lv_sub hl ks h)
theorem sw_iconst (X : sw_C p s m args c cc nL own Ts D k A) {n : Int} (hdg : decode cc pc = .ok (.iconst n, 1)) (kk : SW p l e R s m args below meth c nL D A cells slots Q w (pc + 1) lv (.int (J n) :: st)) : SW p l e R s m args below meth c nL D A cells slots Q w pc lv st :=
  fun H locs ls hP hD hS hl => lv_iconst X.1.1 X.1.2.1 hdg rfl (kk H locs ls hP hD hS hl)
theorem sw_bipush (X : sw_C p s m args c cc nL own Ts D k A) {n : Int} (hdg : decode cc pc = .ok (.bipush n, 2)) (hv : (Int8.ofInt n).toInt32 = J n) (kk : SW p l e R s m args below meth c nL D A cells slots Q w (pc + 2) lv (.int (J n) :: st)) : SW p l e R s m args below meth c nL D A cells slots Q w pc lv st :=
  fun H locs ls hP hD hS hl => lv_bipush X.1.1 X.1.2.1 hdg hv (kk H locs ls hP hD hS hl)
theorem sw_sipush (X : sw_C p s m args c cc nL own Ts D k A) {n : Int} (hdg : decode cc pc = .ok (.sipush n, 3)) (hv : (Int16.ofInt n).toInt32 = J n) (kk : SW p l e R s m args below meth c nL D A cells slots Q w (pc + 3) lv (.int (J n) :: st)) : SW p l e R s m args below meth c nL D A cells slots Q w pc lv st :=
  fun H locs ls hP hD hS hl => lv_sipush X.1.1 X.1.2.1 hdg hv (kk H locs ls hP hD hS hl)
theorem sw_null (X : sw_C p s m args c cc nL own Ts D k A) (hdg : decode cc pc = .ok (.aconst_null, 1)) (kk : SW p l e R s m args below meth c nL D A cells slots Q w (pc + 1) lv (.null :: st)) : SW p l e R s m args below meth c nL D A cells slots Q w pc lv st :=
  fun H locs ls hP hD hS hl => lv_null X.1.1 X.1.2.1 hdg (kk H locs ls hP hD hS hl)
theorem sw_iload_n (X : sw_C p s m args c cc nL own Ts D k A) {j : Fin 4} {i : Nat} {x : Int32} (hdg : decode cc pc = .ok (.iload_n j, 1)) (hi : (j : Nat) = i) (q : Nat) (hq : lv[q]? = some (i, .int x)) (kk : SW p l e R s m args below meth c nL D A cells slots Q w (pc + 1) lv (.int x :: st)) : SW p l e R s m args below meth c nL D A cells slots Q w pc lv st :=
  fun H locs ls hP hD hS hl => lv_iload_n X.1.1 X.1.2.1 hdg hi (lv_at hl q hq) (kk H locs ls hP hD hS hl)
theorem sw_iload (X : sw_C p s m args c cc nL own Ts D k A) {i : Nat} {x : Int32} (hdg : decode cc pc = .ok (.iload i, 2)) (q : Nat) (hq : lv[q]? = some (i, .int x)) (kk : SW p l e R s m args below meth c nL D A cells slots Q w (pc + 2) lv (.int x :: st)) : SW p l e R s m args below meth c nL D A cells slots Q w pc lv st :=
  fun H locs ls hP hD hS hl => lv_iload X.1.1 X.1.2.1 hdg (lv_at hl q hq) (kk H locs ls hP hD hS hl)
theorem sw_aload_n (X : sw_C p s m args c cc nL own Ts D k A) {j : Fin 4} {i : Nat} {x : Nat} (hdg : decode cc pc = .ok (.aload_n j, 1)) (hi : (j : Nat) = i) (q : Nat) (hq : lv[q]? = some (i, .ref x)) (kk : SW p l e R s m args below meth c nL D A cells slots Q w (pc + 1) lv (.ref x :: st)) : SW p l e R s m args below meth c nL D A cells slots Q w pc lv st :=
  fun H locs ls hP hD hS hl => lv_aload_n X.1.1 X.1.2.1 hdg hi (lv_at hl q hq) (kk H locs ls hP hD hS hl)
theorem sw_aload_nN (X : sw_C p s m args c cc nL own Ts D k A) {j : Fin 4} {i : Nat} (hdg : decode cc pc = .ok (.aload_n j, 1)) (hi : (j : Nat) = i) (q : Nat) (hq : lv[q]? = some (i, .null)) (kk : SW p l e R s m args below meth c nL D A cells slots Q w (pc + 1) lv (.null :: st)) : SW p l e R s m args below meth c nL D A cells slots Q w pc lv st :=
  fun H locs ls hP hD hS hl => lv_aload_nN X.1.1 X.1.2.1 hdg hi (lv_at hl q hq) (kk H locs ls hP hD hS hl)
theorem sw_aload (X : sw_C p s m args c cc nL own Ts D k A) {i : Nat} {x : Nat} (hdg : decode cc pc = .ok (.aload i, 2)) (q : Nat) (hq : lv[q]? = some (i, .ref x)) (kk : SW p l e R s m args below meth c nL D A cells slots Q w (pc + 2) lv (.ref x :: st)) : SW p l e R s m args below meth c nL D A cells slots Q w pc lv st :=
  fun H locs ls hP hD hS hl => lv_aload X.1.1 X.1.2.1 hdg (lv_at hl q hq) (kk H locs ls hP hD hS hl)
theorem sw_aloadN (X : sw_C p s m args c cc nL own Ts D k A) {i : Nat} (hdg : decode cc pc = .ok (.aload i, 2)) (q : Nat) (hq : lv[q]? = some (i, .null)) (kk : SW p l e R s m args below meth c nL D A cells slots Q w (pc + 2) lv (.null :: st)) : SW p l e R s m args below meth c nL D A cells slots Q w pc lv st :=
  fun H locs ls hP hD hS hl => lv_aloadN X.1.1 X.1.2.1 hdg (lv_at hl q hq) (kk H locs ls hP hD hS hl)
theorem sw_istore_n (X : sw_C p s m args c cc nL own Ts D k A) {j : Fin 4} {i : Nat} {x : Int32} {lv' : List (Nat × Value)} (hdg : decode cc pc = .ok (.istore_n j, 1)) (hi : (j : Nat) = i) (hn : i < nL) (hl' : (i, Value.int x) :: lv.filter (fun q => !(q.1 == i) && !(q.1 + 1 == i && q.2.category == 2)) = lv') (kk : SW p l e R s m args below meth c nL D A cells slots Q w (pc + 1) lv' st) : SW p l e R s m args below meth c nL D A cells slots Q w pc lv (.int x :: st) :=
  fun H locs ls hP hD hS hl => lv_istore_n X.1.1 X.1.2.1 hdg hi hl hn hl' (fun ls hl => kk H locs ls hP hD hS hl)
theorem sw_istore (X : sw_C p s m args c cc nL own Ts D k A) {i : Nat} {x : Int32} {lv' : List (Nat × Value)} (hdg : decode cc pc = .ok (.istore i, 2)) (hn : i < nL) (hl' : (i, Value.int x) :: lv.filter (fun q => !(q.1 == i) && !(q.1 + 1 == i && q.2.category == 2)) = lv') (kk : SW p l e R s m args below meth c nL D A cells slots Q w (pc + 2) lv' st) : SW p l e R s m args below meth c nL D A cells slots Q w pc lv (.int x :: st) :=
  fun H locs ls hP hD hS hl => lv_istore X.1.1 X.1.2.1 hdg hl hn hl' (fun ls hl => kk H locs ls hP hD hS hl)
theorem sw_astore_n (X : sw_C p s m args c cc nL own Ts D k A) {j : Fin 4} {i : Nat} {x : Nat} {lv' : List (Nat × Value)} (hdg : decode cc pc = .ok (.astore_n j, 1)) (hi : (j : Nat) = i) (hn : i < nL) (hl' : (i, Value.ref x) :: lv.filter (fun q => !(q.1 == i) && !(q.1 + 1 == i && q.2.category == 2)) = lv') (kk : SW p l e R s m args below meth c nL D A cells slots Q w (pc + 1) lv' st) : SW p l e R s m args below meth c nL D A cells slots Q w pc lv (.ref x :: st) :=
  fun H locs ls hP hD hS hl => lv_astore_n X.1.1 X.1.2.1 hdg hi hl hn hl' (fun ls hl => kk H locs ls hP hD hS hl)
theorem sw_astore (X : sw_C p s m args c cc nL own Ts D k A) {i : Nat} {x : Nat} {lv' : List (Nat × Value)} (hdg : decode cc pc = .ok (.astore i, 2)) (hn : i < nL) (hl' : (i, Value.ref x) :: lv.filter (fun q => !(q.1 == i) && !(q.1 + 1 == i && q.2.category == 2)) = lv') (kk : SW p l e R s m args below meth c nL D A cells slots Q w (pc + 2) lv' st) : SW p l e R s m args below meth c nL D A cells slots Q w pc lv (.ref x :: st) :=
  fun H locs ls hP hD hS hl => lv_astore X.1.1 X.1.2.1 hdg hl hn hl' (fun ls hl => kk H locs ls hP hD hS hl)
theorem sw_astore_nN (X : sw_C p s m args c cc nL own Ts D k A) {j : Fin 4} {i : Nat} {lv' : List (Nat × Value)} (hdg : decode cc pc = .ok (.astore_n j, 1)) (hi : (j : Nat) = i) (hn : i < nL) (hl' : (i, Value.null) :: lv.filter (fun q => !(q.1 == i) && !(q.1 + 1 == i && q.2.category == 2)) = lv') (kk : SW p l e R s m args below meth c nL D A cells slots Q w (pc + 1) lv' st) : SW p l e R s m args below meth c nL D A cells slots Q w pc lv (.null :: st) :=
  fun H locs ls hP hD hS hl => lv_astore_nN X.1.1 X.1.2.1 hdg hi hl hn hl' (fun ls hl => kk H locs ls hP hD hS hl)
theorem sw_astoreN (X : sw_C p s m args c cc nL own Ts D k A) {i : Nat} {lv' : List (Nat × Value)} (hdg : decode cc pc = .ok (.astore i, 2)) (hn : i < nL) (hl' : (i, Value.null) :: lv.filter (fun q => !(q.1 == i) && !(q.1 + 1 == i && q.2.category == 2)) = lv') (kk : SW p l e R s m args below meth c nL D A cells slots Q w (pc + 2) lv' st) : SW p l e R s m args below meth c nL D A cells slots Q w pc lv (.null :: st) :=
  fun H locs ls hP hD hS hl => lv_astoreN X.1.1 X.1.2.1 hdg hl hn hl' (fun ls hl => kk H locs ls hP hD hS hl)
theorem sw_iinc (X : sw_C p s m args c cc nL own Ts D k A) {i : Nat} {n a : Int} {lv' : List (Nat × Value)} (hdg : decode cc pc = .ok (.iinc i n, 3)) (q : Nat) (hq : lv[q]? = some (i, .int (J a))) (hn : i < nL) (hl' : (i, Value.int (J (a + n))) :: lv.filter (fun q => !(q.1 == i) && !(q.1 + 1 == i && q.2.category == 2)) = lv') (kk : SW p l e R s m args below meth c nL D A cells slots Q w (pc + 3) lv' st) : SW p l e R s m args below meth c nL D A cells slots Q w pc lv st :=
  fun H locs ls hP hD hS hl => lv_iinc X.1.1 X.1.2.1 hdg hl hq (J_add a n) hn hl' (fun ls hl => kk H locs ls hP hD hS hl)
theorem sw_iadd (X : sw_C p s m args c cc nL own Ts D k A) {a b : Int} (hdg : decode cc pc = .ok (.iadd, 1)) (kk : SW p l e R s m args below meth c nL D A cells slots Q w (pc + 1) lv (.int (J (a + b)) :: st)) : SW p l e R s m args below meth c nL D A cells slots Q w pc lv (.int (J b) :: .int (J a) :: st) :=
  fun H locs ls hP hD hS hl => lv_iadd X.1.1 X.1.2.1 hdg (by rw [J_add]; exact kk H locs ls hP hD hS hl)
theorem sw_isub (X : sw_C p s m args c cc nL own Ts D k A) {a b : Int} (hdg : decode cc pc = .ok (.isub, 1)) (kk : SW p l e R s m args below meth c nL D A cells slots Q w (pc + 1) lv (.int (J (a - b)) :: st)) : SW p l e R s m args below meth c nL D A cells slots Q w pc lv (.int (J b) :: .int (J a) :: st) :=
  fun H locs ls hP hD hS hl => lv_isub X.1.1 X.1.2.1 hdg (by rw [J_sub]; exact kk H locs ls hP hD hS hl)
theorem sw_imul (X : sw_C p s m args c cc nL own Ts D k A) {a b : Int} (hdg : decode cc pc = .ok (.imul, 1)) (kk : SW p l e R s m args below meth c nL D A cells slots Q w (pc + 1) lv (.int (J (a * b)) :: st)) : SW p l e R s m args below meth c nL D A cells slots Q w pc lv (.int (J b) :: .int (J a) :: st) :=
  fun H locs ls hP hD hS hl => lv_imul X.1.1 X.1.2.1 hdg (by rw [J_mul]; exact kk H locs ls hP hD hS hl)
theorem sw_ineg (X : sw_C p s m args c cc nL own Ts D k A) {a : Int} (hdg : decode cc pc = .ok (.ineg, 1)) (kk : SW p l e R s m args below meth c nL D A cells slots Q w (pc + 1) lv (.int (J (-a)) :: st)) : SW p l e R s m args below meth c nL D A cells slots Q w pc lv (.int (J a) :: st) :=
  fun H locs ls hP hD hS hl => lv_ineg X.1.1 X.1.2.1 hdg (by rw [J_neg]; exact kk H locs ls hP hD hS hl)
theorem sw_iand (X : sw_C p s m args c cc nL own Ts D k A) {a n : Int} (j : Nat) (h0 : 0 ≤ a) (h1 : a < 2147483648) (hm : (J n).toBitVec.toNat = 2 ^ j - 1) (hdg : decode cc pc = .ok (.iand, 1)) (kk : SW p l e R s m args below meth c nL D A cells slots Q w (pc + 1) lv (.int (J (a % (2 ^ j : Nat))) :: st)) : SW p l e R s m args below meth c nL D A cells slots Q w pc lv (.int (J n) :: .int (J a) :: st) :=
  fun H locs ls hP hD hS hl => lv_iand X.1.1 X.1.2.1 hdg (by rw [J_and j h0 h1 hm]; exact kk H locs ls hP hD hS hl)
theorem sw_ishr (X : sw_C p s m args c cc nL own Ts D k A) {a d : Int} (j : Nat) (h0 : 0 ≤ a) (h1 : a < 2147483648) (hm : ((J d &&& 31).toBitVec.smod 32).toNat = j) (hdg : decode cc pc = .ok (.ishr, 1)) (kk : SW p l e R s m args below meth c nL D A cells slots Q w (pc + 1) lv (.int (J (a / (2 ^ j : Nat))) :: st)) : SW p l e R s m args below meth c nL D A cells slots Q w pc lv (.int (J d) :: .int (J a) :: st) :=
  fun H locs ls hP hD hS hl => lv_ishr X.1.1 X.1.2.1 hdg (by rw [J_shr j h0 h1 hm]; exact kk H locs ls hP hD hS hl)
theorem sw_ishl4 (X : sw_C p s m args c cc nL own Ts D k A) {a : Int} (ha : a = 0 ∨ a = 1 ∨ a = -1) (hdg : decode cc pc = .ok (.ishl, 1)) (kk : SW p l e R s m args below meth c nL D A cells slots Q w (pc + 1) lv (.int (J (a * 16)) :: st)) : SW p l e R s m args below meth c nL D A cells slots Q w pc lv (.int (J 4) :: .int (J a) :: st) :=
  fun H locs ls hP hD hS hl => lv_ishl X.1.1 X.1.2.1 hdg (by
    have h : J a <<< (J 4 &&& 31) = J (a * 16) := by rcases ha with rfl | rfl | rfl <;> decide +kernel
    rw [h]; exact kk H locs ls hP hD hS hl)
theorem sw_idiv (X : sw_C p s m args c cc nL own Ts D k A) {a d : Int} (h0 : 0 ≤ a) (h1 : a < 2147483648) (hd : 0 < d ∧ d < 2147483648) (hdg : decode cc pc = .ok (.idiv, 1)) (kk : SW p l e R s m args below meth c nL D A cells slots Q w (pc + 1) lv (.int (J (a / d)) :: st)) : SW p l e R s m args below meth c nL D A cells slots Q w pc lv (.int (J d) :: .int (J a) :: st) :=
  fun H locs ls hP hD hS hl => lv_idiv X.1.1 X.1.2.1 hdg (by rw [J_0, J_eq (by omega) (by omega)]; omega) (by rw [J_div h0 h1 hd.1 hd.2]; exact kk H locs ls hP hD hS hl)
theorem sw_irem (X : sw_C p s m args c cc nL own Ts D k A) {a d : Int} (h0 : 0 ≤ a) (h1 : a < 2147483648) (hd : 0 < d ∧ d < 2147483648) (hdg : decode cc pc = .ok (.irem, 1)) (kk : SW p l e R s m args below meth c nL D A cells slots Q w (pc + 1) lv (.int (J (a % d)) :: st)) : SW p l e R s m args below meth c nL D A cells slots Q w pc lv (.int (J d) :: .int (J a) :: st) :=
  fun H locs ls hP hD hS hl => lv_irem X.1.1 X.1.2.1 hdg (by rw [J_0, J_eq (by omega) (by omega)]; omega) (by rw [J_rem h0 h1 hd.1 hd.2]; exact kk H locs ls hP hD hS hl)
theorem sw_dup (X : sw_C p s m args c cc nL own Ts D k A) {v : Value} (hdg : decode cc pc = .ok (.dup, 1)) (hv : v.category = 1) (kk : SW p l e R s m args below meth c nL D A cells slots Q w (pc + 1) lv (v :: v :: st)) : SW p l e R s m args below meth c nL D A cells slots Q w pc lv (v :: st) :=
  fun H locs ls hP hD hS hl => lv_dup X.1.1 X.1.2.1 hdg hv (kk H locs ls hP hD hS hl)
theorem sw_pop (X : sw_C p s m args c cc nL own Ts D k A) {v : Value} (hdg : decode cc pc = .ok (.pop, 1)) (hv : v.category = 1) (kk : SW p l e R s m args below meth c nL D A cells slots Q w (pc + 1) lv st) : SW p l e R s m args below meth c nL D A cells slots Q w pc lv (v :: st) :=
  fun H locs ls hP hD hS hl => lv_pop X.1.1 X.1.2.1 hdg hv (kk H locs ls hP hD hS hl)
theorem sw_dup2 (X : sw_C p s m args c cc nL own Ts D k A) {v u : Value} (hdg : decode cc pc = .ok (.dup2, 1)) (hv : v.category = 1) (hu : u.category = 1) (kk : SW p l e R s m args below meth c nL D A cells slots Q w (pc + 1) lv (v :: u :: v :: u :: st)) : SW p l e R s m args below meth c nL D A cells slots Q w pc lv (v :: u :: st) :=
  fun H locs ls hP hD hS hl => lv_dup2_11 X.1.1 X.1.2.1 hdg hv hu (kk H locs ls hP hD hS hl)
theorem sw_goto (X : sw_C p s m args c cc nL own Ts D k A) {off : Int} {tgt : Nat} (hdg : decode cc pc = .ok (.goto off, 3)) (ht : (pc : Int) + off = (tgt : Int)) (kk : SW p l e R s m args below meth c nL D A cells slots Q w tgt lv st) : SW p l e R s m args below meth c nL D A cells slots Q w pc lv st :=
  fun H locs ls hP hD hS hl => lv_goto X.1.1 X.1.2.1 hdg ht (kk H locs ls hP hD hS hl)
theorem sw_icmp_eq (X : sw_C p s m args c cc nL own Ts D k A) {a b : Int} {off : Int} {tgt : Nat} (ha : -2147483648 ≤ a ∧ a < 2147483648) (hb : -2147483648 ≤ b ∧ b < 2147483648) (hdg : decode cc pc = .ok (.if_icmp .eq off, 3)) (ht : (pc : Int) + off = (tgt : Int)) (kt : a = b → SW p l e R s m args below meth c nL D A cells slots Q w tgt lv st) (kf : ¬ a = b → SW p l e R s m args below meth c nL D A cells slots Q w (pc + 3) lv st) : SW p l e R s m args below meth c nL D A cells slots Q w pc lv (.int (J b) :: .int (J a) :: st) := by
  intro H locs ls hP hD hS hl
  have hq := J_eq ha hb
  refine lv_icmp_eq X.1.1 X.1.2.1 hdg ht (fun h => kt ?_ H locs ls hP hD hS hl) (fun h => kf ?_ H locs ls hP hD hS hl)
  · exact hq.mp h
  · exact fun z => h (hq.mpr z)
theorem sw_if_eq (X : sw_C p s m args c cc nL own Ts D k A) {a : Int} {off : Int} {tgt : Nat} (ha : -2147483648 ≤ a ∧ a < 2147483648) (hdg : decode cc pc = .ok (.ifCond .eq off, 3)) (ht : (pc : Int) + off = (tgt : Int)) (kt : a = 0 → SW p l e R s m args below meth c nL D A cells slots Q w tgt lv st) (kf : ¬ a = 0 → SW p l e R s m args below meth c nL D A cells slots Q w (pc + 3) lv st) : SW p l e R s m args below meth c nL D A cells slots Q w pc lv (.int (J a) :: st) := by
  intro H locs ls hP hD hS hl
  have hq := J_eq ha (show -2147483648 ≤ (0 : Int) ∧ (0 : Int) < 2147483648 by omega)
  refine lv_if_eq X.1.1 X.1.2.1 hdg ht (fun h => kt ?_ H locs ls hP hD hS hl) (fun h => kf ?_ H locs ls hP hD hS hl)
  · exact hq.mp h
  · exact fun z => h (hq.mpr z)
theorem sw_icmp_ne (X : sw_C p s m args c cc nL own Ts D k A) {a b : Int} {off : Int} {tgt : Nat} (ha : -2147483648 ≤ a ∧ a < 2147483648) (hb : -2147483648 ≤ b ∧ b < 2147483648) (hdg : decode cc pc = .ok (.if_icmp .ne off, 3)) (ht : (pc : Int) + off = (tgt : Int)) (kt : ¬ a = b → SW p l e R s m args below meth c nL D A cells slots Q w tgt lv st) (kf : a = b → SW p l e R s m args below meth c nL D A cells slots Q w (pc + 3) lv st) : SW p l e R s m args below meth c nL D A cells slots Q w pc lv (.int (J b) :: .int (J a) :: st) := by
  intro H locs ls hP hD hS hl
  have hq := not_congr (J_eq ha hb)
  refine lv_icmp_ne X.1.1 X.1.2.1 hdg ht (fun h => kt ?_ H locs ls hP hD hS hl) (fun h => kf ?_ H locs ls hP hD hS hl)
  · exact hq.mp h
  · exact (J_eq ha hb).mp h
theorem sw_if_ne (X : sw_C p s m args c cc nL own Ts D k A) {a : Int} {off : Int} {tgt : Nat} (ha : -2147483648 ≤ a ∧ a < 2147483648) (hdg : decode cc pc = .ok (.ifCond .ne off, 3)) (ht : (pc : Int) + off = (tgt : Int)) (kt : ¬ a = 0 → SW p l e R s m args below meth c nL D A cells slots Q w tgt lv st) (kf : a = 0 → SW p l e R s m args below meth c nL D A cells slots Q w (pc + 3) lv st) : SW p l e R s m args below meth c nL D A cells slots Q w pc lv (.int (J a) :: st) := by
  intro H locs ls hP hD hS hl
  have hq := not_congr (J_eq ha (show -2147483648 ≤ (0 : Int) ∧ (0 : Int) < 2147483648 by omega))
  refine lv_if_ne X.1.1 X.1.2.1 hdg ht (fun h => kt ?_ H locs ls hP hD hS hl) (fun h => kf ?_ H locs ls hP hD hS hl)
  · exact hq.mp h
  · exact (J_eq ha (show -2147483648 ≤ (0 : Int) ∧ (0 : Int) < 2147483648 by omega)).mp h
theorem sw_icmp_lt (X : sw_C p s m args c cc nL own Ts D k A) {a b : Int} {off : Int} {tgt : Nat} (ha : -2147483648 ≤ a ∧ a < 2147483648) (hb : -2147483648 ≤ b ∧ b < 2147483648) (hdg : decode cc pc = .ok (.if_icmp .lt off, 3)) (ht : (pc : Int) + off = (tgt : Int)) (kt : a < b → SW p l e R s m args below meth c nL D A cells slots Q w tgt lv st) (kf : b ≤ a → SW p l e R s m args below meth c nL D A cells slots Q w (pc + 3) lv st) : SW p l e R s m args below meth c nL D A cells slots Q w pc lv (.int (J b) :: .int (J a) :: st) := by
  intro H locs ls hP hD hS hl
  have hq := J_lt ha hb
  refine lv_icmp_lt X.1.1 X.1.2.1 hdg ht (fun h => kt ?_ H locs ls hP hD hS hl) (fun h => kf ?_ H locs ls hP hD hS hl)
  · exact hq.mp h
  · have h9 : ¬ (a < b) := fun z => h (hq.mpr z)
    omega
theorem sw_if_lt (X : sw_C p s m args c cc nL own Ts D k A) {a : Int} {off : Int} {tgt : Nat} (ha : -2147483648 ≤ a ∧ a < 2147483648) (hdg : decode cc pc = .ok (.ifCond .lt off, 3)) (ht : (pc : Int) + off = (tgt : Int)) (kt : a < 0 → SW p l e R s m args below meth c nL D A cells slots Q w tgt lv st) (kf : 0 ≤ a → SW p l e R s m args below meth c nL D A cells slots Q w (pc + 3) lv st) : SW p l e R s m args below meth c nL D A cells slots Q w pc lv (.int (J a) :: st) := by
  intro H locs ls hP hD hS hl
  have hq := J_lt ha (show -2147483648 ≤ (0 : Int) ∧ (0 : Int) < 2147483648 by omega)
  refine lv_if_lt X.1.1 X.1.2.1 hdg ht (fun h => kt ?_ H locs ls hP hD hS hl) (fun h => kf ?_ H locs ls hP hD hS hl)
  · exact hq.mp h
  · have h9 : ¬ (a < 0) := fun z => h (hq.mpr z)
    omega
theorem sw_icmp_ge (X : sw_C p s m args c cc nL own Ts D k A) {a b : Int} {off : Int} {tgt : Nat} (ha : -2147483648 ≤ a ∧ a < 2147483648) (hb : -2147483648 ≤ b ∧ b < 2147483648) (hdg : decode cc pc = .ok (.if_icmp .ge off, 3)) (ht : (pc : Int) + off = (tgt : Int)) (kt : b ≤ a → SW p l e R s m args below meth c nL D A cells slots Q w tgt lv st) (kf : a < b → SW p l e R s m args below meth c nL D A cells slots Q w (pc + 3) lv st) : SW p l e R s m args below meth c nL D A cells slots Q w pc lv (.int (J b) :: .int (J a) :: st) := by
  intro H locs ls hP hD hS hl
  have hq := J_le hb ha
  refine lv_icmp_ge X.1.1 X.1.2.1 hdg ht (fun h => kt ?_ H locs ls hP hD hS hl) (fun h => kf ?_ H locs ls hP hD hS hl)
  · exact hq.mp h
  · have h9 : ¬ (b ≤ a) := fun z => h (hq.mpr z)
    omega
theorem sw_if_ge (X : sw_C p s m args c cc nL own Ts D k A) {a : Int} {off : Int} {tgt : Nat} (ha : -2147483648 ≤ a ∧ a < 2147483648) (hdg : decode cc pc = .ok (.ifCond .ge off, 3)) (ht : (pc : Int) + off = (tgt : Int)) (kt : 0 ≤ a → SW p l e R s m args below meth c nL D A cells slots Q w tgt lv st) (kf : a < 0 → SW p l e R s m args below meth c nL D A cells slots Q w (pc + 3) lv st) : SW p l e R s m args below meth c nL D A cells slots Q w pc lv (.int (J a) :: st) := by
  intro H locs ls hP hD hS hl
  have hq := J_le (show -2147483648 ≤ (0 : Int) ∧ (0 : Int) < 2147483648 by omega) ha
  refine lv_if_ge X.1.1 X.1.2.1 hdg ht (fun h => kt ?_ H locs ls hP hD hS hl) (fun h => kf ?_ H locs ls hP hD hS hl)
  · exact hq.mp h
  · have h9 : ¬ (0 ≤ a) := fun z => h (hq.mpr z)
    omega
theorem sw_icmp_gt (X : sw_C p s m args c cc nL own Ts D k A) {a b : Int} {off : Int} {tgt : Nat} (ha : -2147483648 ≤ a ∧ a < 2147483648) (hb : -2147483648 ≤ b ∧ b < 2147483648) (hdg : decode cc pc = .ok (.if_icmp .gt off, 3)) (ht : (pc : Int) + off = (tgt : Int)) (kt : b < a → SW p l e R s m args below meth c nL D A cells slots Q w tgt lv st) (kf : a ≤ b → SW p l e R s m args below meth c nL D A cells slots Q w (pc + 3) lv st) : SW p l e R s m args below meth c nL D A cells slots Q w pc lv (.int (J b) :: .int (J a) :: st) := by
  intro H locs ls hP hD hS hl
  have hq := J_lt hb ha
  refine lv_icmp_gt X.1.1 X.1.2.1 hdg ht (fun h => kt ?_ H locs ls hP hD hS hl) (fun h => kf ?_ H locs ls hP hD hS hl)
  · exact hq.mp h
  · have h9 : ¬ (b < a) := fun z => h (hq.mpr z)
    omega
theorem sw_if_gt (X : sw_C p s m args c cc nL own Ts D k A) {a : Int} {off : Int} {tgt : Nat} (ha : -2147483648 ≤ a ∧ a < 2147483648) (hdg : decode cc pc = .ok (.ifCond .gt off, 3)) (ht : (pc : Int) + off = (tgt : Int)) (kt : 0 < a → SW p l e R s m args below meth c nL D A cells slots Q w tgt lv st) (kf : a ≤ 0 → SW p l e R s m args below meth c nL D A cells slots Q w (pc + 3) lv st) : SW p l e R s m args below meth c nL D A cells slots Q w pc lv (.int (J a) :: st) := by
  intro H locs ls hP hD hS hl
  have hq := J_lt (show -2147483648 ≤ (0 : Int) ∧ (0 : Int) < 2147483648 by omega) ha
  refine lv_if_gt X.1.1 X.1.2.1 hdg ht (fun h => kt ?_ H locs ls hP hD hS hl) (fun h => kf ?_ H locs ls hP hD hS hl)
  · exact hq.mp h
  · have h9 : ¬ (0 < a) := fun z => h (hq.mpr z)
    omega
theorem sw_icmp_le (X : sw_C p s m args c cc nL own Ts D k A) {a b : Int} {off : Int} {tgt : Nat} (ha : -2147483648 ≤ a ∧ a < 2147483648) (hb : -2147483648 ≤ b ∧ b < 2147483648) (hdg : decode cc pc = .ok (.if_icmp .le off, 3)) (ht : (pc : Int) + off = (tgt : Int)) (kt : a ≤ b → SW p l e R s m args below meth c nL D A cells slots Q w tgt lv st) (kf : b < a → SW p l e R s m args below meth c nL D A cells slots Q w (pc + 3) lv st) : SW p l e R s m args below meth c nL D A cells slots Q w pc lv (.int (J b) :: .int (J a) :: st) := by
  intro H locs ls hP hD hS hl
  have hq := J_le ha hb
  refine lv_icmp_le X.1.1 X.1.2.1 hdg ht (fun h => kt ?_ H locs ls hP hD hS hl) (fun h => kf ?_ H locs ls hP hD hS hl)
  · exact hq.mp h
  · have h9 : ¬ (a ≤ b) := fun z => h (hq.mpr z)
    omega
theorem sw_if_le (X : sw_C p s m args c cc nL own Ts D k A) {a : Int} {off : Int} {tgt : Nat} (ha : -2147483648 ≤ a ∧ a < 2147483648) (hdg : decode cc pc = .ok (.ifCond .le off, 3)) (ht : (pc : Int) + off = (tgt : Int)) (kt : a ≤ 0 → SW p l e R s m args below meth c nL D A cells slots Q w tgt lv st) (kf : 0 < a → SW p l e R s m args below meth c nL D A cells slots Q w (pc + 3) lv st) : SW p l e R s m args below meth c nL D A cells slots Q w pc lv (.int (J a) :: st) := by
  intro H locs ls hP hD hS hl
  have hq := J_le ha (show -2147483648 ≤ (0 : Int) ∧ (0 : Int) < 2147483648 by omega)
  refine lv_if_le X.1.1 X.1.2.1 hdg ht (fun h => kt ?_ H locs ls hP hD hS hl) (fun h => kf ?_ H locs ls hP hD hS hl)
  · exact hq.mp h
  · have h9 : ¬ (a ≤ 0) := fun z => h (hq.mpr z)
    omega
theorem sw_ifnull (X : sw_C p s m args c cc nL own Ts D k A) {x : Nat} {off : Int} (hdg : decode cc pc = .ok (.ifnull off, 3)) (kk : SW p l e R s m args below meth c nL D A cells slots Q w (pc + 3) lv st) : SW p l e R s m args below meth c nL D A cells slots Q w pc lv (.ref x :: st) :=
  fun H locs ls hP hD hS hl => lv_ifnull X.1.1 X.1.2.1 hdg (kk H locs ls hP hD hS hl)
theorem sw_ifnullN (X : sw_C p s m args c cc nL own Ts D k A) {off : Int} {tgt : Nat} (hdg : decode cc pc = .ok (.ifnull off, 3)) (ht : (pc : Int) + off = (tgt : Int)) (kk : SW p l e R s m args below meth c nL D A cells slots Q w tgt lv st) : SW p l e R s m args below meth c nL D A cells slots Q w pc lv (.null :: st) :=
  fun H locs ls hP hD hS hl => lv_ifnullN X.1.1 X.1.2.1 hdg ht (kk H locs ls hP hD hS hl)
theorem sw_ifnonnull (X : sw_C p s m args c cc nL own Ts D k A) {x : Nat} {off : Int} {tgt : Nat} (hdg : decode cc pc = .ok (.ifnonnull off, 3)) (ht : (pc : Int) + off = (tgt : Int)) (kk : SW p l e R s m args below meth c nL D A cells slots Q w tgt lv st) : SW p l e R s m args below meth c nL D A cells slots Q w pc lv (.ref x :: st) :=
  fun H locs ls hP hD hS hl => lv_ifnonnull X.1.1 X.1.2.1 hdg ht (kk H locs ls hP hD hS hl)
theorem sw_ifnonnullN (X : sw_C p s m args c cc nL own Ts D k A) {off : Int} (hdg : decode cc pc = .ok (.ifnonnull off, 3)) (kk : SW p l e R s m args below meth c nL D A cells slots Q w (pc + 3) lv st) : SW p l e R s m args below meth c nL D A cells slots Q w pc lv (.null :: st) :=
  fun H locs ls hP hD hS hl => lv_ifnonnullN X.1.1 X.1.2.1 hdg (kk H locs ls hP hD hS hl)
/-- a field read; a field written -/
theorem sw_get (X : sw_C p s m args c cc nL own Ts D k A) {ref C : String} {T : u_T} {N ci index q0 : Nat} (hin : ∀ w ∈ u_ws C T N, w ∈ Ts) {a : Nat} {fs : List Value} (he : w[q0]? = some (a, .inr (ci, fs))) (hc : vwCl[ci]? = some (C, T, N)) (j : Nat) (hj : j < N) (hlink : Cond.fieldLink own index ref (T j).2.1 (T j).2.2.1 ∈ Ts) (href : (T j).1 = ref) {v : Value} (hv : fs[j]? = some v) (hdg : decode cc pc = .ok (.getfield index, 3)) (kk : SW p l e R s m args below meth c nL D A cells slots Q w (pc + 3) lv (v :: st)) : SW p l e R s m args below meth c nL D A cells slots Q w pc lv (.ref a :: st) :=
  fun H locs ls hP hD hS hl => va_get X.1.1 X.1.2.1 X.1.2.2.2.2 hin X.1.2.2.2.1 X.2.1 hP q0 he hc j hj (X.1.2.2.2.2 _ hlink) (fun _ h9 => href ▸ h9) hv hdg (kk H locs ls hP hD hS hl)
theorem sw_put (X : sw_C p s m args c cc nL own Ts D k A) {ref C : String} {T : u_T} {N ci index q0 : Nat} (hin : ∀ w ∈ u_ws C T N, w ∈ Ts) (ty0 : Nat → FieldType) (hty : ∀ k, k < N → parseFieldDescriptor (T k).2.2.1 = some (ty0 k)) (hnm : ∀ a, a < N → ∀ b, b < N → a ≠ b → (T a).2.1 ≠ (T b).2.1) {a : Nat} {fs : List Value} (he : w[q0]? = some (a, .inr (ci, fs))) (hc : vwCl[ci]? = some (C, T, N)) (j : Nat) (hj : j < N) (hlink : Cond.fieldLink own index ref (T j).2.1 (T j).2.2.1 ∈ Ts) (href : (T j).1 = ref) (hfin : (T j).2.2.2 = false) {ty : FieldType} (hd : parseFieldDescriptor (T j).2.2.1 = some ty) {v : Value} (hn : narrow ty v = v) (hfit : fits ty v = true) (hlen : j < fs.length) {w' : va_W} (hw : w.set q0 (a, .inr (ci, fs.set j v)) = w') (hdg : decode cc pc = .ok (.putfield index, 3)) (kk : SW p l e R s m args below meth c nL D A cells slots Q w' (pc + 3) lv st) : SW p l e R s m args below meth c nL D A cells slots Q w pc lv (v :: .ref a :: st) :=
  fun H locs ls hP hD hS hl => va_put X.1.1 X.1.2.1 X.1.2.2.2.2 hin ty0 hty hnm X.1.2.2.2.1 X.2.1 hP hD hS q0 he hc j hj (X.1.2.2.2.2 _ hlink) (fun _ h9 => href ▸ h9) hfin hd hn hfit hlen hdg (fun H locs hP hD hS => kk H locs ls (hw ▸ hP) (hw ▸ hD) hS hl)
theorem sw_putF (X : sw_C p s m args c cc nL own Ts D k A) (hini : meth.name = "<init>") {ref C : String} {T : u_T} {N ci index q0 : Nat} (hin : ∀ w ∈ u_ws C T N, w ∈ Ts) (ty0 : Nat → FieldType) (hty : ∀ k, k < N → parseFieldDescriptor (T k).2.2.1 = some (ty0 k)) (hnm : ∀ a, a < N → ∀ b, b < N → a ≠ b → (T a).2.1 ≠ (T b).2.1) {a : Nat} {fs : List Value} (he : w[q0]? = some (a, .inr (ci, fs))) (hc : vwCl[ci]? = some (C, T, N)) (j : Nat) (hj : j < N) (hlink : Cond.fieldLink own index ref (T j).2.1 (T j).2.2.1 ∈ Ts) (href : (T j).1 = ref) (hdecl : (T j).1 = own) (hfin : (T j).2.2.2 = true) {ty : FieldType} (hd : parseFieldDescriptor (T j).2.2.1 = some ty) {v : Value} (hn : narrow ty v = v) (hfit : fits ty v = true) (hlen : j < fs.length) {w' : va_W} (hw : w.set q0 (a, .inr (ci, fs.set j v)) = w') (hdg : decode cc pc = .ok (.putfield index, 3)) (kk : SW p l e R s m args below meth c nL D A cells slots Q w' (pc + 3) lv st) : SW p l e R s m args below meth c nL D A cells slots Q w pc lv (v :: .ref a :: st) :=
  fun H locs ls hP hD hS hl => va_putF X.1.1 X.1.2.1 X.1.2.2.2.2 hin ty0 hty hnm X.1.2.2.2.1 X.2.1 hP hD hS q0 he hc j hj (X.1.2.2.2.2 _ hlink) (fun _ h9 => href ▸ h9) hfin hini hdecl hd hn hfit hlen hdg (fun H locs hP hD hS => kk H locs ls (hw ▸ hP) (hw ▸ hD) hS hl)
/-- an array of ints as a function of whole numbers -/
def aI (k : Nat → ClassId) (n : Nat) (f : Int → Int) : va_E := .inl (k 0, n, .inl (fun i => J (f (i : Int))))
def upI (f : Int → Int) (i v : Int) : Int → Int := fun j => if j = i then v else f j
theorem sw_iald (X : sw_C p s m args c cc nL own Ts D k A) {q0 n : Nat} {a : Nat} {f : Int → Int} {i : Int} (he : w[q0]? = some (a, aI k n f)) (h0 : 0 ≤ i) (h1 : i < (n : Int)) (hn : n < 2147483648) (hdg : decode cc pc = .ok (.iaload, 1)) (kk : SW p l e R s m args below meth c nL D A cells slots Q w (pc + 1) lv (.int (J (f i)) :: st)) : SW p l e R s m args below meth c nL D A cells slots Q w pc lv (.int (J i) :: .ref a :: st) :=
  fun H locs ls hP hD hS hl => va_iald X.1.1 X.1.2.1 X.2.1 hP q0 0 he rfl (J_in h0 h1 hn) hdg (by
    rw [J_cl h0 (by omega), show J (f ((i.toNat : Nat) : Int)) = J (f i) by rw [Int.toNat_of_nonneg h0]]; exact kk H locs ls hP hD hS hl)
theorem sw_upJ {f : Int → Int} {i v : Int} (h0 : 0 ≤ i) (h1 : i < 2147483648) : upd (fun j : Nat => J (f (j : Int))) (J i).toNatClampNeg (J v) = fun j : Nat => J (upI f i v (j : Int)) := by
  rw [J_cl h0 h1]
  funext j
  by_cases hj : j = i.toNat
  · have h2 : (j : Int) = i := by omega
    rw [show upd (fun j : Nat => J (f (j : Int))) i.toNat (J v) j = J v by rw [hj]; exact pk_us]
    simp only [upI, if_pos h2]
  · have h2 : ¬ (j : Int) = i := by omega
    rw [pk_un hj]
    simp only [upI, if_neg h2]
theorem sw_iast (X : sw_C p s m args c cc nL own Ts D k A) {q0 n : Nat} {a : Nat} {f : Int → Int} {i v : Int} (he : w[q0]? = some (a, aI k n f)) (h0 : 0 ≤ i) (h1 : i < (n : Int)) (hn : n < 2147483648) {w' : va_W} (hw : w.set q0 (a, aI k n (upI f i v)) = w') (hdg : decode cc pc = .ok (.iastore, 1)) (kk : SW p l e R s m args below meth c nL D A cells slots Q w' (pc + 1) lv st) : SW p l e R s m args below meth c nL D A cells slots Q w pc lv (.int (J v) :: .int (J i) :: .ref a :: st) := by
  intro H locs ls hP hD hS hl
  refine va_iast X.1.1 X.1.2.1 X.2.1 hP hD hS q0 0 he rfl (J_in h0 h1 hn) hdg (fun H locs hP hD hS => ?_)
  rw [sw_upJ h0 (by omega)] at hP hD
  subst hw
  exact kk H locs ls hP hD hS hl
end SWr
end
section
/-! contracts: what a method answers, over which world; all of them need the words WG and their own code -/
theorem iw_of {C : String} {T : u_T} {N : Nat} (h : ∀ k, k < N → u_lay C T k ∈ WG) : ∀ w ∈ u_ws C T N, w ∈ WG := fun w hw => by
  obtain ⟨k, hk, rfl⟩ := List.mem_map.mp hw
  exact h k (List.mem_range.mp hk)
def sw_Pc (D : va_G) (k : Nat → ClassId) (w : va_W) (sz : Nat) (as : List Value) : Array Value → State → Prop := va_Pc as (fun U => U.heap.size = sz ∧ va_P D vwCl w U.heap ∧ va_K D vwCl (TYS k) U ∧ va_D (fun _ => True) w ∧ cG (va_A w sz) U U.heap)
theorem sw_blind (D : va_G) (k : Nat → ClassId) (w : va_W) (sz : Nat) (as : List Value) : FrameBlind (sw_Pc D k w sz as) := by
  intro a U g mk q
  obtain ⟨q0, q1, qP, qK, qD, qG⟩ := q
  exact ⟨q0, q1, qP, va_K.moved (u := U) (U := U.calling g mk a) (Vm.Alike.refl U.vm) qK, qD, cG.same (s := U) (U := U.calling g mk a) rfl qG⟩
def sw_B (D : va_G) (w : va_W) (sz : Nat) (w' : va_W) (t : State) : Prop := va_P D vwCl w' t.heap ∧ va_D (va_A w sz) w'
def sw_X (D : va_G) (w : va_W) (sz : Nat) (px : String → va_W → Prop) : String → State → State → Prop := vx_X (fun _ : va_W => True) (fun E w' t => px E w' ∧ sw_B D w sz w' t) (va_A w sz)
abbrev sw_ws (y : MethodName) (cc : ByteArray) (maxL : Nat) (ret : Option FieldType) : List Cond := .code y cc maxL ret :: WG
def CI (l : Launch) (y : MethodName) (cc : ByteArray) (maxL : Nat) (ret : Option FieldType) (rm : Room) (D : va_G) (k : Nat → ClassId) (as : List Value) (w : va_W) (post : Int → va_W → Prop) : Prop :=
  ∀ sz, Met l y (sw_ws y cc maxL ret) rm (sw_Pc D k w sz as) (va_Qi (fun r w' => ∃ z : Int, r = J z ∧ post z w') (sw_B D w sz) (va_A w sz)) rm.cells rm.slots (va_A w sz)
def CV (l : Launch) (y : MethodName) (cc : ByteArray) (maxL : Nat) (ret : Option FieldType) (rm : Room) (D : va_G) (k : Nat → ClassId) (as : List Value) (w : va_W) (post : va_W → Prop) : Prop :=
  ∀ sz, Met l y (sw_ws y cc maxL ret) rm (sw_Pc D k w sz as) (va_Qv (fun w' => post w') (sw_B D w sz) (va_A w sz)) rm.cells rm.slots (va_A w sz)
def CQ (l : Launch) (y : MethodName) (cc : ByteArray) (maxL : Nat) (ret : Option FieldType) (rm : Room) (D : va_G) (k : Nat → ClassId) (as : List Value) (w : va_W) (post : Option Nat → va_W → Prop) : Prop :=
  ∀ sz, Met l y (sw_ws y cc maxL ret) rm (sw_Pc D k w sz as) (va_Qq (fun r w' => post r w') (sw_B D w sz) (va_A w sz)) rm.cells rm.slots (va_A w sz)
def XI (l : Launch) (y : MethodName) (cc : ByteArray) (maxL : Nat) (ret : Option FieldType) (rm : Room) (D : va_G) (k : Nat → ClassId) (as : List Value) (w : va_W) (post : Int → va_W → Prop) (px : String → va_W → Prop) : Prop :=
  ∀ sz, vx_Met l y (sw_ws y cc maxL ret) rm (sw_Pc D k w sz as) (va_Qi (fun r w' => ∃ z : Int, r = J z ∧ post z w') (sw_B D w sz) (va_A w sz)) (sw_X D w sz px) rm.cells rm.slots (va_A w sz)
def XV (l : Launch) (y : MethodName) (cc : ByteArray) (maxL : Nat) (ret : Option FieldType) (rm : Room) (D : va_G) (k : Nat → ClassId) (as : List Value) (w : va_W) (post : va_W → Prop) (px : String → va_W → Prop) : Prop :=
  ∀ sz, vx_Met l y (sw_ws y cc maxL ret) rm (sw_Pc D k w sz as) (va_Qv (fun w' => post w') (sw_B D w sz) (va_A w sz)) (sw_X D w sz px) rm.cells rm.slots (va_A w sz)
def XQ (l : Launch) (y : MethodName) (cc : ByteArray) (maxL : Nat) (ret : Option FieldType) (rm : Room) (D : va_G) (k : Nat → ClassId) (as : List Value) (w : va_W) (post : Option Nat → va_W → Prop) (px : String → va_W → Prop) : Prop :=
  ∀ sz, vx_Met l y (sw_ws y cc maxL ret) rm (sw_Pc D k w sz as) (va_Qq (fun r w' => post r w') (sw_B D w sz) (va_A w sz)) (sw_X D w sz px) rm.cells rm.slots (va_A w sz)
section SWe
variable {l : Launch} {y : MethodName} {cc : ByteArray} {maxL : Nat} {rm : Room} {D : va_G} {k : Nat → ClassId} {as : List Value} {w : va_W}
/-- a body that answers an int (or a boolean, 0 or 1) -/
theorem CI.of {ret : FieldType} {post : Int → va_W → Prop} (hy : plainName y.cls = true) (hlen : (lg_sl as).length ≤ maxL)
    (body : ∀ (p : Program) (e : Env) (s : State) (m : MethodId) (args : Array Value) (below : List Frame) (meth : Method) (c : Code) (A : Nat → Prop) (Q : State → Prop), sw_C p s m args c cc maxL y.cls WG D k A →
      (∀ (pc cells slots : Nat) (z : Int) (w' : va_W) (lv : List (Nat × Value)), decode cc pc = .ok (.ireturn, 1) → cells ≤ rm.cells → slots ≤ rm.slots → narrow ret (.int (J z)) = .int (J z) → post z w' → SW p l e rm s m args below meth c maxL D A cells slots Q w' pc lv [.int (J z)]) →
      SW p l e rm s m args below meth c maxL D A 0 0 Q w 0 (lv_args 0 as) []) : CI l y cc maxL (some ret) rm D k as w post := by
  intro sz
  refine Met.ofW (cc := cc) (maxL := maxL) (ret := some ret) hy rfl ?_
  intro p e s m args below meth c s₁ B hml hv
  obtain ⟨rfl, hsz, hP, hK, hD0, hG⟩ := hv
  have hts : ∀ w ∈ WG, w.before as.toArray s = true := fun w h => atoms_spec (ws := sw_ws y cc maxL (some ret)) B.pre w (List.mem_cons_of_mem _ h)
  have hown : s.vm.findClass y.cls = some m.cls := findClass_of_methodNamed B.named
  subst hsz
  have hl := lv_entry as hlen
  rw [lg_entry_eq]
  refine body p e s m as.toArray below meth c (va_A w s.heap.size) _ ⟨⟨B.exec, B.bytes, hml, hown, hts⟩, hK, fun q h => Or.inr h, hG⟩ ?_ s.heap [] _ hP hD0.self va_S.rf hl
  intro pc cells slots z w' lv hdg hc hs hn hp H locs ls hP1 hD1 hS1 hl1
  refine W.widen hc hs ?_
  exact W.zret B.exec B.bytes B.returns hn (fun t ht hW => ⟨⟨J z, w', rfl, ⟨z, rfl, hp⟩, by rw [ht]; exact hP1, hD1⟩, hS1.F ht⟩) hS1.2.2 hdg B.notSynchronized
theorem CV.of {post : va_W → Prop} (hy : plainName y.cls = true) (hlen : (lg_sl as).length ≤ maxL)
    (body : ∀ (p : Program) (e : Env) (s : State) (m : MethodId) (args : Array Value) (below : List Frame) (meth : Method) (c : Code) (A : Nat → Prop) (Q : State → Prop), sw_C p s m args c cc maxL y.cls WG D k A → meth.name = y.name →
      (∀ (pc cells slots : Nat) (w' : va_W) (lv : List (Nat × Value)), decode cc pc = .ok (.return_, 1) → cells ≤ rm.cells → slots ≤ rm.slots → post w' → SW p l e rm s m args below meth c maxL D A cells slots Q w' pc lv []) →
      SW p l e rm s m args below meth c maxL D A 0 0 Q w 0 (lv_args 0 as) []) : CV l y cc maxL none rm D k as w post := by
  intro sz
  refine Met.ofW (cc := cc) (maxL := maxL) (ret := none) hy rfl ?_
  intro p e s m args below meth c s₁ B hml hv
  obtain ⟨rfl, hsz, hP, hK, hD0, hG⟩ := hv
  have hts : ∀ w ∈ WG, w.before as.toArray s = true := fun w h => atoms_spec (ws := sw_ws y cc maxL none) B.pre w (List.mem_cons_of_mem _ h)
  have hown : s.vm.findClass y.cls = some m.cls := findClass_of_methodNamed B.named
  subst hsz
  have hl := lv_entry as hlen
  rw [lg_entry_eq]
  refine body p e s m as.toArray below meth c (va_A w s.heap.size) _ ⟨⟨B.exec, B.bytes, hml, hown, hts⟩, hK, fun q h => Or.inr h, hG⟩ (name_of_methodNamed B.named B.method).1 ?_ s.heap [] _ hP hD0.self va_S.rf hl
  intro pc cells slots w' lv hdg hc hs hp H locs ls hP1 hD1 hS1 hl1
  refine W.widen hc hs ?_
  exact W.vret B.exec B.bytes B.returns (fun t ht hW => ⟨⟨w', rfl, hp, by rw [ht]; exact hP1, hD1⟩, hS1.F ht⟩) hS1.2.2 hdg B.notSynchronized
theorem sw_rf (r : Option Nat) : va_rf r = .null ∨ ∃ a, va_rf r = .ref a := by
  cases r with
  | none => exact Or.inl rfl
  | some a => exact Or.inr ⟨a, rfl⟩
theorem CQ.of {C : String} {post : Option Nat → va_W → Prop} (hy : plainName y.cls = true) (hlen : (lg_sl as).length ≤ maxL)
    (body : ∀ (p : Program) (e : Env) (s : State) (m : MethodId) (args : Array Value) (below : List Frame) (meth : Method) (c : Code) (A : Nat → Prop) (Q : State → Prop), sw_C p s m args c cc maxL y.cls WG D k A →
      (∀ (pc cells slots : Nat) (r : Option Nat) (w' : va_W) (lv : List (Nat × Value)), decode cc pc = .ok (.areturn, 1) → cells ≤ rm.cells → slots ≤ rm.slots → post r w' → SW p l e rm s m args below meth c maxL D A cells slots Q w' pc lv [va_rf r]) →
      SW p l e rm s m args below meth c maxL D A 0 0 Q w 0 (lv_args 0 as) []) : CQ l y cc maxL (some (.object C)) rm D k as w post := by
  intro sz
  refine Met.ofW (cc := cc) (maxL := maxL) (ret := some (.object C)) hy rfl ?_
  intro p e s m args below meth c s₁ B hml hv
  obtain ⟨rfl, hsz, hP, hK, hD0, hG⟩ := hv
  have hts : ∀ w ∈ WG, w.before as.toArray s = true := fun w h => atoms_spec (ws := sw_ws y cc maxL (some (.object C))) B.pre w (List.mem_cons_of_mem _ h)
  have hown : s.vm.findClass y.cls = some m.cls := findClass_of_methodNamed B.named
  subst hsz
  have hl := lv_entry as hlen
  rw [lg_entry_eq]
  refine body p e s m as.toArray below meth c (va_A w s.heap.size) _ ⟨⟨B.exec, B.bytes, hml, hown, hts⟩, hK, fun q h => Or.inr h, hG⟩ ?_ s.heap [] _ hP hD0.self va_S.rf hl
  intro pc cells slots r w' lv hdg hc hs hp H locs ls hP1 hD1 hS1 hl1
  refine W.widen hc hs ?_
  exact W.aret B.exec B.bytes B.returns (Or.inl ⟨_, rfl⟩) (sw_rf r) (fun t ht hW => ⟨⟨r, w', rfl, hp, by rw [ht]; exact hP1, hD1⟩, hS1.F ht⟩) hS1.2.2 hdg B.notSynchronized
end SWe
/-! calls -/
theorem sw_goodV {own C : String} {index : Nat} {y : MethodName} {bytes : ByteArray} {maxL : Nat} {ret : Option FieldType} (h1 : Cond.methodLink own index y ∈ WG) (h2 : Cond.instanceMethod y ∈ WG) (h3 : Cond.selects C y y ∈ WG) (h4 : Cond.initialized C ∈ WG) (h5 : Cond.code y bytes maxL ret ∈ WG) : GoodIn WG (wsV own index C y (sw_ws y bytes maxL ret)) := by
  have key : ∀ w ∈ wsV own index C y (sw_ws y bytes maxL ret), w ∈ WG := by
    intro w hw
    simp only [wsV, sw_ws, List.cons_append, List.nil_append, List.mem_cons] at hw
    rcases hw with rfl | rfl | rfl | rfl | rfl | hw
    · exact h1
    · exact h2
    · exact h3
    · exact h4
    · exact h5
    · exact hw
  exact fun w hw => ⟨key w hw, good_of_word (WG_good w (key w hw))⟩
theorem sw_goodS {own : String} {index : Nat} {y : MethodName} {bytes : ByteArray} {maxL : Nat} {ret : Option FieldType} (h1 : Cond.methodLink own index y ∈ WG) (h2 : Cond.static y ∈ WG) (h4 : Cond.initialized y.cls ∈ WG) (h5 : Cond.code y bytes maxL ret ∈ WG) : GoodIn WG (va_wsS own index y (sw_ws y bytes maxL ret)) := by
  have key : ∀ w ∈ va_wsS own index y (sw_ws y bytes maxL ret), w ∈ WG := by
    intro w hw
    simp only [va_wsS, sw_ws, List.cons_append, List.nil_append, List.mem_cons] at hw
    rcases hw with rfl | rfl | rfl | rfl | hw
    · exact h1
    · exact h2
    · exact h4
    · exact h5
    · exact hw
  exact fun w hw => ⟨key w hw, good_of_word (WG_good w (key w hw))⟩
theorem sw_getR {wr wc : va_W} {i : Nat} {q : Nat × va_E} (h : wc[i]? = some q) : (wr ++ wc)[wr.length + i]? = some q := by
  rw [List.getElem?_append_right (Nat.le_add_right _ _), Nat.add_sub_cancel_left]
  exact h
theorem sw_getL {wr wc : va_W} {i : Nat} {q : Nat × va_E} (h : wr[i]? = some q) : (wr ++ wc)[i]? = some q := by
  rw [List.getElem?_append_left (List.getElem?_eq_some_iff.mp h).1]
  exact h
theorem sw_join {A : Nat → Prop} {D : va_G} {cl : List vw_C} {wr wc w' : va_W} {H H1 : Heap} (hP : va_P D cl (wr ++ wc) H) (hD : va_D A (wr ++ wc)) (hk : ∀ q : Nat, q < H.size → ¬ va_A wc H.size q → H1[q]? = H[q]?) (hF : ∀ q, va_A wc H.size q → A q) (hP1 : va_P D cl w' H1) (hD1 : va_D (va_A wc H.size) w') : va_P D cl (wr ++ w') H1 ∧ va_D A (wr ++ w') := by
  have apart : ∀ (i : Nat) (q : Nat × va_E), wr[i]? = some q → q.1 < H.size ∧ ¬ va_A wc H.size q.1 := by
    intro i q hq
    have hl := (hP i q (sw_getL hq)).lt
    refine ⟨hl, fun h => ?_⟩
    rcases h with ⟨k2, e, h⟩ | h
    · have h3 := hD.1 i (wr.length + k2) q (q.1, e) (sw_getL hq) (sw_getR h) rfl
      have h4 := (List.getElem?_eq_some_iff.mp hq).1
      omega
    · omega
  refine ⟨va_P.app (fun i q hq => ?_) hP1, va_D.app ⟨fun i j p q hp hq he => hD.1 i j p q (sw_getL hp) (sw_getL hq) he, fun i q hq => hD.2 i q (sw_getL hq)⟩ (hD1.weaken (fun i q _ h => hF q.1 h)) (fun i j x y hx hy hxy => ?_)⟩
  · obtain ⟨g1, g2⟩ := apart i q hq
    exact (hP i q (sw_getL hq)).kept (hk q.1 g1 g2)
  · exact (apart i x hx).2 (by rw [hxy]; exact hD1.2 j y hy)
section SWc
variable {p : Program} {l : Launch} {e : Env} {R : Room} {s : State} {m : MethodId} {args : Array Value} {below : List Frame} {meth : Method} {c : Code} {nL : Nat} {D : va_G} {A : Nat → Prop} {cells slots : Nat} {Q : State → Prop}
variable {cc : ByteArray} {own : String} {k : Nat → ClassId} {pc : Nat} {lv : List (Nat × Value)} {st : List Value}
variable {y : MethodName} {bytes : ByteArray} {maxL index n : Nat} {ret : Option FieldType} {rm : Room} {As rest : List Value} {wr wc : va_W}
/-- the call's part of the world, and what it may write -/
theorem sw_part {Ts : List Cond} {H : Heap} {locs : List Loc} (X : sw_C p s m args c cc nL own Ts D k A) (hP : va_P D vwCl (wr ++ wc) H) (hD : va_D A (wr ++ wc)) (hS : va_S A s.heap H locs) : va_P D vwCl wc H ∧ va_D A wc ∧ (∀ q, va_A wc H.size q → A q) ∧ cG (va_A wc H.size) s H := by
  have h1 : va_P D vwCl wc H := fun i q hq => hP _ q (sw_getR hq)
  have h2 : va_D A wc := ⟨fun i j p q hp hq he => by
    have := hD.1 _ _ p q (sw_getR (wr := wr) hp) (sw_getR (wr := wr) hq) he
    omega, fun i q hq => hD.2 _ q (sw_getR hq)⟩
  have h3 : ∀ q, va_A wc H.size q → A q := by
    intro q h
    rcases h with ⟨i, e, h⟩ | h
    · exact h2.2 i (q, e) h
    · exact X.2.2.1 q (Nat.le_trans hS.1 h)
  exact ⟨h1, h2, h3, (X.2.2.2.kept hS.2.1).narrow h3⟩
theorem sw_pre {Ts : List Cond} {H : Heap} {locs : List Loc} (X : sw_C p s m args c cc nL own Ts D k A) (hP : va_P D vwCl (wr ++ wc) H) (hD : va_D A (wr ++ wc)) (hS : va_S A s.heap H locs) (as : List Value) : ∀ U : State, U.heap = H → s.WarmedH U.vm → sw_Pc D k wc H.size as as.toArray U := by
  intro U hU hW
  obtain ⟨h1, h2, h3, h4⟩ := sw_part X hP hD hS
  exact ⟨rfl, by rw [hU], by rw [hU]; exact h1, va_K.moved hW.alike X.2.1, h2.weaken (fun _ _ _ _ => trivial), by rw [hU]; exact cG.moved hW h4⟩
theorem sw_callVI {C : String} {b : Nat} {post : Int → va_W → Prop} (X : sw_C p s m args c cc nL own WG D k A) (hM : CI l y bytes maxL ret rm D k (.ref b :: As) wc post) (cw : CallW R s args own C index y bytes maxL ret (sw_ws y bytes maxL ret) rm rm.cells rm.slots n)
    (q0 : Nat) {ci : Nat} {q : vw_C} {fs : List Value} (hc : vwCl[ci]? = some q) (he : wc[q0]? = some (b, .inr (ci, fs))) (hC : q.1 = C) (hdg : decode cc pc = .ok (.invokevirtual index, 3)) (hst : st = As.reverse ++ .ref b :: rest) (hn : As.length = n) (hrest : (rest.map fun v => v.category).sum ≤ 8) (hcs : cells + rm.cells ≤ R.cells ∧ slots + rm.slots ≤ R.slots)
    (kk : ∀ (z : Int) (w' : va_W), post z w' → SW p l e R s m args below meth c nL D A (cells + rm.cells) (slots + rm.slots) Q (wr ++ w') (pc + 3) lv (.int (J z) :: rest)) : SW p l e R s m args below meth c nL D A cells slots Q (wr ++ wc) pc lv st := by
  intro H locs ls hP hD hS hl
  obtain ⟨h1, h2, h3, h4⟩ := sw_part X hP hD hS
  refine va_calli (va_runV (As := As) (rest := rest) X.1 (hM H.size) cw ⟨sw_blind D k wc H.size _, by rw [← hC]; exact va_recv X.2.1 h1 hc he, sw_pre X hP hD hS _⟩ rfl hn hl.1 hst (lv_room hrest) hdg hcs) hS (fun q _ h => h3 q h) h3 (fun r w' t H1 locs1 ht hvm hw hB hz hk hS1 => ?_)
  obtain ⟨z, rfl, hp⟩ := hw
  obtain ⟨hP1, hD1⟩ := hB
  rw [ht] at hP1
  obtain ⟨hP2, hD2⟩ := sw_join hP hD hk h3 hP1 hD1
  exact kk z w' hp H1 locs1 ls hP2 hD2 hS1 hl
theorem sw_callVV {C : String} {b : Nat} {post : va_W → Prop} (X : sw_C p s m args c cc nL own WG D k A) (hM : CV l y bytes maxL ret rm D k (.ref b :: As) wc post) (cw : CallW R s args own C index y bytes maxL ret (sw_ws y bytes maxL ret) rm rm.cells rm.slots n)
    (q0 : Nat) {ci : Nat} {q : vw_C} {fs : List Value} (hc : vwCl[ci]? = some q) (he : wc[q0]? = some (b, .inr (ci, fs))) (hC : q.1 = C) (hdg : decode cc pc = .ok (.invokevirtual index, 3)) (hst : st = As.reverse ++ .ref b :: rest) (hn : As.length = n) (hrest : (rest.map fun v => v.category).sum ≤ 8) (hcs : cells + rm.cells ≤ R.cells ∧ slots + rm.slots ≤ R.slots)
    (kk : ∀ (w' : va_W), post w' → SW p l e R s m args below meth c nL D A (cells + rm.cells) (slots + rm.slots) Q (wr ++ w') (pc + 3) lv rest) : SW p l e R s m args below meth c nL D A cells slots Q (wr ++ wc) pc lv st := by
  intro H locs ls hP hD hS hl
  obtain ⟨h1, h2, h3, h4⟩ := sw_part X hP hD hS
  refine va_callv (va_runV (As := As) (rest := rest) X.1 (hM H.size) cw ⟨sw_blind D k wc H.size _, by rw [← hC]; exact va_recv X.2.1 h1 hc he, sw_pre X hP hD hS _⟩ rfl hn hl.1 hst (lv_room hrest) hdg hcs) hS (fun q _ h => h3 q h) h3 (fun w' t H1 locs1 ht hvm hw hB hz hk hS1 => ?_)
  obtain ⟨hP1, hD1⟩ := hB
  rw [ht] at hP1
  obtain ⟨hP2, hD2⟩ := sw_join hP hD hk h3 hP1 hD1
  exact kk w' hw H1 locs1 ls hP2 hD2 hS1 hl
theorem sw_callVQ {C : String} {b : Nat} {post : Option Nat → va_W → Prop} (X : sw_C p s m args c cc nL own WG D k A) (hM : CQ l y bytes maxL ret rm D k (.ref b :: As) wc post) (cw : CallW R s args own C index y bytes maxL ret (sw_ws y bytes maxL ret) rm rm.cells rm.slots n)
    (q0 : Nat) {ci : Nat} {q : vw_C} {fs : List Value} (hc : vwCl[ci]? = some q) (he : wc[q0]? = some (b, .inr (ci, fs))) (hC : q.1 = C) (hdg : decode cc pc = .ok (.invokevirtual index, 3)) (hst : st = As.reverse ++ .ref b :: rest) (hn : As.length = n) (hrest : (rest.map fun v => v.category).sum ≤ 8) (hcs : cells + rm.cells ≤ R.cells ∧ slots + rm.slots ≤ R.slots)
    (kk : ∀ (r : Option Nat) (w' : va_W), post r w' → SW p l e R s m args below meth c nL D A (cells + rm.cells) (slots + rm.slots) Q (wr ++ w') (pc + 3) lv (va_rf r :: rest)) : SW p l e R s m args below meth c nL D A cells slots Q (wr ++ wc) pc lv st := by
  intro H locs ls hP hD hS hl
  obtain ⟨h1, h2, h3, h4⟩ := sw_part X hP hD hS
  refine va_callq (va_runV (As := As) (rest := rest) X.1 (hM H.size) cw ⟨sw_blind D k wc H.size _, by rw [← hC]; exact va_recv X.2.1 h1 hc he, sw_pre X hP hD hS _⟩ rfl hn hl.1 hst (lv_room hrest) hdg hcs) hS (fun q _ h => h3 q h) h3 (fun r w' t H1 locs1 ht hvm hw hB hz hk hS1 => ?_)
  obtain ⟨hP1, hD1⟩ := hB
  rw [ht] at hP1
  obtain ⟨hP2, hD2⟩ := sw_join hP hD hk h3 hP1 hD1
  exact kk r w' hw H1 locs1 ls hP2 hD2 hS1 hl
theorem sw_callSI {post : Int → va_W → Prop} (X : sw_C p s m args c cc nL own WG D k A) (hM : CI l y bytes maxL ret rm D k As wc post) (cw : CallB R s args own index y bytes maxL ret (sw_ws y bytes maxL ret) rm rm.cells rm.slots n ∧ (Cond.static y).before args s = true)
    (hdg : decode cc pc = .ok (.invokestatic index, 3)) (hst : st = As.reverse ++ rest) (hn : As.length = n) (hrest : (rest.map fun v => v.category).sum ≤ 8) (hcs : cells + rm.cells ≤ R.cells ∧ slots + rm.slots ≤ R.slots)
    (kk : ∀ (z : Int) (w' : va_W), post z w' → SW p l e R s m args below meth c nL D A (cells + rm.cells) (slots + rm.slots) Q (wr ++ w') (pc + 3) lv (.int (J z) :: rest)) : SW p l e R s m args below meth c nL D A cells slots Q (wr ++ wc) pc lv st := by
  intro H locs ls hP hD hS hl
  obtain ⟨h1, h2, h3, h4⟩ := sw_part X hP hD hS
  refine va_calli (va_runS (As := As) (rest := rest) X.1 (hM H.size) cw ⟨sw_blind D k wc H.size _, sw_pre X hP hD hS _⟩ rfl hn hl.1 hst (lv_room hrest) hdg hcs) hS (fun q _ h => h3 q h) h3 (fun r w' t H1 locs1 ht hvm hw hB hz hk hS1 => ?_)
  obtain ⟨z, rfl, hp⟩ := hw
  obtain ⟨hP1, hD1⟩ := hB
  rw [ht] at hP1
  obtain ⟨hP2, hD2⟩ := sw_join hP hD hk h3 hP1 hD1
  exact kk z w' hp H1 locs1 ls hP2 hD2 hS1 hl
theorem sw_callIV {b : Nat} {post : va_W → Prop} (X : sw_C p s m args c cc nL own WG D k A) (hM : CV l y bytes maxL none rm D k (.ref b :: As) wc post) (cw : CallB R s args own index y bytes maxL none (sw_ws y bytes maxL none) rm rm.cells rm.slots n ∧ y.name = "<init>" ∧ (Cond.instanceMethod y).before args s = true)
    (hdg : decode cc pc = .ok (.invokespecial index, 3)) (hst : st = As.reverse ++ .ref b :: rest) (hn : As.length = n) (hrest : (rest.map fun v => v.category).sum ≤ 8) (hcs : cells + rm.cells ≤ R.cells ∧ slots + rm.slots ≤ R.slots)
    (kk : ∀ (w' : va_W), post w' → SW p l e R s m args below meth c nL D A (cells + rm.cells) (slots + rm.slots) Q (wr ++ w') (pc + 3) lv rest) : SW p l e R s m args below meth c nL D A cells slots Q (wr ++ wc) pc lv st := by
  intro H locs ls hP hD hS hl
  obtain ⟨h1, h2, h3, h4⟩ := sw_part X hP hD hS
  refine va_callv (va_runI (As := As) (rest := rest) X.1 (hM H.size) cw ⟨sw_blind D k wc H.size _, sw_pre X hP hD hS _⟩ rfl hn hl.1 hst (lv_room hrest) hdg hcs) hS (fun q _ h => h3 q h) h3 (fun w' t H1 locs1 ht hvm hw hB hz hk hS1 => ?_)
  obtain ⟨hP1, hD1⟩ := hB
  rw [ht] at hP1
  obtain ⟨hP2, hD2⟩ := sw_join hP hD hk h3 hP1 hD1
  exact kk w' hw H1 locs1 ls hP2 hD2 hS1 hl
end SWc
end
section
/-! the reference: one object and seventeen rows; its state as a function of field and place, its scratch fields apart -/
theorem iw_X0 : ∀ w ∈ u_ws RX0 TX0 4, w ∈ WG := iw_of (fun k hk => match k, hk with
  | 0, _ => gw2_120
  | 1, _ => gw2_122
  | 2, _ => gw2_124
  | 3, _ => gw2_126
  | k + 4, hk => absurd hk (by omega))
theorem iw_X1 : ∀ w ∈ u_ws RX1 TX1 3, w ∈ WG := iw_of (fun k hk => match k, hk with
  | 0, _ => gw2_85
  | 1, _ => gw2_87
  | 2, _ => gw2_89
  | k + 3, hk => absurd hk (by omega))
theorem iw_X2 : ∀ w ∈ u_ws RX2 TX2 4, w ∈ WG := iw_of (fun k hk => match k, hk with
  | 0, _ => gw2_230
  | 1, _ => gw2_232
  | 2, _ => gw2_234
  | 3, _ => gw2_236
  | k + 4, hk => absurd hk (by omega))
theorem iw_X3 : ∀ w ∈ u_ws RX3 TX3 6, w ∈ WG := iw_of (fun k hk => match k, hk with
  | 0, _ => gw1_239
  | 1, _ => gw2_1
  | 2, _ => gw2_3
  | 3, _ => gw2_5
  | 4, _ => gw2_7
  | 5, _ => gw2_9
  | k + 6, hk => absurd hk (by omega))
theorem iw_X4 : ∀ w ∈ u_ws RX4 TX4 5, w ∈ WG := iw_of (fun k hk => match k, hk with
  | 0, _ => gw1_40
  | 1, _ => gw1_42
  | 2, _ => gw1_44
  | 3, _ => gw1_46
  | 4, _ => gw1_48
  | k + 5, hk => absurd hk (by omega))
theorem iw_X5 : ∀ w ∈ u_ws RX5 TX5 10, w ∈ WG := iw_of (fun k hk => match k, hk with
  | 0, _ => gw1_67
  | 1, _ => gw1_69
  | 2, _ => gw1_71
  | 3, _ => gw1_73
  | 4, _ => gw1_75
  | 5, _ => gw1_77
  | 6, _ => gw1_79
  | 7, _ => gw1_81
  | 8, _ => gw1_83
  | 9, _ => gw1_85
  | k + 10, hk => absurd hk (by omega))
theorem iw_X6 : ∀ w ∈ u_ws RX6 TX6 26, w ∈ WG := iw_of (fun k hk => match k, hk with
  | 0, _ => gw3_234
  | 1, _ => gw3_236
  | 2, _ => gw3_238
  | 3, _ => gw4_0
  | 4, _ => gw4_2
  | 5, _ => gw4_4
  | 6, _ => gw4_6
  | 7, _ => gw4_8
  | 8, _ => gw4_10
  | 9, _ => gw4_12
  | 10, _ => gw4_14
  | 11, _ => gw4_16
  | 12, _ => gw4_18
  | 13, _ => gw4_20
  | 14, _ => gw4_22
  | 15, _ => gw4_24
  | 16, _ => gw4_26
  | 17, _ => gw4_28
  | 18, _ => gw4_30
  | 19, _ => gw4_32
  | 20, _ => gw4_34
  | 21, _ => gw4_36
  | 22, _ => gw4_38
  | 23, _ => gw4_40
  | 24, _ => gw4_42
  | 25, _ => gw4_44
  | k + 26, hk => absurd hk (by omega))
def mFs (ad : Nat → Nat) (st : Nat → Int → Int) (t x y h : Int) : List Value := [.int (J t), .int (J (st 1 0)), .int (J (st 2 0)), .ref (ad 3), .ref (ad 4), .int (J (st 5 0)), .ref (ad 6), .ref (ad 7), .int (J (st 8 0)), .int (J (st 9 0)), .ref (ad 10), .ref (ad 11), .ref (ad 12), .ref (ad 13), .ref (ad 14), .ref (ad 15), .ref (ad 16), .int (J (st 17 0)), .ref (ad 18), .ref (ad 19), .ref (ad 20), .ref (ad 21), .ref (ad 22), .int (J x), .int (J y), .int (J h)]
def mW (k : Nat → ClassId) (ad : Nat → Nat) (st : Nat → Int → Int) (tl : Int → Int) (t x y h : Int) : va_W := [(ad 0, .inr (6, mFs ad st t x y h)), (ad 3, aI k 30 (st 3)), (ad 4, aI k 30 (st 4)), (ad 6, aI k 10 (st 6)), (ad 7, aI k 10 (st 7)), (ad 10, aI k 8 (st 10)), (ad 11, aI k 480 (st 11)), (ad 12, aI k 480 (st 12)), (ad 13, aI k 480 (st 13)), (ad 14, aI k 8 (st 14)), (ad 15, aI k 8 (st 15)), (ad 16, aI k 80 (st 16)), (ad 18, aI k 40 (st 18)), (ad 19, aI k 40 (st 19)), (ad 20, aI k 40 (st 20)), (ad 21, aI k 40 (st 21)), (ad 22, aI k 8 tl)]
def up2 (st : Nat → Int → Int) (f : Nat) (i v : Int) : Nat → Int → Int := fun f' => if f' = f then upI (st f) i v else st f'
theorem mW_p0 {k : Nat → ClassId} {ad : Nat → Nat} {st : Nat → Int → Int} {tl : Int → Int} {t x y h : Int} {v : Int} : (mW k ad st tl t x y h).set 0 (ad 0, .inr (6, (mFs ad st t x y h).set 0 (.int (J v)))) = mW k ad st tl v x y h := rfl
theorem mW_p1 {k : Nat → ClassId} {ad : Nat → Nat} {st : Nat → Int → Int} {tl : Int → Int} {t x y h : Int} {v : Int} : (mW k ad st tl t x y h).set 0 (ad 0, .inr (6, (mFs ad st t x y h).set 1 (.int (J v)))) = mW k ad (up2 st 1 0 v) tl t x y h := rfl
theorem mW_p2 {k : Nat → ClassId} {ad : Nat → Nat} {st : Nat → Int → Int} {tl : Int → Int} {t x y h : Int} {v : Int} : (mW k ad st tl t x y h).set 0 (ad 0, .inr (6, (mFs ad st t x y h).set 2 (.int (J v)))) = mW k ad (up2 st 2 0 v) tl t x y h := rfl
theorem mW_a3 {k : Nat → ClassId} {ad : Nat → Nat} {st : Nat → Int → Int} {tl : Int → Int} {t x y h : Int} {i v : Int} : (mW k ad st tl t x y h).set 1 (ad 3, aI k 30 (upI (st 3) i v)) = mW k ad (up2 st 3 i v) tl t x y h := rfl
theorem mW_a4 {k : Nat → ClassId} {ad : Nat → Nat} {st : Nat → Int → Int} {tl : Int → Int} {t x y h : Int} {i v : Int} : (mW k ad st tl t x y h).set 2 (ad 4, aI k 30 (upI (st 4) i v)) = mW k ad (up2 st 4 i v) tl t x y h := rfl
theorem mW_p5 {k : Nat → ClassId} {ad : Nat → Nat} {st : Nat → Int → Int} {tl : Int → Int} {t x y h : Int} {v : Int} : (mW k ad st tl t x y h).set 0 (ad 0, .inr (6, (mFs ad st t x y h).set 5 (.int (J v)))) = mW k ad (up2 st 5 0 v) tl t x y h := rfl
theorem mW_a6 {k : Nat → ClassId} {ad : Nat → Nat} {st : Nat → Int → Int} {tl : Int → Int} {t x y h : Int} {i v : Int} : (mW k ad st tl t x y h).set 3 (ad 6, aI k 10 (upI (st 6) i v)) = mW k ad (up2 st 6 i v) tl t x y h := rfl
theorem mW_a7 {k : Nat → ClassId} {ad : Nat → Nat} {st : Nat → Int → Int} {tl : Int → Int} {t x y h : Int} {i v : Int} : (mW k ad st tl t x y h).set 4 (ad 7, aI k 10 (upI (st 7) i v)) = mW k ad (up2 st 7 i v) tl t x y h := rfl
theorem mW_p8 {k : Nat → ClassId} {ad : Nat → Nat} {st : Nat → Int → Int} {tl : Int → Int} {t x y h : Int} {v : Int} : (mW k ad st tl t x y h).set 0 (ad 0, .inr (6, (mFs ad st t x y h).set 8 (.int (J v)))) = mW k ad (up2 st 8 0 v) tl t x y h := rfl
theorem mW_p9 {k : Nat → ClassId} {ad : Nat → Nat} {st : Nat → Int → Int} {tl : Int → Int} {t x y h : Int} {v : Int} : (mW k ad st tl t x y h).set 0 (ad 0, .inr (6, (mFs ad st t x y h).set 9 (.int (J v)))) = mW k ad (up2 st 9 0 v) tl t x y h := rfl
theorem mW_a10 {k : Nat → ClassId} {ad : Nat → Nat} {st : Nat → Int → Int} {tl : Int → Int} {t x y h : Int} {i v : Int} : (mW k ad st tl t x y h).set 5 (ad 10, aI k 8 (upI (st 10) i v)) = mW k ad (up2 st 10 i v) tl t x y h := rfl
theorem mW_a11 {k : Nat → ClassId} {ad : Nat → Nat} {st : Nat → Int → Int} {tl : Int → Int} {t x y h : Int} {i v : Int} : (mW k ad st tl t x y h).set 6 (ad 11, aI k 480 (upI (st 11) i v)) = mW k ad (up2 st 11 i v) tl t x y h := rfl
theorem mW_a12 {k : Nat → ClassId} {ad : Nat → Nat} {st : Nat → Int → Int} {tl : Int → Int} {t x y h : Int} {i v : Int} : (mW k ad st tl t x y h).set 7 (ad 12, aI k 480 (upI (st 12) i v)) = mW k ad (up2 st 12 i v) tl t x y h := rfl
theorem mW_a13 {k : Nat → ClassId} {ad : Nat → Nat} {st : Nat → Int → Int} {tl : Int → Int} {t x y h : Int} {i v : Int} : (mW k ad st tl t x y h).set 8 (ad 13, aI k 480 (upI (st 13) i v)) = mW k ad (up2 st 13 i v) tl t x y h := rfl
theorem mW_a14 {k : Nat → ClassId} {ad : Nat → Nat} {st : Nat → Int → Int} {tl : Int → Int} {t x y h : Int} {i v : Int} : (mW k ad st tl t x y h).set 9 (ad 14, aI k 8 (upI (st 14) i v)) = mW k ad (up2 st 14 i v) tl t x y h := rfl
theorem mW_a15 {k : Nat → ClassId} {ad : Nat → Nat} {st : Nat → Int → Int} {tl : Int → Int} {t x y h : Int} {i v : Int} : (mW k ad st tl t x y h).set 10 (ad 15, aI k 8 (upI (st 15) i v)) = mW k ad (up2 st 15 i v) tl t x y h := rfl
theorem mW_a16 {k : Nat → ClassId} {ad : Nat → Nat} {st : Nat → Int → Int} {tl : Int → Int} {t x y h : Int} {i v : Int} : (mW k ad st tl t x y h).set 11 (ad 16, aI k 80 (upI (st 16) i v)) = mW k ad (up2 st 16 i v) tl t x y h := rfl
theorem mW_p17 {k : Nat → ClassId} {ad : Nat → Nat} {st : Nat → Int → Int} {tl : Int → Int} {t x y h : Int} {v : Int} : (mW k ad st tl t x y h).set 0 (ad 0, .inr (6, (mFs ad st t x y h).set 17 (.int (J v)))) = mW k ad (up2 st 17 0 v) tl t x y h := rfl
theorem mW_a18 {k : Nat → ClassId} {ad : Nat → Nat} {st : Nat → Int → Int} {tl : Int → Int} {t x y h : Int} {i v : Int} : (mW k ad st tl t x y h).set 12 (ad 18, aI k 40 (upI (st 18) i v)) = mW k ad (up2 st 18 i v) tl t x y h := rfl
theorem mW_a19 {k : Nat → ClassId} {ad : Nat → Nat} {st : Nat → Int → Int} {tl : Int → Int} {t x y h : Int} {i v : Int} : (mW k ad st tl t x y h).set 13 (ad 19, aI k 40 (upI (st 19) i v)) = mW k ad (up2 st 19 i v) tl t x y h := rfl
theorem mW_a20 {k : Nat → ClassId} {ad : Nat → Nat} {st : Nat → Int → Int} {tl : Int → Int} {t x y h : Int} {i v : Int} : (mW k ad st tl t x y h).set 14 (ad 20, aI k 40 (upI (st 20) i v)) = mW k ad (up2 st 20 i v) tl t x y h := rfl
theorem mW_a21 {k : Nat → ClassId} {ad : Nat → Nat} {st : Nat → Int → Int} {tl : Int → Int} {t x y h : Int} {i v : Int} : (mW k ad st tl t x y h).set 15 (ad 21, aI k 40 (upI (st 21) i v)) = mW k ad (up2 st 21 i v) tl t x y h := rfl
theorem mW_a22 {k : Nat → ClassId} {ad : Nat → Nat} {st : Nat → Int → Int} {tl : Int → Int} {t x y h : Int} {i v : Int} : (mW k ad st tl t x y h).set 16 (ad 22, aI k 8 (upI tl i v)) = mW k ad st (upI tl i v) t x y h := rfl
theorem mW_p23 {k : Nat → ClassId} {ad : Nat → Nat} {st : Nat → Int → Int} {tl : Int → Int} {t x y h : Int} {v : Int} : (mW k ad st tl t x y h).set 0 (ad 0, .inr (6, (mFs ad st t x y h).set 23 (.int (J v)))) = mW k ad st tl t v y h := rfl
theorem mW_p24 {k : Nat → ClassId} {ad : Nat → Nat} {st : Nat → Int → Int} {tl : Int → Int} {t x y h : Int} {v : Int} : (mW k ad st tl t x y h).set 0 (ad 0, .inr (6, (mFs ad st t x y h).set 24 (.int (J v)))) = mW k ad st tl t x v h := rfl
theorem mW_p25 {k : Nat → ClassId} {ad : Nat → Nat} {st : Nat → Int → Int} {tl : Int → Int} {t x y h : Int} {v : Int} : (mW k ad st tl t x y h).set 0 (ad 0, .inr (6, (mFs ad st t x y h).set 25 (.int (J v)))) = mW k ad st tl t x y v := rfl
def dx (h c : Int) : Int := if h = 1 then c else if h = 3 then -c else 0
def dy (h c : Int) : Int := if h = 0 then c else if h = 2 then -c else 0
/-- the place after n pieces of a way: x, y, heading -/
def wP (s0 : Int) (d t : Nat → Int) : Nat → Int × Int × Int
  | 0 => (s0 / 16, s0 % 16, 0)
  | n + 1 => ((wP s0 d t n).1 + dx (wP s0 d t n).2.2 (d n), (wP s0 d t n).2.1 + dy (wP s0 d t n).2.2 (d n), ((wP s0 d t n).2.2 + t n) % 4)
def bP (st : Nat → Int → Int) (n : Nat) : Int × Int × Int := wP (st 1 0) (fun i => st 3 (i : Int)) (fun i => st 4 (i : Int)) n
def tD (st : Nat → Int → Int) (c : Int) (i : Nat) : Int := if st 11 (60 * c + (i : Int)) = -1 then 0 else st 12 (60 * c + (i : Int))
def tP (st : Nat → Int → Int) (c : Int) (n : Nat) : Int × Int × Int := wP (st 1 0) (tD st c) (fun i => st 13 (60 * c + (i : Int))) n
theorem wP_s (s0 : Int) (d t : Nat → Int) (n : Nat) : wP s0 d t (n + 1) = ((wP s0 d t n).1 + dx (wP s0 d t n).2.2 (d n), (wP s0 d t n).2.1 + dy (wP s0 d t n).2.2 (d n), ((wP s0 d t n).2.2 + t n) % 4) := rfl
theorem wP_h (s0 : Int) (d t : Nat → Int) (n : Nat) : 0 ≤ (wP s0 d t n).2.2 ∧ (wP s0 d t n).2.2 ≤ 3 := by
  cases n with
  | zero => exact ⟨Int.le_refl 0, (by decide : (0 : Int) ≤ 3)⟩
  | succ n => rw [wP_s]; dsimp only; omega
/-- a sum of the first n -/
def sM (f : Nat → Int) : Nat → Int
  | 0 => 0
  | n + 1 => sM f n + f n
def tM (st : Nat → Int → Int) (c : Int) (n : Nat) : Int := sM (fun i => st 12 (60 * c + (i : Int))) n
theorem nar_b {z : Int} (h : z = 0 ∨ z = 1) : narrow .boolean (.int (J z)) = .int (J z) := by rcases h with rfl | rfl <;> rfl
section SWc0
variable {p : Program} {l : Launch} {e : Env} {R : Room} {s : State} {m : MethodId} {args : Array Value} {below : List Frame} {meth : Method} {c : Code} {nL : Nat} {D : va_G} {A : Nat → Prop} {cells slots : Nat} {Q : State → Prop}
variable {cc : ByteArray} {own : String} {k : Nat → ClassId} {pc : Nat} {lv : List (Nat × Value)} {st : List Value}
variable {y : MethodName} {bytes : ByteArray} {maxL index n : Nat} {ret : Option FieldType} {rm : Room} {As rest : List Value} {wc : va_W}
theorem sw_callVI0 {C : String} {b : Nat} {post : Int → va_W → Prop} (X : sw_C p s m args c cc nL own WG D k A) (hM : CI l y bytes maxL ret rm D k (.ref b :: As) wc post) (cw : CallW R s args own C index y bytes maxL ret (sw_ws y bytes maxL ret) rm rm.cells rm.slots n)
    (q0 : Nat) {ci : Nat} {q : vw_C} {fs : List Value} (hc : vwCl[ci]? = some q) (he : wc[q0]? = some (b, .inr (ci, fs))) (hC : q.1 = C) (hdg : decode cc pc = .ok (.invokevirtual index, 3)) (hst : st = As.reverse ++ .ref b :: rest) (hn : As.length = n) (hrest : (rest.map fun v => v.category).sum ≤ 8) (hcs : cells + rm.cells ≤ R.cells ∧ slots + rm.slots ≤ R.slots)
    (kk : ∀ (z : Int) (w' : va_W), post z w' → SW p l e R s m args below meth c nL D A (cells + rm.cells) (slots + rm.slots) Q w' (pc + 3) lv (.int (J z) :: rest)) : SW p l e R s m args below meth c nL D A cells slots Q wc pc lv st := sw_callVI (wr := []) X hM cw q0 hc he hC hdg hst hn hrest hcs kk
theorem sw_callVV0 {C : String} {b : Nat} {post : va_W → Prop} (X : sw_C p s m args c cc nL own WG D k A) (hM : CV l y bytes maxL ret rm D k (.ref b :: As) wc post) (cw : CallW R s args own C index y bytes maxL ret (sw_ws y bytes maxL ret) rm rm.cells rm.slots n)
    (q0 : Nat) {ci : Nat} {q : vw_C} {fs : List Value} (hc : vwCl[ci]? = some q) (he : wc[q0]? = some (b, .inr (ci, fs))) (hC : q.1 = C) (hdg : decode cc pc = .ok (.invokevirtual index, 3)) (hst : st = As.reverse ++ .ref b :: rest) (hn : As.length = n) (hrest : (rest.map fun v => v.category).sum ≤ 8) (hcs : cells + rm.cells ≤ R.cells ∧ slots + rm.slots ≤ R.slots)
    (kk : ∀ (w' : va_W), post w' → SW p l e R s m args below meth c nL D A (cells + rm.cells) (slots + rm.slots) Q w' (pc + 3) lv rest) : SW p l e R s m args below meth c nL D A cells slots Q wc pc lv st := sw_callVV (wr := []) X hM cw q0 hc he hC hdg hst hn hrest hcs kk
theorem sw_callVQ0 {C : String} {b : Nat} {post : Option Nat → va_W → Prop} (X : sw_C p s m args c cc nL own WG D k A) (hM : CQ l y bytes maxL ret rm D k (.ref b :: As) wc post) (cw : CallW R s args own C index y bytes maxL ret (sw_ws y bytes maxL ret) rm rm.cells rm.slots n)
    (q0 : Nat) {ci : Nat} {q : vw_C} {fs : List Value} (hc : vwCl[ci]? = some q) (he : wc[q0]? = some (b, .inr (ci, fs))) (hC : q.1 = C) (hdg : decode cc pc = .ok (.invokevirtual index, 3)) (hst : st = As.reverse ++ .ref b :: rest) (hn : As.length = n) (hrest : (rest.map fun v => v.category).sum ≤ 8) (hcs : cells + rm.cells ≤ R.cells ∧ slots + rm.slots ≤ R.slots)
    (kk : ∀ (r : Option Nat) (w' : va_W), post r w' → SW p l e R s m args below meth c nL D A (cells + rm.cells) (slots + rm.slots) Q w' (pc + 3) lv (va_rf r :: rest)) : SW p l e R s m args below meth c nL D A cells slots Q wc pc lv st := sw_callVQ (wr := []) X hM cw q0 hc he hC hdg hst hn hrest hcs kk
theorem sw_callSI0 {post : Int → va_W → Prop} (X : sw_C p s m args c cc nL own WG D k A) (hM : CI l y bytes maxL ret rm D k As wc post) (cw : CallB R s args own index y bytes maxL ret (sw_ws y bytes maxL ret) rm rm.cells rm.slots n ∧ (Cond.static y).before args s = true)
    (hdg : decode cc pc = .ok (.invokestatic index, 3)) (hst : st = As.reverse ++ rest) (hn : As.length = n) (hrest : (rest.map fun v => v.category).sum ≤ 8) (hcs : cells + rm.cells ≤ R.cells ∧ slots + rm.slots ≤ R.slots)
    (kk : ∀ (z : Int) (w' : va_W), post z w' → SW p l e R s m args below meth c nL D A (cells + rm.cells) (slots + rm.slots) Q w' (pc + 3) lv (.int (J z) :: rest)) : SW p l e R s m args below meth c nL D A cells slots Q wc pc lv st := sw_callSI (wr := []) X hM cw hdg hst hn hrest hcs kk
theorem sw_callIV0 {b : Nat} {post : va_W → Prop} (X : sw_C p s m args c cc nL own WG D k A) (hM : CV l y bytes maxL none rm D k (.ref b :: As) wc post) (cw : CallB R s args own index y bytes maxL none (sw_ws y bytes maxL none) rm rm.cells rm.slots n ∧ y.name = "<init>" ∧ (Cond.instanceMethod y).before args s = true)
    (hdg : decode cc pc = .ok (.invokespecial index, 3)) (hst : st = As.reverse ++ .ref b :: rest) (hn : As.length = n) (hrest : (rest.map fun v => v.category).sum ≤ 8) (hcs : cells + rm.cells ≤ R.cells ∧ slots + rm.slots ≤ R.slots)
    (kk : ∀ (w' : va_W), post w' → SW p l e R s m args below meth c nL D A (cells + rm.cells) (slots + rm.slots) Q w' (pc + 3) lv rest) : SW p l e R s m args below meth c nL D A cells slots Q wc pc lv st := sw_callIV (wr := []) X hM cw hdg hst hn hrest hcs kk
end SWc0
end
section
/-! the reference's small methods -/
abbrev rm_X6_thrown : Room := { frames := 0, cells := 0, slots := 0, locals := 0 }
set_option maxHeartbeats 4000000 in
set_option maxRecDepth 100000 in
theorem c_X6_thrown (l : Launch) (D : va_G) (k : Nat → ClassId) (ad : Nat → Nat) (st : Nat → Int → Int) (tl : Int → Int) (t x y h : Int)  : CI l yX6_thrown cX6_thrown 1 (some .int) rm_X6_thrown D k [.ref (ad 0)] (mW k ad st tl t x y h) (fun z w' => z = t ∧ w' = mW k ad st tl t x y h) := by
  refine CI.of (by decide +kernel) (Nat.le_of_ble_eq_true rfl) (fun pᵢ eᵢ sᵢ mᵢ argsᵢ belowᵢ methᵢ cᵢ Aᵢ Qᵢ X RI => ?_)
  show SW pᵢ l eᵢ rm_X6_thrown sᵢ mᵢ argsᵢ belowᵢ methᵢ cᵢ 1 D Aᵢ 0 0 Qᵢ (mW k ad st tl t x y h) 0 [(0, .ref (ad 0))] []
  refine sw_aload_n X dX6_thrown_0 rfl 0 rfl ?_
  refine sw_get (q0 := 0) (v := .int (J t)) X iw_X6 rfl rfl 0 (by decide) gw3_208 rfl rfl dX6_thrown_1 ?_
  exact RI _ _ _ _ _ _ dX6_thrown_4 (by decide) (by decide) rfl ⟨rfl, rfl⟩
abbrev rm_X6_in : Room := { frames := 0, cells := 0, slots := 0, locals := 0 }
set_option maxHeartbeats 4000000 in
set_option maxRecDepth 100000 in
theorem c_X6_in (l : Launch) (D : va_G) (k : Nat → ClassId) (w : va_W) (v a b : Int) (hr : (-2147483648 ≤ v ∧ v < 2147483648) ∧ (-2147483648 ≤ a ∧ a < 2147483648) ∧ (-2147483648 ≤ b ∧ b < 2147483648)) : CI l yX6_in cX6_in 3 (some .boolean) rm_X6_in D k [.int (J v), .int (J a), .int (J b)] (w) (fun z w' => w' = w ∧ ((z = 1 ∧ a ≤ v ∧ v ≤ b) ∨ (z = 0 ∧ (v < a ∨ b < v)))) := by
  refine CI.of (by decide +kernel) (Nat.le_of_ble_eq_true rfl) (fun pᵢ eᵢ sᵢ mᵢ argsᵢ belowᵢ methᵢ cᵢ Aᵢ Qᵢ X RI => ?_)
  show SW pᵢ l eᵢ rm_X6_in sᵢ mᵢ argsᵢ belowᵢ methᵢ cᵢ 3 D Aᵢ 0 0 Qᵢ (w) 0 [(0, .int (J v)), (1, .int (J a)), (2, .int (J b))] []
  refine sw_iload_n X dX6_in_0 rfl 0 rfl ?_
  refine sw_iload_n X dX6_in_1 rfl 1 rfl ?_
  refine sw_icmp_lt (tgt := 14) X (by omega) (by omega) dX6_in_2 (by decide) (fun h1 => ?_) (fun h1 => ?_)
  · refine sw_iconst X dX6_in_14 ?_
    exact RI _ _ _ _ _ _ dX6_in_15 (by decide) (by decide) rfl ⟨rfl, by omega⟩
  · refine sw_iload_n X dX6_in_5 rfl 0 rfl ?_
    refine sw_iload_n X dX6_in_6 rfl 2 rfl ?_
    refine sw_icmp_gt (tgt := 14) X (by omega) (by omega) dX6_in_7 (by decide) (fun h2 => ?_) (fun h2 => ?_)
    · refine sw_iconst X dX6_in_14 ?_
      exact RI _ _ _ _ _ _ dX6_in_15 (by decide) (by decide) rfl ⟨rfl, by omega⟩
    · refine sw_iconst X dX6_in_10 ?_
      refine sw_goto (tgt := 15) X dX6_in_11 (by decide) ?_
      exact RI _ _ _ _ _ _ dX6_in_15 (by decide) (by decide) rfl ⟨rfl, by omega⟩
abbrev rm_X6_goesWell : Room := { frames := 0, cells := 0, slots := 0, locals := 0 }
set_option maxHeartbeats 4000000 in
set_option maxRecDepth 100000 in
theorem c_X6_goesWell (l : Launch) (D : va_G) (k : Nat → ClassId) (ad : Nat → Nat) (st : Nat → Int → Int) (tl : Int → Int) (t x y h : Int) (a : Int) (hr : (-2147483648 ≤ a ∧ a < 2147483648)) : CI l yX6_goesWell cX6_goesWell 2 (some .boolean) rm_X6_goesWell D k [.ref (ad 0), .int (J a)] (mW k ad st tl t x y h) (fun z w' => w' = mW k ad st tl a x y h ∧ ((z = 1 ∧ a = 0) ∨ (z = 0 ∧ ¬ a = 0))) := by
  refine CI.of (by decide +kernel) (Nat.le_of_ble_eq_true rfl) (fun pᵢ eᵢ sᵢ mᵢ argsᵢ belowᵢ methᵢ cᵢ Aᵢ Qᵢ X RI => ?_)
  show SW pᵢ l eᵢ rm_X6_goesWell sᵢ mᵢ argsᵢ belowᵢ methᵢ cᵢ 2 D Aᵢ 0 0 Qᵢ (mW k ad st tl t x y h) 0 [(0, .ref (ad 0)), (1, .int (J a))] []
  refine sw_aload_n X dX6_goesWell_0 rfl 0 rfl ?_
  refine sw_iload_n X dX6_goesWell_1 rfl 1 rfl ?_
  refine sw_put (q0 := 0) X iw_X6 tyX6 tyX6_ok nmX6 rfl rfl 0 (by decide) gw3_208 rfl rfl (ty := .int) (by decide +kernel) rfl rfl (Nat.le_of_ble_eq_true rfl) mW_p0 dX6_goesWell_2 ?_
  refine sw_iload_n X dX6_goesWell_5 rfl 1 rfl ?_
  refine sw_if_ne (tgt := 13) X (by omega) dX6_goesWell_6 (by decide) (fun h1 => ?_) (fun h1 => ?_)
  · refine sw_iconst X dX6_goesWell_13 ?_
    exact RI _ _ _ _ _ _ dX6_goesWell_14 (by decide) (by decide) rfl ⟨rfl, by omega⟩
  · refine sw_iconst X dX6_goesWell_9 ?_
    refine sw_goto (tgt := 14) X dX6_goesWell_10 (by decide) ?_
    exact RI _ _ _ _ _ _ dX6_goesWell_14 (by decide) (by decide) rfl ⟨rfl, by omega⟩
abbrev rm_X6_isCar : Room := { frames := 1, cells := 0, slots := 0, locals := 22 }
set_option maxHeartbeats 4000000 in
set_option maxRecDepth 100000 in
theorem c_X6_isCar (l : Launch) (D : va_G) (k : Nat → ClassId) (ad : Nat → Nat) (st : Nat → Int → Int) (tl : Int → Int) (t x y h : Int) (a : Int) (hr : (-2147483648 ≤ a ∧ a < 2147483648)) (hb : 0 ≤ st 9 0 ∧ st 9 0 ≤ 8) : CI l yX6_isCar cX6_isCar 2 (some .boolean) rm_X6_isCar D k [.ref (ad 0), .int (J a)] (mW k ad st tl t x y h) (fun z w' => w' = mW k ad st tl t x y h ∧ ((z = 1 ∧ 0 ≤ a ∧ a < st 9 0) ∨ (z = 0 ∧ (a < 0 ∨ st 9 0 ≤ a)))) := by
  refine CI.of (by decide +kernel) (Nat.le_of_ble_eq_true rfl) (fun pᵢ eᵢ sᵢ mᵢ argsᵢ belowᵢ methᵢ cᵢ Aᵢ Qᵢ X RI => ?_)
  show SW pᵢ l eᵢ rm_X6_isCar sᵢ mᵢ argsᵢ belowᵢ methᵢ cᵢ 2 D Aᵢ 0 0 Qᵢ (mW k ad st tl t x y h) 0 [(0, .ref (ad 0)), (1, .int (J a))] []
  refine sw_iload_n X dX6_isCar_0 rfl 1 rfl ?_
  refine sw_iconst X dX6_isCar_1 ?_
  refine sw_aload_n X dX6_isCar_2 rfl 0 rfl ?_
  refine sw_get (q0 := 0) (v := .int (J (st 9 0))) X iw_X6 rfl rfl 9 (by decide) gw3_217 rfl rfl dX6_isCar_3 ?_
  refine sw_iconst X dX6_isCar_6 ?_
  refine sw_isub X dX6_isCar_7 ?_
  refine sw_callSI0 (As := [.int (J a), .int (J 0), .int (J ((st 9 0) - 1))]) (rest := []) X (c_X6_in l D k (mW k ad st tl t x y h) a 0 ((st 9 0) - 1) (by omega)) (va_cwS 3 (sw_ts X) (sw_goodS gw4_55 gw4_56 gw1_3 gw4_57) rfl rfl rfl (by decide +kernel) ⟨Nat.le_of_ble_eq_true rfl, Nat.le_of_ble_eq_true rfl⟩) dX6_isCar_8 rfl rfl (Nat.le_of_ble_eq_true rfl) ⟨Nat.le_of_ble_eq_true rfl, Nat.le_of_ble_eq_true rfl⟩ (fun z1 w9 hp2 => ?_)
  obtain ⟨rfl, hp2⟩ := hp2
  exact RI _ _ _ _ _ _ dX6_isCar_11 (by decide) (by decide) (nar_b (by omega)) ⟨rfl, by omega⟩
abbrev rm_X6_isGate : Room := { frames := 1, cells := 0, slots := 0, locals := 22 }
set_option maxHeartbeats 4000000 in
set_option maxRecDepth 100000 in
theorem c_X6_isGate (l : Launch) (D : va_G) (k : Nat → ClassId) (ad : Nat → Nat) (st : Nat → Int → Int) (tl : Int → Int) (t x y h : Int) (a : Int) (hr : (-2147483648 ≤ a ∧ a < 2147483648)) (hb : 0 ≤ st 5 0 ∧ st 5 0 ≤ 10) : CI l yX6_isGate cX6_isGate 2 (some .boolean) rm_X6_isGate D k [.ref (ad 0), .int (J a)] (mW k ad st tl t x y h) (fun z w' => w' = mW k ad st tl t x y h ∧ ((z = 1 ∧ 0 ≤ a ∧ a < st 5 0) ∨ (z = 0 ∧ (a < 0 ∨ st 5 0 ≤ a)))) := by
  refine CI.of (by decide +kernel) (Nat.le_of_ble_eq_true rfl) (fun pᵢ eᵢ sᵢ mᵢ argsᵢ belowᵢ methᵢ cᵢ Aᵢ Qᵢ X RI => ?_)
  show SW pᵢ l eᵢ rm_X6_isGate sᵢ mᵢ argsᵢ belowᵢ methᵢ cᵢ 2 D Aᵢ 0 0 Qᵢ (mW k ad st tl t x y h) 0 [(0, .ref (ad 0)), (1, .int (J a))] []
  refine sw_iload_n X dX6_isGate_0 rfl 1 rfl ?_
  refine sw_iconst X dX6_isGate_1 ?_
  refine sw_aload_n X dX6_isGate_2 rfl 0 rfl ?_
  refine sw_get (q0 := 0) (v := .int (J (st 5 0))) X iw_X6 rfl rfl 5 (by decide) gw3_213 rfl rfl dX6_isGate_3 ?_
  refine sw_iconst X dX6_isGate_6 ?_
  refine sw_isub X dX6_isGate_7 ?_
  refine sw_callSI0 (As := [.int (J a), .int (J 0), .int (J ((st 5 0) - 1))]) (rest := []) X (c_X6_in l D k (mW k ad st tl t x y h) a 0 ((st 5 0) - 1) (by omega)) (va_cwS 3 (sw_ts X) (sw_goodS gw4_55 gw4_56 gw1_3 gw4_57) rfl rfl rfl (by decide +kernel) ⟨Nat.le_of_ble_eq_true rfl, Nat.le_of_ble_eq_true rfl⟩) dX6_isGate_8 rfl rfl (Nat.le_of_ble_eq_true rfl) ⟨Nat.le_of_ble_eq_true rfl, Nat.le_of_ble_eq_true rfl⟩ (fun z1 w9 hp2 => ?_)
  obtain ⟨rfl, hp2⟩ := hp2
  exact RI _ _ _ _ _ _ dX6_isGate_11 (by decide) (by decide) (nar_b (by omega)) ⟨rfl, by omega⟩
abbrev rm_X6_isPart : Room := { frames := 1, cells := 0, slots := 0, locals := 22 }
set_option maxHeartbeats 4000000 in
set_option maxRecDepth 100000 in
theorem c_X6_isPart (l : Launch) (D : va_G) (k : Nat → ClassId) (ad : Nat → Nat) (st : Nat → Int → Int) (tl : Int → Int) (t x y h : Int) (a : Int) (hr : (-2147483648 ≤ a ∧ a < 2147483648)) (hb : 0 ≤ st 17 0 ∧ st 17 0 ≤ 40) : CI l yX6_isPart cX6_isPart 2 (some .boolean) rm_X6_isPart D k [.ref (ad 0), .int (J a)] (mW k ad st tl t x y h) (fun z w' => w' = mW k ad st tl t x y h ∧ ((z = 1 ∧ 0 ≤ a ∧ a < st 17 0) ∨ (z = 0 ∧ (a < 0 ∨ st 17 0 ≤ a)))) := by
  refine CI.of (by decide +kernel) (Nat.le_of_ble_eq_true rfl) (fun pᵢ eᵢ sᵢ mᵢ argsᵢ belowᵢ methᵢ cᵢ Aᵢ Qᵢ X RI => ?_)
  show SW pᵢ l eᵢ rm_X6_isPart sᵢ mᵢ argsᵢ belowᵢ methᵢ cᵢ 2 D Aᵢ 0 0 Qᵢ (mW k ad st tl t x y h) 0 [(0, .ref (ad 0)), (1, .int (J a))] []
  refine sw_iload_n X dX6_isPart_0 rfl 1 rfl ?_
  refine sw_iconst X dX6_isPart_1 ?_
  refine sw_aload_n X dX6_isPart_2 rfl 0 rfl ?_
  refine sw_get (q0 := 0) (v := .int (J (st 17 0))) X iw_X6 rfl rfl 17 (by decide) gw3_225 rfl rfl dX6_isPart_3 ?_
  refine sw_iconst X dX6_isPart_6 ?_
  refine sw_isub X dX6_isPart_7 ?_
  refine sw_callSI0 (As := [.int (J a), .int (J 0), .int (J ((st 17 0) - 1))]) (rest := []) X (c_X6_in l D k (mW k ad st tl t x y h) a 0 ((st 17 0) - 1) (by omega)) (va_cwS 3 (sw_ts X) (sw_goodS gw4_55 gw4_56 gw1_3 gw4_57) rfl rfl rfl (by decide +kernel) ⟨Nat.le_of_ble_eq_true rfl, Nat.le_of_ble_eq_true rfl⟩) dX6_isPart_8 rfl rfl (Nat.le_of_ble_eq_true rfl) ⟨Nat.le_of_ble_eq_true rfl, Nat.le_of_ble_eq_true rfl⟩ (fun z1 w9 hp2 => ?_)
  obtain ⟨rfl, hp2⟩ := hp2
  exact RI _ _ _ _ _ _ dX6_isPart_11 (by decide) (by decide) (nar_b (by omega)) ⟨rfl, by omega⟩
abbrev rm_X6_begin : Room := { frames := 0, cells := 0, slots := 0, locals := 0 }
set_option maxHeartbeats 4000000 in
set_option maxRecDepth 100000 in
theorem c_X6_begin (l : Launch) (D : va_G) (k : Nat → ClassId) (ad : Nat → Nat) (st : Nat → Int → Int) (tl : Int → Int) (t x y h : Int) (hb : 0 ≤ st 1 0 ∧ st 1 0 ≤ 255) : CV l yX6_begin cX6_begin 1 none rm_X6_begin D k [.ref (ad 0)] (mW k ad st tl t x y h) (fun w' => w' = mW k ad st tl t (st 1 0 / 16) (st 1 0 % 16) 0) := by
  refine CV.of (by decide +kernel) (Nat.le_of_ble_eq_true rfl) (fun pᵢ eᵢ sᵢ mᵢ argsᵢ belowᵢ methᵢ cᵢ Aᵢ Qᵢ X hnm RV => ?_)
  show SW pᵢ l eᵢ rm_X6_begin sᵢ mᵢ argsᵢ belowᵢ methᵢ cᵢ 1 D Aᵢ 0 0 Qᵢ (mW k ad st tl t x y h) 0 [(0, .ref (ad 0))] []
  refine sw_aload_n X dX6_begin_0 rfl 0 rfl ?_
  refine sw_aload_n X dX6_begin_1 rfl 0 rfl ?_
  refine sw_get (q0 := 0) (v := .int (J (st 1 0))) X iw_X6 rfl rfl 1 (by decide) gw3_209 rfl rfl dX6_begin_2 ?_
  refine sw_bipush X dX6_begin_5 (by decide +kernel) ?_
  refine sw_idiv X (by omega) (by omega) (by omega) dX6_begin_7 ?_
  refine sw_put (q0 := 0) X iw_X6 tyX6 tyX6_ok nmX6 rfl rfl 23 (by decide) gw3_231 rfl rfl (ty := .int) (by decide +kernel) rfl rfl (Nat.le_of_ble_eq_true rfl) mW_p23 dX6_begin_8 ?_
  refine sw_aload_n X dX6_begin_11 rfl 0 rfl ?_
  refine sw_aload_n X dX6_begin_12 rfl 0 rfl ?_
  refine sw_get (q0 := 0) (v := .int (J (st 1 0))) X iw_X6 rfl rfl 1 (by decide) gw3_209 rfl rfl dX6_begin_13 ?_
  refine sw_bipush X dX6_begin_16 (by decide +kernel) ?_
  refine sw_irem X (by omega) (by omega) (by omega) dX6_begin_18 ?_
  refine sw_put (q0 := 0) X iw_X6 tyX6 tyX6_ok nmX6 rfl rfl 24 (by decide) gw3_232 rfl rfl (ty := .int) (by decide +kernel) rfl rfl (Nat.le_of_ble_eq_true rfl) mW_p24 dX6_begin_19 ?_
  refine sw_aload_n X dX6_begin_22 rfl 0 rfl ?_
  refine sw_iconst X dX6_begin_23 ?_
  refine sw_put (q0 := 0) X iw_X6 tyX6 tyX6_ok nmX6 rfl rfl 25 (by decide) gw3_233 rfl rfl (ty := .int) (by decide +kernel) rfl rfl (Nat.le_of_ble_eq_true rfl) mW_p25 dX6_begin_24 ?_
  exact RV _ _ _ _ _ dX6_begin_27 (by decide) (by decide) rfl
abbrev rm_X6_goOn : Room := { frames := 0, cells := 0, slots := 0, locals := 0 }
set_option maxHeartbeats 4000000 in
set_option maxRecDepth 100000 in
theorem c_X6_goOn (l : Launch) (D : va_G) (k : Nat → ClassId) (ad : Nat → Nat) (st : Nat → Int → Int) (tl : Int → Int) (t x y h : Int) (a : Int) (hh : 0 ≤ h ∧ h ≤ 3) : CV l yX6_goOn cX6_goOn 2 none rm_X6_goOn D k [.ref (ad 0), .int (J a)] (mW k ad st tl t x y h) (fun w' => w' = mW k ad st tl t (x + dx h a) (y + dy h a) h) := by
  refine CV.of (by decide +kernel) (Nat.le_of_ble_eq_true rfl) (fun pᵢ eᵢ sᵢ mᵢ argsᵢ belowᵢ methᵢ cᵢ Aᵢ Qᵢ X hnm RV => ?_)
  show SW pᵢ l eᵢ rm_X6_goOn sᵢ mᵢ argsᵢ belowᵢ methᵢ cᵢ 2 D Aᵢ 0 0 Qᵢ (mW k ad st tl t x y h) 0 [(0, .ref (ad 0)), (1, .int (J a))] []
  refine sw_aload_n X dX6_goOn_0 rfl 0 rfl ?_
  refine sw_dup X dX6_goOn_1 rfl ?_
  refine sw_get (q0 := 0) (v := .int (J x)) X iw_X6 rfl rfl 23 (by decide) gw3_231 rfl rfl dX6_goOn_2 ?_
  refine sw_aload_n X dX6_goOn_5 rfl 0 rfl ?_
  refine sw_get (q0 := 0) (v := .int (J h)) X iw_X6 rfl rfl 25 (by decide) gw3_233 rfl rfl dX6_goOn_6 ?_
  refine sw_iconst X dX6_goOn_9 ?_
  refine sw_icmp_ne (tgt := 17) X (by omega) (by omega) dX6_goOn_10 (by decide) (fun h1 => ?_) (fun h1 => ?_)
  · refine sw_aload_n X dX6_goOn_17 rfl 0 rfl ?_
    refine sw_get (q0 := 0) (v := .int (J h)) X iw_X6 rfl rfl 25 (by decide) gw3_233 rfl rfl dX6_goOn_18 ?_
    refine sw_iconst X dX6_goOn_21 ?_
    refine sw_icmp_ne (tgt := 30) X (by omega) (by omega) dX6_goOn_22 (by decide) (fun h2 => ?_) (fun h2 => ?_)
    · refine sw_iconst X dX6_goOn_30 ?_
      refine sw_iadd X dX6_goOn_31 ?_
      refine sw_put (q0 := 0) X iw_X6 tyX6 tyX6_ok nmX6 rfl rfl 23 (by decide) gw3_231 rfl rfl (ty := .int) (by decide +kernel) rfl rfl (Nat.le_of_ble_eq_true rfl) mW_p23 dX6_goOn_32 ?_
      refine sw_aload_n X dX6_goOn_35 rfl 0 rfl ?_
      refine sw_dup X dX6_goOn_36 rfl ?_
      refine sw_get (q0 := 0) (v := .int (J y)) X iw_X6 rfl rfl 24 (by decide) gw3_232 rfl rfl dX6_goOn_37 ?_
      refine sw_aload_n X dX6_goOn_40 rfl 0 rfl ?_
      refine sw_get (q0 := 0) (v := .int (J h)) X iw_X6 rfl rfl 25 (by decide) gw3_233 rfl rfl dX6_goOn_41 ?_
      refine sw_if_ne (tgt := 51) X (by omega) dX6_goOn_44 (by decide) (fun h3 => ?_) (fun h3 => ?_)
      · refine sw_aload_n X dX6_goOn_51 rfl 0 rfl ?_
        refine sw_get (q0 := 0) (v := .int (J h)) X iw_X6 rfl rfl 25 (by decide) gw3_233 rfl rfl dX6_goOn_52 ?_
        refine sw_iconst X dX6_goOn_55 ?_
        refine sw_icmp_ne (tgt := 64) X (by omega) (by omega) dX6_goOn_56 (by decide) (fun h4 => ?_) (fun h4 => ?_)
        · refine sw_iconst X dX6_goOn_64 ?_
          refine sw_iadd X dX6_goOn_65 ?_
          refine sw_put (q0 := 0) X iw_X6 tyX6 tyX6_ok nmX6 rfl rfl 24 (by decide) gw3_232 rfl rfl (ty := .int) (by decide +kernel) rfl rfl (Nat.le_of_ble_eq_true rfl) mW_p24 dX6_goOn_66 ?_
          exact RV _ _ _ _ _ dX6_goOn_69 (by decide) (by decide) (by rw [show dx h a = (0) from by unfold dx; split <;> (try split) <;> omega, show dy h a = (0) from by unfold dy; split <;> (try split) <;> omega])
        · refine sw_iload_n X dX6_goOn_59 rfl 1 rfl ?_
          refine sw_ineg X dX6_goOn_60 ?_
          refine sw_goto (tgt := 65) X dX6_goOn_61 (by decide) ?_
          refine sw_iadd X dX6_goOn_65 ?_
          refine sw_put (q0 := 0) X iw_X6 tyX6 tyX6_ok nmX6 rfl rfl 24 (by decide) gw3_232 rfl rfl (ty := .int) (by decide +kernel) rfl rfl (Nat.le_of_ble_eq_true rfl) mW_p24 dX6_goOn_66 ?_
          exact RV _ _ _ _ _ dX6_goOn_69 (by decide) (by decide) (by rw [show dx h a = (0) from by unfold dx; split <;> (try split) <;> omega, show dy h a = ((-a)) from by unfold dy; split <;> (try split) <;> omega])
      · refine sw_iload_n X dX6_goOn_47 rfl 1 rfl ?_
        refine sw_goto (tgt := 65) X dX6_goOn_48 (by decide) ?_
        refine sw_iadd X dX6_goOn_65 ?_
        refine sw_put (q0 := 0) X iw_X6 tyX6 tyX6_ok nmX6 rfl rfl 24 (by decide) gw3_232 rfl rfl (ty := .int) (by decide +kernel) rfl rfl (Nat.le_of_ble_eq_true rfl) mW_p24 dX6_goOn_66 ?_
        exact RV _ _ _ _ _ dX6_goOn_69 (by decide) (by decide) (by rw [show dx h a = (0) from by unfold dx; split <;> (try split) <;> omega, show dy h a = (a) from by unfold dy; split <;> (try split) <;> omega])
    · refine sw_iload_n X dX6_goOn_25 rfl 1 rfl ?_
      refine sw_ineg X dX6_goOn_26 ?_
      refine sw_goto (tgt := 31) X dX6_goOn_27 (by decide) ?_
      refine sw_iadd X dX6_goOn_31 ?_
      refine sw_put (q0 := 0) X iw_X6 tyX6 tyX6_ok nmX6 rfl rfl 23 (by decide) gw3_231 rfl rfl (ty := .int) (by decide +kernel) rfl rfl (Nat.le_of_ble_eq_true rfl) mW_p23 dX6_goOn_32 ?_
      refine sw_aload_n X dX6_goOn_35 rfl 0 rfl ?_
      refine sw_dup X dX6_goOn_36 rfl ?_
      refine sw_get (q0 := 0) (v := .int (J y)) X iw_X6 rfl rfl 24 (by decide) gw3_232 rfl rfl dX6_goOn_37 ?_
      refine sw_aload_n X dX6_goOn_40 rfl 0 rfl ?_
      refine sw_get (q0 := 0) (v := .int (J h)) X iw_X6 rfl rfl 25 (by decide) gw3_233 rfl rfl dX6_goOn_41 ?_
      refine sw_if_ne (tgt := 51) X (by omega) dX6_goOn_44 (by decide) (fun h5 => ?_) (fun h5 => ?_)
      · refine sw_aload_n X dX6_goOn_51 rfl 0 rfl ?_
        refine sw_get (q0 := 0) (v := .int (J h)) X iw_X6 rfl rfl 25 (by decide) gw3_233 rfl rfl dX6_goOn_52 ?_
        refine sw_iconst X dX6_goOn_55 ?_
        refine sw_icmp_ne (tgt := 64) X (by omega) (by omega) dX6_goOn_56 (by decide) (fun h6 => ?_) (fun h6 => ?_)
        · refine sw_iconst X dX6_goOn_64 ?_
          refine sw_iadd X dX6_goOn_65 ?_
          refine sw_put (q0 := 0) X iw_X6 tyX6 tyX6_ok nmX6 rfl rfl 24 (by decide) gw3_232 rfl rfl (ty := .int) (by decide +kernel) rfl rfl (Nat.le_of_ble_eq_true rfl) mW_p24 dX6_goOn_66 ?_
          exact RV _ _ _ _ _ dX6_goOn_69 (by decide) (by decide) (by rw [show dx h a = ((-a)) from by unfold dx; split <;> (try split) <;> omega, show dy h a = (0) from by unfold dy; split <;> (try split) <;> omega])
        · refine sw_iload_n X dX6_goOn_59 rfl 1 rfl ?_
          refine sw_ineg X dX6_goOn_60 ?_
          refine sw_goto (tgt := 65) X dX6_goOn_61 (by decide) ?_
          refine sw_iadd X dX6_goOn_65 ?_
          refine sw_put (q0 := 0) X iw_X6 tyX6 tyX6_ok nmX6 rfl rfl 24 (by decide) gw3_232 rfl rfl (ty := .int) (by decide +kernel) rfl rfl (Nat.le_of_ble_eq_true rfl) mW_p24 dX6_goOn_66 ?_
          exact RV _ _ _ _ _ dX6_goOn_69 (by decide) (by decide) (by rw [show dx h a = ((-a)) from by unfold dx; split <;> (try split) <;> omega, show dy h a = ((-a)) from by unfold dy; split <;> (try split) <;> omega])
      · refine sw_iload_n X dX6_goOn_47 rfl 1 rfl ?_
        refine sw_goto (tgt := 65) X dX6_goOn_48 (by decide) ?_
        refine sw_iadd X dX6_goOn_65 ?_
        refine sw_put (q0 := 0) X iw_X6 tyX6 tyX6_ok nmX6 rfl rfl 24 (by decide) gw3_232 rfl rfl (ty := .int) (by decide +kernel) rfl rfl (Nat.le_of_ble_eq_true rfl) mW_p24 dX6_goOn_66 ?_
        exact RV _ _ _ _ _ dX6_goOn_69 (by decide) (by decide) (by rw [show dx h a = ((-a)) from by unfold dx; split <;> (try split) <;> omega, show dy h a = (a) from by unfold dy; split <;> (try split) <;> omega])
  · refine sw_iload_n X dX6_goOn_13 rfl 1 rfl ?_
    refine sw_goto (tgt := 31) X dX6_goOn_14 (by decide) ?_
    refine sw_iadd X dX6_goOn_31 ?_
    refine sw_put (q0 := 0) X iw_X6 tyX6 tyX6_ok nmX6 rfl rfl 23 (by decide) gw3_231 rfl rfl (ty := .int) (by decide +kernel) rfl rfl (Nat.le_of_ble_eq_true rfl) mW_p23 dX6_goOn_32 ?_
    refine sw_aload_n X dX6_goOn_35 rfl 0 rfl ?_
    refine sw_dup X dX6_goOn_36 rfl ?_
    refine sw_get (q0 := 0) (v := .int (J y)) X iw_X6 rfl rfl 24 (by decide) gw3_232 rfl rfl dX6_goOn_37 ?_
    refine sw_aload_n X dX6_goOn_40 rfl 0 rfl ?_
    refine sw_get (q0 := 0) (v := .int (J h)) X iw_X6 rfl rfl 25 (by decide) gw3_233 rfl rfl dX6_goOn_41 ?_
    refine sw_if_ne (tgt := 51) X (by omega) dX6_goOn_44 (by decide) (fun h7 => ?_) (fun h7 => ?_)
    · refine sw_aload_n X dX6_goOn_51 rfl 0 rfl ?_
      refine sw_get (q0 := 0) (v := .int (J h)) X iw_X6 rfl rfl 25 (by decide) gw3_233 rfl rfl dX6_goOn_52 ?_
      refine sw_iconst X dX6_goOn_55 ?_
      refine sw_icmp_ne (tgt := 64) X (by omega) (by omega) dX6_goOn_56 (by decide) (fun h8 => ?_) (fun h8 => ?_)
      · refine sw_iconst X dX6_goOn_64 ?_
        refine sw_iadd X dX6_goOn_65 ?_
        refine sw_put (q0 := 0) X iw_X6 tyX6 tyX6_ok nmX6 rfl rfl 24 (by decide) gw3_232 rfl rfl (ty := .int) (by decide +kernel) rfl rfl (Nat.le_of_ble_eq_true rfl) mW_p24 dX6_goOn_66 ?_
        exact RV _ _ _ _ _ dX6_goOn_69 (by decide) (by decide) (by rw [show dx h a = (a) from by unfold dx; split <;> (try split) <;> omega, show dy h a = (0) from by unfold dy; split <;> (try split) <;> omega])
      · refine sw_iload_n X dX6_goOn_59 rfl 1 rfl ?_
        refine sw_ineg X dX6_goOn_60 ?_
        refine sw_goto (tgt := 65) X dX6_goOn_61 (by decide) ?_
        refine sw_iadd X dX6_goOn_65 ?_
        refine sw_put (q0 := 0) X iw_X6 tyX6 tyX6_ok nmX6 rfl rfl 24 (by decide) gw3_232 rfl rfl (ty := .int) (by decide +kernel) rfl rfl (Nat.le_of_ble_eq_true rfl) mW_p24 dX6_goOn_66 ?_
        exact RV _ _ _ _ _ dX6_goOn_69 (by decide) (by decide) (by rw [show dx h a = (a) from by unfold dx; split <;> (try split) <;> omega, show dy h a = ((-a)) from by unfold dy; split <;> (try split) <;> omega])
    · refine sw_iload_n X dX6_goOn_47 rfl 1 rfl ?_
      refine sw_goto (tgt := 65) X dX6_goOn_48 (by decide) ?_
      refine sw_iadd X dX6_goOn_65 ?_
      refine sw_put (q0 := 0) X iw_X6 tyX6 tyX6_ok nmX6 rfl rfl 24 (by decide) gw3_232 rfl rfl (ty := .int) (by decide +kernel) rfl rfl (Nat.le_of_ble_eq_true rfl) mW_p24 dX6_goOn_66 ?_
      exact RV _ _ _ _ _ dX6_goOn_69 (by decide) (by decide) (by rw [show dx h a = (a) from by unfold dx; split <;> (try split) <;> omega, show dy h a = (a) from by unfold dy; split <;> (try split) <;> omega])
abbrev rm_X6_cell : Room := { frames := 0, cells := 0, slots := 0, locals := 0 }
set_option maxHeartbeats 4000000 in
set_option maxRecDepth 100000 in
theorem c_X6_cell (l : Launch) (D : va_G) (k : Nat → ClassId) (ad : Nat → Nat) (st : Nat → Int → Int) (tl : Int → Int) (t x y h : Int)  : CI l yX6_cell cX6_cell 1 (some .int) rm_X6_cell D k [.ref (ad 0)] (mW k ad st tl t x y h) (fun z w' => w' = mW k ad st tl t x y h ∧ z = 16 * x + y) := by
  refine CI.of (by decide +kernel) (Nat.le_of_ble_eq_true rfl) (fun pᵢ eᵢ sᵢ mᵢ argsᵢ belowᵢ methᵢ cᵢ Aᵢ Qᵢ X RI => ?_)
  show SW pᵢ l eᵢ rm_X6_cell sᵢ mᵢ argsᵢ belowᵢ methᵢ cᵢ 1 D Aᵢ 0 0 Qᵢ (mW k ad st tl t x y h) 0 [(0, .ref (ad 0))] []
  refine sw_bipush X dX6_cell_0 (by decide +kernel) ?_
  refine sw_aload_n X dX6_cell_2 rfl 0 rfl ?_
  refine sw_get (q0 := 0) (v := .int (J x)) X iw_X6 rfl rfl 23 (by decide) gw3_231 rfl rfl dX6_cell_3 ?_
  refine sw_imul X dX6_cell_6 ?_
  refine sw_aload_n X dX6_cell_7 rfl 0 rfl ?_
  refine sw_get (q0 := 0) (v := .int (J y)) X iw_X6 rfl rfl 24 (by decide) gw3_232 rfl rfl dX6_cell_8 ?_
  refine sw_iadd X dX6_cell_11 ?_
  exact RI _ _ _ _ _ _ dX6_cell_12 (by decide) (by decide) rfl ⟨rfl, rfl⟩
abbrev rm_X6_isOnGround : Room := { frames := 1, cells := 0, slots := 0, locals := 22 }
set_option maxHeartbeats 4000000 in
set_option maxRecDepth 100000 in
theorem c_X6_isOnGround (l : Launch) (D : va_G) (k : Nat → ClassId) (ad : Nat → Nat) (st : Nat → Int → Int) (tl : Int → Int) (t x y h : Int) (hr : (-2147483648 ≤ x ∧ x < 2147483648) ∧ (-2147483648 ≤ y ∧ y < 2147483648)) : CI l yX6_isOnGround cX6_isOnGround 1 (some .boolean) rm_X6_isOnGround D k [.ref (ad 0)] (mW k ad st tl t x y h) (fun z w' => w' = mW k ad st tl t x y h ∧ ((z = 1 ∧ 0 ≤ x ∧ x ≤ 15 ∧ 0 ≤ y ∧ y ≤ 15) ∨ (z = 0 ∧ ¬ (0 ≤ x ∧ x ≤ 15 ∧ 0 ≤ y ∧ y ≤ 15)))) := by
  refine CI.of (by decide +kernel) (Nat.le_of_ble_eq_true rfl) (fun pᵢ eᵢ sᵢ mᵢ argsᵢ belowᵢ methᵢ cᵢ Aᵢ Qᵢ X RI => ?_)
  show SW pᵢ l eᵢ rm_X6_isOnGround sᵢ mᵢ argsᵢ belowᵢ methᵢ cᵢ 1 D Aᵢ 0 0 Qᵢ (mW k ad st tl t x y h) 0 [(0, .ref (ad 0))] []
  refine sw_aload_n X dX6_isOnGround_0 rfl 0 rfl ?_
  refine sw_get (q0 := 0) (v := .int (J x)) X iw_X6 rfl rfl 23 (by decide) gw3_231 rfl rfl dX6_isOnGround_1 ?_
  refine sw_iconst X dX6_isOnGround_4 ?_
  refine sw_bipush X dX6_isOnGround_5 (by decide +kernel) ?_
  refine sw_callSI0 (As := [.int (J x), .int (J 0), .int (J 15)]) (rest := []) X (c_X6_in l D k (mW k ad st tl t x y h) x 0 15 (by omega)) (va_cwS 3 (sw_ts X) (sw_goodS gw4_55 gw4_56 gw1_3 gw4_57) rfl rfl rfl (by decide +kernel) ⟨Nat.le_of_ble_eq_true rfl, Nat.le_of_ble_eq_true rfl⟩) dX6_isOnGround_7 rfl rfl (Nat.le_of_ble_eq_true rfl) ⟨Nat.le_of_ble_eq_true rfl, Nat.le_of_ble_eq_true rfl⟩ (fun z1 w9 hp2 => ?_)
  obtain ⟨rfl, hp2⟩ := hp2
  refine sw_if_eq (tgt := 30) X (by omega) dX6_isOnGround_10 (by decide) (fun h3 => ?_) (fun h3 => ?_)
  · refine sw_iconst X dX6_isOnGround_30 ?_
    exact RI _ _ _ _ _ _ dX6_isOnGround_31 (by decide) (by decide) rfl ⟨rfl, by omega⟩
  · refine sw_aload_n X dX6_isOnGround_13 rfl 0 rfl ?_
    refine sw_get (q0 := 0) (v := .int (J y)) X iw_X6 rfl rfl 24 (by decide) gw3_232 rfl rfl dX6_isOnGround_14 ?_
    refine sw_iconst X dX6_isOnGround_17 ?_
    refine sw_bipush X dX6_isOnGround_18 (by decide +kernel) ?_
    refine sw_callSI0 (As := [.int (J y), .int (J 0), .int (J 15)]) (rest := []) X (c_X6_in l D k (mW k ad st tl t x y h) y 0 15 (by omega)) (va_cwS 3 (sw_ts X) (sw_goodS gw4_55 gw4_56 gw1_3 gw4_57) rfl rfl rfl (by decide +kernel) ⟨Nat.le_of_ble_eq_true rfl, Nat.le_of_ble_eq_true rfl⟩) dX6_isOnGround_20 rfl rfl (Nat.le_of_ble_eq_true rfl) ⟨Nat.le_of_ble_eq_true rfl, Nat.le_of_ble_eq_true rfl⟩ (fun z4 w9 hp5 => ?_)
    obtain ⟨rfl, hp5⟩ := hp5
    refine sw_if_eq (tgt := 30) X (by omega) dX6_isOnGround_23 (by decide) (fun h6 => ?_) (fun h6 => ?_)
    · refine sw_iconst X dX6_isOnGround_30 ?_
      exact RI _ _ _ _ _ _ dX6_isOnGround_31 (by decide) (by decide) rfl ⟨rfl, by omega⟩
    · refine sw_iconst X dX6_isOnGround_26 ?_
      refine sw_goto (tgt := 31) X dX6_isOnGround_27 (by decide) ?_
      exact RI _ _ _ _ _ _ dX6_isOnGround_31 (by decide) (by decide) rfl ⟨rfl, by omega⟩
end
section
/-! what the answers are, as functions of the reference's state; what always holds of it -/
abbrev ST : Type := Nat → Int → Int
def clO (p : Int × Int × Int) : Int := 16 * p.1 + p.2.1
def gC (st : ST) (g : Int) : Int := clO (bP st ((st 6 g).toNat + 1))
def gD (st : ST) (g : Int) : Int := st 7 g + sM (fun i => st 3 (i : Int)) ((st 6 g).toNat + 1)
def nP (st : ST) (c : Int) : Nat := (st 10 c).toNat
def clk (st : ST) (c : Int) : Int := tM st c (nP st c)
/-- where a car is at minute m, over its first n pieces -/
def pA (st : ST) (c m : Int) : Nat → Int × Int
  | 0 => ((tP st c 0).1, (tP st c 0).2.1)
  | n + 1 => if m ≤ tM st c n then pA st c m n else
      ((tP st c n).1 + dx (tP st c n).2.2 (if st 11 (60 * c + (n : Int)) = -1 then 0 else if m - tM st c n < st 12 (60 * c + (n : Int)) then m - tM st c n else st 12 (60 * c + (n : Int))),
       (tP st c n).2.1 + dy (tP st c n).2.2 (if st 11 (60 * c + (n : Int)) = -1 then 0 else if m - tM st c n < st 12 (60 * c + (n : Int)) then m - tM st c n else st 12 (60 * c + (n : Int))))
def aC (st : ST) (c m : Int) : Int := 16 * (pA st c m (nP st c)).1 + (pA st c m (nP st c)).2
/-- the first of the n minutes from a on at which f is v -/
def fS (f : Int → Int) (v : Int) : Int → Nat → Int
  | _, 0 => -1
  | a, n + 1 => if f a = v then a else fS f v (a + 1) n
def fF (f : Int → Int) (e v a : Int) : Int := fS f v a (e + 1 - a).toNat
def isF (f : Int → Int) (e v a r : Int) : Prop := (r = -1 ∧ ∀ m, a ≤ m → m ≤ e → f m ≠ v) ∨ (a ≤ r ∧ r ≤ e ∧ f r = v ∧ ∀ m, a ≤ m → m < r → f m ≠ v)
theorem fS_is (f : Int → Int) (v : Int) : ∀ (n : Nat) (a : Int), isF f (a + n - 1) v a (fS f v a n)
  | 0, a => Or.inl ⟨rfl, fun m h1 h2 => by omega⟩
  | n + 1, a => by
    unfold fS
    by_cases h : f a = v
    · rw [if_pos h]
      exact Or.inr ⟨Int.le_refl a, by omega, h, fun m h1 h2 => by omega⟩
    · rw [if_neg h]
      rcases fS_is f v n (a + 1) with ⟨h1, h2⟩ | ⟨h1, h2, h3, h4⟩
      · refine Or.inl ⟨h1, fun m g1 g2 => ?_⟩
        by_cases hm : m = a
        · rw [hm]; exact h
        · exact h2 m (by omega) (by omega)
      · refine Or.inr ⟨by omega, by omega, h3, fun m g1 g2 => ?_⟩
        by_cases hm : m = a
        · rw [hm]; exact h
        · exact h4 m (by omega) g2
theorem isF_one {f : Int → Int} {e v a r r' : Int} (ha : 0 ≤ a) (h : isF f e v a r) (h' : isF f e v a r') : r = r' := by
  rcases h with ⟨h1, h2⟩ | ⟨h1, h2, h3, h4⟩ <;> rcases h' with ⟨g1, g2⟩ | ⟨g1, g2, g3, g4⟩
  · rw [h1, g1]
  · exact absurd g3 (h2 _ g1 g2)
  · exact absurd h3 (g2 _ h1 h2)
  · rcases Int.lt_trichotomy r r' with q | q | q
    · exact absurd h3 (g4 _ h1 q)
    · exact q
    · exact absurd g3 (h4 _ g1 q)
theorem fF_is (f : Int → Int) {e v a : Int} : isF f e v a (fF f e v a) := by
  unfold fF
  have h := fS_is f v (e + 1 - a).toNat a
  by_cases hq : a ≤ e
  · rw [show a + ((e + 1 - a).toNat : Int) - 1 = e by omega] at h
    exact h
  · rw [show (e + 1 - a).toNat = 0 by omega]
    exact Or.inl ⟨rfl, fun m h1 h2 => by omega⟩
theorem fF_eq {f : Int → Int} {e v a r : Int} (ha : 0 ≤ a) (h : isF f e v a r) : r = fF f e v a := isF_one ha h (fF_is f)
theorem isF_rng {f : Int → Int} {e v a r : Int} (h : isF f e v a r) : r = -1 ∨ (a ≤ r ∧ r ≤ e) := by
  rcases h with ⟨h1, -⟩ | ⟨h1, h2, -, -⟩
  · exact Or.inl h1
  · exact Or.inr ⟨h1, h2⟩
/-- the last passed minute, and the answer at the last gate -/
def pasL (st : ST) (c : Int) : Nat → Int × Int
  | 0 => (0, -1)
  | n + 1 => (if fF (aC st c) (clk st c) (gC st (n : Int)) (pasL st c n).1 = -1 then (pasL st c n).1 else fF (aC st c) (clk st c) (gC st (n : Int)) (pasL st c n).1, fF (aC st c) (clk st c) (gC st (n : Int)) (pasL st c n).1)
def pas (st : ST) (c g : Int) : Int := (pasL st c (g.toNat + 1)).2
def tim (st : ST) (c g : Int) : Int := if st 16 (10 * c + g) = -1 then pas st c g else st 16 (10 * c + g)
def pG (st : ST) (c g : Int) : Int :=
  if (if tim st c g = -1 then 60 else if tim st c g - gD st g < 0 then -2 * (tim st c g - gD st g) else tim st c g - gD st g) > 60 then 60
  else (if tim st c g = -1 then 60 else if tim st c g - gD st g < 0 then -2 * (tim st c g - gD st g) else tim st c g - gD st g)
def nG (st : ST) : Nat := if st 5 0 ≤ st 8 0 then (st 5 0).toNat else (st 8 0).toNat
def pts (st : ST) (c : Int) : Int := 10 * st 15 c + sM (fun g => pG st c (g : Int)) (nG st)
def folS (st : ST) (c : Int) : Nat → Int × Int
  | 0 => (0, 0)
  | n + 1 => if st 11 (60 * c + (n : Int)) ≠ -1 ∧ (folS st c n).2 = 0 then
      (if (folS st c n).1 = st 2 0 ∨ st 11 (60 * c + (n : Int)) ≠ st 3 (folS st c n).1 ∨ st 13 (60 * c + (n : Int)) ≠ st 4 (folS st c n).1 then ((folS st c n).1, 1) else ((folS st c n).1 + 1, 0))
      else folS st c n
/-- parts of c that are not in it -/
def isL (st : ST) (c j : Int) : Int := if st 19 j = c ∧ ((st 20 j = -2 ∧ st 21 j ≠ c) ∨ (st 20 j ≠ -2 ∧ st 20 j ≠ c)) then 1 else 0
def len (st : ST) (c : Int) : Int := sM (fun j => isL st c (j : Int)) (st 17 0).toNat
/-- the place of a car in the table -/
def rk1 (f : Int → Int) (c o : Int) : Int := if f o < f c ∨ (f o = f c ∧ o < c) then 1 else 0
def rk (f : Int → Int) (c : Int) (n : Nat) : Int := sM (fun o => rk1 f c (o : Int)) n
/-- what always holds, N calls after the start -/
def I6 (N : Int) (st : ST) : Prop :=
  (0 ≤ st 1 0 ∧ st 1 0 ≤ 255) ∧ (0 ≤ st 2 0 ∧ st 2 0 ≤ 30) ∧ (0 ≤ st 5 0 ∧ st 5 0 ≤ 10) ∧ (0 ≤ st 8 0 ∧ st 8 0 ≤ 10) ∧ (0 ≤ st 9 0 ∧ st 9 0 ≤ 8) ∧ (0 ≤ st 17 0 ∧ st 17 0 ≤ 40) ∧
  (∀ i : Int, 0 ≤ i → i < st 2 0 → (1 ≤ st 3 i ∧ st 3 i ≤ 15) ∧ 0 ≤ st 4 i ∧ st 4 i ≤ 3) ∧
  (∀ g : Int, 0 ≤ g → g < st 5 0 → (0 ≤ st 6 g ∧ st 6 g < st 2 0) ∧ 0 ≤ st 7 g ∧ st 7 g ≤ 100) ∧
  (∀ c : Int, 0 ≤ c → c < 8 → (0 ≤ st 10 c ∧ st 10 c ≤ 60) ∧ (-1 ≤ st 14 c ∧ st 14 c ≤ 3) ∧ (0 ≤ st 15 c ∧ st 15 c ≤ N) ∧ (st 9 0 ≤ c → st 10 c = 0 ∧ st 14 c = -1 ∧ st 15 c = 0 ∧ ∀ g : Int, 0 ≤ g → g < 10 → st 16 (10 * c + g) = -1)) ∧
  (∀ c i : Int, 0 ≤ c → c < 8 → 0 ≤ i → i < st 10 c → ((st 11 (60 * c + i) = -1 ∧ 1 ≤ st 12 (60 * c + i) ∧ st 12 (60 * c + i) ≤ 100) ∨ (0 ≤ st 11 (60 * c + i) ∧ st 11 (60 * c + i) ≤ 15 ∧ st 12 (60 * c + i) = st 11 (60 * c + i))) ∧ 0 ≤ st 13 (60 * c + i) ∧ st 13 (60 * c + i) ≤ 3) ∧
  (∀ n : Nat, (n : Int) ≤ st 2 0 → (0 ≤ (bP st n).1 ∧ (bP st n).1 ≤ 15) ∧ 0 ≤ (bP st n).2.1 ∧ (bP st n).2.1 ≤ 15) ∧
  (∀ (c : Int) (n : Nat), 0 ≤ c → c < 8 → (n : Int) ≤ st 10 c → (0 ≤ (tP st c n).1 ∧ (tP st c n).1 ≤ 15) ∧ 0 ≤ (tP st c n).2.1 ∧ (tP st c n).2.1 ≤ 15) ∧
  (∀ c g : Int, 0 ≤ c → c < 8 → 0 ≤ g → g < 10 → -1 ≤ st 16 (10 * c + g) ∧ st 16 (10 * c + g) ≤ 10000) ∧
  (∀ j : Int, 0 ≤ j → j < st 17 0 → (0 ≤ st 18 j ∧ st 18 j ≤ 3) ∧ (-1 ≤ st 19 j ∧ st 19 j < st 9 0) ∧ -2 ≤ st 20 j ∧ st 20 j < st 9 0) ∧
  (∀ g : Int, 0 ≤ g → g + 1 < st 5 0 → st 6 g < st 6 (g + 1)) ∧ (∀ j : Int, 0 ≤ j → j < 40 → -1 ≤ st 21 j ∧ st 21 j < 8)
section I6s
variable {N : Int} {st : ST}
theorem I_st (h : I6 N st) : 0 ≤ st 1 0 ∧ st 1 0 ≤ 255 := h.1
theorem I_en (h : I6 N st) : 0 ≤ st 2 0 ∧ st 2 0 ≤ 30 := h.2.1
theorem I_ga (h : I6 N st) : 0 ≤ st 5 0 ∧ st 5 0 ≤ 10 := h.2.2.1
theorem I_cu (h : I6 N st) : 0 ≤ st 8 0 ∧ st 8 0 ≤ 10 := h.2.2.2.1
theorem I_ca (h : I6 N st) : 0 ≤ st 9 0 ∧ st 9 0 ≤ 8 := h.2.2.2.2.1
theorem I_pa (h : I6 N st) : 0 ≤ st 17 0 ∧ st 17 0 ≤ 40 := h.2.2.2.2.2.1
theorem I_e (h : I6 N st) : ∀ i : Int, 0 ≤ i → i < st 2 0 → (1 ≤ st 3 i ∧ st 3 i ≤ 15) ∧ 0 ≤ st 4 i ∧ st 4 i ≤ 3 := h.2.2.2.2.2.2.1
theorem I_g (h : I6 N st) : ∀ g : Int, 0 ≤ g → g < st 5 0 → (0 ≤ st 6 g ∧ st 6 g < st 2 0) ∧ 0 ≤ st 7 g ∧ st 7 g ≤ 100 := h.2.2.2.2.2.2.2.1
theorem I_c (h : I6 N st) : ∀ c : Int, 0 ≤ c → c < 8 → (0 ≤ st 10 c ∧ st 10 c ≤ 60) ∧ (-1 ≤ st 14 c ∧ st 14 c ≤ 3) ∧ (0 ≤ st 15 c ∧ st 15 c ≤ N) ∧ (st 9 0 ≤ c → st 10 c = 0 ∧ st 14 c = -1 ∧ st 15 c = 0 ∧ ∀ g : Int, 0 ≤ g → g < 10 → st 16 (10 * c + g) = -1) := h.2.2.2.2.2.2.2.2.1
theorem I_p (h : I6 N st) : ∀ c i : Int, 0 ≤ c → c < 8 → 0 ≤ i → i < st 10 c → ((st 11 (60 * c + i) = -1 ∧ 1 ≤ st 12 (60 * c + i) ∧ st 12 (60 * c + i) ≤ 100) ∨ (0 ≤ st 11 (60 * c + i) ∧ st 11 (60 * c + i) ≤ 15 ∧ st 12 (60 * c + i) = st 11 (60 * c + i))) ∧ 0 ≤ st 13 (60 * c + i) ∧ st 13 (60 * c + i) ≤ 3 := h.2.2.2.2.2.2.2.2.2.1
theorem I_b (h : I6 N st) : ∀ n : Nat, (n : Int) ≤ st 2 0 → (0 ≤ (bP st n).1 ∧ (bP st n).1 ≤ 15) ∧ 0 ≤ (bP st n).2.1 ∧ (bP st n).2.1 ≤ 15 := h.2.2.2.2.2.2.2.2.2.2.1
theorem I_t (h : I6 N st) : ∀ (c : Int) (n : Nat), 0 ≤ c → c < 8 → (n : Int) ≤ st 10 c → (0 ≤ (tP st c n).1 ∧ (tP st c n).1 ≤ 15) ∧ 0 ≤ (tP st c n).2.1 ∧ (tP st c n).2.1 ≤ 15 := h.2.2.2.2.2.2.2.2.2.2.2.1
theorem I_r (h : I6 N st) : ∀ c g : Int, 0 ≤ c → c < 8 → 0 ≤ g → g < 10 → -1 ≤ st 16 (10 * c + g) ∧ st 16 (10 * c + g) ≤ 10000 := h.2.2.2.2.2.2.2.2.2.2.2.2.1
theorem I_j (h : I6 N st) : ∀ j : Int, 0 ≤ j → j < st 17 0 → (0 ≤ st 18 j ∧ st 18 j ≤ 3) ∧ (-1 ≤ st 19 j ∧ st 19 j < st 9 0) ∧ -2 ≤ st 20 j ∧ st 20 j < st 9 0 := h.2.2.2.2.2.2.2.2.2.2.2.2.2.1
theorem I_gs (h : I6 N st) : ∀ g : Int, 0 ≤ g → g + 1 < st 5 0 → st 6 g < st 6 (g + 1) := h.2.2.2.2.2.2.2.2.2.2.2.2.2.2.1
theorem I_u (h : I6 N st) : ∀ j : Int, 0 ≤ j → j < 40 → -1 ≤ st 21 j ∧ st 21 j < 8 := h.2.2.2.2.2.2.2.2.2.2.2.2.2.2.2
end I6s
/-! sums -/
theorem sM_s (f : Nat → Int) (n : Nat) : sM f (n + 1) = sM f n + f n := rfl
theorem sM_c {f g : Nat → Int} : ∀ {n : Nat}, (∀ i, i < n → f i = g i) → sM f n = sM g n
  | 0, _ => rfl
  | n + 1, h => by rw [sM_s, sM_s, sM_c (fun i hi => h i (by omega)), h n (by omega)]
theorem sM_b {f : Nat → Int} {a : Int} : ∀ {n : Nat}, (∀ i, i < n → 0 ≤ f i ∧ f i ≤ a) → 0 ≤ sM f n ∧ sM f n ≤ n * a
  | 0, _ => by simp [sM]
  | n + 1, h => by
    have h1 := sM_b (n := n) (fun i hi => h i (by omega))
    have h2 := h n (by omega)
    rw [sM_s, show ((n + 1 : Nat) : Int) * a = n * a + a by rw [Int.natCast_add, Int.add_mul]; simp]
    omega
theorem wP_c {s0 : Int} {d d' t t' : Nat → Int} : ∀ {n : Nat}, (∀ i, i < n → d i = d' i ∧ t i = t' i) → wP s0 d t n = wP s0 d' t' n
  | 0, _ => rfl
  | n + 1, h => by rw [wP_s, wP_s, wP_c (fun i hi => h i (by omega)), (h n (by omega)).1, (h n (by omega)).2]
theorem dx_0 (h : Int) : dx h 0 = 0 := by unfold dx; split <;> (try split) <;> omega
theorem dy_0 (h : Int) : dy h 0 = 0 := by unfold dy; split <;> (try split) <;> omega
theorem dx_b (h c : Int) (hc : 0 ≤ c) : -c ≤ dx h c ∧ dx h c ≤ c := by unfold dx; split <;> (try split) <;> omega
theorem dy_b (h c : Int) (hc : 0 ≤ c) : -c ≤ dy h c ∧ dy h c ≤ c := by unfold dy; split <;> (try split) <;> omega
theorem dx_in {h x d j : Int} (h0 : 0 ≤ x ∧ x ≤ 15) (h1 : 0 ≤ x + dx h d ∧ x + dx h d ≤ 15) (hj : 0 ≤ j) (hjd : j ≤ d) : 0 ≤ x + dx h j ∧ x + dx h j ≤ 15 := by
  unfold dx at *
  split <;> (try split) <;> simp_all <;> omega
theorem dy_in {h x d j : Int} (h0 : 0 ≤ x ∧ x ≤ 15) (h1 : 0 ≤ x + dy h d ∧ x + dy h d ≤ 15) (hj : 0 ≤ j) (hjd : j ≤ d) : 0 ≤ x + dy h j ∧ x + dy h j ≤ 15 := by
  unfold dy at *
  split <;> (try split) <;> simp_all <;> omega
theorem tP_s (st : ST) (c : Int) (n : Nat) : tP st c (n + 1) = ((tP st c n).1 + dx (tP st c n).2.2 (tD st c n), (tP st c n).2.1 + dy (tP st c n).2.2 (tD st c n), ((tP st c n).2.2 + st 13 (60 * c + (n : Int))) % 4) := rfl
theorem bP_s (st : ST) (n : Nat) : bP st (n + 1) = ((bP st n).1 + dx (bP st n).2.2 (st 3 (n : Int)), (bP st n).2.1 + dy (bP st n).2.2 (st 3 (n : Int)), ((bP st n).2.2 + st 4 (n : Int)) % 4) := rfl
theorem tM_s (st : ST) (c : Int) (n : Nat) : tM st c (n + 1) = tM st c n + st 12 (60 * c + (n : Int)) := rfl
theorem tP_h (st : ST) (c : Int) (n : Nat) : 0 ≤ (tP st c n).2.2 ∧ (tP st c n).2.2 ≤ 3 := wP_h _ _ _ n
theorem bP_h (st : ST) (n : Nat) : 0 ≤ (bP st n).2.2 ∧ (bP st n).2.2 ≤ 3 := wP_h _ _ _ n
section Tr
variable {N : Int} {st : ST} {c : Int}
theorem I_m (h : I6 N st) (h0 : 0 ≤ c) (h8 : c < 8) (n : Nat) (hn : (n : Int) < st 10 c) : 0 ≤ st 12 (60 * c + (n : Int)) ∧ st 12 (60 * c + (n : Int)) ≤ 100 := by
  have := I_p h c n h0 h8 (by omega) hn
  omega
theorem tM_b (h : I6 N st) (h0 : 0 ≤ c) (h8 : c < 8) (n : Nat) (hn : (n : Int) ≤ st 10 c) : 0 ≤ tM st c n ∧ tM st c n ≤ n * 100 :=
  sM_b (f := fun i => st 12 (60 * c + (i : Int))) (fun i hi => I_m h h0 h8 i (by omega))
theorem tM_b2 (h : I6 N st) (h0 : 0 ≤ c) (h8 : c < 8) (n : Nat) (hn : (n : Int) ≤ st 10 c) : 0 ≤ tM st c n ∧ tM st c n ≤ 6000 := by
  have h1 := tM_b h h0 h8 n hn
  have h2 := (I_c h c h0 h8).1
  omega
theorem nP_e (h : I6 N st) (h0 : 0 ≤ c) (h8 : c < 8) : ((nP st c : Nat) : Int) = st 10 c := by
  have h2 := (I_c h c h0 h8).1
  unfold nP
  omega
theorem clk_b (h : I6 N st) (h0 : 0 ≤ c) (h8 : c < 8) : 0 ≤ clk st c ∧ clk st c ≤ 6000 := tM_b2 h h0 h8 _ (by rw [nP_e h h0 h8]; omega)
theorem tM_mono (h : I6 N st) (h0 : 0 ≤ c) (h8 : c < 8) (n : Nat) : ∀ (i : Nat), ((n + i : Nat) : Int) ≤ st 10 c → tM st c n ≤ tM st c (n + i)
  | 0, _ => Int.le_refl _
  | i + 1, hi => by
    have h1 := tM_mono h h0 h8 n i (by omega)
    have h2 := I_m h h0 h8 (n + i) (by omega)
    rw [← Nat.add_assoc, tM_s]
    omega
theorem tM_le (h : I6 N st) (h0 : 0 ≤ c) (h8 : c < 8) {n m : Nat} (hnm : n ≤ m) (hm : (m : Int) ≤ st 10 c) : tM st c n ≤ tM st c m := by
  have := tM_mono h h0 h8 n (m - n) (by omega)
  rwa [show n + (m - n) = m by omega] at this
/-- at the end of a piece, and behind it -/
theorem pA_full (h : I6 N st) (h0 : 0 ≤ c) (h8 : c < 8) {m : Int} : ∀ (n : Nat), (n : Int) ≤ st 10 c → tM st c n ≤ m → pA st c m n = ((tP st c n).1, (tP st c n).2.1)
  | 0, _, _ => rfl
  | n + 1, hn, hm => by
    have h2 := I_m h h0 h8 n (by omega)
    have h3 := I_p h c n h0 h8 (by omega) (by omega)
    rw [tM_s] at hm
    unfold pA
    by_cases hq : m ≤ tM st c n
    · rw [if_pos hq, pA_full h h0 h8 n (by omega) (by omega), tP_s]
      have h4 : tD st c n = 0 := by
        unfold tD
        split <;> omega
      rw [h4, dx_0, dy_0]
      simp
    · rw [if_neg hq, tP_s]
      have h4 : (if st 11 (60 * c + (n : Int)) = -1 then 0 else if m - tM st c n < st 12 (60 * c + (n : Int)) then m - tM st c n else st 12 (60 * c + (n : Int))) = tD st c n := by
        unfold tD
        split
        · rfl
        · split <;> omega
      rw [h4]
theorem pA_stop (h : I6 N st) (h0 : 0 ≤ c) (h8 : c < 8) {m : Int} (n : Nat) (hm : m ≤ tM st c n) : ∀ (i : Nat), ((n + i : Nat) : Int) ≤ st 10 c → pA st c m (n + i) = pA st c m n
  | 0, _ => rfl
  | i + 1, hi => by
    have h1 := tM_mono h h0 h8 n i (by omega)
    rw [← Nat.add_assoc]
    conv => lhs; unfold pA
    rw [if_pos (by omega)]
    exact pA_stop h h0 h8 n hm i (by omega)
/-- j minutes into piece n -/
theorem pA_in (h : I6 N st) (h0 : 0 ≤ c) (h8 : c < 8) {j : Int} (n : Nat) (hn : (n : Int) < st 10 c) (hj : 0 ≤ j) (hj2 : j ≤ st 12 (60 * c + (n : Int))) :
    pA st c (tM st c n + j) (nP st c) = ((tP st c n).1 + dx (tP st c n).2.2 (if st 11 (60 * c + (n : Int)) = -1 then 0 else j), (tP st c n).2.1 + dy (tP st c n).2.2 (if st 11 (60 * c + (n : Int)) = -1 then 0 else j)) := by
  have e := nP_e h h0 h8
  have h2 := pA_stop h h0 h8 (m := tM st c n + j) (n + 1) (by rw [tM_s]; omega) (nP st c - (n + 1)) (by omega)
  rw [show n + 1 + (nP st c - (n + 1)) = nP st c by omega] at h2
  rw [h2]
  unfold pA
  by_cases hq : tM st c n + j ≤ tM st c n
  · have hz : j = 0 := by omega
    subst hz
    rw [if_pos hq, pA_full h h0 h8 n (by omega) (by omega)]
    simp [dx_0, dy_0]
  · rw [if_neg hq]
    have h4 : (if st 11 (60 * c + (n : Int)) = -1 then 0 else if tM st c n + j - tM st c n < st 12 (60 * c + (n : Int)) then tM st c n + j - tM st c n else st 12 (60 * c + (n : Int))) = (if st 11 (60 * c + (n : Int)) = -1 then 0 else j) := by
      split
      · rfl
      · split <;> omega
    rw [h4]
theorem pA_on (h : I6 N st) (h0 : 0 ≤ c) (h8 : c < 8) {j : Int} (n : Nat) (hn : (n : Int) < st 10 c) (hj : 0 ≤ j) (hj2 : j ≤ st 12 (60 * c + (n : Int))) :
    (0 ≤ (tP st c n).1 + dx (tP st c n).2.2 (if st 11 (60 * c + (n : Int)) = -1 then 0 else j) ∧ (tP st c n).1 + dx (tP st c n).2.2 (if st 11 (60 * c + (n : Int)) = -1 then 0 else j) ≤ 15) ∧
    0 ≤ (tP st c n).2.1 + dy (tP st c n).2.2 (if st 11 (60 * c + (n : Int)) = -1 then 0 else j) ∧ (tP st c n).2.1 + dy (tP st c n).2.2 (if st 11 (60 * c + (n : Int)) = -1 then 0 else j) ≤ 15 := by
  have h1 := I_t h c n h0 h8 (by omega)
  have h2 := I_t h c (n + 1) h0 h8 (by omega)
  have h3 := I_p h c n h0 h8 (by omega) hn
  rw [tP_s] at h2
  dsimp only at h2
  unfold tD at h2
  split
  · rw [dx_0, dy_0]; omega
  · rename_i hd
    rw [if_neg hd] at h2
    exact ⟨dx_in h1.1 h2.1 hj hj2, dy_in h1.2 h2.2 hj hj2⟩
end Tr
end
section
/-! walking the book and the tracks: what the loops need -/
def ftR (st : ST) (c m : Int) (n : Nat) (lf u v g : Int) : Prop := (0 ≤ lf ∧ lf = m - tM st c n ∧ u = (tP st c n).1 ∧ v = (tP st c n).2.1 ∧ g = (tP st c n).2.2) ∨ (lf < 0 ∧ -100 ≤ lf ∧ u = (pA st c m (nP st c)).1 ∧ v = (pA st c m (nP st c)).2 ∧ (0 ≤ g ∧ g ≤ 3) ∧ m < clk st c)
section Ft
variable {N : Int} {st : ST} {c m : Int}
theorem ftR_l (hI : I6 N st) (hc : 0 ≤ c ∧ c < 8) (hm : 0 ≤ m ∧ m ≤ clk st c) {n : Nat} {lf u v g : Int} (hn : (n : Int) ≤ st 10 c) (h : ftR st c m n lf u v g) : (-100 ≤ lf ∧ lf ≤ 6000) ∧ 0 ≤ g ∧ g ≤ 3 := by
  have h1 := clk_b hI hc.1 hc.2
  have h2 := tM_b2 hI hc.1 hc.2 n hn
  have h3 := tP_h st c n
  rcases h with ⟨a1, a2, a3, a4, a5⟩ | ⟨a1, a2, a3, a4, a5⟩ <;> omega
theorem ft_step (hI : I6 N st) (hc : 0 ≤ c ∧ c < 8) (hm : 0 ≤ m ∧ m ≤ clk st c) {n : Nat} {i lf u v g o : Int} (hi : i = 60 * c + (n : Int)) (hn : (n : Int) < st 10 c) (h : ftR st c m n lf u v g) (h0 : 0 ≤ lf) (ho : o = if st 11 i = -1 then 0 else if lf < st 12 i then lf else st 12 i) : ftR st c m (n + 1) (lf - st 12 i) (u + dx g o) (v + dy g o) ((g + st 13 i) % 4) := by
  subst hi
  have h3 := tP_h st c n
  have h4 := I_p hI c n hc.1 hc.2 (by omega) hn
  have h5 := I_m hI hc.1 hc.2 n hn
  rcases h with ⟨-, a2, a3, a4, a5⟩ | ⟨a1, -⟩
  · by_cases hq : lf < st 12 (60 * c + (n : Int))
    · right
      have hA := pA_in hI hc.1 hc.2 (j := lf) n hn h0 (by omega)
      rw [show tM st c n + lf = m by omega] at hA
      rw [hA]
      refine ⟨by omega, by omega, ?_, ?_, by omega, ?_⟩
      · show _ = _
        rw [a3, a5, ho, if_pos hq]
      · show _ = _
        rw [a4, a5, ho, if_pos hq]
      · have h6 := tM_le hI hc.1 hc.2 (n := n + 1) (m := nP st c) (by have := nP_e hI hc.1 hc.2; omega) (by rw [nP_e hI hc.1 hc.2]; omega)
        rw [tM_s] at h6
        unfold clk
        omega
    · left
      refine ⟨by omega, by rw [tM_s]; omega, ?_⟩
      rw [tP_s]
      have hD : o = tD st c n := by
        rw [ho, if_neg hq]; rfl
      exact ⟨by rw [a3, a5, hD], by rw [a4, a5, hD], by rw [a5]⟩
  · omega
theorem ft_end (hI : I6 N st) (hc : 0 ≤ c ∧ c < 8) (hm : 0 ≤ m ∧ m ≤ clk st c) {n : Nat} {lf u v g : Int} (h : ftR st c m n lf u v g) (hq : (n : Int) = st 10 c ∨ lf < 0) : (u = (pA st c m (nP st c)).1 ∧ v = (pA st c m (nP st c)).2) ∧ (m = clk st c → g = (tP st c (nP st c)).2.2) := by
  rcases h with ⟨a1, a2, a3, a4, a5⟩ | ⟨a1, a2, a3, a4, a5, a6⟩
  · have hn : n = nP st c := by
      unfold nP
      omega
    have h2 := pA_full hI hc.1 hc.2 (m := m) n (by omega) (by omega)
    rw [← hn, h2]
    exact ⟨⟨a3, a4⟩, fun _ => a5⟩
  · exact ⟨⟨a3, a4⟩, fun z => by omega⟩
end Ft
theorem dx_1 (h j : Int) : dx h (j - 1) + dx h 1 = dx h j := by unfold dx; split <;> (try split) <;> omega
theorem dy_1 (h j : Int) : dy h (j - 1) + dy h 1 = dy h j := by unfold dy; split <;> (try split) <;> omega
theorem pasL_s (st : ST) (c : Int) (n : Nat) : pasL st c (n + 1) = (if fF (aC st c) (clk st c) (gC st (n : Int)) (pasL st c n).1 = -1 then (pasL st c n).1 else fF (aC st c) (clk st c) (gC st (n : Int)) (pasL st c n).1, fF (aC st c) (clk st c) (gC st (n : Int)) (pasL st c n).1) := rfl
theorem gC_b {N : Int} {st : ST} {g : Int} (hI : I6 N st) (hg : 0 ≤ g ∧ g < st 5 0) : 0 ≤ gC st g ∧ gC st g ≤ 255 := by
  have h1 := I_g hI g hg.1 hg.2
  have h2 := I_b hI ((st 6 g).toNat + 1) (by omega)
  unfold gC clO
  omega
theorem aC_0 {N : Int} {st : ST} {c : Int} (hI : I6 N st) (hc : 0 ≤ c ∧ c < 8) : aC st c 0 = 16 * (st 1 0 / 16) + st 1 0 % 16 := by
  have h1 := pA_stop hI hc.1 hc.2 (m := 0) 0 (Int.le_refl 0) (nP st c) (by rw [Nat.zero_add, nP_e hI hc.1 hc.2]; omega)
  rw [Nat.zero_add] at h1
  unfold aC
  rw [h1]
  rfl
theorem gD_b {N : Int} {st : ST} {g : Int} (hI : I6 N st) (hg : 0 ≤ g ∧ g < st 5 0) : 0 ≤ gD st g ∧ gD st g ≤ 550 := by
  have h1 := I_g hI g hg.1 hg.2
  have h2 := I_en hI
  have h3 := sM_b (f := fun i => st 3 (i : Int)) (a := 15) (n := (st 6 g).toNat + 1) (fun i hi => by have := I_e hI i (by omega) (by omega); omega)
  unfold gD
  omega
theorem pasL_b {N : Int} {st : ST} {c : Int} (hI : I6 N st) (hc : 0 ≤ c ∧ c < 8) : ∀ n : Nat, (0 ≤ (pasL st c n).1 ∧ (pasL st c n).1 ≤ clk st c) ∧ ((pasL st c n).2 = -1 ∨ (0 ≤ (pasL st c n).2 ∧ (pasL st c n).2 ≤ clk st c))
  | 0 => by
    have := clk_b hI hc.1 hc.2
    exact ⟨⟨Int.le_refl 0, this.1⟩, Or.inl rfl⟩
  | n + 1 => by
    have h1 := pasL_b hI hc n
    have h2 := isF_rng (fF_is (aC st c) (e := clk st c) (v := gC st (n : Int)) (a := (pasL st c n).1))
    rw [pasL_s]
    dsimp only
    constructor
    · split <;> omega
    · omega
theorem pas_b {N : Int} {st : ST} {c : Int} (hI : I6 N st) (hc : 0 ≤ c ∧ c < 8) (g : Int) : pas st c g = -1 ∨ (0 ≤ pas st c g ∧ pas st c g ≤ 6000) := by
  have h1 := (pasL_b hI hc (g.toNat + 1)).2
  have h2 := clk_b hI hc.1 hc.2
  unfold pas
  omega
theorem tim_b {N : Int} {st : ST} {c g : Int} (hI : I6 N st) (hc : 0 ≤ c ∧ c < 8) (hg : 0 ≤ g ∧ g < 10) : -1 ≤ tim st c g ∧ tim st c g ≤ 10000 := by
  have h1 := pas_b hI hc g
  have h2 := I_r hI c g hc.1 hc.2 hg.1 hg.2
  unfold tim
  split <;> omega
abbrev rm_X6_followBook : Room := { frames := 1, cells := 0, slots := 0, locals := 21 }
set_option maxHeartbeats 4000000 in
set_option maxRecDepth 100000 in
theorem c_X6_followBook (l : Launch) (D : va_G) (k : Nat → ClassId) (N : Int) (ad : Nat → Nat) (st : Nat → Int → Int) (tl : Int → Int) (t x y h : Int) (b : Int) (hI : I6 N st) (hm : 0 ≤ b ∧ b ≤ st 2 0) : CV l yX6_followBook cX6_followBook 3 none rm_X6_followBook D k [.ref (ad 0), .int (J b)] (mW k ad st tl t x y h) (fun w' => w' = mW k ad st tl t (bP st b.toNat).1 (bP st b.toNat).2.1 (bP st b.toNat).2.2) := by
  refine CV.of (by decide +kernel) (Nat.le_of_ble_eq_true rfl) (fun pᵢ eᵢ sᵢ mᵢ argsᵢ belowᵢ methᵢ cᵢ Aᵢ Qᵢ X hnm RV => ?_)
  show SW pᵢ l eᵢ rm_X6_followBook sᵢ mᵢ argsᵢ belowᵢ methᵢ cᵢ 3 D Aᵢ 0 0 Qᵢ (mW k ad st tl t x y h) 0 [(0, .ref (ad 0)), (1, .int (J b))] []
  have hS := I_st hI
  have hE := I_en hI
  refine sw_aload_n X dX6_followBook_0 rfl 0 rfl ?_
  refine sw_callVV0 (C := RX6) (As := []) (rest := []) X (c_X6_begin l D k ad st tl t x y h (by omega)) (cwV 0 (sw_ts X) (sw_goodV gw4_70 gw4_72 gws_19 gw1_3 gw4_73) rfl rfl rfl (by decide +kernel) ⟨Nat.le_of_ble_eq_true rfl, Nat.le_of_ble_eq_true rfl⟩) 0 (ci := 6) rfl rfl rfl dX6_followBook_1 rfl rfl (Nat.le_of_ble_eq_true rfl) ⟨Nat.le_of_ble_eq_true rfl, Nat.le_of_ble_eq_true rfl⟩ (fun w9 hp2 => ?_)
  subst hp2
  refine sw_iconst X dX6_followBook_4 ?_
  refine sw_istore_n (lv' := [(2, .int (J 0)), (0, .ref (ad 0)), (1, .int (J b))]) X dX6_followBook_5 rfl (by decide) rfl ?_
  have lp4 : ∀ (n5 : Nat) (n : Nat) (i u v g : Int), b - (n : Int) < (n5 : Nat) → (i = (n : Int)) → ((n : Int) ≤ b) → (u = (bP st n).1 ∧ v = (bP st n).2.1 ∧ g = (bP st n).2.2) → SW pᵢ l eᵢ rm_X6_followBook sᵢ mᵢ argsᵢ belowᵢ methᵢ cᵢ 3 D Aᵢ 0 0 Qᵢ (mW k ad st tl t u v g) 6 [(0, .ref (ad 0)), (1, .int (J b)), (2, .int (J i))] [] := by
    intro n5
    induction n5 with
    | zero => intro n i u v g hm6 hi hn hp; exact absurd hm6 (by omega)
    | succ n5 ih3 =>
      intro n i u v g hm6 hi hn hp
      refine sw_iload_n X dX6_followBook_6 rfl 2 rfl ?_
      refine sw_iload_n X dX6_followBook_7 rfl 1 rfl ?_
      refine sw_icmp_ge (tgt := 44) X (by omega) (by omega) dX6_followBook_8 (by decide) (fun h7 => ?_) (fun h7 => ?_)
      · exact RV _ _ _ _ _ dX6_followBook_44 (by decide) (by decide) (by obtain ⟨rfl, rfl, rfl⟩ := hp; rw [show b.toNat = n by omega])
      · have hb := I_e hI i (by omega) (by omega)
        have hg := bP_h st n
        refine sw_aload_n X dX6_followBook_11 rfl 0 rfl ?_
        refine sw_aload_n X dX6_followBook_12 rfl 0 rfl ?_
        refine sw_get (q0 := 0) (v := .ref (ad 3)) X iw_X6 rfl rfl 3 (by decide) gw3_211 rfl rfl dX6_followBook_13 ?_
        refine sw_iload_n X dX6_followBook_16 rfl 2 rfl ?_
        refine sw_iald (q0 := 1) (n := 30) X rfl (by omega) (by omega) (by decide) dX6_followBook_17 ?_
        refine sw_callVV0 (C := RX6) (As := [.int (J (st 3 i))]) (rest := []) X (c_X6_goOn l D k ad st tl t u v g (st 3 i) (by omega)) (cwV 1 (sw_ts X) (sw_goodV gw4_74 gw4_76 gws_20 gw1_3 gw4_77) rfl rfl rfl (by decide +kernel) ⟨Nat.le_of_ble_eq_true rfl, Nat.le_of_ble_eq_true rfl⟩) 0 (ci := 6) rfl rfl rfl dX6_followBook_18 rfl rfl (Nat.le_of_ble_eq_true rfl) ⟨Nat.le_of_ble_eq_true rfl, Nat.le_of_ble_eq_true rfl⟩ (fun w9 hp9 => ?_)
        subst hp9
        refine sw_aload_n X dX6_followBook_21 rfl 0 rfl ?_
        refine sw_aload_n X dX6_followBook_22 rfl 0 rfl ?_
        refine sw_get (q0 := 0) (v := .int (J g)) X iw_X6 rfl rfl 25 (by decide) gw3_233 rfl rfl dX6_followBook_23 ?_
        refine sw_aload_n X dX6_followBook_26 rfl 0 rfl ?_
        refine sw_get (q0 := 0) (v := .ref (ad 4)) X iw_X6 rfl rfl 4 (by decide) gw3_212 rfl rfl dX6_followBook_27 ?_
        refine sw_iload_n X dX6_followBook_30 rfl 2 rfl ?_
        refine sw_iald (q0 := 2) (n := 30) X rfl (by omega) (by omega) (by decide) dX6_followBook_31 ?_
        refine sw_iadd X dX6_followBook_32 ?_
        refine sw_iconst X dX6_followBook_33 ?_
        refine sw_irem X (by omega) (by omega) (by omega) dX6_followBook_34 ?_
        refine sw_put (q0 := 0) X iw_X6 tyX6 tyX6_ok nmX6 rfl rfl 25 (by decide) gw3_233 rfl rfl (ty := .int) (by decide +kernel) rfl rfl (Nat.le_of_ble_eq_true rfl) mW_p25 dX6_followBook_35 ?_
        refine sw_iinc (lv' := [(2, .int (J (i + 1))), (0, .ref (ad 0)), (1, .int (J b))]) X dX6_followBook_38 2 rfl (by decide) rfl ?_
        refine sw_goto (tgt := 6) X dX6_followBook_41 (by decide) ?_
        refine sw_sub [1, 2, 0] rfl ?_
        exact ih3 (n + 1) (i + 1) (u + dx g (st 3 i)) (v + dy g (st 3 i)) ((g + (st 4 i)) % 4) (by omega) (by omega) (by omega) (by obtain ⟨rfl, rfl, rfl⟩ := hp; subst hi; exact ⟨rfl, rfl, rfl⟩)
  refine sw_sub [1, 2, 0] rfl ?_
  exact lp4 (b - (0 : Int)).toNat.succ 0 0 (st 1 0 / 16) (st 1 0 % 16) 0 (by omega) (rfl) (by omega) (⟨rfl, rfl, rfl⟩)
abbrev rm_X6_followTrack : Room := { frames := 1, cells := 0, slots := 0, locals := 21 }
set_option maxHeartbeats 4000000 in
set_option maxRecDepth 100000 in
theorem c_X6_followTrack (l : Launch) (D : va_G) (k : Nat → ClassId) (N : Int) (ad : Nat → Nat) (st : Nat → Int → Int) (tl : Int → Int) (t x y h : Int) (c m : Int) (hI : I6 N st) (hc : 0 ≤ c ∧ c < 8) (hm : 0 ≤ m ∧ m ≤ clk st c) : CV l yX6_followTrack cX6_followTrack 6 none rm_X6_followTrack D k [.ref (ad 0), .int (J c), .int (J m)] (mW k ad st tl t x y h) (fun w' => ∃ g, w' = mW k ad st tl t (pA st c m (nP st c)).1 (pA st c m (nP st c)).2 g ∧ (m = clk st c → g = (tP st c (nP st c)).2.2)) := by
  refine CV.of (by decide +kernel) (Nat.le_of_ble_eq_true rfl) (fun pᵢ eᵢ sᵢ mᵢ argsᵢ belowᵢ methᵢ cᵢ Aᵢ Qᵢ X hnm RV => ?_)
  show SW pᵢ l eᵢ rm_X6_followTrack sᵢ mᵢ argsᵢ belowᵢ methᵢ cᵢ 6 D Aᵢ 0 0 Qᵢ (mW k ad st tl t x y h) 0 [(0, .ref (ad 0)), (1, .int (J c)), (2, .int (J m))] []
  have hS := I_st hI
  have hN := (I_c hI c (by omega) (by omega)).1
  have hK := clk_b hI hc.1 hc.2
  refine sw_aload_n X dX6_followTrack_0 rfl 0 rfl ?_
  refine sw_callVV0 (C := RX6) (As := []) (rest := []) X (c_X6_begin l D k ad st tl t x y h (by omega)) (cwV 0 (sw_ts X) (sw_goodV gw4_70 gw4_72 gws_19 gw1_3 gw4_73) rfl rfl rfl (by decide +kernel) ⟨Nat.le_of_ble_eq_true rfl, Nat.le_of_ble_eq_true rfl⟩) 0 (ci := 6) rfl rfl rfl dX6_followTrack_1 rfl rfl (Nat.le_of_ble_eq_true rfl) ⟨Nat.le_of_ble_eq_true rfl, Nat.le_of_ble_eq_true rfl⟩ (fun w9 hp2 => ?_)
  subst hp2
  refine sw_iload_n X dX6_followTrack_4 rfl 2 rfl ?_
  refine sw_istore_n (lv' := [(3, .int (J m)), (0, .ref (ad 0)), (1, .int (J c)), (2, .int (J m))]) X dX6_followTrack_5 rfl (by decide) rfl ?_
  refine sw_bipush X dX6_followTrack_6 (by decide +kernel) ?_
  refine sw_iload_n X dX6_followTrack_8 rfl 2 rfl ?_
  refine sw_imul X dX6_followTrack_9 ?_
  refine sw_istore (lv' := [(4, .int (J (60 * c))), (3, .int (J m)), (0, .ref (ad 0)), (1, .int (J c)), (2, .int (J m))]) X dX6_followTrack_10 (by decide) rfl ?_
  have lp4 : ∀ (n5 : Nat) (n : Nat) (lf i u v g : Int), st 10 c - (n : Int) < (n5 : Nat) → (i = 60 * c + (n : Int)) → ((n : Int) ≤ st 10 c) → (ftR st c m n lf u v g) → SW pᵢ l eᵢ rm_X6_followTrack sᵢ mᵢ argsᵢ belowᵢ methᵢ cᵢ 6 D Aᵢ 0 0 Qᵢ (mW k ad st tl t u v g) 12 [(0, .ref (ad 0)), (1, .int (J c)), (3, .int (J lf)), (4, .int (J i))] [] := by
    intro n5
    induction n5 with
    | zero => intro n lf i u v g hm6 hi hn hp; exact absurd hm6 (by omega)
    | succ n5 ih3 =>
      intro n lf i u v g hm6 hi hn hp
      have hL := ftR_l hI hc hm hn hp
      refine sw_iload X dX6_followTrack_12 3 rfl ?_
      refine sw_bipush X dX6_followTrack_14 (by decide +kernel) ?_
      refine sw_iload_n X dX6_followTrack_16 rfl 1 rfl ?_
      refine sw_imul X dX6_followTrack_17 ?_
      refine sw_aload_n X dX6_followTrack_18 rfl 0 rfl ?_
      refine sw_get (q0 := 0) (v := .ref (ad 10)) X iw_X6 rfl rfl 10 (by decide) gw3_218 rfl rfl dX6_followTrack_19 ?_
      refine sw_iload_n X dX6_followTrack_22 rfl 1 rfl ?_
      refine sw_iald (q0 := 5) (n := 8) X rfl (by omega) (by omega) (by decide) dX6_followTrack_23 ?_
      refine sw_iadd X dX6_followTrack_24 ?_
      refine sw_icmp_ge (tgt := 111) X (by omega) (by omega) dX6_followTrack_25 (by decide) (fun h7 => ?_) (fun h7 => ?_)
      · exact RV _ _ _ _ _ dX6_followTrack_111 (by decide) (by decide) (by obtain ⟨⟨e1, e2⟩, e3⟩ := ft_end hI hc hm hp (by omega); exact ⟨g, by rw [← e1, ← e2], e3⟩)
      · refine sw_iload_n X dX6_followTrack_28 rfl 2 rfl ?_
        refine sw_if_lt (tgt := 111) X (by omega) dX6_followTrack_29 (by decide) (fun h8 => ?_) (fun h8 => ?_)
        · exact RV _ _ _ _ _ dX6_followTrack_111 (by decide) (by decide) (by obtain ⟨⟨e1, e2⟩, e3⟩ := ft_end hI hc hm hp (by omega); exact ⟨g, by rw [← e1, ← e2], e3⟩)
        · have hp1 := I_p hI c n (by omega) (by omega) (by omega) (by omega)
          rw [← hi] at hp1
          refine sw_iload_n X dX6_followTrack_32 rfl 2 rfl ?_
          refine sw_aload_n X dX6_followTrack_33 rfl 0 rfl ?_
          refine sw_get (q0 := 0) (v := .ref (ad 12)) X iw_X6 rfl rfl 12 (by decide) gw3_220 rfl rfl dX6_followTrack_34 ?_
          refine sw_iload X dX6_followTrack_37 3 rfl ?_
          refine sw_iald (q0 := 7) (n := 480) X rfl (by omega) (by omega) (by decide) dX6_followTrack_39 ?_
          refine sw_icmp_ge (tgt := 47) X (by omega) (by omega) dX6_followTrack_40 (by decide) (fun h9 => ?_) (fun h9 => ?_)
          · refine sw_aload_n X dX6_followTrack_47 rfl 0 rfl ?_
            refine sw_get (q0 := 0) (v := .ref (ad 12)) X iw_X6 rfl rfl 12 (by decide) gw3_220 rfl rfl dX6_followTrack_48 ?_
            refine sw_iload X dX6_followTrack_51 3 rfl ?_
            refine sw_iald (q0 := 7) (n := 480) X rfl (by omega) (by omega) (by decide) dX6_followTrack_53 ?_
            refine sw_istore (lv' := [(5, .int (J (st 12 i))), (0, .ref (ad 0)), (1, .int (J c)), (3, .int (J lf)), (4, .int (J i))]) X dX6_followTrack_54 (by decide) rfl ?_
            refine sw_aload_n X dX6_followTrack_56 rfl 1 rfl ?_
            refine sw_aload_n X dX6_followTrack_57 rfl 1 rfl ?_
            refine sw_get (q0 := 0) (v := .ref (ad 11)) X iw_X6 rfl rfl 11 (by decide) gw3_219 rfl rfl dX6_followTrack_58 ?_
            refine sw_iload X dX6_followTrack_61 4 rfl ?_
            refine sw_iald (q0 := 6) (n := 480) X rfl (by omega) (by omega) (by decide) dX6_followTrack_63 ?_
            refine sw_iconst X dX6_followTrack_64 ?_
            refine sw_icmp_ne (tgt := 72) X (by omega) (by omega) dX6_followTrack_65 (by decide) (fun h10 => ?_) (fun h10 => ?_)
            · refine sw_iload X dX6_followTrack_72 0 rfl ?_
              refine sw_callVV0 (C := RX6) (As := [.int (J (st 12 i))]) (rest := []) X (c_X6_goOn l D k ad st tl t u v g (st 12 i) (by omega)) (cwV 1 (sw_ts X) (sw_goodV gw4_74 gw4_76 gws_20 gw1_3 gw4_77) rfl rfl rfl (by decide +kernel) ⟨Nat.le_of_ble_eq_true rfl, Nat.le_of_ble_eq_true rfl⟩) 0 (ci := 6) rfl rfl rfl dX6_followTrack_74 rfl rfl (Nat.le_of_ble_eq_true rfl) ⟨Nat.le_of_ble_eq_true rfl, Nat.le_of_ble_eq_true rfl⟩ (fun w9 hp12 => ?_)
              subst hp12
              refine sw_aload_n X dX6_followTrack_77 rfl 1 rfl ?_
              refine sw_aload_n X dX6_followTrack_78 rfl 1 rfl ?_
              refine sw_get (q0 := 0) (v := .int (J g)) X iw_X6 rfl rfl 25 (by decide) gw3_233 rfl rfl dX6_followTrack_79 ?_
              refine sw_aload_n X dX6_followTrack_82 rfl 1 rfl ?_
              refine sw_get (q0 := 0) (v := .ref (ad 13)) X iw_X6 rfl rfl 13 (by decide) gw3_221 rfl rfl dX6_followTrack_83 ?_
              refine sw_iload X dX6_followTrack_86 4 rfl ?_
              refine sw_iald (q0 := 8) (n := 480) X rfl (by omega) (by omega) (by decide) dX6_followTrack_88 ?_
              refine sw_iadd X dX6_followTrack_89 ?_
              refine sw_iconst X dX6_followTrack_90 ?_
              refine sw_irem X (by omega) (by omega) (by omega) dX6_followTrack_91 ?_
              refine sw_put (q0 := 0) X iw_X6 tyX6 tyX6_ok nmX6 rfl rfl 25 (by decide) gw3_233 rfl rfl (ty := .int) (by decide +kernel) rfl rfl (Nat.le_of_ble_eq_true rfl) mW_p25 dX6_followTrack_92 ?_
              refine sw_iload_n X dX6_followTrack_95 rfl 3 rfl ?_
              refine sw_aload_n X dX6_followTrack_96 rfl 1 rfl ?_
              refine sw_get (q0 := 0) (v := .ref (ad 12)) X iw_X6 rfl rfl 12 (by decide) gw3_220 rfl rfl dX6_followTrack_97 ?_
              refine sw_iload X dX6_followTrack_100 4 rfl ?_
              refine sw_iald (q0 := 7) (n := 480) X rfl (by omega) (by omega) (by decide) dX6_followTrack_102 ?_
              refine sw_isub X dX6_followTrack_103 ?_
              refine sw_istore_n (lv' := [(3, .int (J (lf - (st 12 i)))), (5, .int (J (st 12 i))), (0, .ref (ad 0)), (1, .int (J c)), (4, .int (J i))]) X dX6_followTrack_104 rfl (by decide) rfl ?_
              refine sw_iinc (lv' := [(4, .int (J (i + 1))), (3, .int (J (lf - (st 12 i)))), (5, .int (J (st 12 i))), (0, .ref (ad 0)), (1, .int (J c))]) X dX6_followTrack_105 4 rfl (by decide) rfl ?_
              refine sw_goto (tgt := 12) X dX6_followTrack_108 (by decide) ?_
              refine sw_sub [3, 4, 1, 0] rfl ?_
              exact ih3 (n + 1) (lf - (st 12 i)) (i + 1) (u + dx g (st 12 i)) (v + dy g (st 12 i)) ((g + (st 13 i)) % 4) (by omega) (by omega) (by omega) (ft_step hI hc hm hi (by omega) hp (by omega) (by first | (split <;> (try split) <;> omega) | (split <;> omega)))
            · refine sw_iconst X dX6_followTrack_68 ?_
              refine sw_goto (tgt := 74) X dX6_followTrack_69 (by decide) ?_
              refine sw_callVV0 (C := RX6) (As := [.int (J 0)]) (rest := []) X (c_X6_goOn l D k ad st tl t u v g 0 (by omega)) (cwV 1 (sw_ts X) (sw_goodV gw4_74 gw4_76 gws_20 gw1_3 gw4_77) rfl rfl rfl (by decide +kernel) ⟨Nat.le_of_ble_eq_true rfl, Nat.le_of_ble_eq_true rfl⟩) 0 (ci := 6) rfl rfl rfl dX6_followTrack_74 rfl rfl (Nat.le_of_ble_eq_true rfl) ⟨Nat.le_of_ble_eq_true rfl, Nat.le_of_ble_eq_true rfl⟩ (fun w9 hp14 => ?_)
              subst hp14
              refine sw_aload_n X dX6_followTrack_77 rfl 1 rfl ?_
              refine sw_aload_n X dX6_followTrack_78 rfl 1 rfl ?_
              refine sw_get (q0 := 0) (v := .int (J g)) X iw_X6 rfl rfl 25 (by decide) gw3_233 rfl rfl dX6_followTrack_79 ?_
              refine sw_aload_n X dX6_followTrack_82 rfl 1 rfl ?_
              refine sw_get (q0 := 0) (v := .ref (ad 13)) X iw_X6 rfl rfl 13 (by decide) gw3_221 rfl rfl dX6_followTrack_83 ?_
              refine sw_iload X dX6_followTrack_86 4 rfl ?_
              refine sw_iald (q0 := 8) (n := 480) X rfl (by omega) (by omega) (by decide) dX6_followTrack_88 ?_
              refine sw_iadd X dX6_followTrack_89 ?_
              refine sw_iconst X dX6_followTrack_90 ?_
              refine sw_irem X (by omega) (by omega) (by omega) dX6_followTrack_91 ?_
              refine sw_put (q0 := 0) X iw_X6 tyX6 tyX6_ok nmX6 rfl rfl 25 (by decide) gw3_233 rfl rfl (ty := .int) (by decide +kernel) rfl rfl (Nat.le_of_ble_eq_true rfl) mW_p25 dX6_followTrack_92 ?_
              refine sw_iload_n X dX6_followTrack_95 rfl 3 rfl ?_
              refine sw_aload_n X dX6_followTrack_96 rfl 1 rfl ?_
              refine sw_get (q0 := 0) (v := .ref (ad 12)) X iw_X6 rfl rfl 12 (by decide) gw3_220 rfl rfl dX6_followTrack_97 ?_
              refine sw_iload X dX6_followTrack_100 4 rfl ?_
              refine sw_iald (q0 := 7) (n := 480) X rfl (by omega) (by omega) (by decide) dX6_followTrack_102 ?_
              refine sw_isub X dX6_followTrack_103 ?_
              refine sw_istore_n (lv' := [(3, .int (J (lf - (st 12 i)))), (5, .int (J (st 12 i))), (0, .ref (ad 0)), (1, .int (J c)), (4, .int (J i))]) X dX6_followTrack_104 rfl (by decide) rfl ?_
              refine sw_iinc (lv' := [(4, .int (J (i + 1))), (3, .int (J (lf - (st 12 i)))), (5, .int (J (st 12 i))), (0, .ref (ad 0)), (1, .int (J c))]) X dX6_followTrack_105 4 rfl (by decide) rfl ?_
              refine sw_goto (tgt := 12) X dX6_followTrack_108 (by decide) ?_
              refine sw_sub [3, 4, 1, 0] rfl ?_
              exact ih3 (n + 1) (lf - (st 12 i)) (i + 1) (u + dx g 0) (v + dy g 0) ((g + (st 13 i)) % 4) (by omega) (by omega) (by omega) (ft_step hI hc hm hi (by omega) hp (by omega) (by first | (split <;> (try split) <;> omega) | (split <;> omega)))
          · refine sw_iload_n X dX6_followTrack_43 rfl 2 rfl ?_
            refine sw_goto (tgt := 54) X dX6_followTrack_44 (by decide) ?_
            refine sw_istore (lv' := [(5, .int (J lf)), (0, .ref (ad 0)), (1, .int (J c)), (3, .int (J lf)), (4, .int (J i))]) X dX6_followTrack_54 (by decide) rfl ?_
            refine sw_aload_n X dX6_followTrack_56 rfl 1 rfl ?_
            refine sw_aload_n X dX6_followTrack_57 rfl 1 rfl ?_
            refine sw_get (q0 := 0) (v := .ref (ad 11)) X iw_X6 rfl rfl 11 (by decide) gw3_219 rfl rfl dX6_followTrack_58 ?_
            refine sw_iload X dX6_followTrack_61 4 rfl ?_
            refine sw_iald (q0 := 6) (n := 480) X rfl (by omega) (by omega) (by decide) dX6_followTrack_63 ?_
            refine sw_iconst X dX6_followTrack_64 ?_
            refine sw_icmp_ne (tgt := 72) X (by omega) (by omega) dX6_followTrack_65 (by decide) (fun h15 => ?_) (fun h15 => ?_)
            · refine sw_iload X dX6_followTrack_72 0 rfl ?_
              refine sw_callVV0 (C := RX6) (As := [.int (J lf)]) (rest := []) X (c_X6_goOn l D k ad st tl t u v g lf (by omega)) (cwV 1 (sw_ts X) (sw_goodV gw4_74 gw4_76 gws_20 gw1_3 gw4_77) rfl rfl rfl (by decide +kernel) ⟨Nat.le_of_ble_eq_true rfl, Nat.le_of_ble_eq_true rfl⟩) 0 (ci := 6) rfl rfl rfl dX6_followTrack_74 rfl rfl (Nat.le_of_ble_eq_true rfl) ⟨Nat.le_of_ble_eq_true rfl, Nat.le_of_ble_eq_true rfl⟩ (fun w9 hp17 => ?_)
              subst hp17
              refine sw_aload_n X dX6_followTrack_77 rfl 1 rfl ?_
              refine sw_aload_n X dX6_followTrack_78 rfl 1 rfl ?_
              refine sw_get (q0 := 0) (v := .int (J g)) X iw_X6 rfl rfl 25 (by decide) gw3_233 rfl rfl dX6_followTrack_79 ?_
              refine sw_aload_n X dX6_followTrack_82 rfl 1 rfl ?_
              refine sw_get (q0 := 0) (v := .ref (ad 13)) X iw_X6 rfl rfl 13 (by decide) gw3_221 rfl rfl dX6_followTrack_83 ?_
              refine sw_iload X dX6_followTrack_86 4 rfl ?_
              refine sw_iald (q0 := 8) (n := 480) X rfl (by omega) (by omega) (by decide) dX6_followTrack_88 ?_
              refine sw_iadd X dX6_followTrack_89 ?_
              refine sw_iconst X dX6_followTrack_90 ?_
              refine sw_irem X (by omega) (by omega) (by omega) dX6_followTrack_91 ?_
              refine sw_put (q0 := 0) X iw_X6 tyX6 tyX6_ok nmX6 rfl rfl 25 (by decide) gw3_233 rfl rfl (ty := .int) (by decide +kernel) rfl rfl (Nat.le_of_ble_eq_true rfl) mW_p25 dX6_followTrack_92 ?_
              refine sw_iload_n X dX6_followTrack_95 rfl 3 rfl ?_
              refine sw_aload_n X dX6_followTrack_96 rfl 1 rfl ?_
              refine sw_get (q0 := 0) (v := .ref (ad 12)) X iw_X6 rfl rfl 12 (by decide) gw3_220 rfl rfl dX6_followTrack_97 ?_
              refine sw_iload X dX6_followTrack_100 4 rfl ?_
              refine sw_iald (q0 := 7) (n := 480) X rfl (by omega) (by omega) (by decide) dX6_followTrack_102 ?_
              refine sw_isub X dX6_followTrack_103 ?_
              refine sw_istore_n (lv' := [(3, .int (J (lf - (st 12 i)))), (5, .int (J lf)), (0, .ref (ad 0)), (1, .int (J c)), (4, .int (J i))]) X dX6_followTrack_104 rfl (by decide) rfl ?_
              refine sw_iinc (lv' := [(4, .int (J (i + 1))), (3, .int (J (lf - (st 12 i)))), (5, .int (J lf)), (0, .ref (ad 0)), (1, .int (J c))]) X dX6_followTrack_105 4 rfl (by decide) rfl ?_
              refine sw_goto (tgt := 12) X dX6_followTrack_108 (by decide) ?_
              refine sw_sub [3, 4, 1, 0] rfl ?_
              exact ih3 (n + 1) (lf - (st 12 i)) (i + 1) (u + dx g lf) (v + dy g lf) ((g + (st 13 i)) % 4) (by omega) (by omega) (by omega) (ft_step hI hc hm hi (by omega) hp (by omega) (by first | (split <;> (try split) <;> omega) | (split <;> omega)))
            · refine sw_iconst X dX6_followTrack_68 ?_
              refine sw_goto (tgt := 74) X dX6_followTrack_69 (by decide) ?_
              refine sw_callVV0 (C := RX6) (As := [.int (J 0)]) (rest := []) X (c_X6_goOn l D k ad st tl t u v g 0 (by omega)) (cwV 1 (sw_ts X) (sw_goodV gw4_74 gw4_76 gws_20 gw1_3 gw4_77) rfl rfl rfl (by decide +kernel) ⟨Nat.le_of_ble_eq_true rfl, Nat.le_of_ble_eq_true rfl⟩) 0 (ci := 6) rfl rfl rfl dX6_followTrack_74 rfl rfl (Nat.le_of_ble_eq_true rfl) ⟨Nat.le_of_ble_eq_true rfl, Nat.le_of_ble_eq_true rfl⟩ (fun w9 hp19 => ?_)
              subst hp19
              refine sw_aload_n X dX6_followTrack_77 rfl 1 rfl ?_
              refine sw_aload_n X dX6_followTrack_78 rfl 1 rfl ?_
              refine sw_get (q0 := 0) (v := .int (J g)) X iw_X6 rfl rfl 25 (by decide) gw3_233 rfl rfl dX6_followTrack_79 ?_
              refine sw_aload_n X dX6_followTrack_82 rfl 1 rfl ?_
              refine sw_get (q0 := 0) (v := .ref (ad 13)) X iw_X6 rfl rfl 13 (by decide) gw3_221 rfl rfl dX6_followTrack_83 ?_
              refine sw_iload X dX6_followTrack_86 4 rfl ?_
              refine sw_iald (q0 := 8) (n := 480) X rfl (by omega) (by omega) (by decide) dX6_followTrack_88 ?_
              refine sw_iadd X dX6_followTrack_89 ?_
              refine sw_iconst X dX6_followTrack_90 ?_
              refine sw_irem X (by omega) (by omega) (by omega) dX6_followTrack_91 ?_
              refine sw_put (q0 := 0) X iw_X6 tyX6 tyX6_ok nmX6 rfl rfl 25 (by decide) gw3_233 rfl rfl (ty := .int) (by decide +kernel) rfl rfl (Nat.le_of_ble_eq_true rfl) mW_p25 dX6_followTrack_92 ?_
              refine sw_iload_n X dX6_followTrack_95 rfl 3 rfl ?_
              refine sw_aload_n X dX6_followTrack_96 rfl 1 rfl ?_
              refine sw_get (q0 := 0) (v := .ref (ad 12)) X iw_X6 rfl rfl 12 (by decide) gw3_220 rfl rfl dX6_followTrack_97 ?_
              refine sw_iload X dX6_followTrack_100 4 rfl ?_
              refine sw_iald (q0 := 7) (n := 480) X rfl (by omega) (by omega) (by decide) dX6_followTrack_102 ?_
              refine sw_isub X dX6_followTrack_103 ?_
              refine sw_istore_n (lv' := [(3, .int (J (lf - (st 12 i)))), (5, .int (J lf)), (0, .ref (ad 0)), (1, .int (J c)), (4, .int (J i))]) X dX6_followTrack_104 rfl (by decide) rfl ?_
              refine sw_iinc (lv' := [(4, .int (J (i + 1))), (3, .int (J (lf - (st 12 i)))), (5, .int (J lf)), (0, .ref (ad 0)), (1, .int (J c))]) X dX6_followTrack_105 4 rfl (by decide) rfl ?_
              refine sw_goto (tgt := 12) X dX6_followTrack_108 (by decide) ?_
              refine sw_sub [3, 4, 1, 0] rfl ?_
              exact ih3 (n + 1) (lf - (st 12 i)) (i + 1) (u + dx g 0) (v + dy g 0) ((g + (st 13 i)) % 4) (by omega) (by omega) (by omega) (ft_step hI hc hm hi (by omega) hp (by omega) (by first | (split <;> (try split) <;> omega) | (split <;> omega)))
  refine sw_sub [2, 3, 1, 0] rfl ?_
  exact lp4 (st 10 c - (0 : Int)).toNat.succ 0 m (60 * c) (st 1 0 / 16) (st 1 0 % 16) 0 (by omega) (by simp) (by omega) (Or.inl ⟨by omega, by show m = m - 0; omega, rfl, rfl, rfl⟩)
abbrev rm_X6_clockOf : Room := { frames := 0, cells := 0, slots := 0, locals := 0 }
set_option maxHeartbeats 4000000 in
set_option maxRecDepth 100000 in
theorem c_X6_clockOf (l : Launch) (D : va_G) (k : Nat → ClassId) (N : Int) (ad : Nat → Nat) (st : Nat → Int → Int) (tl : Int → Int) (t x y h : Int) (c : Int) (hI : I6 N st) (hc : 0 ≤ c ∧ c < 8) : CI l yX6_clockOf cX6_clockOf 4 (some .int) rm_X6_clockOf D k [.ref (ad 0), .int (J c)] (mW k ad st tl t x y h) (fun z w' => w' = mW k ad st tl t x y h ∧ z = clk st c) := by
  refine CI.of (by decide +kernel) (Nat.le_of_ble_eq_true rfl) (fun pᵢ eᵢ sᵢ mᵢ argsᵢ belowᵢ methᵢ cᵢ Aᵢ Qᵢ X RI => ?_)
  show SW pᵢ l eᵢ rm_X6_clockOf sᵢ mᵢ argsᵢ belowᵢ methᵢ cᵢ 4 D Aᵢ 0 0 Qᵢ (mW k ad st tl t x y h) 0 [(0, .ref (ad 0)), (1, .int (J c))] []
  have hN := (I_c hI c (by omega) (by omega)).1
  refine sw_iconst X dX6_clockOf_0 ?_
  refine sw_istore_n (lv' := [(2, .int (J 0)), (0, .ref (ad 0)), (1, .int (J c))]) X dX6_clockOf_1 rfl (by decide) rfl ?_
  refine sw_bipush X dX6_clockOf_2 (by decide +kernel) ?_
  refine sw_iload_n X dX6_clockOf_4 rfl 2 rfl ?_
  refine sw_imul X dX6_clockOf_5 ?_
  refine sw_istore_n (lv' := [(3, .int (J (60 * c))), (2, .int (J 0)), (0, .ref (ad 0)), (1, .int (J c))]) X dX6_clockOf_6 rfl (by decide) rfl ?_
  have lp2 : ∀ (n3 : Nat) (n : Nat) (sm i : Int), st 10 c - (n : Int) < (n3 : Nat) → (i = 60 * c + (n : Int)) → ((n : Int) ≤ st 10 c) → (sm = tM st c n) → SW pᵢ l eᵢ rm_X6_clockOf sᵢ mᵢ argsᵢ belowᵢ methᵢ cᵢ 4 D Aᵢ 0 0 Qᵢ (mW k ad st tl t x y h) 7 [(0, .ref (ad 0)), (1, .int (J c)), (2, .int (J sm)), (3, .int (J i))] [] := by
    intro n3
    induction n3 with
    | zero => intro n sm i hm4 hi hn hs; exact absurd hm4 (by omega)
    | succ n3 ih1 =>
      intro n sm i hm4 hi hn hs
      refine sw_iload_n X dX6_clockOf_7 rfl 3 rfl ?_
      refine sw_bipush X dX6_clockOf_8 (by decide +kernel) ?_
      refine sw_iload_n X dX6_clockOf_10 rfl 1 rfl ?_
      refine sw_imul X dX6_clockOf_11 ?_
      refine sw_aload_n X dX6_clockOf_12 rfl 0 rfl ?_
      refine sw_get (q0 := 0) (v := .ref (ad 10)) X iw_X6 rfl rfl 10 (by decide) gw3_218 rfl rfl dX6_clockOf_13 ?_
      refine sw_iload_n X dX6_clockOf_16 rfl 1 rfl ?_
      refine sw_iald (q0 := 5) (n := 8) X rfl (by omega) (by omega) (by decide) dX6_clockOf_17 ?_
      refine sw_iadd X dX6_clockOf_18 ?_
      refine sw_icmp_ge (tgt := 37) X (by omega) (by omega) dX6_clockOf_19 (by decide) (fun h5 => ?_) (fun h5 => ?_)
      · refine sw_iload_n X dX6_clockOf_37 rfl 2 rfl ?_
        exact RI _ _ _ _ _ _ dX6_clockOf_38 (by decide) (by decide) rfl ⟨rfl, by rw [hs]; unfold clk; rw [show nP st c = n by unfold nP; omega]⟩
      · refine sw_iload_n X dX6_clockOf_22 rfl 2 rfl ?_
        refine sw_aload_n X dX6_clockOf_23 rfl 0 rfl ?_
        refine sw_get (q0 := 0) (v := .ref (ad 12)) X iw_X6 rfl rfl 12 (by decide) gw3_220 rfl rfl dX6_clockOf_24 ?_
        refine sw_iload_n X dX6_clockOf_27 rfl 3 rfl ?_
        refine sw_iald (q0 := 7) (n := 480) X rfl (by omega) (by omega) (by decide) dX6_clockOf_28 ?_
        refine sw_iadd X dX6_clockOf_29 ?_
        refine sw_istore_n (lv' := [(2, .int (J (sm + (st 12 i)))), (0, .ref (ad 0)), (1, .int (J c)), (3, .int (J i))]) X dX6_clockOf_30 rfl (by decide) rfl ?_
        refine sw_iinc (lv' := [(3, .int (J (i + 1))), (2, .int (J (sm + (st 12 i)))), (0, .ref (ad 0)), (1, .int (J c))]) X dX6_clockOf_31 3 rfl (by decide) rfl ?_
        refine sw_goto (tgt := 7) X dX6_clockOf_34 (by decide) ?_
        refine sw_sub [2, 3, 1, 0] rfl ?_
        exact ih1 (n + 1) (sm + (st 12 i)) (i + 1) (by omega) (by omega) (by omega) (by rw [tM_s, hs, hi])
  refine sw_sub [2, 3, 1, 0] rfl ?_
  exact lp2 (st 10 c - (0 : Int)).toNat.succ 0 0 (60 * c) (by omega) (by simp) (by omega) (rfl)
abbrev rm_X6_cellNow : Room := { frames := 2, cells := 0, slots := 0, locals := 46 }
set_option maxHeartbeats 4000000 in
set_option maxRecDepth 100000 in
theorem c_X6_cellNow (l : Launch) (D : va_G) (k : Nat → ClassId) (N : Int) (ad : Nat → Nat) (st : Nat → Int → Int) (tl : Int → Int) (t x y h : Int) (c : Int) (hI : I6 N st) (hc : 0 ≤ c ∧ c < 8) : CI l yX6_cellNow cX6_cellNow 2 (some .int) rm_X6_cellNow D k [.ref (ad 0), .int (J c)] (mW k ad st tl t x y h) (fun z w' => ∃ x' y' h', w' = mW k ad st tl t x' y' h' ∧ z = aC st c (clk st c)) := by
  refine CI.of (by decide +kernel) (Nat.le_of_ble_eq_true rfl) (fun pᵢ eᵢ sᵢ mᵢ argsᵢ belowᵢ methᵢ cᵢ Aᵢ Qᵢ X RI => ?_)
  show SW pᵢ l eᵢ rm_X6_cellNow sᵢ mᵢ argsᵢ belowᵢ methᵢ cᵢ 2 D Aᵢ 0 0 Qᵢ (mW k ad st tl t x y h) 0 [(0, .ref (ad 0)), (1, .int (J c))] []
  have hK := clk_b hI hc.1 hc.2
  refine sw_aload_n X dX6_cellNow_0 rfl 0 rfl ?_
  refine sw_iload_n X dX6_cellNow_1 rfl 1 rfl ?_
  refine sw_aload_n X dX6_cellNow_2 rfl 0 rfl ?_
  refine sw_iload_n X dX6_cellNow_3 rfl 1 rfl ?_
  refine sw_callVI0 (C := RX6) (As := [.int (J c)]) (rest := [.int (J c), .ref (ad 0)]) X (c_X6_clockOf l D k N ad st tl t x y h c hI (by omega)) (cwV 1 (sw_ts X) (sw_goodV gw4_106 gw4_108 gws_24 gw1_3 gw4_109) rfl rfl rfl (by decide +kernel) ⟨Nat.le_of_ble_eq_true rfl, Nat.le_of_ble_eq_true rfl⟩) 0 (ci := 6) rfl rfl rfl dX6_cellNow_4 rfl rfl (Nat.le_of_ble_eq_true rfl) ⟨Nat.le_of_ble_eq_true rfl, Nat.le_of_ble_eq_true rfl⟩ (fun z1 w9 hp2 => ?_)
  obtain ⟨rfl, rfl⟩ := hp2
  refine sw_callVV0 (C := RX6) (As := [.int (J c), .int (J (clk st c))]) (rest := []) X (c_X6_followTrack l D k N ad st tl t x y h c (clk st c) hI (by omega) (by omega)) (cwV 2 (sw_ts X) (sw_goodV gw4_110 gw4_112 gws_25 gw1_3 gw4_113) rfl rfl rfl (by decide +kernel) ⟨Nat.le_of_ble_eq_true rfl, Nat.le_of_ble_eq_true rfl⟩) 0 (ci := 6) rfl rfl rfl dX6_cellNow_7 rfl rfl (Nat.le_of_ble_eq_true rfl) ⟨Nat.le_of_ble_eq_true rfl, Nat.le_of_ble_eq_true rfl⟩ (fun w9 hp4 => ?_)
  obtain ⟨g5, rfl, eg5⟩ := hp4
  refine sw_aload_n X dX6_cellNow_10 rfl 0 rfl ?_
  refine sw_callVI0 (C := RX6) (As := []) (rest := []) X (c_X6_cell l D k ad st tl t ((pA st c (clk st c) (nP st c)).1) ((pA st c (clk st c) (nP st c)).2) g5) (cwV 0 (sw_ts X) (sw_goodV gw4_82 gw4_84 gws_22 gw1_3 gw4_85) rfl rfl rfl (by decide +kernel) ⟨Nat.le_of_ble_eq_true rfl, Nat.le_of_ble_eq_true rfl⟩) 0 (ci := 6) rfl rfl rfl dX6_cellNow_11 rfl rfl (Nat.le_of_ble_eq_true rfl) ⟨Nat.le_of_ble_eq_true rfl, Nat.le_of_ble_eq_true rfl⟩ (fun z6 w9 hp7 => ?_)
  obtain ⟨rfl, rfl⟩ := hp7
  exact RI _ _ _ _ _ _ dX6_cellNow_14 (by decide) (by decide) rfl ⟨_, _, _, rfl, rfl⟩
abbrev rm_X6_cellOfGate : Room := { frames := 2, cells := 0, slots := 0, locals := 43 }
set_option maxHeartbeats 4000000 in
set_option maxRecDepth 100000 in
theorem c_X6_cellOfGate (l : Launch) (D : va_G) (k : Nat → ClassId) (N : Int) (ad : Nat → Nat) (st : Nat → Int → Int) (tl : Int → Int) (t x y h : Int) (a : Int) (hI : I6 N st) (hg : 0 ≤ a ∧ a < st 5 0) : CI l yX6_cellOfGate cX6_cellOfGate 2 (some .int) rm_X6_cellOfGate D k [.ref (ad 0), .int (J a)] (mW k ad st tl t x y h) (fun z w' => ∃ x' y' h', w' = mW k ad st tl t x' y' h' ∧ z = gC st a) := by
  refine CI.of (by decide +kernel) (Nat.le_of_ble_eq_true rfl) (fun pᵢ eᵢ sᵢ mᵢ argsᵢ belowᵢ methᵢ cᵢ Aᵢ Qᵢ X RI => ?_)
  show SW pᵢ l eᵢ rm_X6_cellOfGate sᵢ mᵢ argsᵢ belowᵢ methᵢ cᵢ 2 D Aᵢ 0 0 Qᵢ (mW k ad st tl t x y h) 0 [(0, .ref (ad 0)), (1, .int (J a))] []
  have hG := I_ga hI
  have hE := I_en hI
  have h6 := I_g hI a hg.1 hg.2
  refine sw_aload_n X dX6_cellOfGate_0 rfl 0 rfl ?_
  refine sw_aload_n X dX6_cellOfGate_1 rfl 0 rfl ?_
  refine sw_get (q0 := 0) (v := .ref (ad 6)) X iw_X6 rfl rfl 6 (by decide) gw3_214 rfl rfl dX6_cellOfGate_2 ?_
  refine sw_iload_n X dX6_cellOfGate_5 rfl 1 rfl ?_
  refine sw_iald (q0 := 3) (n := 10) X rfl (by omega) (by omega) (by decide) dX6_cellOfGate_6 ?_
  refine sw_iconst X dX6_cellOfGate_7 ?_
  refine sw_iadd X dX6_cellOfGate_8 ?_
  refine sw_callVV0 (C := RX6) (As := [.int (J ((st 6 a) + 1))]) (rest := []) X (c_X6_followBook l D k N ad st tl t x y h ((st 6 a) + 1) hI (by omega)) (cwV 1 (sw_ts X) (sw_goodV gw4_66 gw4_68 gws_18 gw1_3 gw4_69) rfl rfl rfl (by decide +kernel) ⟨Nat.le_of_ble_eq_true rfl, Nat.le_of_ble_eq_true rfl⟩) 0 (ci := 6) rfl rfl rfl dX6_cellOfGate_9 rfl rfl (Nat.le_of_ble_eq_true rfl) ⟨Nat.le_of_ble_eq_true rfl, Nat.le_of_ble_eq_true rfl⟩ (fun w9 hp2 => ?_)
  subst hp2
  refine sw_aload_n X dX6_cellOfGate_12 rfl 0 rfl ?_
  refine sw_callVI0 (C := RX6) (As := []) (rest := []) X (c_X6_cell l D k ad st tl t ((bP st ((st 6 a) + 1).toNat).1) ((bP st ((st 6 a) + 1).toNat).2.1) ((bP st ((st 6 a) + 1).toNat).2.2)) (cwV 0 (sw_ts X) (sw_goodV gw4_82 gw4_84 gws_22 gw1_3 gw4_85) rfl rfl rfl (by decide +kernel) ⟨Nat.le_of_ble_eq_true rfl, Nat.le_of_ble_eq_true rfl⟩) 0 (ci := 6) rfl rfl rfl dX6_cellOfGate_13 rfl rfl (Nat.le_of_ble_eq_true rfl) ⟨Nat.le_of_ble_eq_true rfl, Nat.le_of_ble_eq_true rfl⟩ (fun z3 w9 hp4 => ?_)
  obtain ⟨rfl, rfl⟩ := hp4
  exact RI _ _ _ _ _ _ dX6_cellOfGate_16 (by decide) (by decide) rfl ⟨_, _, _, rfl, by unfold gC clO; rw [show (st 6 a).toNat + 1 = (st 6 a + 1).toNat by omega]⟩
end
section
/-! the first minute in a cell; passing the gates; due minutes; points -/
section Fi
variable {N : Int} {st : ST} {c : Int}
theorem tM_clk (hI : I6 N st) (hc : 0 ≤ c ∧ c < 8) {n : Nat} (hn : (n : Int) = st 10 c) : tM st c n = clk st c := by
  unfold clk
  rw [show nP st c = n by unfold nP; omega]
theorem tM_in (hI : I6 N st) (hc : 0 ≤ c ∧ c < 8) {n : Nat} {j : Int} (hn : (n : Int) < st 10 c) (hj : j ≤ st 12 (60 * c + (n : Int))) : tM st c n + j ≤ clk st c := by
  have h1 := tM_le hI hc.1 hc.2 (n := n + 1) (m := nP st c) (by have := nP_e hI hc.1 hc.2; omega) (by rw [nP_e hI hc.1 hc.2]; omega)
  rw [tM_s] at h1
  unfold clk
  omega
theorem fi_end (hI : I6 N st) (hc : 0 ≤ c ∧ c < 8) {n : Nat} {a tg : Int} (ha : 0 ≤ a) (hn : (n : Int) = st 10 c) (hno : ∀ m, a ≤ m → m ≤ tM st c n → aC st c m ≠ tg) : -1 = fF (aC st c) (clk st c) tg a := by
  rw [tM_clk hI hc hn] at hno
  exact fF_eq ha (Or.inl ⟨rfl, hno⟩)
theorem fi_hit (hI : I6 N st) (hc : 0 ≤ c ∧ c < 8) {n : Nat} {j a tg : Int} (ha : 0 ≤ a) (hn : (n : Int) < st 10 c) (hj : j ≤ st 12 (60 * c + (n : Int))) (h1 : a ≤ tM st c n + j) (h2 : aC st c (tM st c n + j) = tg) (hno : ∀ m, a ≤ m → m < tM st c n + j → aC st c m ≠ tg) : tM st c n + j = fF (aC st c) (clk st c) tg a :=
  fF_eq ha (Or.inr ⟨h1, tM_in hI hc hn hj, h2, hno⟩)
end Fi
theorem pG_b {N : Int} {st : ST} {c g : Int} (hI : I6 N st) (hc : 0 ≤ c ∧ c < 8) (hg : 0 ≤ g ∧ g < st 5 0) : 0 ≤ pG st c g ∧ pG st c g ≤ 60 := by
  unfold pG
  split <;> (try split) <;> (try split) <;> omega
theorem pts_b {N : Int} {st : ST} {c : Int} (hI : I6 N st) (hc : 0 ≤ c ∧ c < 8) : ∀ n : Nat, (n : Int) ≤ st 5 0 → 0 ≤ sM (fun g => pG st c (g : Int)) n ∧ sM (fun g => pG st c (g : Int)) n ≤ 600 := by
  intro n hn
  have h1 := sM_b (f := fun g => pG st c (g : Int)) (a := 60) (n := n) (fun i hi => pG_b hI hc (by omega))
  have h2 := I_ga hI
  omega
theorem fi_pos0 {X Y H u2 v2 j d : Int} (hq : u2 = X + dx H (if d = -1 then 0 else if j = 0 then 0 else j - 1) ∧ v2 = Y + dy H (if d = -1 then 0 else if j = 0 then 0 else j - 1)) (h : j = 0) : u2 = X + dx H (if d = -1 then 0 else j) ∧ v2 = Y + dy H (if d = -1 then 0 else j) := by
  subst h
  simpa using hq
theorem fi_pos1 {X Y H u2 v2 j d o u v g : Int} (hq : u2 = X + dx H (if d = -1 then 0 else if j = 0 then 0 else j - 1) ∧ v2 = Y + dy H (if d = -1 then 0 else if j = 0 then 0 else j - 1)) (hp : u = X ∧ v = Y ∧ g = H) (h : ¬ j = 0) (ho : (d = -1 ∧ o = 0) ∨ (¬ d = -1 ∧ o = 1)) : u2 + dx g o = X + dx H (if d = -1 then 0 else j) ∧ v2 + dy g o = Y + dy H (if d = -1 then 0 else j) := by
  obtain ⟨-, -, rfl⟩ := hp
  rw [if_neg h] at hq
  rcases ho with ⟨h1, rfl⟩ | ⟨h1, rfl⟩
  · rw [if_pos h1] at hq ⊢
    rw [dx_0, dy_0] at *
    omega
  · rw [if_neg h1] at hq ⊢
    have e1 := dx_1 g j
    have e2 := dy_1 g j
    omega
theorem fi_next {st : ST} {c : Int} {n : Nat} {i j u2 v2 u v g : Int} (hj : j = st 12 i + 1) (hq : u2 = (tP st c n).1 + dx (tP st c n).2.2 (if st 11 i = -1 then 0 else if j = 0 then 0 else j - 1) ∧ v2 = (tP st c n).2.1 + dy (tP st c n).2.2 (if st 11 i = -1 then 0 else if j = 0 then 0 else j - 1)) (hp : u = (tP st c n).1 ∧ v = (tP st c n).2.1 ∧ g = (tP st c n).2.2) (hi : i = 60 * c + (n : Int)) (h : ((st 11 i = -1 ∧ 1 ≤ st 12 i ∧ st 12 i ≤ 100) ∨ (0 ≤ st 11 i ∧ st 11 i ≤ 15 ∧ st 12 i = st 11 i)) ∧ 0 ≤ st 13 i ∧ st 13 i ≤ 3) : u2 = (tP st c (n + 1)).1 ∧ v2 = (tP st c (n + 1)).2.1 ∧ (g + st 13 i) % 4 = (tP st c (n + 1)).2.2 := by
  rw [tP_s]
  have hD : (if st 11 i = -1 then 0 else if j = 0 then 0 else j - 1) = tD st c n := by
    unfold tD
    rw [← hi]
    split
    · rfl
    · rw [if_neg (by omega)]; omega
  rw [hD] at hq
  exact ⟨hq.1, hq.2, by rw [hp.2.2, hi]⟩
abbrev rm_X6_firstIn : Room := { frames := 1, cells := 0, slots := 0, locals := 21 }
set_option maxHeartbeats 4000000 in
set_option maxRecDepth 100000 in
theorem c_X6_firstIn (l : Launch) (D : va_G) (k : Nat → ClassId) (N : Int) (ad : Nat → Nat) (st : Nat → Int → Int) (tl : Int → Int) (t x y h : Int) (c tg a : Int) (hI : I6 N st) (hc : 0 ≤ c ∧ c < 8) (ht : 0 ≤ tg ∧ tg ≤ 255) (ha : 0 ≤ a ∧ a ≤ 6000) : CI l yX6_firstIn cX6_firstIn 7 (some .int) rm_X6_firstIn D k [.ref (ad 0), .int (J c), .int (J tg), .int (J a)] (mW k ad st tl t x y h) (fun z w' => ∃ x' y' h', w' = mW k ad st tl t x' y' h' ∧ z = fF (aC st c) (clk st c) tg a) := by
  refine CI.of (by decide +kernel) (Nat.le_of_ble_eq_true rfl) (fun pᵢ eᵢ sᵢ mᵢ argsᵢ belowᵢ methᵢ cᵢ Aᵢ Qᵢ X RI => ?_)
  show SW pᵢ l eᵢ rm_X6_firstIn sᵢ mᵢ argsᵢ belowᵢ methᵢ cᵢ 7 D Aᵢ 0 0 Qᵢ (mW k ad st tl t x y h) 0 [(0, .ref (ad 0)), (1, .int (J c)), (2, .int (J tg)), (3, .int (J a))] []
  have hS := I_st hI
  have hN := (I_c hI c (by omega) (by omega)).1
  have hK := clk_b hI hc.1 hc.2
  have h00 := aC_0 hI hc
  refine sw_aload_n X dX6_firstIn_0 rfl 0 rfl ?_
  refine sw_callVV0 (C := RX6) (As := []) (rest := []) X (c_X6_begin l D k ad st tl t x y h (by omega)) (cwV 0 (sw_ts X) (sw_goodV gw4_70 gw4_72 gws_19 gw1_3 gw4_73) rfl rfl rfl (by decide +kernel) ⟨Nat.le_of_ble_eq_true rfl, Nat.le_of_ble_eq_true rfl⟩) 0 (ci := 6) rfl rfl rfl dX6_firstIn_1 rfl rfl (Nat.le_of_ble_eq_true rfl) ⟨Nat.le_of_ble_eq_true rfl, Nat.le_of_ble_eq_true rfl⟩ (fun w9 hp2 => ?_)
  subst hp2
  refine sw_iconst X dX6_firstIn_4 ?_
  refine sw_istore (lv' := [(4, .int (J 0)), (0, .ref (ad 0)), (1, .int (J c)), (2, .int (J tg)), (3, .int (J a))]) X dX6_firstIn_5 (by decide) rfl ?_
  refine sw_iload_n X dX6_firstIn_7 rfl 4 rfl ?_
  have jn3 : (∀ m, a ≤ m → m ≤ 0 → aC st c m ≠ tg) → SW pᵢ l eᵢ rm_X6_firstIn sᵢ mᵢ argsᵢ belowᵢ methᵢ cᵢ 7 D Aᵢ 0 0 Qᵢ (mW k ad st tl t (st 1 0 / 16) (st 1 0 % 16) 0) 21 [(0, .ref (ad 0)), (1, .int (J c)), (2, .int (J tg)), (3, .int (J a)), (4, .int (J 0))] [] := by
    intro hno0
    refine sw_bipush X dX6_firstIn_21 (by decide +kernel) ?_
    refine sw_iload_n X dX6_firstIn_23 rfl 1 rfl ?_
    refine sw_imul X dX6_firstIn_24 ?_
    refine sw_istore (lv' := [(5, .int (J (60 * c))), (0, .ref (ad 0)), (1, .int (J c)), (2, .int (J tg)), (3, .int (J a)), (4, .int (J 0))]) X dX6_firstIn_25 (by decide) rfl ?_
    have lp5 : ∀ (n6 : Nat) (n : Nat) (ck i u v g : Int), st 10 c - (n : Int) < (n6 : Nat) → (i = 60 * c + (n : Int)) → ((n : Int) ≤ st 10 c) → (ck = tM st c n) → (u = (tP st c n).1 ∧ v = (tP st c n).2.1 ∧ g = (tP st c n).2.2) → (∀ m, a ≤ m → m ≤ tM st c n → aC st c m ≠ tg) → SW pᵢ l eᵢ rm_X6_firstIn sᵢ mᵢ argsᵢ belowᵢ methᵢ cᵢ 7 D Aᵢ 0 0 Qᵢ (mW k ad st tl t u v g) 27 [(0, .ref (ad 0)), (1, .int (J c)), (2, .int (J tg)), (3, .int (J a)), (4, .int (J ck)), (5, .int (J i))] [] := by
      intro n6
      induction n6 with
      | zero => intro n ck i u v g hm7 hi hn hck hp hno; exact absurd hm7 (by omega)
      | succ n6 ih4 =>
        intro n ck i u v g hm7 hi hn hck hp hno
        refine sw_iload X dX6_firstIn_27 5 rfl ?_
        refine sw_bipush X dX6_firstIn_29 (by decide +kernel) ?_
        refine sw_iload_n X dX6_firstIn_31 rfl 1 rfl ?_
        refine sw_imul X dX6_firstIn_32 ?_
        refine sw_aload_n X dX6_firstIn_33 rfl 0 rfl ?_
        refine sw_get (q0 := 0) (v := .ref (ad 10)) X iw_X6 rfl rfl 10 (by decide) gw3_218 rfl rfl dX6_firstIn_34 ?_
        refine sw_iload_n X dX6_firstIn_37 rfl 1 rfl ?_
        refine sw_iald (q0 := 5) (n := 8) X rfl (by omega) (by omega) (by decide) dX6_firstIn_38 ?_
        refine sw_iadd X dX6_firstIn_39 ?_
        refine sw_icmp_ge (tgt := 148) X (by omega) (by omega) dX6_firstIn_40 (by decide) (fun h8 => ?_) (fun h8 => ?_)
        · refine sw_iconst X dX6_firstIn_148 ?_
          exact RI _ _ _ _ _ _ dX6_firstIn_149 (by decide) (by decide) rfl ⟨_, _, _, rfl, fi_end hI hc ha.1 (by omega) hno⟩
        · have hp1 := I_p hI c n (by omega) (by omega) (by omega) (by omega)
          have hm1 := I_m hI hc.1 hc.2 n (by omega)
          rw [← hi] at hp1 hm1
          have hTb := tM_b2 hI hc.1 hc.2 n (by omega)
          have hTh := tP_h st c n
          refine sw_iconst X dX6_firstIn_43 ?_
          refine sw_istore (lv' := [(6, .int (J 0)), (0, .ref (ad 0)), (1, .int (J c)), (2, .int (J tg)), (3, .int (J a)), (4, .int (J ck)), (5, .int (J i))]) X dX6_firstIn_44 (by decide) rfl ?_
          have lp10 : ∀ (n11 : Nat) (j u2 v2 : Int), st 12 i + 2 - j < (n11 : Nat) → (0 ≤ j ∧ j ≤ st 12 i + 1) → (u2 = (tP st c n).1 + dx (tP st c n).2.2 (if st 11 i = -1 then 0 else if j = 0 then 0 else j - 1) ∧ v2 = (tP st c n).2.1 + dy (tP st c n).2.2 (if st 11 i = -1 then 0 else if j = 0 then 0 else j - 1)) → (∀ m, a ≤ m → m < ck + j → aC st c m ≠ tg) → SW pᵢ l eᵢ rm_X6_firstIn sᵢ mᵢ argsᵢ belowᵢ methᵢ cᵢ 7 D Aᵢ 0 0 Qᵢ (mW k ad st tl t u2 v2 g) 46 [(0, .ref (ad 0)), (1, .int (J c)), (2, .int (J tg)), (3, .int (J a)), (4, .int (J ck)), (5, .int (J i)), (6, .int (J j))] [] := by
            intro n11
            induction n11 with
            | zero => intro j u2 v2 hm12 hj hq hno2; exact absurd hm12 (by omega)
            | succ n11 ih9 =>
              intro j u2 v2 hm12 hj hq hno2
              refine sw_iload X dX6_firstIn_46 6 rfl ?_
              refine sw_aload_n X dX6_firstIn_48 rfl 0 rfl ?_
              refine sw_get (q0 := 0) (v := .ref (ad 12)) X iw_X6 rfl rfl 12 (by decide) gw3_220 rfl rfl dX6_firstIn_49 ?_
              refine sw_iload X dX6_firstIn_52 5 rfl ?_
              refine sw_iald (q0 := 7) (n := 480) X rfl (by omega) (by omega) (by decide) dX6_firstIn_54 ?_
              refine sw_icmp_gt (tgt := 112) X (by omega) (by omega) dX6_firstIn_55 (by decide) (fun h13 => ?_) (fun h13 => ?_)
              · have hj2 : j = st 12 i + 1 := by omega
                refine sw_iload X dX6_firstIn_112 4 rfl ?_
                refine sw_aload_n X dX6_firstIn_114 rfl 0 rfl ?_
                refine sw_get (q0 := 0) (v := .ref (ad 12)) X iw_X6 rfl rfl 12 (by decide) gw3_220 rfl rfl dX6_firstIn_115 ?_
                refine sw_iload X dX6_firstIn_118 5 rfl ?_
                refine sw_iald (q0 := 7) (n := 480) X rfl (by omega) (by omega) (by decide) dX6_firstIn_120 ?_
                refine sw_iadd X dX6_firstIn_121 ?_
                refine sw_istore (lv' := [(4, .int (J (ck + (st 12 i)))), (0, .ref (ad 0)), (1, .int (J c)), (2, .int (J tg)), (3, .int (J a)), (5, .int (J i)), (6, .int (J j))]) X dX6_firstIn_122 (by decide) rfl ?_
                refine sw_aload_n X dX6_firstIn_124 rfl 1 rfl ?_
                refine sw_aload_n X dX6_firstIn_125 rfl 1 rfl ?_
                refine sw_get (q0 := 0) (v := .int (J g)) X iw_X6 rfl rfl 25 (by decide) gw3_233 rfl rfl dX6_firstIn_126 ?_
                refine sw_aload_n X dX6_firstIn_129 rfl 1 rfl ?_
                refine sw_get (q0 := 0) (v := .ref (ad 13)) X iw_X6 rfl rfl 13 (by decide) gw3_221 rfl rfl dX6_firstIn_130 ?_
                refine sw_iload X dX6_firstIn_133 5 rfl ?_
                refine sw_iald (q0 := 8) (n := 480) X rfl (by omega) (by omega) (by decide) dX6_firstIn_135 ?_
                refine sw_iadd X dX6_firstIn_136 ?_
                refine sw_iconst X dX6_firstIn_137 ?_
                refine sw_irem X (by omega) (by omega) (by omega) dX6_firstIn_138 ?_
                refine sw_put (q0 := 0) X iw_X6 tyX6 tyX6_ok nmX6 rfl rfl 25 (by decide) gw3_233 rfl rfl (ty := .int) (by decide +kernel) rfl rfl (Nat.le_of_ble_eq_true rfl) mW_p25 dX6_firstIn_139 ?_
                refine sw_iinc (lv' := [(5, .int (J (i + 1))), (4, .int (J (ck + (st 12 i)))), (0, .ref (ad 0)), (1, .int (J c)), (2, .int (J tg)), (3, .int (J a)), (6, .int (J j))]) X dX6_firstIn_142 5 rfl (by decide) rfl ?_
                refine sw_goto (tgt := 27) X dX6_firstIn_145 (by decide) ?_
                refine sw_sub [2, 3, 4, 5, 1, 0] rfl ?_
                exact ih4 (n + 1) (ck + (st 12 i)) (i + 1) u2 v2 ((g + (st 13 i)) % 4) (by omega) (by omega) (by omega) (by rw [tM_s, hck, hi]) (fi_next hj2 hq hp hi hp1) (fun m q1 q2 => hno2 m q1 (by rw [tM_s, ← hi] at q2; omega))
              · refine sw_iload X dX6_firstIn_58 6 rfl ?_
                have jn14 : ∀ (u3 v3 : Int), (u3 = (tP st c n).1 + dx (tP st c n).2.2 (if st 11 i = -1 then 0 else j) ∧ v3 = (tP st c n).2.1 + dy (tP st c n).2.2 (if st 11 i = -1 then 0 else j)) → SW pᵢ l eᵢ rm_X6_firstIn sᵢ mᵢ argsᵢ belowᵢ methᵢ cᵢ 7 D Aᵢ 0 0 Qᵢ (mW k ad st tl t u3 v3 g) 83 [(0, .ref (ad 0)), (1, .int (J c)), (2, .int (J tg)), (3, .int (J a)), (4, .int (J ck)), (5, .int (J i)), (6, .int (J j))] [] := by
                  intro u3 v3 hu
                  have hA := pA_in hI hc.1 hc.2 (j := j) n (by omega) (by omega) (by rw [← hi]; omega)
                  have hO := pA_on hI hc.1 hc.2 (j := j) n (by omega) (by omega) (by rw [← hi]; omega)
                  rw [← hi] at hA hO
                  rw [← hu.1, ← hu.2] at hO
                  have hcell : 16 * u3 + v3 = aC st c (ck + j) := by rw [hck]; unfold aC; rw [hA, hu.1, hu.2]
                  refine sw_iload X dX6_firstIn_83 4 rfl ?_
                  refine sw_iload X dX6_firstIn_85 6 rfl ?_
                  refine sw_iadd X dX6_firstIn_87 ?_
                  refine sw_iload_n X dX6_firstIn_88 rfl 3 rfl ?_
                  refine sw_icmp_lt (tgt := 106) X (by omega) (by omega) dX6_firstIn_89 (by decide) (fun h15 => ?_) (fun h15 => ?_)
                  · refine sw_iinc (lv' := [(6, .int (J (j + 1))), (0, .ref (ad 0)), (1, .int (J c)), (2, .int (J tg)), (3, .int (J a)), (4, .int (J ck)), (5, .int (J i))]) X dX6_firstIn_106 6 rfl (by decide) rfl ?_
                    refine sw_goto (tgt := 46) X dX6_firstIn_109 (by decide) ?_
                    refine sw_sub [1, 2, 3, 4, 5, 6, 0] rfl ?_
                    exact ih9 (j + 1) u3 v3 (by omega) (by omega) (by rw [hu.1, hu.2, if_neg (show ¬ (j + 1 = 0) by omega), show j + 1 - 1 = j by omega]; exact ⟨rfl, rfl⟩) (fun m q1 q2 => by rcases Int.lt_or_le m (ck + j) with q3 | q3; exact hno2 m q1 q3; first | (exfalso; omega) | (rw [show m = ck + j by omega, ← hcell]; omega))
                  · refine sw_aload_n X dX6_firstIn_92 rfl 0 rfl ?_
                    refine sw_callVI0 (C := RX6) (As := []) (rest := []) X (c_X6_cell l D k ad st tl t u3 v3 g) (cwV 0 (sw_ts X) (sw_goodV gw4_82 gw4_84 gws_22 gw1_3 gw4_85) rfl rfl rfl (by decide +kernel) ⟨Nat.le_of_ble_eq_true rfl, Nat.le_of_ble_eq_true rfl⟩) 0 (ci := 6) rfl rfl rfl dX6_firstIn_93 rfl rfl (Nat.le_of_ble_eq_true rfl) ⟨Nat.le_of_ble_eq_true rfl, Nat.le_of_ble_eq_true rfl⟩ (fun z16 w9 hp17 => ?_)
                    obtain ⟨rfl, rfl⟩ := hp17
                    refine sw_iload_n X dX6_firstIn_96 rfl 2 rfl ?_
                    refine sw_icmp_ne (tgt := 106) X (by omega) (by omega) dX6_firstIn_97 (by decide) (fun h18 => ?_) (fun h18 => ?_)
                    · refine sw_iinc (lv' := [(6, .int (J (j + 1))), (0, .ref (ad 0)), (1, .int (J c)), (2, .int (J tg)), (3, .int (J a)), (4, .int (J ck)), (5, .int (J i))]) X dX6_firstIn_106 6 rfl (by decide) rfl ?_
                      refine sw_goto (tgt := 46) X dX6_firstIn_109 (by decide) ?_
                      refine sw_sub [1, 2, 3, 4, 5, 6, 0] rfl ?_
                      exact ih9 (j + 1) u3 v3 (by omega) (by omega) (by rw [hu.1, hu.2, if_neg (show ¬ (j + 1 = 0) by omega), show j + 1 - 1 = j by omega]; exact ⟨rfl, rfl⟩) (fun m q1 q2 => by rcases Int.lt_or_le m (ck + j) with q3 | q3; exact hno2 m q1 q3; first | (exfalso; omega) | (rw [show m = ck + j by omega, ← hcell]; omega))
                    · refine sw_iload X dX6_firstIn_100 4 rfl ?_
                      refine sw_iload X dX6_firstIn_102 6 rfl ?_
                      refine sw_iadd X dX6_firstIn_104 ?_
                      exact RI _ _ _ _ _ _ dX6_firstIn_105 (by decide) (by decide) rfl ⟨_, _, _, rfl, by rw [hck]; exact fi_hit hI hc ha.1 (by omega) (by rw [← hi]; omega) (by omega) (by rw [← hck, ← hcell]; omega) (by rw [← hck]; exact hno2)⟩
                refine sw_if_le (tgt := 83) X (by omega) dX6_firstIn_60 (by decide) (fun h19 => ?_) (fun h19 => ?_)
                · exact jn14 u2 v2 (by first | exact fi_pos0 hq (by omega) | exact fi_pos1 hq hp (by omega) (by omega))
                · refine sw_aload_n X dX6_firstIn_63 rfl 0 rfl ?_
                  refine sw_aload_n X dX6_firstIn_64 rfl 0 rfl ?_
                  refine sw_get (q0 := 0) (v := .ref (ad 11)) X iw_X6 rfl rfl 11 (by decide) gw3_219 rfl rfl dX6_firstIn_65 ?_
                  refine sw_iload X dX6_firstIn_68 5 rfl ?_
                  refine sw_iald (q0 := 6) (n := 480) X rfl (by omega) (by omega) (by decide) dX6_firstIn_70 ?_
                  refine sw_iconst X dX6_firstIn_71 ?_
                  refine sw_icmp_ne (tgt := 79) X (by omega) (by omega) dX6_firstIn_72 (by decide) (fun h20 => ?_) (fun h20 => ?_)
                  · refine sw_iconst X dX6_firstIn_79 ?_
                    refine sw_callVV0 (C := RX6) (As := [.int (J 1)]) (rest := []) X (c_X6_goOn l D k ad st tl t u2 v2 g 1 (by omega)) (cwV 1 (sw_ts X) (sw_goodV gw4_74 gw4_76 gws_20 gw1_3 gw4_77) rfl rfl rfl (by decide +kernel) ⟨Nat.le_of_ble_eq_true rfl, Nat.le_of_ble_eq_true rfl⟩) 0 (ci := 6) rfl rfl rfl dX6_firstIn_80 rfl rfl (Nat.le_of_ble_eq_true rfl) ⟨Nat.le_of_ble_eq_true rfl, Nat.le_of_ble_eq_true rfl⟩ (fun w9 hp22 => ?_)
                    subst hp22
                    exact jn14 (u2 + dx g 1) (v2 + dy g 1) (by first | exact fi_pos0 hq (by omega) | exact fi_pos1 hq hp (by omega) (by omega))
                  · refine sw_iconst X dX6_firstIn_75 ?_
                    refine sw_goto (tgt := 80) X dX6_firstIn_76 (by decide) ?_
                    refine sw_callVV0 (C := RX6) (As := [.int (J 0)]) (rest := []) X (c_X6_goOn l D k ad st tl t u2 v2 g 0 (by omega)) (cwV 1 (sw_ts X) (sw_goodV gw4_74 gw4_76 gws_20 gw1_3 gw4_77) rfl rfl rfl (by decide +kernel) ⟨Nat.le_of_ble_eq_true rfl, Nat.le_of_ble_eq_true rfl⟩) 0 (ci := 6) rfl rfl rfl dX6_firstIn_80 rfl rfl (Nat.le_of_ble_eq_true rfl) ⟨Nat.le_of_ble_eq_true rfl, Nat.le_of_ble_eq_true rfl⟩ (fun w9 hp24 => ?_)
                    subst hp24
                    exact jn14 (u2 + dx g 0) (v2 + dy g 0) (by first | exact fi_pos0 hq (by omega) | exact fi_pos1 hq hp (by omega) (by omega))
          refine sw_sub [1, 2, 3, 4, 5, 6, 0] rfl ?_
          exact lp10 (st 12 i + 2 - 0).toNat.succ 0 u v (by omega) (by omega) (by obtain ⟨rfl, rfl, rfl⟩ := hp; simp [dx_0, dy_0]) (fun m q1 q2 => hno m q1 (by omega))
    refine sw_sub [1, 2, 3, 4, 5, 0] rfl ?_
    exact lp5 (st 10 c - (0 : Int)).toNat.succ 0 0 (60 * c) (st 1 0 / 16) (st 1 0 % 16) 0 (by omega) (by simp) (by omega) (rfl) (⟨rfl, rfl, rfl⟩) (fun m q1 q2 => hno0 m q1 q2)
  refine sw_if_ne (tgt := 21) X (by omega) dX6_firstIn_8 (by decide) (fun h25 => ?_) (fun h25 => ?_)
  · refine sw_sub [1, 2, 3, 4, 0] rfl ?_
    exact jn3 (fun m q1 q2 => by first | (exfalso; omega) | (rw [show m = 0 by omega, h00]; omega))
  · refine sw_aload_n X dX6_firstIn_11 rfl 1 rfl ?_
    refine sw_callVI0 (C := RX6) (As := []) (rest := []) X (c_X6_cell l D k ad st tl t (st 1 0 / 16) (st 1 0 % 16) 0) (cwV 0 (sw_ts X) (sw_goodV gw4_82 gw4_84 gws_22 gw1_3 gw4_85) rfl rfl rfl (by decide +kernel) ⟨Nat.le_of_ble_eq_true rfl, Nat.le_of_ble_eq_true rfl⟩) 0 (ci := 6) rfl rfl rfl dX6_firstIn_12 rfl rfl (Nat.le_of_ble_eq_true rfl) ⟨Nat.le_of_ble_eq_true rfl, Nat.le_of_ble_eq_true rfl⟩ (fun z26 w9 hp27 => ?_)
    obtain ⟨rfl, rfl⟩ := hp27
    refine sw_iload_n X dX6_firstIn_15 rfl 3 rfl ?_
    refine sw_icmp_ne (tgt := 21) X (by omega) (by omega) dX6_firstIn_16 (by decide) (fun h28 => ?_) (fun h28 => ?_)
    · refine sw_sub [1, 2, 3, 4, 0] rfl ?_
      exact jn3 (fun m q1 q2 => by first | (exfalso; omega) | (rw [show m = 0 by omega, h00]; omega))
    · refine sw_iconst X dX6_firstIn_19 ?_
      exact RI _ _ _ _ _ _ dX6_firstIn_20 (by decide) (by decide) rfl ⟨_, _, _, rfl, fF_eq ha.1 (Or.inr ⟨by omega, hK.1, by rw [h00]; omega, fun m q1 q2 => by exfalso; omega⟩)⟩
end
section
/-! gates passed, due minutes, pieces added, places of parts, times, points -/
theorem pas_e {st : ST} {c i la : Int} {n : Nat} (hi : i = (n : Int)) (hl : la = (pasL st c n).1) : pas st c i = fF (aC st c) (clk st c) (gC st i) la := by
  subst hi
  unfold pas
  rw [Int.toNat_natCast, pasL_s, hl]
theorem pas_n {st : ST} {c i la la2 : Int} {n : Nat} (hi : i = (n : Int)) (hl : la = (pasL st c n).1) (h : la2 = if fF (aC st c) (clk st c) (gC st i) la = -1 then la else fF (aC st c) (clk st c) (gC st i) la) : la2 = (pasL st c (n + 1)).1 := by
  subst hi
  rw [pasL_s, h, hl]
theorem pas_f {st : ST} {c i la : Int} {n : Nat} (hi : i = (n : Int)) (hl : la = (pasL st c n).1) : fF (aC st c) (clk st c) (gC st i) la = (pasL st c (n + 1)).2 := by
  subst hi
  rw [pasL_s, hl]
theorem pt_tim {st : ST} {c i la tm : Int} {n : Nat} (hi : i = (n : Int)) (hl : la = (pasL st c n).1) (h : tm = if st 16 (10 * c + i) = -1 then fF (aC st c) (clk st c) (gC st i) la else st 16 (10 * c + i)) : tm = tim st c i := by
  rw [h, ← pas_e hi hl]
  rfl
theorem pt_x {st : ST} {c i tm ow x : Int} (h1 : tm = tim st c i) (h2 : ow = if tm = -1 then 60 else if tm - gD st i < 0 then -2 * (tm - gD st i) else tm - gD st i) (h3 : x = if ow > 60 then 60 else ow) : x = pG st c i := by
  unfold pG
  rw [h3, h2, h1]
theorem nG_e {st : ST} {n : Nat} (h1 : (n : Int) ≤ st 5 0) (h2 : (n : Int) ≤ st 8 0) (h : st 5 0 ≤ (n : Int) ∨ st 8 0 ≤ (n : Int)) : n = nG st := by
  unfold nG
  split <;> omega
/-- a piece is added to a track -/
def aP (st : ST) (c d m t : Int) : ST := up2 (up2 (up2 (up2 st 11 (60 * c + st 10 c) d) 12 (60 * c + st 10 c) m) 13 (60 * c + st 10 c) t) 10 c (st 10 c + 1)
def cPl (st : ST) (a : Int) : Int := if a = -1 then st 1 0 else aC st a (clk st a)
abbrev rm_X6_passedAt : Room := { frames := 3, cells := 0, slots := 0, locals := 64 }
set_option maxHeartbeats 4000000 in
set_option maxRecDepth 100000 in
theorem c_X6_passedAt (l : Launch) (D : va_G) (k : Nat → ClassId) (N : Int) (ad : Nat → Nat) (st : Nat → Int → Int) (tl : Int → Int) (t x y h : Int) (c a : Int) (hI : I6 N st) (hc : 0 ≤ c ∧ c < 8) (hg : 0 ≤ a ∧ a < st 5 0) : CI l yX6_passedAt cX6_passedAt 6 (some .int) rm_X6_passedAt D k [.ref (ad 0), .int (J c), .int (J a)] (mW k ad st tl t x y h) (fun z w' => ∃ x' y' h', w' = mW k ad st tl t x' y' h' ∧ z = pas st c a) := by
  refine CI.of (by decide +kernel) (Nat.le_of_ble_eq_true rfl) (fun pᵢ eᵢ sᵢ mᵢ argsᵢ belowᵢ methᵢ cᵢ Aᵢ Qᵢ X RI => ?_)
  show SW pᵢ l eᵢ rm_X6_passedAt sᵢ mᵢ argsᵢ belowᵢ methᵢ cᵢ 6 D Aᵢ 0 0 Qᵢ (mW k ad st tl t x y h) 0 [(0, .ref (ad 0)), (1, .int (J c)), (2, .int (J a))] []
  have hG := I_ga hI
  have hK := clk_b hI hc.1 hc.2
  refine sw_iconst X dX6_passedAt_0 ?_
  refine sw_istore_n (lv' := [(3, .int (J 0)), (0, .ref (ad 0)), (1, .int (J c)), (2, .int (J a))]) X dX6_passedAt_1 rfl (by decide) rfl ?_
  refine sw_iconst X dX6_passedAt_2 ?_
  refine sw_istore (lv' := [(4, .int (J (-1))), (3, .int (J 0)), (0, .ref (ad 0)), (1, .int (J c)), (2, .int (J a))]) X dX6_passedAt_3 (by decide) rfl ?_
  refine sw_iconst X dX6_passedAt_5 ?_
  refine sw_istore (lv' := [(5, .int (J 0)), (4, .int (J (-1))), (3, .int (J 0)), (0, .ref (ad 0)), (1, .int (J c)), (2, .int (J a))]) X dX6_passedAt_6 (by decide) rfl ?_
  have lp2 : ∀ (n3 : Nat) (n : Nat) (la fo i u v g : Int), a + 1 - (n : Int) < (n3 : Nat) → (i = (n : Int)) → ((n : Int) ≤ a + 1) → (la = (pasL st c n).1) → (fo = (pasL st c n).2) → SW pᵢ l eᵢ rm_X6_passedAt sᵢ mᵢ argsᵢ belowᵢ methᵢ cᵢ 6 D Aᵢ 0 0 Qᵢ (mW k ad st tl t u v g) 8 [(0, .ref (ad 0)), (1, .int (J c)), (2, .int (J a)), (3, .int (J la)), (4, .int (J fo)), (5, .int (J i))] [] := by
    intro n3
    induction n3 with
    | zero => intro n la fo i u v g hm4 hi hn hl hf; exact absurd hm4 (by omega)
    | succ n3 ih1 =>
      intro n la fo i u v g hm4 hi hn hl hf
      refine sw_iload X dX6_passedAt_8 5 rfl ?_
      refine sw_iload_n X dX6_passedAt_10 rfl 2 rfl ?_
      refine sw_icmp_gt (tgt := 47) X (by omega) (by omega) dX6_passedAt_11 (by decide) (fun h5 => ?_) (fun h5 => ?_)
      · refine sw_iload X dX6_passedAt_47 4 rfl ?_
        exact RI _ _ _ _ _ _ dX6_passedAt_49 (by decide) (by decide) rfl ⟨_, _, _, rfl, by rw [hf]; unfold pas; rw [show a.toNat + 1 = n by omega]⟩
      · have hb := pasL_b hI hc n
        rw [← hl] at hb
        have hgc := gC_b hI (g := i) (by omega)
        have hF := isF_rng (fF_is (aC st c) (e := clk st c) (v := gC st i) (a := la))
        refine sw_aload_n X dX6_passedAt_14 rfl 0 rfl ?_
        refine sw_iload_n X dX6_passedAt_15 rfl 1 rfl ?_
        refine sw_aload_n X dX6_passedAt_16 rfl 0 rfl ?_
        refine sw_iload X dX6_passedAt_17 5 rfl ?_
        refine sw_callVI0 (C := RX6) (As := [.int (J i)]) (rest := [.int (J c), .ref (ad 0)]) X (c_X6_cellOfGate l D k N ad st tl t u v g i hI (by omega)) (cwV 1 (sw_ts X) (sw_goodV gw4_162 gw4_164 gws_32 gw1_3 gw4_165) rfl rfl rfl (by decide +kernel) ⟨Nat.le_of_ble_eq_true rfl, Nat.le_of_ble_eq_true rfl⟩) 0 (ci := 6) rfl rfl rfl dX6_passedAt_19 rfl rfl (Nat.le_of_ble_eq_true rfl) ⟨Nat.le_of_ble_eq_true rfl, Nat.le_of_ble_eq_true rfl⟩ (fun z6 w9 hp7 => ?_)
        obtain ⟨u8, v9, g10, rfl, rfl⟩ := hp7
        refine sw_iload_n X dX6_passedAt_22 rfl 3 rfl ?_
        refine sw_callVI0 (C := RX6) (As := [.int (J c), .int (J (gC st i)), .int (J la)]) (rest := []) X (c_X6_firstIn l D k N ad st tl t u8 v9 g10 c (gC st i) la hI (by omega) (by omega) (by omega)) (cwV 3 (sw_ts X) (sw_goodV gw4_166 gw4_168 gws_33 gw1_3 gw4_169) rfl rfl rfl (by decide +kernel) ⟨Nat.le_of_ble_eq_true rfl, Nat.le_of_ble_eq_true rfl⟩) 0 (ci := 6) rfl rfl rfl dX6_passedAt_23 rfl rfl (Nat.le_of_ble_eq_true rfl) ⟨Nat.le_of_ble_eq_true rfl, Nat.le_of_ble_eq_true rfl⟩ (fun z11 w9 hp12 => ?_)
        obtain ⟨u13, v14, g15, rfl, rfl⟩ := hp12
        refine sw_istore (lv' := [(4, .int (J (fF (aC st c) (clk st c) (gC st i) la))), (0, .ref (ad 0)), (1, .int (J c)), (2, .int (J a)), (3, .int (J la)), (5, .int (J i))]) X dX6_passedAt_26 (by decide) rfl ?_
        refine sw_iload X dX6_passedAt_28 0 rfl ?_
        refine sw_iconst X dX6_passedAt_30 ?_
        refine sw_icmp_ne (tgt := 38) X (by omega) (by omega) dX6_passedAt_31 (by decide) (fun h16 => ?_) (fun h16 => ?_)
        · refine sw_iload X dX6_passedAt_38 0 rfl ?_
          refine sw_istore_n (lv' := [(3, .int (J (fF (aC st c) (clk st c) (gC st i) la))), (4, .int (J (fF (aC st c) (clk st c) (gC st i) la))), (0, .ref (ad 0)), (1, .int (J c)), (2, .int (J a)), (5, .int (J i))]) X dX6_passedAt_40 rfl (by decide) rfl ?_
          refine sw_iinc (lv' := [(5, .int (J (i + 1))), (3, .int (J (fF (aC st c) (clk st c) (gC st i) la))), (4, .int (J (fF (aC st c) (clk st c) (gC st i) la))), (0, .ref (ad 0)), (1, .int (J c)), (2, .int (J a))]) X dX6_passedAt_41 5 rfl (by decide) rfl ?_
          refine sw_goto (tgt := 8) X dX6_passedAt_44 (by decide) ?_
          refine sw_sub [3, 4, 5, 1, 2, 0] rfl ?_
          exact ih1 (n + 1) (fF (aC st c) (clk st c) (gC st i) la) (fF (aC st c) (clk st c) (gC st i) la) (i + 1) u13 v14 g15 (by omega) (by omega) (by omega) (by refine pas_n hi hl ?_; split <;> omega) (pas_f hi hl)
        · refine sw_iload_n X dX6_passedAt_34 rfl 4 rfl ?_
          refine sw_goto (tgt := 40) X dX6_passedAt_35 (by decide) ?_
          refine sw_istore_n (lv' := [(3, .int (J la)), (4, .int (J (fF (aC st c) (clk st c) (gC st i) la))), (0, .ref (ad 0)), (1, .int (J c)), (2, .int (J a)), (5, .int (J i))]) X dX6_passedAt_40 rfl (by decide) rfl ?_
          refine sw_iinc (lv' := [(5, .int (J (i + 1))), (3, .int (J la)), (4, .int (J (fF (aC st c) (clk st c) (gC st i) la))), (0, .ref (ad 0)), (1, .int (J c)), (2, .int (J a))]) X dX6_passedAt_41 5 rfl (by decide) rfl ?_
          refine sw_goto (tgt := 8) X dX6_passedAt_44 (by decide) ?_
          refine sw_sub [3, 4, 5, 1, 2, 0] rfl ?_
          exact ih1 (n + 1) la (fF (aC st c) (clk st c) (gC st i) la) (i + 1) u13 v14 g15 (by omega) (by omega) (by omega) (by refine pas_n hi hl ?_; split <;> omega) (pas_f hi hl)
  refine sw_sub [3, 4, 5, 2, 1, 0] rfl ?_
  exact lp2 (a + 1 - (0 : Int)).toNat.succ 0 0 (-1) 0 x y h (by omega) (rfl) (by omega) (rfl) (rfl)
abbrev rm_X6_dueAt : Room := { frames := 0, cells := 0, slots := 0, locals := 0 }
set_option maxHeartbeats 4000000 in
set_option maxRecDepth 100000 in
theorem c_X6_dueAt (l : Launch) (D : va_G) (k : Nat → ClassId) (N : Int) (ad : Nat → Nat) (st : Nat → Int → Int) (tl : Int → Int) (t x y h : Int) (a : Int) (hI : I6 N st) (hg : 0 ≤ a ∧ a < st 5 0) : CI l yX6_dueAt cX6_dueAt 4 (some .int) rm_X6_dueAt D k [.ref (ad 0), .int (J a)] (mW k ad st tl t x y h) (fun z w' => w' = mW k ad st tl t x y h ∧ z = gD st a) := by
  refine CI.of (by decide +kernel) (Nat.le_of_ble_eq_true rfl) (fun pᵢ eᵢ sᵢ mᵢ argsᵢ belowᵢ methᵢ cᵢ Aᵢ Qᵢ X RI => ?_)
  show SW pᵢ l eᵢ rm_X6_dueAt sᵢ mᵢ argsᵢ belowᵢ methᵢ cᵢ 4 D Aᵢ 0 0 Qᵢ (mW k ad st tl t x y h) 0 [(0, .ref (ad 0)), (1, .int (J a))] []
  have hG := I_ga hI
  have hE := I_en hI
  have h6 := I_g hI a hg.1 hg.2
  refine sw_aload_n X dX6_dueAt_0 rfl 0 rfl ?_
  refine sw_get (q0 := 0) (v := .ref (ad 7)) X iw_X6 rfl rfl 7 (by decide) gw3_215 rfl rfl dX6_dueAt_1 ?_
  refine sw_iload_n X dX6_dueAt_4 rfl 1 rfl ?_
  refine sw_iald (q0 := 4) (n := 10) X rfl (by omega) (by omega) (by decide) dX6_dueAt_5 ?_
  refine sw_istore_n (lv' := [(2, .int (J (st 7 a))), (0, .ref (ad 0)), (1, .int (J a))]) X dX6_dueAt_6 rfl (by decide) rfl ?_
  refine sw_iconst X dX6_dueAt_7 ?_
  refine sw_istore_n (lv' := [(3, .int (J 0)), (2, .int (J (st 7 a))), (0, .ref (ad 0)), (1, .int (J a))]) X dX6_dueAt_8 rfl (by decide) rfl ?_
  have lp2 : ∀ (n3 : Nat) (n : Nat) (sm i : Int), st 6 a + 1 - (n : Int) < (n3 : Nat) → (i = (n : Int)) → ((n : Int) ≤ st 6 a + 1) → (sm = st 7 a + sM (fun i => st 3 (i : Int)) n) → SW pᵢ l eᵢ rm_X6_dueAt sᵢ mᵢ argsᵢ belowᵢ methᵢ cᵢ 4 D Aᵢ 0 0 Qᵢ (mW k ad st tl t x y h) 9 [(0, .ref (ad 0)), (1, .int (J a)), (2, .int (J sm)), (3, .int (J i))] [] := by
    intro n3
    induction n3 with
    | zero => intro n sm i hm4 hi hn hs; exact absurd hm4 (by omega)
    | succ n3 ih1 =>
      intro n sm i hm4 hi hn hs
      refine sw_iload_n X dX6_dueAt_9 rfl 3 rfl ?_
      refine sw_aload_n X dX6_dueAt_10 rfl 0 rfl ?_
      refine sw_get (q0 := 0) (v := .ref (ad 6)) X iw_X6 rfl rfl 6 (by decide) gw3_214 rfl rfl dX6_dueAt_11 ?_
      refine sw_iload_n X dX6_dueAt_14 rfl 1 rfl ?_
      refine sw_iald (q0 := 3) (n := 10) X rfl (by omega) (by omega) (by decide) dX6_dueAt_15 ?_
      refine sw_icmp_gt (tgt := 34) X (by omega) (by omega) dX6_dueAt_16 (by decide) (fun h5 => ?_) (fun h5 => ?_)
      · refine sw_iload_n X dX6_dueAt_34 rfl 2 rfl ?_
        exact RI _ _ _ _ _ _ dX6_dueAt_35 (by decide) (by decide) rfl ⟨rfl, by rw [hs]; unfold gD; rw [show (st 6 a).toNat + 1 = n by omega]⟩
      · have hb := I_e hI i (by omega) (by omega)
        refine sw_iload_n X dX6_dueAt_19 rfl 2 rfl ?_
        refine sw_aload_n X dX6_dueAt_20 rfl 0 rfl ?_
        refine sw_get (q0 := 0) (v := .ref (ad 3)) X iw_X6 rfl rfl 3 (by decide) gw3_211 rfl rfl dX6_dueAt_21 ?_
        refine sw_iload_n X dX6_dueAt_24 rfl 3 rfl ?_
        refine sw_iald (q0 := 1) (n := 30) X rfl (by omega) (by omega) (by decide) dX6_dueAt_25 ?_
        refine sw_iadd X dX6_dueAt_26 ?_
        refine sw_istore_n (lv' := [(2, .int (J (sm + (st 3 i)))), (0, .ref (ad 0)), (1, .int (J a)), (3, .int (J i))]) X dX6_dueAt_27 rfl (by decide) rfl ?_
        refine sw_iinc (lv' := [(3, .int (J (i + 1))), (2, .int (J (sm + (st 3 i)))), (0, .ref (ad 0)), (1, .int (J a))]) X dX6_dueAt_28 3 rfl (by decide) rfl ?_
        refine sw_goto (tgt := 9) X dX6_dueAt_31 (by decide) ?_
        refine sw_sub [2, 3, 1, 0] rfl ?_
        exact ih1 (n + 1) (sm + (st 3 i)) (i + 1) (by omega) (by omega) (by omega) (by rw [sM_s, hs, hi]; omega)
  refine sw_sub [2, 3, 1, 0] rfl ?_
  exact lp2 (st 6 a + 1 - (0 : Int)).toNat.succ 0 (st 7 a) 0 (by omega) (rfl) (by omega) (by simp [sM])
abbrev rm_X6_addPiece : Room := { frames := 1, cells := 0, slots := 0, locals := 23 }
set_option maxHeartbeats 4000000 in
set_option maxRecDepth 100000 in
theorem c_X6_addPiece (l : Launch) (D : va_G) (k : Nat → ClassId) (N : Int) (ad : Nat → Nat) (st : Nat → Int → Int) (tl : Int → Int) (t x y h : Int) (c d q r : Int) (hI : I6 N (aP st c d q r)) (hc : 0 ≤ c ∧ c < 8) (hb : 0 ≤ st 10 c ∧ st 10 c < 60) : CI l yX6_addPiece cX6_addPiece 6 (some .int) rm_X6_addPiece D k [.ref (ad 0), .int (J c), .int (J d), .int (J q), .int (J r)] (mW k ad st tl t x y h) (fun z w' => w' = mW k ad (aP st c d q r) tl t x y h ∧ z = clk (aP st c d q r) c) := by
  refine CI.of (by decide +kernel) (Nat.le_of_ble_eq_true rfl) (fun pᵢ eᵢ sᵢ mᵢ argsᵢ belowᵢ methᵢ cᵢ Aᵢ Qᵢ X RI => ?_)
  show SW pᵢ l eᵢ rm_X6_addPiece sᵢ mᵢ argsᵢ belowᵢ methᵢ cᵢ 6 D Aᵢ 0 0 Qᵢ (mW k ad st tl t x y h) 0 [(0, .ref (ad 0)), (1, .int (J c)), (2, .int (J d)), (3, .int (J q)), (4, .int (J r))] []
  refine sw_bipush X dX6_addPiece_0 (by decide +kernel) ?_
  refine sw_iload_n X dX6_addPiece_2 rfl 1 rfl ?_
  refine sw_imul X dX6_addPiece_3 ?_
  refine sw_aload_n X dX6_addPiece_4 rfl 0 rfl ?_
  refine sw_get (q0 := 0) (v := .ref (ad 10)) X iw_X6 rfl rfl 10 (by decide) gw3_218 rfl rfl dX6_addPiece_5 ?_
  refine sw_iload_n X dX6_addPiece_8 rfl 1 rfl ?_
  refine sw_iald (q0 := 5) (n := 8) X rfl (by omega) (by omega) (by decide) dX6_addPiece_9 ?_
  refine sw_iadd X dX6_addPiece_10 ?_
  refine sw_istore (lv' := [(5, .int (J ((60 * c) + (st 10 c)))), (0, .ref (ad 0)), (1, .int (J c)), (2, .int (J d)), (3, .int (J q)), (4, .int (J r))]) X dX6_addPiece_11 (by decide) rfl ?_
  refine sw_aload_n X dX6_addPiece_13 rfl 1 rfl ?_
  refine sw_get (q0 := 0) (v := .ref (ad 11)) X iw_X6 rfl rfl 11 (by decide) gw3_219 rfl rfl dX6_addPiece_14 ?_
  refine sw_iload X dX6_addPiece_17 0 rfl ?_
  refine sw_iload_n X dX6_addPiece_19 rfl 3 rfl ?_
  refine sw_iast (q0 := 6) (n := 480) X rfl (by omega) (by omega) (by decide) mW_a11 dX6_addPiece_20 ?_
  refine sw_aload_n X dX6_addPiece_21 rfl 1 rfl ?_
  refine sw_get (q0 := 0) (v := .ref (ad 12)) X iw_X6 rfl rfl 12 (by decide) gw3_220 rfl rfl dX6_addPiece_22 ?_
  refine sw_iload X dX6_addPiece_25 0 rfl ?_
  refine sw_iload_n X dX6_addPiece_27 rfl 4 rfl ?_
  refine sw_iast (q0 := 7) (n := 480) X rfl (by omega) (by omega) (by decide) mW_a12 dX6_addPiece_28 ?_
  refine sw_aload_n X dX6_addPiece_29 rfl 1 rfl ?_
  refine sw_get (q0 := 0) (v := .ref (ad 13)) X iw_X6 rfl rfl 13 (by decide) gw3_221 rfl rfl dX6_addPiece_30 ?_
  refine sw_iload X dX6_addPiece_33 0 rfl ?_
  refine sw_iload X dX6_addPiece_35 5 rfl ?_
  refine sw_iast (q0 := 8) (n := 480) X rfl (by omega) (by omega) (by decide) mW_a13 dX6_addPiece_37 ?_
  refine sw_aload_n X dX6_addPiece_38 rfl 1 rfl ?_
  refine sw_get (q0 := 0) (v := .ref (ad 10)) X iw_X6 rfl rfl 10 (by decide) gw3_218 rfl rfl dX6_addPiece_39 ?_
  refine sw_iload_n X dX6_addPiece_42 rfl 2 rfl ?_
  refine sw_dup2 X dX6_addPiece_43 rfl rfl ?_
  refine sw_iald (q0 := 5) (n := 8) X rfl (by omega) (by omega) (by decide) dX6_addPiece_44 ?_
  refine sw_iconst X dX6_addPiece_45 ?_
  refine sw_iadd X dX6_addPiece_46 ?_
  refine sw_iast (q0 := 5) (n := 8) X rfl (by omega) (by omega) (by decide) mW_a10 dX6_addPiece_47 ?_
  refine sw_aload_n X dX6_addPiece_48 rfl 1 rfl ?_
  refine sw_iload_n X dX6_addPiece_49 rfl 2 rfl ?_
  refine sw_callVI0 (C := RX6) (As := [.int (J c)]) (rest := []) X (c_X6_clockOf l D k N ad (up2 (up2 (up2 (up2 st 11 ((60 * c) + (st 10 c)) d) 12 ((60 * c) + (st 10 c)) q) 13 ((60 * c) + (st 10 c)) r) 10 c ((st 10 c) + 1)) tl t x y h c hI (by omega)) (cwV 1 (sw_ts X) (sw_goodV gw4_106 gw4_108 gws_24 gw1_3 gw4_109) rfl rfl rfl (by decide +kernel) ⟨Nat.le_of_ble_eq_true rfl, Nat.le_of_ble_eq_true rfl⟩) 0 (ci := 6) rfl rfl rfl dX6_addPiece_50 rfl rfl (Nat.le_of_ble_eq_true rfl) ⟨Nat.le_of_ble_eq_true rfl, Nat.le_of_ble_eq_true rfl⟩ (fun z1 w9 hp2 => ?_)
  obtain ⟨rfl, rfl⟩ := hp2
  exact RI _ _ _ _ _ _ dX6_addPiece_53 (by decide) (by decide) rfl ⟨rfl, rfl⟩
abbrev rm_X6_cellOfPlace : Room := { frames := 3, cells := 0, slots := 0, locals := 67 }
set_option maxHeartbeats 4000000 in
set_option maxRecDepth 100000 in
theorem c_X6_cellOfPlace (l : Launch) (D : va_G) (k : Nat → ClassId) (N : Int) (ad : Nat → Nat) (st : Nat → Int → Int) (tl : Int → Int) (t x y h : Int) (a : Int) (hI : I6 N st) (ha : a = -1 ∨ (0 ≤ a ∧ a < 8)) : CI l yX6_cellOfPlace cX6_cellOfPlace 2 (some .int) rm_X6_cellOfPlace D k [.ref (ad 0), .int (J a)] (mW k ad st tl t x y h) (fun z w' => ∃ x' y' h', w' = mW k ad st tl t x' y' h' ∧ z = cPl st a) := by
  refine CI.of (by decide +kernel) (Nat.le_of_ble_eq_true rfl) (fun pᵢ eᵢ sᵢ mᵢ argsᵢ belowᵢ methᵢ cᵢ Aᵢ Qᵢ X RI => ?_)
  show SW pᵢ l eᵢ rm_X6_cellOfPlace sᵢ mᵢ argsᵢ belowᵢ methᵢ cᵢ 2 D Aᵢ 0 0 Qᵢ (mW k ad st tl t x y h) 0 [(0, .ref (ad 0)), (1, .int (J a))] []
  have hS := I_st hI
  refine sw_iload_n X dX6_cellOfPlace_0 rfl 1 rfl ?_
  refine sw_iconst X dX6_cellOfPlace_1 ?_
  refine sw_icmp_ne (tgt := 12) X (by omega) (by omega) dX6_cellOfPlace_2 (by decide) (fun h1 => ?_) (fun h1 => ?_)
  · refine sw_aload_n X dX6_cellOfPlace_12 rfl 0 rfl ?_
    refine sw_iload_n X dX6_cellOfPlace_13 rfl 1 rfl ?_
    refine sw_callVI0 (C := RX6) (As := [.int (J a)]) (rest := []) X (c_X6_cellNow l D k N ad st tl t x y h a hI (by omega)) (cwV 1 (sw_ts X) (sw_goodV gw4_142 gw4_144 gws_28 gw1_3 gw4_145) rfl rfl rfl (by decide +kernel) ⟨Nat.le_of_ble_eq_true rfl, Nat.le_of_ble_eq_true rfl⟩) 0 (ci := 6) rfl rfl rfl dX6_cellOfPlace_14 rfl rfl (Nat.le_of_ble_eq_true rfl) ⟨Nat.le_of_ble_eq_true rfl, Nat.le_of_ble_eq_true rfl⟩ (fun z2 w9 hp3 => ?_)
    obtain ⟨u4, v5, g6, rfl, rfl⟩ := hp3
    exact RI _ _ _ _ _ _ dX6_cellOfPlace_17 (by decide) (by decide) rfl ⟨_, _, _, rfl, by unfold cPl; split <;> omega⟩
  · refine sw_aload_n X dX6_cellOfPlace_5 rfl 0 rfl ?_
    refine sw_get (q0 := 0) (v := .int (J (st 1 0))) X iw_X6 rfl rfl 1 (by decide) gw3_209 rfl rfl dX6_cellOfPlace_6 ?_
    refine sw_goto (tgt := 17) X dX6_cellOfPlace_9 (by decide) ?_
    exact RI _ _ _ _ _ _ dX6_cellOfPlace_17 (by decide) (by decide) rfl ⟨_, _, _, rfl, by unfold cPl; split <;> omega⟩
abbrev rm_X6_timeOf : Room := { frames := 4, cells := 0, slots := 0, locals := 89 }
set_option maxHeartbeats 4000000 in
set_option maxRecDepth 100000 in
theorem c_X6_timeOf (l : Launch) (D : va_G) (k : Nat → ClassId) (N : Int) (ad : Nat → Nat) (st : Nat → Int → Int) (tl : Int → Int) (t x y h : Int) (c a : Int) (hI : I6 N st) (hc : 0 ≤ c ∧ c < 8) (hg : 0 ≤ a ∧ a < st 5 0) : CI l yX6_timeOf cX6_timeOf 4 (some .int) rm_X6_timeOf D k [.ref (ad 0), .int (J c), .int (J a)] (mW k ad st tl t x y h) (fun z w' => ∃ x' y' h', w' = mW k ad st tl t x' y' h' ∧ z = tim st c a) := by
  refine CI.of (by decide +kernel) (Nat.le_of_ble_eq_true rfl) (fun pᵢ eᵢ sᵢ mᵢ argsᵢ belowᵢ methᵢ cᵢ Aᵢ Qᵢ X RI => ?_)
  show SW pᵢ l eᵢ rm_X6_timeOf sᵢ mᵢ argsᵢ belowᵢ methᵢ cᵢ 4 D Aᵢ 0 0 Qᵢ (mW k ad st tl t x y h) 0 [(0, .ref (ad 0)), (1, .int (J c)), (2, .int (J a))] []
  have hG := I_ga hI
  have hR := I_r hI c a (by omega) (by omega) (by omega) (by omega)
  refine sw_aload_n X dX6_timeOf_0 rfl 0 rfl ?_
  refine sw_get (q0 := 0) (v := .ref (ad 16)) X iw_X6 rfl rfl 16 (by decide) gw3_224 rfl rfl dX6_timeOf_1 ?_
  refine sw_bipush X dX6_timeOf_4 (by decide +kernel) ?_
  refine sw_iload_n X dX6_timeOf_6 rfl 1 rfl ?_
  refine sw_imul X dX6_timeOf_7 ?_
  refine sw_iload_n X dX6_timeOf_8 rfl 2 rfl ?_
  refine sw_iadd X dX6_timeOf_9 ?_
  refine sw_iald (q0 := 11) (n := 80) X rfl (by omega) (by omega) (by decide) dX6_timeOf_10 ?_
  refine sw_istore_n (lv' := [(3, .int (J (st 16 ((10 * c) + a)))), (0, .ref (ad 0)), (1, .int (J c)), (2, .int (J a))]) X dX6_timeOf_11 rfl (by decide) rfl ?_
  refine sw_iload_n X dX6_timeOf_12 rfl 0 rfl ?_
  refine sw_iconst X dX6_timeOf_13 ?_
  refine sw_icmp_ne (tgt := 26) X (by omega) (by omega) dX6_timeOf_14 (by decide) (fun h1 => ?_) (fun h1 => ?_)
  · refine sw_iload_n X dX6_timeOf_26 rfl 0 rfl ?_
    exact RI _ _ _ _ _ _ dX6_timeOf_27 (by decide) (by decide) rfl ⟨_, _, _, rfl, by unfold tim; split <;> omega⟩
  · refine sw_aload_n X dX6_timeOf_17 rfl 1 rfl ?_
    refine sw_iload_n X dX6_timeOf_18 rfl 2 rfl ?_
    refine sw_iload_n X dX6_timeOf_19 rfl 3 rfl ?_
    refine sw_callVI0 (C := RX6) (As := [.int (J c), .int (J a)]) (rest := []) X (c_X6_passedAt l D k N ad st tl t x y h c a hI (by omega) (by omega)) (cwV 2 (sw_ts X) (sw_goodV gw4_158 gw4_160 gws_31 gw1_3 gw4_161) rfl rfl rfl (by decide +kernel) ⟨Nat.le_of_ble_eq_true rfl, Nat.le_of_ble_eq_true rfl⟩) 0 (ci := 6) rfl rfl rfl dX6_timeOf_20 rfl rfl (Nat.le_of_ble_eq_true rfl) ⟨Nat.le_of_ble_eq_true rfl, Nat.le_of_ble_eq_true rfl⟩ (fun z2 w9 hp3 => ?_)
    obtain ⟨u4, v5, g6, rfl, rfl⟩ := hp3
    refine sw_goto (tgt := 27) X dX6_timeOf_23 (by decide) ?_
    exact RI _ _ _ _ _ _ dX6_timeOf_27 (by decide) (by decide) rfl ⟨_, _, _, rfl, by unfold tim; split <;> omega⟩
abbrev rm_X6_pointsOf : Room := { frames := 3, cells := 0, slots := 0, locals := 64 }
set_option maxHeartbeats 4000000 in
set_option maxRecDepth 100000 in
theorem c_X6_pointsOf (l : Launch) (D : va_G) (k : Nat → ClassId) (N : Int) (ad : Nat → Nat) (st : Nat → Int → Int) (tl : Int → Int) (t x y h : Int) (c : Int) (hI : I6 N st) (hc : 0 ≤ c ∧ c < 8) : CI l yX6_pointsOf cX6_pointsOf 10 (some .int) rm_X6_pointsOf D k [.ref (ad 0), .int (J c)] (mW k ad st tl t x y h) (fun z w' => ∃ x' y' h', w' = mW k ad st tl t x' y' h' ∧ z = pts st c) := by
  refine CI.of (by decide +kernel) (Nat.le_of_ble_eq_true rfl) (fun pᵢ eᵢ sᵢ mᵢ argsᵢ belowᵢ methᵢ cᵢ Aᵢ Qᵢ X RI => ?_)
  show SW pᵢ l eᵢ rm_X6_pointsOf sᵢ mᵢ argsᵢ belowᵢ methᵢ cᵢ 10 D Aᵢ 0 0 Qᵢ (mW k ad st tl t x y h) 0 [(0, .ref (ad 0)), (1, .int (J c))] []
  have hG := I_ga hI
  have hU := I_cu hI
  have hK := clk_b hI hc.1 hc.2
  refine sw_bipush X dX6_pointsOf_0 (by decide +kernel) ?_
  refine sw_aload_n X dX6_pointsOf_2 rfl 0 rfl ?_
  refine sw_get (q0 := 0) (v := .ref (ad 15)) X iw_X6 rfl rfl 15 (by decide) gw3_223 rfl rfl dX6_pointsOf_3 ?_
  refine sw_iload_n X dX6_pointsOf_6 rfl 1 rfl ?_
  refine sw_iald (q0 := 10) (n := 8) X rfl (by omega) (by omega) (by decide) dX6_pointsOf_7 ?_
  refine sw_imul X dX6_pointsOf_8 ?_
  refine sw_istore_n (lv' := [(2, .int (J (10 * (st 15 c)))), (0, .ref (ad 0)), (1, .int (J c))]) X dX6_pointsOf_9 rfl (by decide) rfl ?_
  refine sw_iconst X dX6_pointsOf_10 ?_
  refine sw_istore_n (lv' := [(3, .int (J 0)), (2, .int (J (10 * (st 15 c)))), (0, .ref (ad 0)), (1, .int (J c))]) X dX6_pointsOf_11 rfl (by decide) rfl ?_
  refine sw_iconst X dX6_pointsOf_12 ?_
  refine sw_istore (lv' := [(4, .int (J 0)), (3, .int (J 0)), (2, .int (J (10 * (st 15 c)))), (0, .ref (ad 0)), (1, .int (J c))]) X dX6_pointsOf_13 (by decide) rfl ?_
  have lp2 : ∀ (n3 : Nat) (n : Nat) (sm la i u v g : Int), st 5 0 - (n : Int) < (n3 : Nat) → (i = (n : Int)) → ((n : Int) ≤ st 5 0 ∧ (n : Int) ≤ st 8 0) → (sm = 10 * st 15 c + sM (fun g => pG st c (g : Int)) n) → (la = (pasL st c n).1) → SW pᵢ l eᵢ rm_X6_pointsOf sᵢ mᵢ argsᵢ belowᵢ methᵢ cᵢ 10 D Aᵢ 0 0 Qᵢ (mW k ad st tl t u v g) 15 [(0, .ref (ad 0)), (1, .int (J c)), (2, .int (J sm)), (3, .int (J la)), (4, .int (J i))] [] := by
    intro n3
    induction n3 with
    | zero => intro n sm la i u v g hm4 hi hn hs hl; exact absurd hm4 (by omega)
    | succ n3 ih1 =>
      intro n sm la i u v g hm4 hi hn hs hl
      refine sw_iload X dX6_pointsOf_15 4 rfl ?_
      refine sw_aload_n X dX6_pointsOf_17 rfl 0 rfl ?_
      refine sw_get (q0 := 0) (v := .int (J (st 5 0))) X iw_X6 rfl rfl 5 (by decide) gw3_213 rfl rfl dX6_pointsOf_18 ?_
      refine sw_icmp_ge (tgt := 151) X (by omega) (by omega) dX6_pointsOf_21 (by decide) (fun h5 => ?_) (fun h5 => ?_)
      · refine sw_iload_n X dX6_pointsOf_151 rfl 2 rfl ?_
        exact RI _ _ _ _ _ _ dX6_pointsOf_152 (by decide) (by decide) rfl ⟨_, _, _, rfl, by rw [hs]; unfold pts; rw [nG_e hn.1 hn.2 (by omega)]⟩
      · refine sw_iload X dX6_pointsOf_24 4 rfl ?_
        refine sw_aload_n X dX6_pointsOf_26 rfl 0 rfl ?_
        refine sw_get (q0 := 0) (v := .int (J (st 8 0))) X iw_X6 rfl rfl 8 (by decide) gw3_216 rfl rfl dX6_pointsOf_27 ?_
        refine sw_icmp_ge (tgt := 151) X (by omega) (by omega) dX6_pointsOf_30 (by decide) (fun h6 => ?_) (fun h6 => ?_)
        · refine sw_iload_n X dX6_pointsOf_151 rfl 2 rfl ?_
          exact RI _ _ _ _ _ _ dX6_pointsOf_152 (by decide) (by decide) rfl ⟨_, _, _, rfl, by rw [hs]; unfold pts; rw [nG_e hn.1 hn.2 (by omega)]⟩
        · have hb := pasL_b hI hc n
          rw [← hl] at hb
          have hgc := gC_b hI (g := i) (by omega)
          have hF := isF_rng (fF_is (aC st c) (e := clk st c) (v := gC st i) (a := la))
          have hR := I_r hI c i (by omega) (by omega) (by omega) (by omega)
          refine sw_aload_n X dX6_pointsOf_33 rfl 0 rfl ?_
          refine sw_iload_n X dX6_pointsOf_34 rfl 1 rfl ?_
          refine sw_aload_n X dX6_pointsOf_35 rfl 0 rfl ?_
          refine sw_iload X dX6_pointsOf_36 4 rfl ?_
          refine sw_callVI0 (C := RX6) (As := [.int (J i)]) (rest := [.int (J c), .ref (ad 0)]) X (c_X6_cellOfGate l D k N ad st tl t u v g i hI (by omega)) (cwV 1 (sw_ts X) (sw_goodV gw4_162 gw4_164 gws_32 gw1_3 gw4_165) rfl rfl rfl (by decide +kernel) ⟨Nat.le_of_ble_eq_true rfl, Nat.le_of_ble_eq_true rfl⟩) 0 (ci := 6) rfl rfl rfl dX6_pointsOf_38 rfl rfl (Nat.le_of_ble_eq_true rfl) ⟨Nat.le_of_ble_eq_true rfl, Nat.le_of_ble_eq_true rfl⟩ (fun z7 w9 hp8 => ?_)
          obtain ⟨u9, v10, g11, rfl, rfl⟩ := hp8
          refine sw_iload_n X dX6_pointsOf_41 rfl 3 rfl ?_
          refine sw_callVI0 (C := RX6) (As := [.int (J c), .int (J (gC st i)), .int (J la)]) (rest := []) X (c_X6_firstIn l D k N ad st tl t u9 v10 g11 c (gC st i) la hI (by omega) (by omega) (by omega)) (cwV 3 (sw_ts X) (sw_goodV gw4_166 gw4_168 gws_33 gw1_3 gw4_169) rfl rfl rfl (by decide +kernel) ⟨Nat.le_of_ble_eq_true rfl, Nat.le_of_ble_eq_true rfl⟩) 0 (ci := 6) rfl rfl rfl dX6_pointsOf_42 rfl rfl (Nat.le_of_ble_eq_true rfl) ⟨Nat.le_of_ble_eq_true rfl, Nat.le_of_ble_eq_true rfl⟩ (fun z12 w9 hp13 => ?_)
          obtain ⟨u14, v15, g16, rfl, rfl⟩ := hp13
          refine sw_istore (lv' := [(5, .int (J (fF (aC st c) (clk st c) (gC st i) la))), (0, .ref (ad 0)), (1, .int (J c)), (2, .int (J sm)), (3, .int (J la)), (4, .int (J i))]) X dX6_pointsOf_45 (by decide) rfl ?_
          refine sw_iload X dX6_pointsOf_47 0 rfl ?_
          refine sw_iconst X dX6_pointsOf_49 ?_
          have jn17 : ∀ (la2 : Int), (la2 = if fF (aC st c) (clk st c) (gC st i) la = -1 then la else fF (aC st c) (clk st c) (gC st i) la) → SW pᵢ l eᵢ rm_X6_pointsOf sᵢ mᵢ argsᵢ belowᵢ methᵢ cᵢ 10 D Aᵢ 0 0 Qᵢ (mW k ad st tl t u14 v15 g16) 59 [(0, .ref (ad 0)), (1, .int (J c)), (2, .int (J sm)), (3, .int (J la)), (4, .int (J i)), (5, .int (J (fF (aC st c) (clk st c) (gC st i) la)))] [.int (J la2)] := by
            intro la2 hla2
            refine sw_istore_n (lv' := [(3, .int (J la2)), (0, .ref (ad 0)), (1, .int (J c)), (2, .int (J sm)), (4, .int (J i)), (5, .int (J (fF (aC st c) (clk st c) (gC st i) la)))]) X dX6_pointsOf_59 rfl (by decide) rfl ?_
            refine sw_aload_n X dX6_pointsOf_60 rfl 1 rfl ?_
            refine sw_get (q0 := 0) (v := .ref (ad 16)) X iw_X6 rfl rfl 16 (by decide) gw3_224 rfl rfl dX6_pointsOf_61 ?_
            refine sw_bipush X dX6_pointsOf_64 (by decide +kernel) ?_
            refine sw_iload_n X dX6_pointsOf_66 rfl 2 rfl ?_
            refine sw_imul X dX6_pointsOf_67 ?_
            refine sw_iload X dX6_pointsOf_68 4 rfl ?_
            refine sw_iadd X dX6_pointsOf_70 ?_
            refine sw_iald (q0 := 11) (n := 80) X rfl (by omega) (by omega) (by decide) dX6_pointsOf_71 ?_
            refine sw_istore (lv' := [(6, .int (J (st 16 ((10 * c) + i)))), (3, .int (J la2)), (0, .ref (ad 0)), (1, .int (J c)), (2, .int (J sm)), (4, .int (J i)), (5, .int (J (fF (aC st c) (clk st c) (gC st i) la)))]) X dX6_pointsOf_72 (by decide) rfl ?_
            refine sw_iload X dX6_pointsOf_74 0 rfl ?_
            refine sw_iconst X dX6_pointsOf_76 ?_
            have jn18 : ∀ (tm : Int), (tm = if st 16 (10 * c + i) = -1 then fF (aC st c) (clk st c) (gC st i) la else st 16 (10 * c + i)) → SW pᵢ l eᵢ rm_X6_pointsOf sᵢ mᵢ argsᵢ belowᵢ methᵢ cᵢ 10 D Aᵢ 0 0 Qᵢ (mW k ad st tl t u14 v15 g16) 87 [(0, .ref (ad 0)), (1, .int (J c)), (2, .int (J sm)), (3, .int (J la2)), (4, .int (J i)), (5, .int (J (fF (aC st c) (clk st c) (gC st i) la))), (6, .int (J (st 16 ((10 * c) + i))))] [.int (J tm)] := by
              intro tm ht2
              have htm := pt_tim hi hl ht2
              have htb := tim_b hI hc (g := i) (by omega)
              rw [← htm] at htb
              have hgd := gD_b hI (g := i) (by omega)
              refine sw_istore (lv' := [(7, .int (J tm)), (0, .ref (ad 0)), (1, .int (J c)), (2, .int (J sm)), (3, .int (J la2)), (4, .int (J i)), (5, .int (J (fF (aC st c) (clk st c) (gC st i) la))), (6, .int (J (st 16 ((10 * c) + i))))]) X dX6_pointsOf_87 (by decide) rfl ?_
              refine sw_iload X dX6_pointsOf_89 0 rfl ?_
              refine sw_aload_n X dX6_pointsOf_91 rfl 1 rfl ?_
              refine sw_iload X dX6_pointsOf_92 5 rfl ?_
              refine sw_callVI0 (C := RX6) (As := [.int (J i)]) (rest := [.int (J tm)]) X (c_X6_dueAt l D k N ad st tl t u14 v15 g16 i hI (by omega)) (cwV 1 (sw_ts X) (sw_goodV gw4_186 gw4_188 gws_34 gw1_3 gw4_189) rfl rfl rfl (by decide +kernel) ⟨Nat.le_of_ble_eq_true rfl, Nat.le_of_ble_eq_true rfl⟩) 0 (ci := 6) rfl rfl rfl dX6_pointsOf_94 rfl rfl (Nat.le_of_ble_eq_true rfl) ⟨Nat.le_of_ble_eq_true rfl, Nat.le_of_ble_eq_true rfl⟩ (fun z19 w9 hp20 => ?_)
              obtain ⟨rfl, rfl⟩ := hp20
              refine sw_isub X dX6_pointsOf_97 ?_
              refine sw_istore (lv' := [(8, .int (J (tm - (gD st i)))), (7, .int (J tm)), (0, .ref (ad 0)), (1, .int (J c)), (2, .int (J sm)), (3, .int (J la2)), (4, .int (J i)), (5, .int (J (fF (aC st c) (clk st c) (gC st i) la))), (6, .int (J (st 16 ((10 * c) + i))))]) X dX6_pointsOf_98 (by decide) rfl ?_
              refine sw_iload X dX6_pointsOf_100 1 rfl ?_
              refine sw_iconst X dX6_pointsOf_102 ?_
              have jn21 : ∀ (ow : Int), (ow = if tm = -1 then 60 else if tm - gD st i < 0 then -2 * (tm - gD st i) else tm - gD st i) → SW pᵢ l eᵢ rm_X6_pointsOf sᵢ mᵢ argsᵢ belowᵢ methᵢ cᵢ 10 D Aᵢ 0 0 Qᵢ (mW k ad st tl t u14 v15 g16) 126 [(0, .ref (ad 0)), (1, .int (J c)), (2, .int (J sm)), (3, .int (J la2)), (4, .int (J i)), (5, .int (J (fF (aC st c) (clk st c) (gC st i) la))), (6, .int (J (st 16 ((10 * c) + i)))), (7, .int (J tm)), (8, .int (J (tm - (gD st i))))] [.int (J ow)] := by
                intro ow how
                refine sw_istore (lv' := [(9, .int (J ow)), (0, .ref (ad 0)), (1, .int (J c)), (2, .int (J sm)), (3, .int (J la2)), (4, .int (J i)), (5, .int (J (fF (aC st c) (clk st c) (gC st i) la))), (6, .int (J (st 16 ((10 * c) + i)))), (7, .int (J tm)), (8, .int (J (tm - (gD st i))))]) X dX6_pointsOf_126 (by decide) rfl ?_
                refine sw_iload_n X dX6_pointsOf_128 rfl 3 rfl ?_
                refine sw_iload X dX6_pointsOf_129 0 rfl ?_
                refine sw_bipush X dX6_pointsOf_131 (by decide +kernel) ?_
                have jn22 : ∀ (xx : Int), (xx = if ow > 60 then 60 else ow) → SW pᵢ l eᵢ rm_X6_pointsOf sᵢ mᵢ argsᵢ belowᵢ methᵢ cᵢ 10 D Aᵢ 0 0 Qᵢ (mW k ad st tl t u14 v15 g16) 143 [(0, .ref (ad 0)), (1, .int (J c)), (2, .int (J sm)), (3, .int (J la2)), (4, .int (J i)), (5, .int (J (fF (aC st c) (clk st c) (gC st i) la))), (6, .int (J (st 16 ((10 * c) + i)))), (7, .int (J tm)), (8, .int (J (tm - (gD st i)))), (9, .int (J ow))] [.int (J xx), .int (J sm)] := by
                  intro xx hxx
                  refine sw_iadd X dX6_pointsOf_143 ?_
                  refine sw_istore_n (lv' := [(2, .int (J (sm + xx))), (0, .ref (ad 0)), (1, .int (J c)), (3, .int (J la2)), (4, .int (J i)), (5, .int (J (fF (aC st c) (clk st c) (gC st i) la))), (6, .int (J (st 16 ((10 * c) + i)))), (7, .int (J tm)), (8, .int (J (tm - (gD st i)))), (9, .int (J ow))]) X dX6_pointsOf_144 rfl (by decide) rfl ?_
                  refine sw_iinc (lv' := [(4, .int (J (i + 1))), (2, .int (J (sm + xx))), (0, .ref (ad 0)), (1, .int (J c)), (3, .int (J la2)), (5, .int (J (fF (aC st c) (clk st c) (gC st i) la))), (6, .int (J (st 16 ((10 * c) + i)))), (7, .int (J tm)), (8, .int (J (tm - (gD st i)))), (9, .int (J ow))]) X dX6_pointsOf_145 4 rfl (by decide) rfl ?_
                  refine sw_goto (tgt := 15) X dX6_pointsOf_148 (by decide) ?_
                  refine sw_sub [2, 3, 1, 4, 0] rfl ?_
                  exact ih1 (n + 1) (sm + xx) la2 (i + 1) u14 v15 g16 (by omega) (by omega) (by omega) (by have e := pt_x htm how hxx; rw [sM_s, hs, e, hi]; omega) (pas_n hi hl hla2)
                refine sw_icmp_le (tgt := 141) X (by omega) (by omega) dX6_pointsOf_133 (by decide) (fun h23 => ?_) (fun h23 => ?_)
                · refine sw_iload X dX6_pointsOf_141 0 rfl ?_
                  refine sw_sub [1, 2, 3, 4, 5, 6, 7, 8, 9, 0] rfl ?_
                  exact jn22 ow (by split <;> omega)
                · refine sw_bipush X dX6_pointsOf_136 (by decide +kernel) ?_
                  refine sw_goto (tgt := 143) X dX6_pointsOf_138 (by decide) ?_
                  refine sw_sub [1, 2, 3, 4, 5, 6, 7, 8, 9, 0] rfl ?_
                  exact jn22 60 (by split <;> omega)
              refine sw_icmp_ne (tgt := 111) X (by omega) (by omega) dX6_pointsOf_103 (by decide) (fun h24 => ?_) (fun h24 => ?_)
              · refine sw_iload X dX6_pointsOf_111 0 rfl ?_
                refine sw_if_ge (tgt := 124) X (by omega) dX6_pointsOf_113 (by decide) (fun h25 => ?_) (fun h25 => ?_)
                · refine sw_iload X dX6_pointsOf_124 0 rfl ?_
                  refine sw_sub [2, 3, 4, 5, 6, 7, 8, 1, 0] rfl ?_
                  exact jn21 (tm - (gD st i)) (by split <;> (try split) <;> omega)
                · refine sw_bipush X dX6_pointsOf_116 (by decide +kernel) ?_
                  refine sw_iload X dX6_pointsOf_118 0 rfl ?_
                  refine sw_imul X dX6_pointsOf_120 ?_
                  refine sw_goto (tgt := 126) X dX6_pointsOf_121 (by decide) ?_
                  refine sw_sub [2, 3, 4, 5, 6, 7, 8, 1, 0] rfl ?_
                  exact jn21 ((-2) * (tm - (gD st i))) (by split <;> (try split) <;> omega)
              · refine sw_bipush X dX6_pointsOf_106 (by decide +kernel) ?_
                refine sw_goto (tgt := 126) X dX6_pointsOf_108 (by decide) ?_
                refine sw_sub [2, 3, 4, 5, 6, 7, 8, 1, 0] rfl ?_
                exact jn21 60 (by split <;> (try split) <;> omega)
            refine sw_icmp_ne (tgt := 85) X (by omega) (by omega) dX6_pointsOf_77 (by decide) (fun h26 => ?_) (fun h26 => ?_)
            · refine sw_iload X dX6_pointsOf_85 0 rfl ?_
              refine sw_sub [2, 3, 4, 1, 5, 6, 0] rfl ?_
              exact jn18 (st 16 ((10 * c) + i)) (by split <;> omega)
            · refine sw_iload X dX6_pointsOf_80 6 rfl ?_
              refine sw_goto (tgt := 87) X dX6_pointsOf_82 (by decide) ?_
              refine sw_sub [2, 3, 4, 1, 5, 6, 0] rfl ?_
              exact jn18 (fF (aC st c) (clk st c) (gC st i) la) (by split <;> omega)
          refine sw_icmp_ne (tgt := 57) X (by omega) (by omega) dX6_pointsOf_50 (by decide) (fun h27 => ?_) (fun h27 => ?_)
          · refine sw_iload X dX6_pointsOf_57 0 rfl ?_
            refine sw_sub [1, 2, 3, 4, 5, 0] rfl ?_
            exact jn17 (fF (aC st c) (clk st c) (gC st i) la) (by split <;> omega)
          · refine sw_iload_n X dX6_pointsOf_53 rfl 4 rfl ?_
            refine sw_goto (tgt := 59) X dX6_pointsOf_54 (by decide) ?_
            refine sw_sub [1, 2, 3, 4, 5, 0] rfl ?_
            exact jn17 la (by split <;> omega)
  refine sw_sub [3, 4, 2, 1, 0] rfl ?_
  exact lp2 (st 5 0 - (0 : Int)).toNat.succ 0 (10 * (st 15 c)) 0 0 x y h (by omega) (rfl) (by omega) (by simp [sM]) (rfl)
end
section
/-! the table's order has every place; what always holds stays so -/
theorem sM_le {f g : Nat → Int} : ∀ {n : Nat}, (∀ i, i < n → f i ≤ g i) → sM f n ≤ sM g n
  | 0, _ => Int.le_refl _
  | n + 1, h => by
    have h1 := sM_le (n := n) (fun i hi => h i (by omega))
    have h2 := h n (by omega)
    rw [sM_s, sM_s]
    omega
theorem sM_lt {f g : Nat → Int} {j : Nat} : ∀ {n : Nat}, (∀ i, i < n → f i ≤ g i) → j < n → f j + 1 ≤ g j → sM f n + 1 ≤ sM g n
  | 0, _, h, _ => absurd h (Nat.not_lt_zero j)
  | n + 1, h, hj, hq => by
    rw [sM_s, sM_s]
    by_cases e : j = n
    · have h1 := sM_le (n := n) (fun i hi => h i (by omega))
      rw [e] at hq
      omega
    · have h1 := sM_lt (n := n) (fun i hi => h i (by omega)) (by omega) hq
      have h2 := h n (by omega)
      omega
theorem rk1_b (f : Int → Int) (c o : Int) : 0 ≤ rk1 f c o ∧ rk1 f c o ≤ 1 := by unfold rk1; split <;> omega
theorem rk_b (f : Int → Int) (c : Int) (n : Nat) : 0 ≤ rk f c n ∧ rk f c n ≤ n := by
  have h := sM_b (f := fun o => rk1 f c (o : Int)) (a := 1) (n := n) (fun i _ => rk1_b f c i)
  unfold rk
  omega
theorem rk_s (f : Int → Int) (c : Int) (n : Nat) : rk f c (n + 1) = rk f c n + rk1 f c (n : Int) := rfl
theorem rk_le {f : Int → Int} {c d : Int} (n : Nat) (h : f c < f d ∨ (f c = f d ∧ c < d)) : rk f c n ≤ rk f d n :=
  sM_le (fun i _ => by
    show rk1 f c (i : Int) ≤ rk1 f d (i : Int)
    unfold rk1
    split <;> split <;> omega)
theorem rk_lt {f : Int → Int} {c : Nat} {d : Int} (n : Nat) (hc : c < n) (h : f (c : Int) < f d ∨ (f (c : Int) = f d ∧ (c : Int) < d)) : rk f (c : Int) n + 1 ≤ rk f d n :=
  sM_lt (j := c) (fun i _ => by
    show rk1 f (c : Int) (i : Int) ≤ rk1 f d (i : Int)
    unfold rk1
    split <;> split <;> omega) hc (by
    show rk1 f (c : Int) (c : Int) + 1 ≤ rk1 f d (c : Int)
    unfold rk1
    rw [if_neg (by omega), if_pos h]
    omega)
theorem rk_on (f : Int → Int) : ∀ (n : Nat) (a : Int), 0 ≤ a → a < n → ∃ c : Nat, c < n ∧ rk f (c : Int) n = a
  | 0, a, h0, h1 => absurd h1 (by omega)
  | n + 1, a, h0, h1 => by
    have hr := rk_b f (n : Int) n
    have hn : rk1 f (n : Int) (n : Int) = 0 := by unfold rk1; rw [if_neg (by omega)]
    rcases Int.lt_trichotomy a (rk f (n : Int) n) with q | q | q
    · obtain ⟨c, hc, e⟩ := rk_on f n a h0 (by omega)
      refine ⟨c, by omega, ?_⟩
      have hb : ¬ (f (n : Int) < f (c : Int) ∨ (f (n : Int) = f (c : Int) ∧ (n : Int) < c)) := fun z => by
        have := rk_le n z
        omega
      rw [rk_s, e]
      unfold rk1
      rw [if_neg hb]
      omega
    · exact ⟨n, by omega, by rw [rk_s, hn]; omega⟩
    · obtain ⟨c, hc, e⟩ := rk_on f n (a - 1) (by omega) (by omega)
      refine ⟨c, by omega, ?_⟩
      have hb : f (n : Int) < f (c : Int) ∨ (f (n : Int) = f (c : Int) ∧ (n : Int) < c) := by
        rcases Int.lt_trichotomy (f (n : Int)) (f (c : Int)) with z | z | z
        · exact Or.inl z
        · rcases Nat.lt_or_ge n c with y | y
          · exact Or.inr ⟨z, by omega⟩
          · have := rk_lt (f := f) (d := (n : Int)) n hc (Or.inr ⟨z.symm, by omega⟩)
            omega
        · have := rk_lt (f := f) (d := (n : Int)) n hc (Or.inl z)
          omega
      rw [rk_s, e]
      unfold rk1
      rw [if_pos hb]
      omega
/-- the car at a place of the table -/
def tab (st : ST) (a : Int) : Int := fF (fun c => rk (pts st) c (st 9 0).toNat) (st 9 0 - 1) a 0
theorem tab_is {N : Int} {st : ST} {a : Int} (hI : I6 N st) (h : 0 ≤ a ∧ a < st 9 0) : 0 ≤ tab st a ∧ tab st a < st 9 0 ∧ rk (pts st) (tab st a) (st 9 0).toNat = a ∧ ∀ m : Int, 0 ≤ m → m < tab st a → rk (pts st) m (st 9 0).toNat ≠ a := by
  have hA := I_ca hI
  rcases fF_is (fun c => rk (pts st) c (st 9 0).toNat) (e := st 9 0 - 1) (v := a) (a := 0) with ⟨h1, h2⟩ | ⟨h1, h2, h3, h4⟩
  · obtain ⟨c, hc, e⟩ := rk_on (pts st) (st 9 0).toNat a h.1 (by omega)
    exact absurd e (h2 c (by omega) (by omega))
  · exact ⟨h1, by show fF _ _ _ _ < _; omega, h3, h4⟩
/-- the first part of a kind in a car -/
def fPt (st : ST) (c q : Int) : Int := fF (fun j => if st 20 j = c ∧ st 18 j = q then 1 else 0) (st 17 0 - 1) 1 0
/-! what always holds -/
theorem I_mono {N M : Int} {st : ST} (h : I6 N st) (hM : N ≤ M) : I6 M st := by
  obtain ⟨h1, h2, h3, h4, h5, h6, h7, h8, h9, h10, h11, h12, h13, h14, h15, h16⟩ := h
  exact ⟨h1, h2, h3, h4, h5, h6, h7, h8, fun c a b => by have := h9 c a b; exact ⟨this.1, this.2.1, ⟨this.2.2.1.1, by omega⟩, this.2.2.2⟩, h10, h11, h12, h13, h14, h15, h16⟩
theorem up2_e (st : ST) (f : Nat) (i v : Int) : up2 st f i v f = upI (st f) i v := by unfold up2; rw [if_pos rfl]
theorem up2_n (st : ST) {f g : Nat} (i v : Int) (h : g ≠ f) : up2 st f i v g = st g := by unfold up2; rw [if_neg h]
theorem upI_e (f : Int → Int) (i v : Int) : upI f i v i = v := by unfold upI; rw [if_pos rfl]
theorem upI_n (f : Int → Int) {i j : Int} (v : Int) (h : j ≠ i) : upI f i v j = f j := by unfold upI; rw [if_neg h]
theorem upI_x (f : Int → Int) (i v j : Int) : upI f i v j = if j = i then v else f j := rfl
theorem up2_id (st : ST) (f : Nat) (i : Int) : up2 st f i (st f i) = st := by
  funext g j
  by_cases h : g = f
  · subst h
    rw [up2_e, upI_x]
    split
    · rename_i e; rw [e]
    · rfl
  · rw [up2_n _ _ _ h]
section Inv
variable {N : Int} {st : ST}
theorem I_setStart (h : I6 N st) {a : Int} (ha : 0 ≤ a ∧ a ≤ 255) (hE : st 2 0 = 0) (hC : st 9 0 = 0) : I6 N (up2 st 1 0 a) := by
  obtain ⟨h1, h2, h3, h4, h5, h6, h7, h8, h9, h10, h11, h12, h13, h14, h15, h16⟩ := h
  refine ⟨ha, h2, h3, h4, h5, h6, h7, h8, h9, h10, fun n hn => ?_, fun c n h0 h8 hn => ?_, h13, h14, h15, h16⟩
  · have hn : (n : Int) ≤ st 2 0 := hn
    rw [show n = 0 by omega]
    show (0 ≤ a / 16 ∧ a / 16 ≤ 15) ∧ 0 ≤ a % 16 ∧ a % 16 ≤ 15
    omega
  · have hn : (n : Int) ≤ st 10 c := hn
    have h9 := (h9 c h0 h8).2.2.2 (by omega)
    rw [show n = 0 by omega]
    show (0 ≤ a / 16 ∧ a / 16 ≤ 15) ∧ 0 ≤ a % 16 ∧ a % 16 ≤ 15
    omega
theorem I_cut (h : I6 N st) {a : Int} (ha : 0 ≤ a ∧ a ≤ 10) : I6 N (up2 st 8 0 a) := by
  obtain ⟨h1, h2, h3, h4, h5, h6, h7, h8, h9, h10, h11, h12, h13, h14, h15, h16⟩ := h
  exact ⟨h1, h2, h3, ha, h5, h6, h7, h8, h9, h10, h11, h12, h13, h14, h15, h16⟩
theorem I_enter (h : I6 N st) (hc : st 9 0 < 8) : I6 N (up2 st 9 0 (st 9 0 + 1)) := by
  obtain ⟨h1, h2, h3, h4, h5, h6, h7, h8, h9, h10, h11, h12, h13, h14, h15, h16⟩ := h
  refine ⟨h1, h2, h3, h4, ?_, h6, h7, h8, fun c a b => ?_, h10, h11, h12, h13, fun j a b => ?_, h15, h16⟩
  · show 0 ≤ st 9 0 + 1 ∧ st 9 0 + 1 ≤ 8
    omega
  · have := h9 c a b
    refine ⟨this.1, this.2.1, this.2.2.1, fun q => this.2.2.2 ?_⟩
    have q : st 9 0 + 1 ≤ c := q
    omega
  · have := h14 j a b
    show (0 ≤ st 18 j ∧ st 18 j ≤ 3) ∧ (-1 ≤ st 19 j ∧ st 19 j < st 9 0 + 1) ∧ -2 ≤ st 20 j ∧ st 20 j < st 9 0 + 1
    omega
theorem I_addEntry (h : I6 N st) {a b : Int} (ha : 1 ≤ a ∧ a ≤ 15) (hb : 0 ≤ b ∧ b ≤ 3) (hE : st 2 0 < 30)
    (hx : 0 ≤ (bP st (st 2 0).toNat).1 + dx (bP st (st 2 0).toNat).2.2 a ∧ (bP st (st 2 0).toNat).1 + dx (bP st (st 2 0).toNat).2.2 a ≤ 15) (hy : 0 ≤ (bP st (st 2 0).toNat).2.1 + dy (bP st (st 2 0).toNat).2.2 a ∧ (bP st (st 2 0).toNat).2.1 + dy (bP st (st 2 0).toNat).2.2 a ≤ 15) :
    I6 N (up2 (up2 (up2 st 3 (st 2 0) a) 4 (st 2 0) b) 2 0 (st 2 0 + 1)) := by
  obtain ⟨h1, h2, h3, h4, h5, h6, h7, h8, h9, h10, h11, h12, h13, h14, h15, h16⟩ := h
  have key : ∀ n : Nat, (n : Int) ≤ st 2 0 → bP (up2 (up2 (up2 st 3 (st 2 0) a) 4 (st 2 0) b) 2 0 (st 2 0 + 1)) n = bP st n := fun n hn => wP_c (fun i hi => by
    have e : ¬ (i : Int) = st 2 0 := by omega
    exact ⟨upI_n _ _ e, upI_n _ _ e⟩)
  refine ⟨h1, ?_, h3, h4, h5, h6, fun i a0 a1 => ?_, fun g a0 a1 => ?_, h9, h10, fun n hn => ?_, h12, h13, h14, h15, h16⟩
  · show 0 ≤ st 2 0 + 1 ∧ st 2 0 + 1 ≤ 30
    omega
  · have a1 : i < st 2 0 + 1 := a1
    show (1 ≤ upI (st 3) (st 2 0) a i ∧ upI (st 3) (st 2 0) a i ≤ 15) ∧ 0 ≤ upI (st 4) (st 2 0) b i ∧ upI (st 4) (st 2 0) b i ≤ 3
    rw [upI_x, upI_x]
    by_cases e : i = st 2 0
    · rw [if_pos e, if_pos e]; omega
    · rw [if_neg e, if_neg e]; exact h7 i a0 (by omega)
  · have := h8 g a0 a1
    show (0 ≤ st 6 g ∧ st 6 g < st 2 0 + 1) ∧ 0 ≤ st 7 g ∧ st 7 g ≤ 100
    omega
  · have hn : (n : Int) ≤ st 2 0 + 1 := hn
    by_cases e : (n : Int) ≤ st 2 0
    · rw [key n e]; exact h11 n e
    · have e2 : n = (st 2 0).toNat + 1 := by omega
      rw [e2, bP_s, key _ (by omega), show ((st 2 0).toNat : Int) = st 2 0 by omega, show up2 (up2 (up2 st 3 (st 2 0) a) 4 (st 2 0) b) 2 0 (st 2 0 + 1) 3 (st 2 0) = a from upI_e _ _ _]
      exact ⟨hx, hy⟩
theorem I_addGate (h : I6 N st) {a b : Int} (ha : 0 ≤ a ∧ a < st 2 0) (hb : 0 ≤ b ∧ b ≤ 100) (hG : st 5 0 < 10) (hs : st 5 0 = 0 ∨ st 6 (st 5 0 - 1) < a) : I6 N (up2 (up2 (up2 st 6 (st 5 0) a) 7 (st 5 0) b) 5 0 (st 5 0 + 1)) := by
  obtain ⟨h1, h2, h3, h4, h5, h6, h7, h8, h9, h10, h11, h12, h13, h14, h15, h16⟩ := h
  refine ⟨h1, h2, ?_, h4, h5, h6, h7, fun g a0 a1 => ?_, h9, h10, h11, h12, h13, h14, fun g a0 a1 => ?_, h16⟩
  · show 0 ≤ st 5 0 + 1 ∧ st 5 0 + 1 ≤ 10
    omega
  · have a1 : g < st 5 0 + 1 := a1
    show (0 ≤ upI (st 6) (st 5 0) a g ∧ upI (st 6) (st 5 0) a g < st 2 0) ∧ 0 ≤ upI (st 7) (st 5 0) b g ∧ upI (st 7) (st 5 0) b g ≤ 100
    rw [upI_x, upI_x]
    by_cases e : g = st 5 0
    · rw [if_pos e, if_pos e]; omega
    · rw [if_neg e, if_neg e]; exact h8 g a0 (by omega)
  · have a1 : g + 1 < st 5 0 + 1 := a1
    show upI (st 6) (st 5 0) a g < upI (st 6) (st 5 0) a (g + 1)
    rw [upI_x, upI_x, if_neg (by omega)]
    by_cases e : g + 1 = st 5 0
    · rw [if_pos e, show g = st 5 0 - 1 by omega]; omega
    · rw [if_neg e]; exact h15 g a0 (by omega)
theorem I_broken (h : I6 N st) {c a : Int} (hc : 0 ≤ c ∧ c < st 9 0) (ha : -1 ≤ a ∧ a ≤ 3) : I6 N (up2 st 14 c a) := by
  obtain ⟨h1, h2, h3, h4, h5, h6, h7, h8, h9, h10, h11, h12, h13, h14, h15, h16⟩ := h
  refine ⟨h1, h2, h3, h4, h5, h6, h7, h8, fun d a0 a1 => ?_, h10, h11, h12, h13, h14, h15, h16⟩
  have := h9 d a0 a1
  show (0 ≤ st 10 d ∧ st 10 d ≤ 60) ∧ (-1 ≤ upI (st 14) c a d ∧ upI (st 14) c a d ≤ 3) ∧ (0 ≤ st 15 d ∧ st 15 d ≤ N) ∧ (st 9 0 ≤ d → st 10 d = 0 ∧ upI (st 14) c a d = -1 ∧ st 15 d = 0 ∧ ∀ g : Int, 0 ≤ g → g < 10 → st 16 (10 * d + g) = -1)
  rw [upI_x]
  by_cases e : d = c
  · rw [if_pos e]; exact ⟨this.1, ha, this.2.2.1, fun q => by omega⟩
  · rw [if_neg e]; exact this
theorem I_lost (h : I6 N st) {c : Int} (hc : 0 ≤ c ∧ c < st 9 0) : I6 (N + 1) (up2 st 15 c (st 15 c + 1)) := by
  obtain ⟨h1, h2, h3, h4, h5, h6, h7, h8, h9, h10, h11, h12, h13, h14, h15, h16⟩ := h
  refine ⟨h1, h2, h3, h4, h5, h6, h7, h8, fun d a0 a1 => ?_, h10, h11, h12, h13, h14, h15, h16⟩
  have := h9 d a0 a1
  show (0 ≤ st 10 d ∧ st 10 d ≤ 60) ∧ (-1 ≤ st 14 d ∧ st 14 d ≤ 3) ∧ (0 ≤ upI (st 15) c (st 15 c + 1) d ∧ upI (st 15) c (st 15 c + 1) d ≤ N + 1) ∧ (st 9 0 ≤ d → st 10 d = 0 ∧ st 14 d = -1 ∧ upI (st 15) c (st 15 c + 1) d = 0 ∧ ∀ g : Int, 0 ≤ g → g < 10 → st 16 (10 * d + g) = -1)
  rw [upI_x]
  by_cases e : d = c
  · rw [if_pos e, ← e]; exact ⟨this.1, this.2.1, by omega, fun q => by omega⟩
  · rw [if_neg e]; exact ⟨this.1, this.2.1, by omega, this.2.2.2⟩
theorem I_record (h : I6 N st) {c g a : Int} (hc : 0 ≤ c ∧ c < st 9 0) (hg : 0 ≤ g ∧ g < 10) (ha : -1 ≤ a ∧ a ≤ 10000) : I6 N (up2 st 16 (10 * c + g) a) := by
  obtain ⟨h1, h2, h3, h4, h5, h6, h7, h8, h9, h10, h11, h12, h13, h14, h15, h16⟩ := h
  refine ⟨h1, h2, h3, h4, h5, h6, h7, h8, fun d a0 a1 => ?_, h10, h11, h12, fun d e a0 a1 a2 a3 => ?_, h14, h15, h16⟩
  · have := h9 d a0 a1
    refine ⟨this.1, this.2.1, this.2.2.1, fun q => ⟨(this.2.2.2 q).1, (this.2.2.2 q).2.1, (this.2.2.2 q).2.2.1, fun e b0 b1 => ?_⟩⟩
    have q : st 9 0 ≤ d := q
    show upI (st 16) (10 * c + g) a (10 * d + e) = -1
    rw [upI_n _ _ (by omega)]
    exact (this.2.2.2 q).2.2.2 e b0 b1
  · show -1 ≤ upI (st 16) (10 * c + g) a (10 * d + e) ∧ upI (st 16) (10 * c + g) a (10 * d + e) ≤ 10000
    rw [upI_x]
    split
    · exact ha
    · exact h13 d e a0 a1 a2 a3
theorem I_where (h : I6 N st) {j a : Int} (ha : -2 ≤ a ∧ a < st 9 0) : I6 N (up2 st 20 j a) := by
  obtain ⟨h1, h2, h3, h4, h5, h6, h7, h8, h9, h10, h11, h12, h13, h14, h15, h16⟩ := h
  refine ⟨h1, h2, h3, h4, h5, h6, h7, h8, h9, h10, h11, h12, h13, fun i a0 a1 => ?_, h15, h16⟩
  have := h14 i a0 a1
  show (0 ≤ st 18 i ∧ st 18 i ≤ 3) ∧ (-1 ≤ st 19 i ∧ st 19 i < st 9 0) ∧ -2 ≤ upI (st 20) j a i ∧ upI (st 20) j a i < st 9 0
  rw [upI_x]
  split <;> omega
theorem I_user (h : I6 N st) {j a : Int} (ha : -1 ≤ a ∧ a < 8) : I6 N (up2 st 21 j a) := by
  obtain ⟨h1, h2, h3, h4, h5, h6, h7, h8, h9, h10, h11, h12, h13, h14, h15, h16⟩ := h
  refine ⟨h1, h2, h3, h4, h5, h6, h7, h8, h9, h10, h11, h12, h13, h14, h15, fun i a0 a1 => ?_⟩
  have := h16 i a0 a1
  show -1 ≤ upI (st 21) j a i ∧ upI (st 21) j a i < 8
  rw [upI_x]
  split <;> omega
theorem I_bring (h : I6 N st) {a b : Int} (ha : 0 ≤ a ∧ a ≤ 3) (hb : -1 ≤ b ∧ b < st 9 0) (hP : st 17 0 < 40) : I6 N (up2 (up2 (up2 (up2 st 18 (st 17 0) a) 19 (st 17 0) b) 20 (st 17 0) b) 17 0 (st 17 0 + 1)) := by
  obtain ⟨h1, h2, h3, h4, h5, h6, h7, h8, h9, h10, h11, h12, h13, h14, h15, h16⟩ := h
  refine ⟨h1, h2, h3, h4, h5, ?_, h7, h8, h9, h10, h11, h12, h13, fun i a0 a1 => ?_, h15, h16⟩
  · show 0 ≤ st 17 0 + 1 ∧ st 17 0 + 1 ≤ 40
    omega
  · have a1 : i < st 17 0 + 1 := a1
    show (0 ≤ upI (st 18) (st 17 0) a i ∧ upI (st 18) (st 17 0) a i ≤ 3) ∧ (-1 ≤ upI (st 19) (st 17 0) b i ∧ upI (st 19) (st 17 0) b i < st 9 0) ∧ -2 ≤ upI (st 20) (st 17 0) b i ∧ upI (st 20) (st 17 0) b i < st 9 0
    rw [upI_x, upI_x, upI_x]
    by_cases e : i = st 17 0
    · rw [if_pos e, if_pos e, if_pos e]; omega
    · rw [if_neg e, if_neg e, if_neg e]
      have := h14 i a0 (by omega)
      omega
theorem aP_idx {c d i n : Int} (hd : 0 ≤ d ∧ d < 8) (hc : 0 ≤ c ∧ c < 8) (hi : 0 ≤ i ∧ i < 60) (hn : 0 ≤ n ∧ n < 60) (h : 60 * d + i = 60 * c + n) : d = c ∧ i = n := by omega
theorem tP_aP (h : I6 N st) {c d q r e : Int} (hc : 0 ≤ c ∧ c < st 9 0) (hn : st 10 c < 60) (he : 0 ≤ e ∧ e < 8) (n : Nat) (hq : (n : Int) ≤ st 10 e) : tP (aP st c d q r) e n = tP st e n := by
  have hb := I_c h c hc.1 (by have := I_ca h; omega)
  have hb2 := I_c h e he.1 he.2
  have hA := I_ca h
  refine wP_c (fun i hi => ?_)
  have e1 : ¬ 60 * e + (i : Int) = 60 * c + st 10 c := fun z => by
    have := aP_idx he ⟨hc.1, by omega⟩ (i := (i : Int)) ⟨by omega, by omega⟩ ⟨hb.1.1, hn⟩ z
    rw [this.1] at hq
    omega
  refine ⟨?_, upI_n _ _ e1⟩
  unfold tD
  show (if upI (st 11) (60 * c + st 10 c) d (60 * e + (i : Int)) = -1 then 0 else upI (st 12) (60 * c + st 10 c) q (60 * e + (i : Int))) = _
  rw [upI_n _ _ e1, upI_n _ _ e1]
theorem tM_aP (h : I6 N st) {c d q r e : Int} (hc : 0 ≤ c ∧ c < st 9 0) (hn : st 10 c < 60) (he : 0 ≤ e ∧ e < 8) (n : Nat) (hq : (n : Int) ≤ st 10 e) : tM (aP st c d q r) e n = tM st e n := by
  have hb := I_c h c hc.1 (by have := I_ca h; omega)
  have hb2 := I_c h e he.1 he.2
  have hA := I_ca h
  refine sM_c (fun i hi => ?_)
  have e1 : ¬ 60 * e + (i : Int) = 60 * c + st 10 c := fun z => by
    have := aP_idx he ⟨hc.1, by omega⟩ (i := (i : Int)) ⟨by omega, by omega⟩ ⟨hb.1.1, hn⟩ z
    rw [this.1] at hq
    omega
  exact upI_n _ _ e1
/-- a piece more -/
theorem I_piece (h : I6 N st) {c d q r : Int} (hc : 0 ≤ c ∧ c < st 9 0) (hn : st 10 c < 60) (hd : (d = -1 ∧ 1 ≤ q ∧ q ≤ 100) ∨ (0 ≤ d ∧ d ≤ 15 ∧ q = d)) (hr : 0 ≤ r ∧ r ≤ 3)
    (hx : 0 ≤ (tP st c (nP st c)).1 + dx (tP st c (nP st c)).2.2 (if d = -1 then 0 else q) ∧ (tP st c (nP st c)).1 + dx (tP st c (nP st c)).2.2 (if d = -1 then 0 else q) ≤ 15)
    (hy : 0 ≤ (tP st c (nP st c)).2.1 + dy (tP st c (nP st c)).2.2 (if d = -1 then 0 else q) ∧ (tP st c (nP st c)).2.1 + dy (tP st c (nP st c)).2.2 (if d = -1 then 0 else q) ≤ 15) : I6 N (aP st c d q r) := by
  have key := fun (e : Int) (he : 0 ≤ e ∧ e < 8) => tP_aP h (d := d) (q := q) (r := r) hc hn he
  have hnP := nP_e h hc.1 (by have := I_ca h; omega)
  obtain ⟨h1, h2, h3, h4, h5, h6, h7, h8, h9, h10, h11, h12, h13, h14, h15, h16⟩ := h
  have hb := h9 c hc.1 (by omega)
  refine ⟨h1, h2, h3, h4, h5, h6, h7, h8, fun e a0 a1 => ?_, fun e i a0 a1 a2 a3 => ?_, h11, fun e n a0 a1 a2 => ?_, h13, h14, h15, h16⟩
  · have := h9 e a0 a1
    show (0 ≤ upI (st 10) c (st 10 c + 1) e ∧ upI (st 10) c (st 10 c + 1) e ≤ 60) ∧ (-1 ≤ st 14 e ∧ st 14 e ≤ 3) ∧ (0 ≤ st 15 e ∧ st 15 e ≤ N) ∧ (st 9 0 ≤ e → upI (st 10) c (st 10 c + 1) e = 0 ∧ st 14 e = -1 ∧ st 15 e = 0 ∧ ∀ g : Int, 0 ≤ g → g < 10 → st 16 (10 * e + g) = -1)
    rw [upI_x]
    by_cases z : e = c
    · rw [if_pos z]; exact ⟨by omega, this.2.1, this.2.2.1, fun y => by omega⟩
    · rw [if_neg z]; exact this
  · have a3 : i < upI (st 10) c (st 10 c + 1) e := a3
    have hb2 := h9 e a0 a1
    show ((upI (st 11) (60 * c + st 10 c) d (60 * e + i) = -1 ∧ 1 ≤ upI (st 12) (60 * c + st 10 c) q (60 * e + i) ∧ upI (st 12) (60 * c + st 10 c) q (60 * e + i) ≤ 100) ∨ (0 ≤ upI (st 11) (60 * c + st 10 c) d (60 * e + i) ∧ upI (st 11) (60 * c + st 10 c) d (60 * e + i) ≤ 15 ∧ upI (st 12) (60 * c + st 10 c) q (60 * e + i) = upI (st 11) (60 * c + st 10 c) d (60 * e + i))) ∧ 0 ≤ upI (st 13) (60 * c + st 10 c) r (60 * e + i) ∧ upI (st 13) (60 * c + st 10 c) r (60 * e + i) ≤ 3
    rw [upI_x] at a3
    rw [upI_x, upI_x, upI_x]
    by_cases z : 60 * e + i = 60 * c + st 10 c
    · rw [if_pos z, if_pos z, if_pos z]; exact ⟨hd, hr⟩
    · rw [if_neg z, if_neg z, if_neg z]
      refine h10 e i a0 a1 a2 ?_
      by_cases y : e = c
      · rw [if_pos y] at a3; subst y; omega
      · rw [if_neg y] at a3; exact a3
  · have a2 : (n : Int) ≤ upI (st 10) c (st 10 c + 1) e := a2
    by_cases z : (n : Int) ≤ st 10 e
    · rw [key e ⟨a0, a1⟩ n z]; exact h12 e n a0 a1 z
    · rw [upI_x] at a2
      by_cases y : e = c
      · subst y
        rw [if_pos rfl] at a2
        have e2 : n = nP st e + 1 := by omega
        rw [e2, tP_s, key e ⟨a0, a1⟩ _ (by omega)]
        have hD : tD (aP st e d q r) e (nP st e) = if d = -1 then 0 else q := by
          unfold tD
          show (if upI (st 11) (60 * e + st 10 e) d (60 * e + (nP st e : Int)) = -1 then 0 else upI (st 12) (60 * e + st 10 e) q (60 * e + (nP st e : Int))) = _
          rw [hnP, upI_e, upI_e]
        rw [hD]
        exact ⟨hx, hy⟩
      · rw [if_neg y] at a2
        exact absurd a2 z
theorem I_mendP (h : I6 N st) {c p q : Int} (hc : 0 ≤ c ∧ c < st 9 0) (hn : st 10 c < 60) (hq : 1 ≤ q ∧ q ≤ 100) : I6 N (aP (up2 (up2 st 20 p (-2)) 21 p c) c (-1) q 0) := by
  have hA := I_ca h
  have hb := I_c h c hc.1 (by omega)
  have ht := I_t h c (nP st c) hc.1 (by omega) (by rw [nP_e h hc.1 (by omega)]; omega)
  have h2 : I6 N (up2 (up2 st 20 p (-2)) 21 p c) := I_user (I_where h ⟨by omega, by omega⟩) ⟨by omega, by omega⟩
  refine I_piece h2 hc hn (Or.inl ⟨rfl, hq.1, hq.2⟩) ⟨by omega, by omega⟩ ?_ ?_
  · rw [if_pos rfl, dx_0, Int.add_zero]
    exact ht.1
  · rw [if_pos rfl, dy_0, Int.add_zero]
    exact ht.2
theorem isF_dn {f : Int → Int} {e v a r x : Int} (h : isF f e v (a + 1) r) (ha : a ≤ e) (hx : (f a = v ∧ x = a) ∨ (f a ≠ v ∧ x = r)) : isF f e v a x := by
  rcases hx with ⟨h1, rfl⟩ | ⟨h1, rfl⟩
  · exact Or.inr ⟨Int.le_refl _, ha, h1, fun m q1 q2 => by omega⟩
  · rcases h with ⟨q1, q2⟩ | ⟨q1, q2, q3, q4⟩
    · refine Or.inl ⟨q1, fun m g1 g2 => ?_⟩
      by_cases e : m = a
      · rw [e]; exact h1
      · exact q2 m (by omega) g2
    · refine Or.inr ⟨by omega, q2, q3, fun m g1 g2 => ?_⟩
      by_cases e : m = a
      · rw [e]; exact h1
      · exact q4 m (by omega) g2
theorem pts_bb (h : I6 N st) {c : Int} (hc : 0 ≤ c ∧ c < 8) : 0 ≤ pts st c ∧ pts st c ≤ 10 * N + 600 := by
  have h1 := (I_c h c hc.1 hc.2).2.2.1
  have h2 := I_ga h
  have h3 := I_cu h
  have h4 := pts_b h hc (nG st) (by unfold nG; split <;> omega)
  unfold pts
  omega
theorem fol_b (h : I6 N st) {c : Int} : ∀ n : Nat, (0 ≤ (folS st c n).1 ∧ (folS st c n).1 ≤ st 2 0) ∧ ((folS st c n).2 = 0 ∨ (folS st c n).2 = 1)
  | 0 => by
    have := I_en h
    exact ⟨⟨Int.le_refl 0, this.1⟩, Or.inl rfl⟩
  | n + 1 => by
    have h1 := fol_b h (c := c) n
    unfold folS
    split
    · split
      · exact ⟨h1.1, Or.inr rfl⟩
      · rename_i h2
        exact ⟨⟨by dsimp only; omega, by dsimp only; omega⟩, Or.inl rfl⟩
    · exact h1
end Inv
end
section
/-! what each call answers: which exception (0: none), the state behind it, the answer -/
def cOk (st : ST) (c : Int) : Prop := 0 ≤ c ∧ c < st 9 0
theorem cPl_b {N : Int} {st : ST} {a : Int} (hI : I6 N st) (ha : a = -1 ∨ (0 ≤ a ∧ a < 8)) : 0 ≤ cPl st a ∧ cPl st a ≤ 255 := by
  have h1 := I_st hI
  unfold cPl
  split
  · exact h1
  · rename_i h
    have h8 : 0 ≤ a ∧ a < 8 := by omega
    have h2 := pA_full hI h8.1 h8.2 (m := clk st a) (nP st a) (by rw [nP_e hI h8.1 h8.2]; omega) (Int.le_refl _)
    have h3 := I_t hI a (nP st a) h8.1 h8.2 (by rw [nP_e hI h8.1 h8.2]; omega)
    unfold aC
    rw [h2]
    dsimp only
    omega
def kSetStart (st : ST) (a : Int) : Int := if ¬ (0 ≤ a ∧ a ≤ 255) then 1 else if st 2 0 > 0 ∨ st 9 0 > 0 then 2 else 0
def kAddEntry (st : ST) (a b : Int) : Int := if ¬ ((1 ≤ a ∧ a ≤ 15) ∧ 0 ≤ b ∧ b ≤ 3) then 1 else if st 2 0 = 30 ∨ ¬ ((0 ≤ (bP st (st 2 0).toNat).1 + dx (bP st (st 2 0).toNat).2.2 a ∧ (bP st (st 2 0).toNat).1 + dx (bP st (st 2 0).toNat).2.2 a ≤ 15) ∧ 0 ≤ (bP st (st 2 0).toNat).2.1 + dy (bP st (st 2 0).toNat).2.2 a ∧ (bP st (st 2 0).toNat).2.1 + dy (bP st (st 2 0).toNat).2.2 a ≤ 15) then 2 else 0
def sAddEntry (st : ST) (a b : Int) : ST := up2 (up2 (up2 st 3 (st 2 0) a) 4 (st 2 0) b) 2 0 (st 2 0 + 1)
def vAddEntry (st : ST) (a : Int) : Int := 16 * ((bP st (st 2 0).toNat).1 + dx (bP st (st 2 0).toNat).2.2 a) + ((bP st (st 2 0).toNat).2.1 + dy (bP st (st 2 0).toNat).2.2 a)
def kAddGate (st : ST) (a b : Int) : Int := if ¬ (0 ≤ a ∧ a < st 2 0) then 1 else if ¬ ((0 ≤ b ∧ b ≤ 100) ∧ (st 5 0 = 0 ∨ st 6 (st 5 0 - 1) < a)) then 2 else if st 5 0 = 10 then 3 else 0
def sAddGate (st : ST) (a b : Int) : ST := up2 (up2 (up2 st 6 (st 5 0) a) 7 (st 5 0) b) 5 0 (st 5 0 + 1)
def kCut (a : Int) : Int := if 0 ≤ a ∧ a ≤ 10 then 0 else 1
def kEnter (st : ST) : Int := if st 9 0 = 8 then 1 else 0
def onG (st : ST) (c a : Int) : Prop := (0 ≤ (tP st c (nP st c)).1 + dx (tP st c (nP st c)).2.2 a ∧ (tP st c (nP st c)).1 + dx (tP st c (nP st c)).2.2 a ≤ 15) ∧ 0 ≤ (tP st c (nP st c)).2.1 + dy (tP st c (nP st c)).2.2 a ∧ (tP st c (nP st c)).2.1 + dy (tP st c (nP st c)).2.2 a ≤ 15
def kDrive (st : ST) (c a b : Int) : Int := if ¬ (0 ≤ c ∧ c < st 9 0) then 1 else if ¬ ((0 ≤ a ∧ a ≤ 15) ∧ 0 ≤ b ∧ b ≤ 3) then 2 else if ¬ ((st 14 c = -1 ∧ st 10 c < 60) ∧ (0 ≤ (tP st c (nP st c)).1 + dx (tP st c (nP st c)).2.2 a ∧ (tP st c (nP st c)).1 + dx (tP st c (nP st c)).2.2 a ≤ 15) ∧ 0 ≤ (tP st c (nP st c)).2.1 + dy (tP st c (nP st c)).2.2 a ∧ (tP st c (nP st c)).2.1 + dy (tP st c (nP st c)).2.2 a ≤ 15) then 3 else 0
def kStand (st : ST) (c a : Int) : Int := if ¬ (0 ≤ c ∧ c < st 9 0) then 1 else if ¬ (1 ≤ a ∧ a ≤ 100) then 2 else if st 10 c = 60 then 3 else 0
def kBreak (st : ST) (c a : Int) : Int := if ¬ ((0 ≤ c ∧ c < st 9 0) ∧ 0 ≤ a ∧ a ≤ 3) then 1 else if st 14 c = -1 then 0 else 2
def kMend (st : ST) (c : Int) : Int := if ¬ (0 ≤ c ∧ c < st 9 0) then 1 else if ¬ (st 14 c ≠ -1 ∧ st 10 c < 60) then 2 else if fPt st c (st 14 c) = -1 then 3 else 0
def sMend (st : ST) (c : Int) : ST := up2 (aP (up2 (up2 st 20 (fPt st c (st 14 c)) (-2)) 21 (fPt st c (st 14 c)) c) c (-1) (3 * (st 14 c + 1)) 0) 14 c (-1)
def kBring (st : ST) (a b : Int) : Int := if ¬ ((0 ≤ a ∧ a ≤ 3) ∧ (b = -1 ∨ (0 ≤ b ∧ b < st 9 0))) then 1 else if st 17 0 = 40 then 2 else 0
def sBring (st : ST) (a b : Int) : ST := up2 (up2 (up2 (up2 st 18 (st 17 0) a) 19 (st 17 0) b) 20 (st 17 0) b) 17 0 (st 17 0 + 1)
def kHand (st : ST) (a b : Int) : Int := if ¬ ((0 ≤ a ∧ a < st 17 0) ∧ (b = -1 ∨ (0 ≤ b ∧ b < st 9 0))) then 1 else if ¬ ((st 20 a ≠ -2 ∧ st 20 a ≠ b) ∧ cPl st (st 20 a) = cPl st b) then 2 else 0
def kRecord (st : ST) (c g a : Int) : Int := if ¬ ((0 ≤ c ∧ c < st 9 0) ∧ 0 ≤ g ∧ g < st 5 0) then 1 else if 0 ≤ a ∧ a ≤ 10000 then 0 else 2
def kAppeal (st : ST) (c g : Int) : Int := if ¬ ((0 ≤ c ∧ c < st 9 0) ∧ 0 ≤ g ∧ g < st 5 0) then 1 else if st 16 (10 * c + g) = -1 then 2 else 0
def sAppeal (st : ST) (c g : Int) : ST := if st 16 (10 * c + g) = pas st c g then up2 st 15 c (st 15 c + 1) else up2 st 16 (10 * c + g) (-1)
def vAppeal (st : ST) (c g : Int) : Int := if st 16 (10 * c + g) = pas st c g then 0 else 1
def kGate (st : ST) (g : Int) : Int := if 0 ≤ g ∧ g < st 5 0 then 0 else 1
def kCar (st : ST) (c : Int) : Int := if 0 ≤ c ∧ c < st 9 0 then 0 else 1
def kPart (st : ST) (j : Int) : Int := if 0 ≤ j ∧ j < st 17 0 then 0 else 1
def kCellAt (st : ST) (c a : Int) : Int := if ¬ (0 ≤ c ∧ c < st 9 0) then 1 else if 0 ≤ a ∧ a ≤ clk st c then 0 else 2
def kCG (st : ST) (c g : Int) : Int := if (0 ≤ c ∧ c < st 9 0) ∧ 0 ≤ g ∧ g < st 5 0 then 0 else 1
def vBroken (st : ST) (c : Int) : Int := if st 14 c = -1 then 0 else 1
/-- behind a call of the reference that answers K (a place among its exceptions, or 0) with V, and comes to S -/
def oP (k : Nat → ClassId) (ad : Nat → Nat) (st S : ST) (K V : Int) : Int → va_W → Prop := fun z w' =>
  (∃ (tl' : Int → Int) (q x' y' h' : Int), w' = mW k ad st tl' q x' y' h' ∧ q ≠ 0 ∧ q = K) ∨ (∃ (tl' : Int → Int) (x' y' h' : Int), w' = mW k ad S tl' 0 x' y' h' ∧ K = 0 ∧ z = V)
abbrev rm_X6_setStart : Room := { frames := 1, cells := 0, slots := 0, locals := 22 }
set_option maxHeartbeats 4000000 in
set_option maxRecDepth 100000 in
theorem c_X6_setStart (l : Launch) (D : va_G) (k : Nat → ClassId) (N : Int) (ad : Nat → Nat) (st : Nat → Int → Int) (tl : Int → Int) (t x y h : Int) (a : Int) (hI : I6 N st) (h_a : (-2147483648 ≤ a ∧ a < 2147483648)) : CI l yX6_setStart cX6_setStart 3 (some .int) rm_X6_setStart D k [.ref (ad 0), .int (J a)] (mW k ad st tl t x y h) (oP k ad st (up2 st 1 0 a) (kSetStart st a) (st 1 0)) := by
  refine CI.of (by decide +kernel) (Nat.le_of_ble_eq_true rfl) (fun pᵢ eᵢ sᵢ mᵢ argsᵢ belowᵢ methᵢ cᵢ Aᵢ Qᵢ X RI => ?_)
  show SW pᵢ l eᵢ rm_X6_setStart sᵢ mᵢ argsᵢ belowᵢ methᵢ cᵢ 3 D Aᵢ 0 0 Qᵢ (mW k ad st tl t x y h) 0 [(0, .ref (ad 0)), (1, .int (J a))] []
  have hS_ := I_st hI
  have hE_ := I_en hI
  have hG_ := I_ga hI
  have hU_ := I_cu hI
  have hC_ := I_ca hI
  have hP_ := I_pa hI
  refine sw_aload_n X dX6_setStart_0 rfl 0 rfl ?_
  refine sw_iload_n X dX6_setStart_1 rfl 1 rfl ?_
  refine sw_iconst X dX6_setStart_2 ?_
  refine sw_sipush X dX6_setStart_3 (by decide +kernel) ?_
  refine sw_callSI0 (As := [.int (J a), .int (J 0), .int (J 255)]) (rest := [.ref (ad 0)]) X (c_X6_in l D k (mW k ad st tl t x y h) a 0 255 (by omega)) (va_cwS 3 (sw_ts X) (sw_goodS gw4_55 gw4_56 gw1_3 gw4_57) rfl rfl rfl (by decide +kernel) ⟨Nat.le_of_ble_eq_true rfl, Nat.le_of_ble_eq_true rfl⟩) dX6_setStart_6 rfl rfl (Nat.le_of_ble_eq_true rfl) ⟨Nat.le_of_ble_eq_true rfl, Nat.le_of_ble_eq_true rfl⟩ (fun z1 w9 hp2 => ?_)
  obtain ⟨rfl, hp2⟩ := hp2
  refine sw_if_ne (tgt := 16) X (by omega) dX6_setStart_9 (by decide) (fun h3 => ?_) (fun h3 => ?_)
  · refine sw_aload_n X dX6_setStart_16 rfl 0 rfl ?_
    refine sw_get (q0 := 0) (v := .int (J (st 2 0))) X iw_X6 rfl rfl 2 (by decide) gw3_210 rfl rfl dX6_setStart_17 ?_
    refine sw_if_gt (tgt := 30) X (by omega) dX6_setStart_20 (by decide) (fun h4 => ?_) (fun h4 => ?_)
    · refine sw_iconst X dX6_setStart_30 ?_
      refine sw_goto (tgt := 35) X dX6_setStart_31 (by decide) ?_
      refine sw_callVI0 (C := RX6) (As := [.int (J 2)]) (rest := []) X (c_X6_goesWell l D k ad st tl t x y h 2 (by omega)) (cwV 1 (sw_ts X) (sw_goodV gw4_58 gw4_60 gws_17 gw1_3 gw4_61) rfl rfl rfl (by decide +kernel) ⟨Nat.le_of_ble_eq_true rfl, Nat.le_of_ble_eq_true rfl⟩) 0 (ci := 6) rfl rfl rfl dX6_setStart_35 rfl rfl (Nat.le_of_ble_eq_true rfl) ⟨Nat.le_of_ble_eq_true rfl, Nat.le_of_ble_eq_true rfl⟩ (fun z5 w9 hp6 => ?_)
      obtain ⟨rfl, hp6⟩ := hp6
      obtain rfl : z5 = 0 := by omega
      clear hp6
      refine sw_if_ne (tgt := 43) X (by omega) dX6_setStart_38 (by decide) (fun h7 => ?_) (fun h7 => ?_)
      · exfalso; revert h7; decide
      · refine sw_iconst X dX6_setStart_41 ?_
        exact RI _ _ _ _ _ _ dX6_setStart_42 (by decide) (by decide) rfl (Or.inl ⟨_, _, _, _, _, rfl, by decide, by unfold kSetStart; rw [if_neg (by omega), if_pos (by omega)]⟩)
    · refine sw_aload_n X dX6_setStart_23 rfl 0 rfl ?_
      refine sw_get (q0 := 0) (v := .int (J (st 9 0))) X iw_X6 rfl rfl 9 (by decide) gw3_217 rfl rfl dX6_setStart_24 ?_
      refine sw_if_le (tgt := 34) X (by omega) dX6_setStart_27 (by decide) (fun h8 => ?_) (fun h8 => ?_)
      · refine sw_iconst X dX6_setStart_34 ?_
        refine sw_callVI0 (C := RX6) (As := [.int (J 0)]) (rest := []) X (c_X6_goesWell l D k ad st tl t x y h 0 (by omega)) (cwV 1 (sw_ts X) (sw_goodV gw4_58 gw4_60 gws_17 gw1_3 gw4_61) rfl rfl rfl (by decide +kernel) ⟨Nat.le_of_ble_eq_true rfl, Nat.le_of_ble_eq_true rfl⟩) 0 (ci := 6) rfl rfl rfl dX6_setStart_35 rfl rfl (Nat.le_of_ble_eq_true rfl) ⟨Nat.le_of_ble_eq_true rfl, Nat.le_of_ble_eq_true rfl⟩ (fun z9 w9 hp10 => ?_)
        obtain ⟨rfl, hp10⟩ := hp10
        obtain rfl : z9 = 1 := by omega
        clear hp10
        refine sw_if_ne (tgt := 43) X (by omega) dX6_setStart_38 (by decide) (fun h11 => ?_) (fun h11 => ?_)
        · refine sw_aload_n X dX6_setStart_43 rfl 0 rfl ?_
          refine sw_get (q0 := 0) (v := .int (J (st 1 0))) X iw_X6 rfl rfl 1 (by decide) gw3_209 rfl rfl dX6_setStart_44 ?_
          refine sw_istore_n (lv' := [(2, .int (J (st 1 0))), (0, .ref (ad 0)), (1, .int (J a))]) X dX6_setStart_47 rfl (by decide) rfl ?_
          refine sw_aload_n X dX6_setStart_48 rfl 1 rfl ?_
          refine sw_iload_n X dX6_setStart_49 rfl 2 rfl ?_
          refine sw_put (q0 := 0) X iw_X6 tyX6 tyX6_ok nmX6 rfl rfl 1 (by decide) gw3_209 rfl rfl (ty := .int) (by decide +kernel) rfl rfl (Nat.le_of_ble_eq_true rfl) mW_p1 dX6_setStart_50 ?_
          refine sw_iload_n X dX6_setStart_53 rfl 0 rfl ?_
          exact RI _ _ _ _ _ _ dX6_setStart_54 (by decide) (by decide) rfl (Or.inr ⟨_, _, _, _, rfl, by unfold kSetStart; rw [if_neg (by omega), if_neg (by omega)], rfl⟩)
        · exfalso; revert h11; decide
      · refine sw_iconst X dX6_setStart_30 ?_
        refine sw_goto (tgt := 35) X dX6_setStart_31 (by decide) ?_
        refine sw_callVI0 (C := RX6) (As := [.int (J 2)]) (rest := []) X (c_X6_goesWell l D k ad st tl t x y h 2 (by omega)) (cwV 1 (sw_ts X) (sw_goodV gw4_58 gw4_60 gws_17 gw1_3 gw4_61) rfl rfl rfl (by decide +kernel) ⟨Nat.le_of_ble_eq_true rfl, Nat.le_of_ble_eq_true rfl⟩) 0 (ci := 6) rfl rfl rfl dX6_setStart_35 rfl rfl (Nat.le_of_ble_eq_true rfl) ⟨Nat.le_of_ble_eq_true rfl, Nat.le_of_ble_eq_true rfl⟩ (fun z12 w9 hp13 => ?_)
        obtain ⟨rfl, hp13⟩ := hp13
        obtain rfl : z12 = 0 := by omega
        clear hp13
        refine sw_if_ne (tgt := 43) X (by omega) dX6_setStart_38 (by decide) (fun h14 => ?_) (fun h14 => ?_)
        · exfalso; revert h14; decide
        · refine sw_iconst X dX6_setStart_41 ?_
          exact RI _ _ _ _ _ _ dX6_setStart_42 (by decide) (by decide) rfl (Or.inl ⟨_, _, _, _, _, rfl, by decide, by unfold kSetStart; rw [if_neg (by omega), if_pos (by omega)]⟩)
  · refine sw_iconst X dX6_setStart_12 ?_
    refine sw_goto (tgt := 35) X dX6_setStart_13 (by decide) ?_
    refine sw_callVI0 (C := RX6) (As := [.int (J 1)]) (rest := []) X (c_X6_goesWell l D k ad st tl t x y h 1 (by omega)) (cwV 1 (sw_ts X) (sw_goodV gw4_58 gw4_60 gws_17 gw1_3 gw4_61) rfl rfl rfl (by decide +kernel) ⟨Nat.le_of_ble_eq_true rfl, Nat.le_of_ble_eq_true rfl⟩) 0 (ci := 6) rfl rfl rfl dX6_setStart_35 rfl rfl (Nat.le_of_ble_eq_true rfl) ⟨Nat.le_of_ble_eq_true rfl, Nat.le_of_ble_eq_true rfl⟩ (fun z15 w9 hp16 => ?_)
    obtain ⟨rfl, hp16⟩ := hp16
    obtain rfl : z15 = 0 := by omega
    clear hp16
    refine sw_if_ne (tgt := 43) X (by omega) dX6_setStart_38 (by decide) (fun h17 => ?_) (fun h17 => ?_)
    · exfalso; revert h17; decide
    · refine sw_iconst X dX6_setStart_41 ?_
      exact RI _ _ _ _ _ _ dX6_setStart_42 (by decide) (by decide) rfl (Or.inl ⟨_, _, _, _, _, rfl, by decide, by unfold kSetStart; rw [if_pos (by omega)]⟩)
abbrev rm_X6_cut : Room := { frames := 1, cells := 0, slots := 0, locals := 22 }
set_option maxHeartbeats 4000000 in
set_option maxRecDepth 100000 in
theorem c_X6_cut (l : Launch) (D : va_G) (k : Nat → ClassId) (N : Int) (ad : Nat → Nat) (st : Nat → Int → Int) (tl : Int → Int) (t x y h : Int) (a : Int) (hI : I6 N st) (h_a : (-2147483648 ≤ a ∧ a < 2147483648)) : CI l yX6_cut cX6_cut 3 (some .int) rm_X6_cut D k [.ref (ad 0), .int (J a)] (mW k ad st tl t x y h) (oP k ad st (up2 st 8 0 a) (kCut a) (st 8 0)) := by
  refine CI.of (by decide +kernel) (Nat.le_of_ble_eq_true rfl) (fun pᵢ eᵢ sᵢ mᵢ argsᵢ belowᵢ methᵢ cᵢ Aᵢ Qᵢ X RI => ?_)
  show SW pᵢ l eᵢ rm_X6_cut sᵢ mᵢ argsᵢ belowᵢ methᵢ cᵢ 3 D Aᵢ 0 0 Qᵢ (mW k ad st tl t x y h) 0 [(0, .ref (ad 0)), (1, .int (J a))] []
  have hS_ := I_st hI
  have hE_ := I_en hI
  have hG_ := I_ga hI
  have hU_ := I_cu hI
  have hC_ := I_ca hI
  have hP_ := I_pa hI
  refine sw_aload_n X dX6_cut_0 rfl 0 rfl ?_
  refine sw_iload_n X dX6_cut_1 rfl 1 rfl ?_
  refine sw_iconst X dX6_cut_2 ?_
  refine sw_bipush X dX6_cut_3 (by decide +kernel) ?_
  refine sw_callSI0 (As := [.int (J a), .int (J 0), .int (J 10)]) (rest := [.ref (ad 0)]) X (c_X6_in l D k (mW k ad st tl t x y h) a 0 10 (by omega)) (va_cwS 3 (sw_ts X) (sw_goodS gw4_55 gw4_56 gw1_3 gw4_57) rfl rfl rfl (by decide +kernel) ⟨Nat.le_of_ble_eq_true rfl, Nat.le_of_ble_eq_true rfl⟩) dX6_cut_5 rfl rfl (Nat.le_of_ble_eq_true rfl) ⟨Nat.le_of_ble_eq_true rfl, Nat.le_of_ble_eq_true rfl⟩ (fun z1 w9 hp2 => ?_)
  obtain ⟨rfl, hp2⟩ := hp2
  refine sw_if_eq (tgt := 15) X (by omega) dX6_cut_8 (by decide) (fun h3 => ?_) (fun h3 => ?_)
  · refine sw_iconst X dX6_cut_15 ?_
    refine sw_callVI0 (C := RX6) (As := [.int (J 1)]) (rest := []) X (c_X6_goesWell l D k ad st tl t x y h 1 (by omega)) (cwV 1 (sw_ts X) (sw_goodV gw4_58 gw4_60 gws_17 gw1_3 gw4_61) rfl rfl rfl (by decide +kernel) ⟨Nat.le_of_ble_eq_true rfl, Nat.le_of_ble_eq_true rfl⟩) 0 (ci := 6) rfl rfl rfl dX6_cut_16 rfl rfl (Nat.le_of_ble_eq_true rfl) ⟨Nat.le_of_ble_eq_true rfl, Nat.le_of_ble_eq_true rfl⟩ (fun z4 w9 hp5 => ?_)
    obtain ⟨rfl, hp5⟩ := hp5
    obtain rfl : z4 = 0 := by omega
    clear hp5
    refine sw_if_ne (tgt := 24) X (by omega) dX6_cut_19 (by decide) (fun h6 => ?_) (fun h6 => ?_)
    · exfalso; revert h6; decide
    · refine sw_iconst X dX6_cut_22 ?_
      exact RI _ _ _ _ _ _ dX6_cut_23 (by decide) (by decide) rfl (Or.inl ⟨_, _, _, _, _, rfl, by decide, by unfold kCut; rw [if_neg (by omega)]⟩)
  · refine sw_iconst X dX6_cut_11 ?_
    refine sw_goto (tgt := 16) X dX6_cut_12 (by decide) ?_
    refine sw_callVI0 (C := RX6) (As := [.int (J 0)]) (rest := []) X (c_X6_goesWell l D k ad st tl t x y h 0 (by omega)) (cwV 1 (sw_ts X) (sw_goodV gw4_58 gw4_60 gws_17 gw1_3 gw4_61) rfl rfl rfl (by decide +kernel) ⟨Nat.le_of_ble_eq_true rfl, Nat.le_of_ble_eq_true rfl⟩) 0 (ci := 6) rfl rfl rfl dX6_cut_16 rfl rfl (Nat.le_of_ble_eq_true rfl) ⟨Nat.le_of_ble_eq_true rfl, Nat.le_of_ble_eq_true rfl⟩ (fun z7 w9 hp8 => ?_)
    obtain ⟨rfl, hp8⟩ := hp8
    obtain rfl : z7 = 1 := by omega
    clear hp8
    refine sw_if_ne (tgt := 24) X (by omega) dX6_cut_19 (by decide) (fun h9 => ?_) (fun h9 => ?_)
    · refine sw_aload_n X dX6_cut_24 rfl 0 rfl ?_
      refine sw_get (q0 := 0) (v := .int (J (st 8 0))) X iw_X6 rfl rfl 8 (by decide) gw3_216 rfl rfl dX6_cut_25 ?_
      refine sw_istore_n (lv' := [(2, .int (J (st 8 0))), (0, .ref (ad 0)), (1, .int (J a))]) X dX6_cut_28 rfl (by decide) rfl ?_
      refine sw_aload_n X dX6_cut_29 rfl 1 rfl ?_
      refine sw_iload_n X dX6_cut_30 rfl 2 rfl ?_
      refine sw_put (q0 := 0) X iw_X6 tyX6 tyX6_ok nmX6 rfl rfl 8 (by decide) gw3_216 rfl rfl (ty := .int) (by decide +kernel) rfl rfl (Nat.le_of_ble_eq_true rfl) mW_p8 dX6_cut_31 ?_
      refine sw_iload_n X dX6_cut_34 rfl 0 rfl ?_
      exact RI _ _ _ _ _ _ dX6_cut_35 (by decide) (by decide) rfl (Or.inr ⟨_, _, _, _, rfl, by unfold kCut; rw [if_pos (by omega)], rfl⟩)
    · exfalso; revert h9; decide
abbrev rm_X6_enter : Room := { frames := 1, cells := 0, slots := 0, locals := 21 }
set_option maxHeartbeats 4000000 in
set_option maxRecDepth 100000 in
theorem c_X6_enter (l : Launch) (D : va_G) (k : Nat → ClassId) (N : Int) (ad : Nat → Nat) (st : Nat → Int → Int) (tl : Int → Int) (t x y h : Int) (hI : I6 N st) : CI l yX6_enter cX6_enter 1 (some .int) rm_X6_enter D k [.ref (ad 0)] (mW k ad st tl t x y h) (oP k ad st (up2 st 9 0 (st 9 0 + 1)) (kEnter st) (st 9 0)) := by
  refine CI.of (by decide +kernel) (Nat.le_of_ble_eq_true rfl) (fun pᵢ eᵢ sᵢ mᵢ argsᵢ belowᵢ methᵢ cᵢ Aᵢ Qᵢ X RI => ?_)
  show SW pᵢ l eᵢ rm_X6_enter sᵢ mᵢ argsᵢ belowᵢ methᵢ cᵢ 1 D Aᵢ 0 0 Qᵢ (mW k ad st tl t x y h) 0 [(0, .ref (ad 0))] []
  have hS_ := I_st hI
  have hE_ := I_en hI
  have hG_ := I_ga hI
  have hU_ := I_cu hI
  have hC_ := I_ca hI
  have hP_ := I_pa hI
  refine sw_aload_n X dX6_enter_0 rfl 0 rfl ?_
  refine sw_aload_n X dX6_enter_1 rfl 0 rfl ?_
  refine sw_get (q0 := 0) (v := .int (J (st 9 0))) X iw_X6 rfl rfl 9 (by decide) gw3_217 rfl rfl dX6_enter_2 ?_
  refine sw_bipush X dX6_enter_5 (by decide +kernel) ?_
  refine sw_icmp_ne (tgt := 14) X (by omega) (by omega) dX6_enter_7 (by decide) (fun h1 => ?_) (fun h1 => ?_)
  · refine sw_iconst X dX6_enter_14 ?_
    refine sw_callVI0 (C := RX6) (As := [.int (J 0)]) (rest := []) X (c_X6_goesWell l D k ad st tl t x y h 0 (by omega)) (cwV 1 (sw_ts X) (sw_goodV gw4_58 gw4_60 gws_17 gw1_3 gw4_61) rfl rfl rfl (by decide +kernel) ⟨Nat.le_of_ble_eq_true rfl, Nat.le_of_ble_eq_true rfl⟩) 0 (ci := 6) rfl rfl rfl dX6_enter_15 rfl rfl (Nat.le_of_ble_eq_true rfl) ⟨Nat.le_of_ble_eq_true rfl, Nat.le_of_ble_eq_true rfl⟩ (fun z2 w9 hp3 => ?_)
    obtain ⟨rfl, hp3⟩ := hp3
    obtain rfl : z2 = 1 := by omega
    clear hp3
    refine sw_if_ne (tgt := 23) X (by omega) dX6_enter_18 (by decide) (fun h4 => ?_) (fun h4 => ?_)
    · refine sw_aload_n X dX6_enter_23 rfl 0 rfl ?_
      refine sw_dup X dX6_enter_24 rfl ?_
      refine sw_get (q0 := 0) (v := .int (J (st 9 0))) X iw_X6 rfl rfl 9 (by decide) gw3_217 rfl rfl dX6_enter_25 ?_
      refine sw_iconst X dX6_enter_28 ?_
      refine sw_iadd X dX6_enter_29 ?_
      refine sw_put (q0 := 0) X iw_X6 tyX6 tyX6_ok nmX6 rfl rfl 9 (by decide) gw3_217 rfl rfl (ty := .int) (by decide +kernel) rfl rfl (Nat.le_of_ble_eq_true rfl) mW_p9 dX6_enter_30 ?_
      refine sw_aload_n X dX6_enter_33 rfl 0 rfl ?_
      refine sw_get (q0 := 0) (v := .int (J ((st 9 0) + 1))) X iw_X6 rfl rfl 9 (by decide) gw3_217 rfl rfl dX6_enter_34 ?_
      refine sw_iconst X dX6_enter_37 ?_
      refine sw_isub X dX6_enter_38 ?_
      exact RI _ _ _ _ _ _ dX6_enter_39 (by decide) (by decide) rfl (Or.inr ⟨_, _, _, _, rfl, by unfold kEnter; rw [if_neg (by omega)], by omega⟩)
    · exfalso; revert h4; decide
  · refine sw_iconst X dX6_enter_10 ?_
    refine sw_goto (tgt := 15) X dX6_enter_11 (by decide) ?_
    refine sw_callVI0 (C := RX6) (As := [.int (J 1)]) (rest := []) X (c_X6_goesWell l D k ad st tl t x y h 1 (by omega)) (cwV 1 (sw_ts X) (sw_goodV gw4_58 gw4_60 gws_17 gw1_3 gw4_61) rfl rfl rfl (by decide +kernel) ⟨Nat.le_of_ble_eq_true rfl, Nat.le_of_ble_eq_true rfl⟩) 0 (ci := 6) rfl rfl rfl dX6_enter_15 rfl rfl (Nat.le_of_ble_eq_true rfl) ⟨Nat.le_of_ble_eq_true rfl, Nat.le_of_ble_eq_true rfl⟩ (fun z5 w9 hp6 => ?_)
    obtain ⟨rfl, hp6⟩ := hp6
    obtain rfl : z5 = 0 := by omega
    clear hp6
    refine sw_if_ne (tgt := 23) X (by omega) dX6_enter_18 (by decide) (fun h7 => ?_) (fun h7 => ?_)
    · exfalso; revert h7; decide
    · refine sw_iconst X dX6_enter_21 ?_
      exact RI _ _ _ _ _ _ dX6_enter_22 (by decide) (by decide) rfl (Or.inl ⟨_, _, _, _, _, rfl, by decide, by unfold kEnter; rw [if_pos (by omega)]⟩)
abbrev rm_X6_addEntry : Room := { frames := 2, cells := 0, slots := 0, locals := 43 }
set_option maxHeartbeats 4000000 in
set_option maxRecDepth 100000 in
theorem c_X6_addEntry (l : Launch) (D : va_G) (k : Nat → ClassId) (N : Int) (ad : Nat → Nat) (st : Nat → Int → Int) (tl : Int → Int) (t x y h : Int) (a b : Int) (hI : I6 N st) (h_a : (-2147483648 ≤ a ∧ a < 2147483648)) (h_b : (-2147483648 ≤ b ∧ b < 2147483648)) : CI l yX6_addEntry cX6_addEntry 4 (some .int) rm_X6_addEntry D k [.ref (ad 0), .int (J a), .int (J b)] (mW k ad st tl t x y h) (oP k ad st (sAddEntry st a b) (kAddEntry st a b) (vAddEntry st a)) := by
  refine CI.of (by decide +kernel) (Nat.le_of_ble_eq_true rfl) (fun pᵢ eᵢ sᵢ mᵢ argsᵢ belowᵢ methᵢ cᵢ Aᵢ Qᵢ X RI => ?_)
  show SW pᵢ l eᵢ rm_X6_addEntry sᵢ mᵢ argsᵢ belowᵢ methᵢ cᵢ 4 D Aᵢ 0 0 Qᵢ (mW k ad st tl t x y h) 0 [(0, .ref (ad 0)), (1, .int (J a)), (2, .int (J b))] []
  have hS_ := I_st hI
  have hE_ := I_en hI
  have hG_ := I_ga hI
  have hU_ := I_cu hI
  have hC_ := I_ca hI
  have hP_ := I_pa hI
  have hb1 := I_b hI (st 2 0).toNat (by omega)
  have hb2 := bP_h st (st 2 0).toNat
  refine sw_iload_n X dX6_addEntry_0 rfl 1 rfl ?_
  refine sw_iconst X dX6_addEntry_1 ?_
  refine sw_bipush X dX6_addEntry_2 (by decide +kernel) ?_
  refine sw_callSI0 (As := [.int (J a), .int (J 1), .int (J 15)]) (rest := []) X (c_X6_in l D k (mW k ad st tl t x y h) a 1 15 (by omega)) (va_cwS 3 (sw_ts X) (sw_goodS gw4_55 gw4_56 gw1_3 gw4_57) rfl rfl rfl (by decide +kernel) ⟨Nat.le_of_ble_eq_true rfl, Nat.le_of_ble_eq_true rfl⟩) dX6_addEntry_4 rfl rfl (Nat.le_of_ble_eq_true rfl) ⟨Nat.le_of_ble_eq_true rfl, Nat.le_of_ble_eq_true rfl⟩ (fun z1 w9 hp2 => ?_)
  obtain ⟨rfl, hp2⟩ := hp2
  have jn3 : ∀ (z9 : Int), ((z9 = 1 ∧ (1 ≤ a ∧ a ≤ 15) ∧ 0 ≤ b ∧ b ≤ 3) ∨ (z9 = 0 ∧ ¬ ((1 ≤ a ∧ a ≤ 15) ∧ 0 ≤ b ∧ b ≤ 3))) → SW pᵢ l eᵢ rm_X6_addEntry sᵢ mᵢ argsᵢ belowᵢ methᵢ cᵢ 4 D Aᵢ 0 0 Qᵢ (mW k ad st tl t x y h) 24 [(0, .ref (ad 0)), (1, .int (J a)), (2, .int (J b))] [.int (J z9)] := by
    intro z9 hz9
    refine sw_istore_n (lv' := [(3, .int (J z9)), (0, .ref (ad 0)), (1, .int (J a)), (2, .int (J b))]) X dX6_addEntry_24 rfl (by decide) rfl ?_
    refine sw_aload_n X dX6_addEntry_25 rfl 1 rfl ?_
    refine sw_aload_n X dX6_addEntry_26 rfl 1 rfl ?_
    refine sw_get (q0 := 0) (v := .int (J (st 2 0))) X iw_X6 rfl rfl 2 (by decide) gw3_210 rfl rfl dX6_addEntry_27 ?_
    refine sw_callVV0 (C := RX6) (As := [.int (J (st 2 0))]) (rest := []) X (c_X6_followBook l D k N ad st tl t x y h (st 2 0) hI (by omega)) (cwV 1 (sw_ts X) (sw_goodV gw4_66 gw4_68 gws_18 gw1_3 gw4_69) rfl rfl rfl (by decide +kernel) ⟨Nat.le_of_ble_eq_true rfl, Nat.le_of_ble_eq_true rfl⟩) 0 (ci := 6) rfl rfl rfl dX6_addEntry_30 rfl rfl (Nat.le_of_ble_eq_true rfl) ⟨Nat.le_of_ble_eq_true rfl, Nat.le_of_ble_eq_true rfl⟩ (fun w9 hp5 => ?_)
    subst hp5
    refine sw_aload_n X dX6_addEntry_33 rfl 1 rfl ?_
    refine sw_iload_n X dX6_addEntry_34 rfl 0 rfl ?_
    have jn6 : ∀ (z8 : Int), (z8 = if z9 = 1 then a else 0) → SW pᵢ l eᵢ rm_X6_addEntry sᵢ mᵢ argsᵢ belowᵢ methᵢ cᵢ 4 D Aᵢ 0 0 Qᵢ (mW k ad st tl t ((bP st (st 2 0).toNat).1) ((bP st (st 2 0).toNat).2.1) ((bP st (st 2 0).toNat).2.2)) 43 [(0, .ref (ad 0)), (1, .int (J a)), (2, .int (J b)), (3, .int (J z9))] [.int (J z8), .ref (ad 0)] := by
      intro z8 hz8
      have hz8b : (z9 = 1 ∧ z8 = a) ∨ (z9 = 0 ∧ z8 = 0) := by rw [hz8]; split <;> omega
      have hd1 := dx_b (bP st (st 2 0).toNat).2.2 z8 (by omega)
      have hd2 := dy_b (bP st (st 2 0).toNat).2.2 z8 (by omega)
      refine sw_callVV0 (C := RX6) (As := [.int (J z8)]) (rest := []) X (c_X6_goOn l D k ad st tl t ((bP st (st 2 0).toNat).1) ((bP st (st 2 0).toNat).2.1) ((bP st (st 2 0).toNat).2.2) z8 (by omega)) (cwV 1 (sw_ts X) (sw_goodV gw4_74 gw4_76 gws_20 gw1_3 gw4_77) rfl rfl rfl (by decide +kernel) ⟨Nat.le_of_ble_eq_true rfl, Nat.le_of_ble_eq_true rfl⟩) 0 (ci := 6) rfl rfl rfl dX6_addEntry_43 rfl rfl (Nat.le_of_ble_eq_true rfl) ⟨Nat.le_of_ble_eq_true rfl, Nat.le_of_ble_eq_true rfl⟩ (fun w9 hp8 => ?_)
      subst hp8
      refine sw_aload_n X dX6_addEntry_46 rfl 0 rfl ?_
      refine sw_iload_n X dX6_addEntry_47 rfl 3 rfl ?_
      refine sw_if_ne (tgt := 55) X (by omega) dX6_addEntry_48 (by decide) (fun h9 => ?_) (fun h9 => ?_)
      · refine sw_aload_n X dX6_addEntry_55 rfl 0 rfl ?_
        refine sw_get (q0 := 0) (v := .int (J (st 2 0))) X iw_X6 rfl rfl 2 (by decide) gw3_210 rfl rfl dX6_addEntry_56 ?_
        refine sw_bipush X dX6_addEntry_59 (by decide +kernel) ?_
        refine sw_icmp_eq (tgt := 71) X (by omega) (by omega) dX6_addEntry_61 (by decide) (fun h10 => ?_) (fun h10 => ?_)
        · refine sw_iconst X dX6_addEntry_71 ?_
          refine sw_goto (tgt := 76) X dX6_addEntry_72 (by decide) ?_
          refine sw_callVI0 (C := RX6) (As := [.int (J 2)]) (rest := []) X (c_X6_goesWell l D k ad st tl t (((bP st (st 2 0).toNat).1) + dx ((bP st (st 2 0).toNat).2.2) z8) (((bP st (st 2 0).toNat).2.1) + dy ((bP st (st 2 0).toNat).2.2) z8) ((bP st (st 2 0).toNat).2.2) 2 (by omega)) (cwV 1 (sw_ts X) (sw_goodV gw4_58 gw4_60 gws_17 gw1_3 gw4_61) rfl rfl rfl (by decide +kernel) ⟨Nat.le_of_ble_eq_true rfl, Nat.le_of_ble_eq_true rfl⟩) 0 (ci := 6) rfl rfl rfl dX6_addEntry_76 rfl rfl (Nat.le_of_ble_eq_true rfl) ⟨Nat.le_of_ble_eq_true rfl, Nat.le_of_ble_eq_true rfl⟩ (fun z11 w9 hp12 => ?_)
          obtain ⟨rfl, hp12⟩ := hp12
          obtain rfl : z11 = 0 := by omega
          clear hp12
          refine sw_if_ne (tgt := 84) X (by omega) dX6_addEntry_79 (by decide) (fun h13 => ?_) (fun h13 => ?_)
          · exfalso; revert h13; decide
          · refine sw_iconst X dX6_addEntry_82 ?_
            exact RI _ _ _ _ _ _ dX6_addEntry_83 (by decide) (by decide) rfl (Or.inl ⟨_, _, _, _, _, rfl, by decide, by have q : a = z8 := (by omega); subst q; unfold kAddEntry; rw [if_neg (by omega), if_pos (by omega)]⟩)
        · refine sw_aload_n X dX6_addEntry_64 rfl 0 rfl ?_
          refine sw_callVI0 (C := RX6) (As := []) (rest := [.ref (ad 0)]) X (c_X6_isOnGround l D k ad st tl t (((bP st (st 2 0).toNat).1) + dx ((bP st (st 2 0).toNat).2.2) z8) (((bP st (st 2 0).toNat).2.1) + dy ((bP st (st 2 0).toNat).2.2) z8) ((bP st (st 2 0).toNat).2.2) (by omega)) (cwV 0 (sw_ts X) (sw_goodV gw4_78 gw4_80 gws_21 gw1_3 gw4_81) rfl rfl rfl (by decide +kernel) ⟨Nat.le_of_ble_eq_true rfl, Nat.le_of_ble_eq_true rfl⟩) 0 (ci := 6) rfl rfl rfl dX6_addEntry_65 rfl rfl (Nat.le_of_ble_eq_true rfl) ⟨Nat.le_of_ble_eq_true rfl, Nat.le_of_ble_eq_true rfl⟩ (fun z14 w9 hp15 => ?_)
          obtain ⟨rfl, hp15⟩ := hp15
          refine sw_if_ne (tgt := 75) X (by omega) dX6_addEntry_68 (by decide) (fun h16 => ?_) (fun h16 => ?_)
          · have hza : a = z8 := by omega
            subst hza
            refine sw_iconst X dX6_addEntry_75 ?_
            refine sw_callVI0 (C := RX6) (As := [.int (J 0)]) (rest := []) X (c_X6_goesWell l D k ad st tl t (((bP st (st 2 0).toNat).1) + dx ((bP st (st 2 0).toNat).2.2) a) (((bP st (st 2 0).toNat).2.1) + dy ((bP st (st 2 0).toNat).2.2) a) ((bP st (st 2 0).toNat).2.2) 0 (by omega)) (cwV 1 (sw_ts X) (sw_goodV gw4_58 gw4_60 gws_17 gw1_3 gw4_61) rfl rfl rfl (by decide +kernel) ⟨Nat.le_of_ble_eq_true rfl, Nat.le_of_ble_eq_true rfl⟩) 0 (ci := 6) rfl rfl rfl dX6_addEntry_76 rfl rfl (Nat.le_of_ble_eq_true rfl) ⟨Nat.le_of_ble_eq_true rfl, Nat.le_of_ble_eq_true rfl⟩ (fun z17 w9 hp18 => ?_)
            obtain ⟨rfl, hp18⟩ := hp18
            obtain rfl : z17 = 1 := by omega
            clear hp18
            refine sw_if_ne (tgt := 84) X (by omega) dX6_addEntry_79 (by decide) (fun h19 => ?_) (fun h19 => ?_)
            · refine sw_aload_n X dX6_addEntry_84 rfl 0 rfl ?_
              refine sw_get (q0 := 0) (v := .ref (ad 3)) X iw_X6 rfl rfl 3 (by decide) gw3_211 rfl rfl dX6_addEntry_85 ?_
              refine sw_aload_n X dX6_addEntry_88 rfl 0 rfl ?_
              refine sw_get (q0 := 0) (v := .int (J (st 2 0))) X iw_X6 rfl rfl 2 (by decide) gw3_210 rfl rfl dX6_addEntry_89 ?_
              refine sw_iload_n X dX6_addEntry_92 rfl 1 rfl ?_
              refine sw_iast (q0 := 1) (n := 30) X rfl (by omega) (by omega) (by decide) mW_a3 dX6_addEntry_93 ?_
              refine sw_aload_n X dX6_addEntry_94 rfl 0 rfl ?_
              refine sw_get (q0 := 0) (v := .ref (ad 4)) X iw_X6 rfl rfl 4 (by decide) gw3_212 rfl rfl dX6_addEntry_95 ?_
              refine sw_aload_n X dX6_addEntry_98 rfl 0 rfl ?_
              refine sw_get (q0 := 0) (v := .int (J (st 2 0))) X iw_X6 rfl rfl 2 (by decide) gw3_210 rfl rfl dX6_addEntry_99 ?_
              refine sw_iload_n X dX6_addEntry_102 rfl 2 rfl ?_
              refine sw_iast (q0 := 2) (n := 30) X rfl (by omega) (by omega) (by decide) mW_a4 dX6_addEntry_103 ?_
              refine sw_aload_n X dX6_addEntry_104 rfl 0 rfl ?_
              refine sw_dup X dX6_addEntry_105 rfl ?_
              refine sw_get (q0 := 0) (v := .int (J (st 2 0))) X iw_X6 rfl rfl 2 (by decide) gw3_210 rfl rfl dX6_addEntry_106 ?_
              refine sw_iconst X dX6_addEntry_109 ?_
              refine sw_iadd X dX6_addEntry_110 ?_
              refine sw_put (q0 := 0) X iw_X6 tyX6 tyX6_ok nmX6 rfl rfl 2 (by decide) gw3_210 rfl rfl (ty := .int) (by decide +kernel) rfl rfl (Nat.le_of_ble_eq_true rfl) mW_p2 dX6_addEntry_111 ?_
              refine sw_aload_n X dX6_addEntry_114 rfl 0 rfl ?_
              refine sw_callVI0 (C := RX6) (As := []) (rest := []) X (c_X6_cell l D k ad (up2 (up2 (up2 st 3 (st 2 0) a) 4 (st 2 0) b) 2 0 ((st 2 0) + 1)) tl 0 (((bP st (st 2 0).toNat).1) + dx ((bP st (st 2 0).toNat).2.2) a) (((bP st (st 2 0).toNat).2.1) + dy ((bP st (st 2 0).toNat).2.2) a) ((bP st (st 2 0).toNat).2.2)) (cwV 0 (sw_ts X) (sw_goodV gw4_82 gw4_84 gws_22 gw1_3 gw4_85) rfl rfl rfl (by decide +kernel) ⟨Nat.le_of_ble_eq_true rfl, Nat.le_of_ble_eq_true rfl⟩) 0 (ci := 6) rfl rfl rfl dX6_addEntry_115 rfl rfl (Nat.le_of_ble_eq_true rfl) ⟨Nat.le_of_ble_eq_true rfl, Nat.le_of_ble_eq_true rfl⟩ (fun z20 w9 hp21 => ?_)
              obtain ⟨rfl, rfl⟩ := hp21
              exact RI _ _ _ _ _ _ dX6_addEntry_118 (by decide) (by decide) rfl (Or.inr ⟨_, _, _, _, rfl, by unfold kAddEntry; rw [if_neg (by omega), if_neg (by omega)], rfl⟩)
            · exfalso; revert h19; decide
          · refine sw_iconst X dX6_addEntry_71 ?_
            refine sw_goto (tgt := 76) X dX6_addEntry_72 (by decide) ?_
            refine sw_callVI0 (C := RX6) (As := [.int (J 2)]) (rest := []) X (c_X6_goesWell l D k ad st tl t (((bP st (st 2 0).toNat).1) + dx ((bP st (st 2 0).toNat).2.2) z8) (((bP st (st 2 0).toNat).2.1) + dy ((bP st (st 2 0).toNat).2.2) z8) ((bP st (st 2 0).toNat).2.2) 2 (by omega)) (cwV 1 (sw_ts X) (sw_goodV gw4_58 gw4_60 gws_17 gw1_3 gw4_61) rfl rfl rfl (by decide +kernel) ⟨Nat.le_of_ble_eq_true rfl, Nat.le_of_ble_eq_true rfl⟩) 0 (ci := 6) rfl rfl rfl dX6_addEntry_76 rfl rfl (Nat.le_of_ble_eq_true rfl) ⟨Nat.le_of_ble_eq_true rfl, Nat.le_of_ble_eq_true rfl⟩ (fun z22 w9 hp23 => ?_)
            obtain ⟨rfl, hp23⟩ := hp23
            obtain rfl : z22 = 0 := by omega
            clear hp23
            refine sw_if_ne (tgt := 84) X (by omega) dX6_addEntry_79 (by decide) (fun h24 => ?_) (fun h24 => ?_)
            · exfalso; revert h24; decide
            · refine sw_iconst X dX6_addEntry_82 ?_
              exact RI _ _ _ _ _ _ dX6_addEntry_83 (by decide) (by decide) rfl (Or.inl ⟨_, _, _, _, _, rfl, by decide, by have q : a = z8 := (by omega); subst q; unfold kAddEntry; rw [if_neg (by omega), if_pos (by omega)]⟩)
      · refine sw_iconst X dX6_addEntry_51 ?_
        refine sw_goto (tgt := 76) X dX6_addEntry_52 (by decide) ?_
        refine sw_callVI0 (C := RX6) (As := [.int (J 1)]) (rest := []) X (c_X6_goesWell l D k ad st tl t (((bP st (st 2 0).toNat).1) + dx ((bP st (st 2 0).toNat).2.2) z8) (((bP st (st 2 0).toNat).2.1) + dy ((bP st (st 2 0).toNat).2.2) z8) ((bP st (st 2 0).toNat).2.2) 1 (by omega)) (cwV 1 (sw_ts X) (sw_goodV gw4_58 gw4_60 gws_17 gw1_3 gw4_61) rfl rfl rfl (by decide +kernel) ⟨Nat.le_of_ble_eq_true rfl, Nat.le_of_ble_eq_true rfl⟩) 0 (ci := 6) rfl rfl rfl dX6_addEntry_76 rfl rfl (Nat.le_of_ble_eq_true rfl) ⟨Nat.le_of_ble_eq_true rfl, Nat.le_of_ble_eq_true rfl⟩ (fun z25 w9 hp26 => ?_)
        obtain ⟨rfl, hp26⟩ := hp26
        obtain rfl : z25 = 0 := by omega
        clear hp26
        refine sw_if_ne (tgt := 84) X (by omega) dX6_addEntry_79 (by decide) (fun h27 => ?_) (fun h27 => ?_)
        · exfalso; revert h27; decide
        · refine sw_iconst X dX6_addEntry_82 ?_
          exact RI _ _ _ _ _ _ dX6_addEntry_83 (by decide) (by decide) rfl (Or.inl ⟨_, _, _, _, _, rfl, by decide, by unfold kAddEntry; rw [if_pos (by omega)]⟩)
    refine sw_if_eq (tgt := 42) X (by omega) dX6_addEntry_35 (by decide) (fun h28 => ?_) (fun h28 => ?_)
    · refine sw_iconst X dX6_addEntry_42 ?_
      refine sw_sub [1, 2, 3, 0] rfl ?_
      exact jn6 0 (by split <;> omega)
    · refine sw_iload_n X dX6_addEntry_38 rfl 2 rfl ?_
      refine sw_goto (tgt := 43) X dX6_addEntry_39 (by decide) ?_
      refine sw_sub [1, 2, 3, 0] rfl ?_
      exact jn6 a (by split <;> omega)
  refine sw_if_eq (tgt := 23) X (by omega) dX6_addEntry_7 (by decide) (fun h29 => ?_) (fun h29 => ?_)
  · refine sw_iconst X dX6_addEntry_23 ?_
    exact jn3 0 (by omega)
  · refine sw_iload_n X dX6_addEntry_10 rfl 2 rfl ?_
    refine sw_iconst X dX6_addEntry_11 ?_
    refine sw_iconst X dX6_addEntry_12 ?_
    refine sw_callSI0 (As := [.int (J b), .int (J 0), .int (J 3)]) (rest := []) X (c_X6_in l D k (mW k ad st tl t x y h) b 0 3 (by omega)) (va_cwS 3 (sw_ts X) (sw_goodS gw4_55 gw4_56 gw1_3 gw4_57) rfl rfl rfl (by decide +kernel) ⟨Nat.le_of_ble_eq_true rfl, Nat.le_of_ble_eq_true rfl⟩) dX6_addEntry_13 rfl rfl (Nat.le_of_ble_eq_true rfl) ⟨Nat.le_of_ble_eq_true rfl, Nat.le_of_ble_eq_true rfl⟩ (fun z30 w9 hp31 => ?_)
    obtain ⟨rfl, hp31⟩ := hp31
    refine sw_if_eq (tgt := 23) X (by omega) dX6_addEntry_16 (by decide) (fun h32 => ?_) (fun h32 => ?_)
    · refine sw_iconst X dX6_addEntry_23 ?_
      exact jn3 0 (by omega)
    · refine sw_iconst X dX6_addEntry_19 ?_
      refine sw_goto (tgt := 24) X dX6_addEntry_20 (by decide) ?_
      exact jn3 1 (by omega)
abbrev rm_X6_addGate : Room := { frames := 1, cells := 0, slots := 0, locals := 22 }
set_option maxHeartbeats 4000000 in
set_option maxRecDepth 100000 in
theorem c_X6_addGate (l : Launch) (D : va_G) (k : Nat → ClassId) (N : Int) (ad : Nat → Nat) (st : Nat → Int → Int) (tl : Int → Int) (t x y h : Int) (a b : Int) (hI : I6 N st) (h_a : (-2147483648 ≤ a ∧ a < 2147483648)) (h_b : (-2147483648 ≤ b ∧ b < 2147483648)) : CI l yX6_addGate cX6_addGate 5 (some .int) rm_X6_addGate D k [.ref (ad 0), .int (J a), .int (J b)] (mW k ad st tl t x y h) (oP k ad st (sAddGate st a b) (kAddGate st a b) (st 5 0)) := by
  refine CI.of (by decide +kernel) (Nat.le_of_ble_eq_true rfl) (fun pᵢ eᵢ sᵢ mᵢ argsᵢ belowᵢ methᵢ cᵢ Aᵢ Qᵢ X RI => ?_)
  show SW pᵢ l eᵢ rm_X6_addGate sᵢ mᵢ argsᵢ belowᵢ methᵢ cᵢ 5 D Aᵢ 0 0 Qᵢ (mW k ad st tl t x y h) 0 [(0, .ref (ad 0)), (1, .int (J a)), (2, .int (J b))] []
  have hS_ := I_st hI
  have hE_ := I_en hI
  have hG_ := I_ga hI
  have hU_ := I_cu hI
  have hC_ := I_ca hI
  have hP_ := I_pa hI
  refine sw_iload_n X dX6_addGate_0 rfl 1 rfl ?_
  refine sw_iconst X dX6_addGate_1 ?_
  refine sw_aload_n X dX6_addGate_2 rfl 0 rfl ?_
  refine sw_get (q0 := 0) (v := .int (J (st 2 0))) X iw_X6 rfl rfl 2 (by decide) gw3_210 rfl rfl dX6_addGate_3 ?_
  refine sw_iconst X dX6_addGate_6 ?_
  refine sw_isub X dX6_addGate_7 ?_
  refine sw_callSI0 (As := [.int (J a), .int (J 0), .int (J ((st 2 0) - 1))]) (rest := []) X (c_X6_in l D k (mW k ad st tl t x y h) a 0 ((st 2 0) - 1) (by omega)) (va_cwS 3 (sw_ts X) (sw_goodS gw4_55 gw4_56 gw1_3 gw4_57) rfl rfl rfl (by decide +kernel) ⟨Nat.le_of_ble_eq_true rfl, Nat.le_of_ble_eq_true rfl⟩) dX6_addGate_8 rfl rfl (Nat.le_of_ble_eq_true rfl) ⟨Nat.le_of_ble_eq_true rfl, Nat.le_of_ble_eq_true rfl⟩ (fun z1 w9 hp2 => ?_)
  obtain ⟨rfl, hp2⟩ := hp2
  refine sw_istore_n (lv' := [(3, .int (J z1)), (0, .ref (ad 0)), (1, .int (J a)), (2, .int (J b))]) X dX6_addGate_11 rfl (by decide) rfl ?_
  refine sw_iload_n X dX6_addGate_12 rfl 3 rfl ?_
  refine sw_iconst X dX6_addGate_13 ?_
  refine sw_bipush X dX6_addGate_14 (by decide +kernel) ?_
  refine sw_callSI0 (As := [.int (J b), .int (J 0), .int (J 100)]) (rest := []) X (c_X6_in l D k (mW k ad st tl t x y h) b 0 100 (by omega)) (va_cwS 3 (sw_ts X) (sw_goodS gw4_55 gw4_56 gw1_3 gw4_57) rfl rfl rfl (by decide +kernel) ⟨Nat.le_of_ble_eq_true rfl, Nat.le_of_ble_eq_true rfl⟩) dX6_addGate_16 rfl rfl (Nat.le_of_ble_eq_true rfl) ⟨Nat.le_of_ble_eq_true rfl, Nat.le_of_ble_eq_true rfl⟩ (fun z3 w9 hp4 => ?_)
  obtain ⟨rfl, hp4⟩ := hp4
  have jn5 : ∀ (z9 : Int), ((z9 = 1 ∧ (0 ≤ b ∧ b ≤ 100) ∧ (st 5 0 = 0 ∨ st 6 (st 5 0 - 1) < a)) ∨ (z9 = 0 ∧ ¬ ((0 ≤ b ∧ b ≤ 100) ∧ (st 5 0 = 0 ∨ st 6 (st 5 0 - 1) < a)))) → SW pᵢ l eᵢ rm_X6_addGate sᵢ mᵢ argsᵢ belowᵢ methᵢ cᵢ 5 D Aᵢ 0 0 Qᵢ (mW k ad st tl t x y h) 49 [(0, .ref (ad 0)), (1, .int (J a)), (2, .int (J b)), (3, .int (J z1))] [.int (J z9)] := by
    intro z9 hz9
    refine sw_istore (lv' := [(4, .int (J z9)), (0, .ref (ad 0)), (1, .int (J a)), (2, .int (J b)), (3, .int (J z1))]) X dX6_addGate_49 (by decide) rfl ?_
    refine sw_aload_n X dX6_addGate_51 rfl 1 rfl ?_
    refine sw_iload_n X dX6_addGate_52 rfl 4 rfl ?_
    refine sw_if_ne (tgt := 60) X (by omega) dX6_addGate_53 (by decide) (fun h6 => ?_) (fun h6 => ?_)
    · refine sw_iload X dX6_addGate_60 0 rfl ?_
      refine sw_if_ne (tgt := 69) X (by omega) dX6_addGate_62 (by decide) (fun h7 => ?_) (fun h7 => ?_)
      · refine sw_aload_n X dX6_addGate_69 rfl 1 rfl ?_
        refine sw_get (q0 := 0) (v := .int (J (st 5 0))) X iw_X6 rfl rfl 5 (by decide) gw3_213 rfl rfl dX6_addGate_70 ?_
        refine sw_bipush X dX6_addGate_73 (by decide +kernel) ?_
        refine sw_icmp_ne (tgt := 82) X (by omega) (by omega) dX6_addGate_75 (by decide) (fun h8 => ?_) (fun h8 => ?_)
        · refine sw_iconst X dX6_addGate_82 ?_
          refine sw_callVI0 (C := RX6) (As := [.int (J 0)]) (rest := []) X (c_X6_goesWell l D k ad st tl t x y h 0 (by omega)) (cwV 1 (sw_ts X) (sw_goodV gw4_58 gw4_60 gws_17 gw1_3 gw4_61) rfl rfl rfl (by decide +kernel) ⟨Nat.le_of_ble_eq_true rfl, Nat.le_of_ble_eq_true rfl⟩) 0 (ci := 6) rfl rfl rfl dX6_addGate_83 rfl rfl (Nat.le_of_ble_eq_true rfl) ⟨Nat.le_of_ble_eq_true rfl, Nat.le_of_ble_eq_true rfl⟩ (fun z9 w9 hp10 => ?_)
          obtain ⟨rfl, hp10⟩ := hp10
          obtain rfl : z9 = 1 := by omega
          clear hp10
          refine sw_if_ne (tgt := 91) X (by omega) dX6_addGate_86 (by decide) (fun h11 => ?_) (fun h11 => ?_)
          · refine sw_aload_n X dX6_addGate_91 rfl 1 rfl ?_
            refine sw_get (q0 := 0) (v := .ref (ad 6)) X iw_X6 rfl rfl 6 (by decide) gw3_214 rfl rfl dX6_addGate_92 ?_
            refine sw_aload_n X dX6_addGate_95 rfl 1 rfl ?_
            refine sw_get (q0 := 0) (v := .int (J (st 5 0))) X iw_X6 rfl rfl 5 (by decide) gw3_213 rfl rfl dX6_addGate_96 ?_
            refine sw_iload_n X dX6_addGate_99 rfl 2 rfl ?_
            refine sw_iast (q0 := 3) (n := 10) X rfl (by omega) (by omega) (by decide) mW_a6 dX6_addGate_100 ?_
            refine sw_aload_n X dX6_addGate_101 rfl 1 rfl ?_
            refine sw_get (q0 := 0) (v := .ref (ad 7)) X iw_X6 rfl rfl 7 (by decide) gw3_215 rfl rfl dX6_addGate_102 ?_
            refine sw_aload_n X dX6_addGate_105 rfl 1 rfl ?_
            refine sw_get (q0 := 0) (v := .int (J (st 5 0))) X iw_X6 rfl rfl 5 (by decide) gw3_213 rfl rfl dX6_addGate_106 ?_
            refine sw_iload_n X dX6_addGate_109 rfl 3 rfl ?_
            refine sw_iast (q0 := 4) (n := 10) X rfl (by omega) (by omega) (by decide) mW_a7 dX6_addGate_110 ?_
            refine sw_aload_n X dX6_addGate_111 rfl 1 rfl ?_
            refine sw_dup X dX6_addGate_112 rfl ?_
            refine sw_get (q0 := 0) (v := .int (J (st 5 0))) X iw_X6 rfl rfl 5 (by decide) gw3_213 rfl rfl dX6_addGate_113 ?_
            refine sw_iconst X dX6_addGate_116 ?_
            refine sw_iadd X dX6_addGate_117 ?_
            refine sw_put (q0 := 0) X iw_X6 tyX6 tyX6_ok nmX6 rfl rfl 5 (by decide) gw3_213 rfl rfl (ty := .int) (by decide +kernel) rfl rfl (Nat.le_of_ble_eq_true rfl) mW_p5 dX6_addGate_118 ?_
            refine sw_aload_n X dX6_addGate_121 rfl 1 rfl ?_
            refine sw_get (q0 := 0) (v := .int (J ((st 5 0) + 1))) X iw_X6 rfl rfl 5 (by decide) gw3_213 rfl rfl dX6_addGate_122 ?_
            refine sw_iconst X dX6_addGate_125 ?_
            refine sw_isub X dX6_addGate_126 ?_
            exact RI _ _ _ _ _ _ dX6_addGate_127 (by decide) (by decide) rfl (Or.inr ⟨_, _, _, _, rfl, by unfold kAddGate; rw [if_neg (by omega), if_neg (by omega), if_neg (by omega)], by omega⟩)
          · exfalso; revert h11; decide
        · refine sw_iconst X dX6_addGate_78 ?_
          refine sw_goto (tgt := 83) X dX6_addGate_79 (by decide) ?_
          refine sw_callVI0 (C := RX6) (As := [.int (J 3)]) (rest := []) X (c_X6_goesWell l D k ad st tl t x y h 3 (by omega)) (cwV 1 (sw_ts X) (sw_goodV gw4_58 gw4_60 gws_17 gw1_3 gw4_61) rfl rfl rfl (by decide +kernel) ⟨Nat.le_of_ble_eq_true rfl, Nat.le_of_ble_eq_true rfl⟩) 0 (ci := 6) rfl rfl rfl dX6_addGate_83 rfl rfl (Nat.le_of_ble_eq_true rfl) ⟨Nat.le_of_ble_eq_true rfl, Nat.le_of_ble_eq_true rfl⟩ (fun z12 w9 hp13 => ?_)
          obtain ⟨rfl, hp13⟩ := hp13
          obtain rfl : z12 = 0 := by omega
          clear hp13
          refine sw_if_ne (tgt := 91) X (by omega) dX6_addGate_86 (by decide) (fun h14 => ?_) (fun h14 => ?_)
          · exfalso; revert h14; decide
          · refine sw_iconst X dX6_addGate_89 ?_
            exact RI _ _ _ _ _ _ dX6_addGate_90 (by decide) (by decide) rfl (Or.inl ⟨_, _, _, _, _, rfl, by decide, by unfold kAddGate; rw [if_neg (by omega), if_neg (by omega), if_pos (by omega)]⟩)
      · refine sw_iconst X dX6_addGate_65 ?_
        refine sw_goto (tgt := 83) X dX6_addGate_66 (by decide) ?_
        refine sw_callVI0 (C := RX6) (As := [.int (J 2)]) (rest := []) X (c_X6_goesWell l D k ad st tl t x y h 2 (by omega)) (cwV 1 (sw_ts X) (sw_goodV gw4_58 gw4_60 gws_17 gw1_3 gw4_61) rfl rfl rfl (by decide +kernel) ⟨Nat.le_of_ble_eq_true rfl, Nat.le_of_ble_eq_true rfl⟩) 0 (ci := 6) rfl rfl rfl dX6_addGate_83 rfl rfl (Nat.le_of_ble_eq_true rfl) ⟨Nat.le_of_ble_eq_true rfl, Nat.le_of_ble_eq_true rfl⟩ (fun z15 w9 hp16 => ?_)
        obtain ⟨rfl, hp16⟩ := hp16
        obtain rfl : z15 = 0 := by omega
        clear hp16
        refine sw_if_ne (tgt := 91) X (by omega) dX6_addGate_86 (by decide) (fun h17 => ?_) (fun h17 => ?_)
        · exfalso; revert h17; decide
        · refine sw_iconst X dX6_addGate_89 ?_
          exact RI _ _ _ _ _ _ dX6_addGate_90 (by decide) (by decide) rfl (Or.inl ⟨_, _, _, _, _, rfl, by decide, by unfold kAddGate; rw [if_neg (by omega), if_pos (by omega)]⟩)
    · refine sw_iconst X dX6_addGate_56 ?_
      refine sw_goto (tgt := 83) X dX6_addGate_57 (by decide) ?_
      refine sw_callVI0 (C := RX6) (As := [.int (J 1)]) (rest := []) X (c_X6_goesWell l D k ad st tl t x y h 1 (by omega)) (cwV 1 (sw_ts X) (sw_goodV gw4_58 gw4_60 gws_17 gw1_3 gw4_61) rfl rfl rfl (by decide +kernel) ⟨Nat.le_of_ble_eq_true rfl, Nat.le_of_ble_eq_true rfl⟩) 0 (ci := 6) rfl rfl rfl dX6_addGate_83 rfl rfl (Nat.le_of_ble_eq_true rfl) ⟨Nat.le_of_ble_eq_true rfl, Nat.le_of_ble_eq_true rfl⟩ (fun z18 w9 hp19 => ?_)
      obtain ⟨rfl, hp19⟩ := hp19
      obtain rfl : z18 = 0 := by omega
      clear hp19
      refine sw_if_ne (tgt := 91) X (by omega) dX6_addGate_86 (by decide) (fun h20 => ?_) (fun h20 => ?_)
      · exfalso; revert h20; decide
      · refine sw_iconst X dX6_addGate_89 ?_
        exact RI _ _ _ _ _ _ dX6_addGate_90 (by decide) (by decide) rfl (Or.inl ⟨_, _, _, _, _, rfl, by decide, by unfold kAddGate; rw [if_pos (by omega)]⟩)
  refine sw_if_eq (tgt := 48) X (by omega) dX6_addGate_19 (by decide) (fun h21 => ?_) (fun h21 => ?_)
  · refine sw_iconst X dX6_addGate_48 ?_
    refine sw_sub [1, 2, 3, 0] rfl ?_
    exact jn5 0 (by omega)
  · refine sw_aload_n X dX6_addGate_22 rfl 1 rfl ?_
    refine sw_get (q0 := 0) (v := .int (J (st 5 0))) X iw_X6 rfl rfl 5 (by decide) gw3_213 rfl rfl dX6_addGate_23 ?_
    refine sw_if_eq (tgt := 44) X (by omega) dX6_addGate_26 (by decide) (fun h22 => ?_) (fun h22 => ?_)
    · refine sw_iconst X dX6_addGate_44 ?_
      refine sw_goto (tgt := 49) X dX6_addGate_45 (by decide) ?_
      refine sw_sub [1, 2, 3, 0] rfl ?_
      exact jn5 1 (by omega)
    · have h6 := I_g hI (st 5 0 - 1) (by omega) (by omega)
      refine sw_iload_n X dX6_addGate_29 rfl 2 rfl ?_
      refine sw_aload_n X dX6_addGate_30 rfl 1 rfl ?_
      refine sw_get (q0 := 0) (v := .ref (ad 6)) X iw_X6 rfl rfl 6 (by decide) gw3_214 rfl rfl dX6_addGate_31 ?_
      refine sw_aload_n X dX6_addGate_34 rfl 1 rfl ?_
      refine sw_get (q0 := 0) (v := .int (J (st 5 0))) X iw_X6 rfl rfl 5 (by decide) gw3_213 rfl rfl dX6_addGate_35 ?_
      refine sw_iconst X dX6_addGate_38 ?_
      refine sw_isub X dX6_addGate_39 ?_
      refine sw_iald (q0 := 3) (n := 10) X rfl (by omega) (by omega) (by decide) dX6_addGate_40 ?_
      refine sw_icmp_le (tgt := 48) X (by omega) (by omega) dX6_addGate_41 (by decide) (fun h23 => ?_) (fun h23 => ?_)
      · refine sw_iconst X dX6_addGate_48 ?_
        refine sw_sub [1, 2, 3, 0] rfl ?_
        exact jn5 0 (by omega)
      · refine sw_iconst X dX6_addGate_44 ?_
        refine sw_goto (tgt := 49) X dX6_addGate_45 (by decide) ?_
        refine sw_sub [1, 2, 3, 0] rfl ?_
        exact jn5 1 (by omega)
abbrev rm_X6_drive : Room := { frames := 2, cells := 0, slots := 0, locals := 48 }
set_option maxHeartbeats 4000000 in
set_option maxRecDepth 100000 in
theorem c_X6_drive (l : Launch) (D : va_G) (k : Nat → ClassId) (N : Int) (ad : Nat → Nat) (st : Nat → Int → Int) (tl : Int → Int) (t x y h : Int) (c a b : Int) (hI : I6 N st) (h_c : (-2147483648 ≤ c ∧ c < 2147483648)) (h_a : (-2147483648 ≤ a ∧ a < 2147483648)) (h_b : (-2147483648 ≤ b ∧ b < 2147483648)) : CI l yX6_drive cX6_drive 7 (some .int) rm_X6_drive D k [.ref (ad 0), .int (J c), .int (J a), .int (J b)] (mW k ad st tl t x y h) (oP k ad st (aP st c a a b) (kDrive st c a b) (clk (aP st c a a b) c)) := by
  refine CI.of (by decide +kernel) (Nat.le_of_ble_eq_true rfl) (fun pᵢ eᵢ sᵢ mᵢ argsᵢ belowᵢ methᵢ cᵢ Aᵢ Qᵢ X RI => ?_)
  show SW pᵢ l eᵢ rm_X6_drive sᵢ mᵢ argsᵢ belowᵢ methᵢ cᵢ 7 D Aᵢ 0 0 Qᵢ (mW k ad st tl t x y h) 0 [(0, .ref (ad 0)), (1, .int (J c)), (2, .int (J a)), (3, .int (J b))] []
  have hS_ := I_st hI
  have hE_ := I_en hI
  have hG_ := I_ga hI
  have hU_ := I_cu hI
  have hC_ := I_ca hI
  have hP_ := I_pa hI
  refine sw_aload_n X dX6_drive_0 rfl 0 rfl ?_
  refine sw_iload_n X dX6_drive_1 rfl 1 rfl ?_
  refine sw_callVI0 (C := RX6) (As := [.int (J c)]) (rest := []) X (c_X6_isCar l D k ad st tl t x y h c (by omega) (by omega)) (cwV 1 (sw_ts X) (sw_goodV gw4_102 gw4_104 gws_23 gw1_3 gw4_105) rfl rfl rfl (by decide +kernel) ⟨Nat.le_of_ble_eq_true rfl, Nat.le_of_ble_eq_true rfl⟩) 0 (ci := 6) rfl rfl rfl dX6_drive_2 rfl rfl (Nat.le_of_ble_eq_true rfl) ⟨Nat.le_of_ble_eq_true rfl, Nat.le_of_ble_eq_true rfl⟩ (fun z1 w9 hp2 => ?_)
  obtain ⟨rfl, hp2⟩ := hp2
  refine sw_istore (lv' := [(4, .int (J z1)), (0, .ref (ad 0)), (1, .int (J c)), (2, .int (J a)), (3, .int (J b))]) X dX6_drive_5 (by decide) rfl ?_
  refine sw_iload_n X dX6_drive_7 rfl 3 rfl ?_
  refine sw_iconst X dX6_drive_8 ?_
  refine sw_bipush X dX6_drive_9 (by decide +kernel) ?_
  refine sw_callSI0 (As := [.int (J a), .int (J 0), .int (J 15)]) (rest := []) X (c_X6_in l D k (mW k ad st tl t x y h) a 0 15 (by omega)) (va_cwS 3 (sw_ts X) (sw_goodS gw4_55 gw4_56 gw1_3 gw4_57) rfl rfl rfl (by decide +kernel) ⟨Nat.le_of_ble_eq_true rfl, Nat.le_of_ble_eq_true rfl⟩) dX6_drive_11 rfl rfl (Nat.le_of_ble_eq_true rfl) ⟨Nat.le_of_ble_eq_true rfl, Nat.le_of_ble_eq_true rfl⟩ (fun z3 w9 hp4 => ?_)
  obtain ⟨rfl, hp4⟩ := hp4
  have jn5 : ∀ (z9 : Int), ((z9 = 1 ∧ (0 ≤ a ∧ a ≤ 15) ∧ 0 ≤ b ∧ b ≤ 3) ∨ (z9 = 0 ∧ ¬ ((0 ≤ a ∧ a ≤ 15) ∧ 0 ≤ b ∧ b ≤ 3))) → SW pᵢ l eᵢ rm_X6_drive sᵢ mᵢ argsᵢ belowᵢ methᵢ cᵢ 7 D Aᵢ 0 0 Qᵢ (mW k ad st tl t x y h) 31 [(0, .ref (ad 0)), (1, .int (J c)), (2, .int (J a)), (3, .int (J b)), (4, .int (J z1))] [.int (J z9)] := by
    intro z9 hz9
    refine sw_istore (lv' := [(5, .int (J z9)), (0, .ref (ad 0)), (1, .int (J c)), (2, .int (J a)), (3, .int (J b)), (4, .int (J z1))]) X dX6_drive_31 (by decide) rfl ?_
    refine sw_iload X dX6_drive_33 5 rfl ?_
    have jn6 : ∀ (y9 : Int), ((y9 = 1 ∧ (0 ≤ c ∧ c < st 9 0) ∧ ((0 ≤ a ∧ a ≤ 15) ∧ 0 ≤ b ∧ b ≤ 3) ∧ st 14 c = -1 ∧ st 10 c < 60) ∨ (y9 = 0 ∧ ¬ ((0 ≤ c ∧ c < st 9 0) ∧ ((0 ≤ a ∧ a ≤ 15) ∧ 0 ≤ b ∧ b ≤ 3) ∧ st 14 c = -1 ∧ st 10 c < 60))) → SW pᵢ l eᵢ rm_X6_drive sᵢ mᵢ argsᵢ belowᵢ methᵢ cᵢ 7 D Aᵢ 0 0 Qᵢ (mW k ad st tl t x y h) 69 [(0, .ref (ad 0)), (1, .int (J c)), (2, .int (J a)), (3, .int (J b)), (4, .int (J z1)), (5, .int (J z9))] [.int (J y9)] := by
      intro y9 hy9
      refine sw_istore (lv' := [(6, .int (J y9)), (0, .ref (ad 0)), (1, .int (J c)), (2, .int (J a)), (3, .int (J b)), (4, .int (J z1)), (5, .int (J z9))]) X dX6_drive_69 (by decide) rfl ?_
      refine sw_iload X dX6_drive_71 0 rfl ?_
      have jn7 : ∀ (x9 u9 v9 g9 : Int), ((x9 = 1 ∧ y9 = 1 ∧ onG st c a) ∨ (x9 = 0 ∧ ¬ (y9 = 1 ∧ onG st c a))) → SW pᵢ l eᵢ rm_X6_drive sᵢ mᵢ argsᵢ belowᵢ methᵢ cᵢ 7 D Aᵢ 0 0 Qᵢ (mW k ad st tl t u9 v9 g9) 97 [(0, .ref (ad 0)), (1, .int (J c)), (2, .int (J a)), (3, .int (J b)), (4, .int (J z1)), (5, .int (J z9)), (6, .int (J x9))] [] := by
        intro x9 u9 v9 g9 hx9
        unfold onG at hx9
        refine sw_aload_n X dX6_drive_97 rfl 0 rfl ?_
        refine sw_iload X dX6_drive_98 4 rfl ?_
        refine sw_if_ne (tgt := 107) X (by omega) dX6_drive_100 (by decide) (fun h8 => ?_) (fun h8 => ?_)
        · refine sw_iload X dX6_drive_107 5 rfl ?_
          refine sw_if_ne (tgt := 116) X (by omega) dX6_drive_109 (by decide) (fun h9 => ?_) (fun h9 => ?_)
          · refine sw_iload X dX6_drive_116 6 rfl ?_
            refine sw_if_eq (tgt := 125) X (by omega) dX6_drive_118 (by decide) (fun h10 => ?_) (fun h10 => ?_)
            · refine sw_iconst X dX6_drive_125 ?_
              refine sw_callVI0 (C := RX6) (As := [.int (J 3)]) (rest := []) X (c_X6_goesWell l D k ad st tl t u9 v9 g9 3 (by omega)) (cwV 1 (sw_ts X) (sw_goodV gw4_58 gw4_60 gws_17 gw1_3 gw4_61) rfl rfl rfl (by decide +kernel) ⟨Nat.le_of_ble_eq_true rfl, Nat.le_of_ble_eq_true rfl⟩) 0 (ci := 6) rfl rfl rfl dX6_drive_126 rfl rfl (Nat.le_of_ble_eq_true rfl) ⟨Nat.le_of_ble_eq_true rfl, Nat.le_of_ble_eq_true rfl⟩ (fun z11 w9 hp12 => ?_)
              obtain ⟨rfl, hp12⟩ := hp12
              obtain rfl : z11 = 0 := by omega
              clear hp12
              refine sw_if_eq (tgt := 143) X (by omega) dX6_drive_129 (by decide) (fun h13 => ?_) (fun h13 => ?_)
              · refine sw_iconst X dX6_drive_143 ?_
                exact RI _ _ _ _ _ _ dX6_drive_144 (by decide) (by decide) rfl (Or.inl ⟨_, _, _, _, _, rfl, by decide, by unfold kDrive; rw [if_neg (by omega), if_neg (by omega), if_pos (by omega)]⟩)
              · exfalso; revert h13; decide
            · refine sw_iconst X dX6_drive_121 ?_
              refine sw_goto (tgt := 126) X dX6_drive_122 (by decide) ?_
              refine sw_callVI0 (C := RX6) (As := [.int (J 0)]) (rest := []) X (c_X6_goesWell l D k ad st tl t u9 v9 g9 0 (by omega)) (cwV 1 (sw_ts X) (sw_goodV gw4_58 gw4_60 gws_17 gw1_3 gw4_61) rfl rfl rfl (by decide +kernel) ⟨Nat.le_of_ble_eq_true rfl, Nat.le_of_ble_eq_true rfl⟩) 0 (ci := 6) rfl rfl rfl dX6_drive_126 rfl rfl (Nat.le_of_ble_eq_true rfl) ⟨Nat.le_of_ble_eq_true rfl, Nat.le_of_ble_eq_true rfl⟩ (fun z14 w9 hp15 => ?_)
              obtain ⟨rfl, hp15⟩ := hp15
              obtain rfl : z14 = 1 := by omega
              clear hp15
              refine sw_if_eq (tgt := 143) X (by omega) dX6_drive_129 (by decide) (fun h16 => ?_) (fun h16 => ?_)
              · exfalso; revert h16; decide
              · have hI2 : I6 N (aP st c a a b) := I_piece hI (by omega) (by omega) (by omega) (by omega) (by rw [if_neg (by omega)]; omega) (by rw [if_neg (by omega)]; omega)
                have hcc := I_c hI c (by omega) (by omega)
                refine sw_aload_n X dX6_drive_132 rfl 0 rfl ?_
                refine sw_iload_n X dX6_drive_133 rfl 1 rfl ?_
                refine sw_iload_n X dX6_drive_134 rfl 2 rfl ?_
                refine sw_iload_n X dX6_drive_135 rfl 2 rfl ?_
                refine sw_iload_n X dX6_drive_136 rfl 3 rfl ?_
                refine sw_callVI0 (C := RX6) (As := [.int (J c), .int (J a), .int (J a), .int (J b)]) (rest := []) X (c_X6_addPiece l D k N ad st tl 0 u9 v9 g9 c a a b (by assumption) (by omega) (by first | omega | (show 0 ≤ st 10 c ∧ st 10 c < 60; omega))) (cwV 4 (sw_ts X) (sw_goodV gw4_114 gw4_116 gws_26 gw1_3 gw4_117) rfl rfl rfl (by decide +kernel) ⟨Nat.le_of_ble_eq_true rfl, Nat.le_of_ble_eq_true rfl⟩) 0 (ci := 6) rfl rfl rfl dX6_drive_137 rfl rfl (Nat.le_of_ble_eq_true rfl) ⟨Nat.le_of_ble_eq_true rfl, Nat.le_of_ble_eq_true rfl⟩ (fun z17 w9 hp18 => ?_)
                obtain ⟨rfl, rfl⟩ := hp18
                refine sw_goto (tgt := 144) X dX6_drive_140 (by decide) ?_
                exact RI _ _ _ _ _ _ dX6_drive_144 (by decide) (by decide) rfl (Or.inr ⟨_, _, _, _, rfl, by unfold kDrive; rw [if_neg (by omega), if_neg (by omega), if_neg (by omega)], rfl⟩)
          · refine sw_iconst X dX6_drive_112 ?_
            refine sw_goto (tgt := 126) X dX6_drive_113 (by decide) ?_
            refine sw_callVI0 (C := RX6) (As := [.int (J 2)]) (rest := []) X (c_X6_goesWell l D k ad st tl t u9 v9 g9 2 (by omega)) (cwV 1 (sw_ts X) (sw_goodV gw4_58 gw4_60 gws_17 gw1_3 gw4_61) rfl rfl rfl (by decide +kernel) ⟨Nat.le_of_ble_eq_true rfl, Nat.le_of_ble_eq_true rfl⟩) 0 (ci := 6) rfl rfl rfl dX6_drive_126 rfl rfl (Nat.le_of_ble_eq_true rfl) ⟨Nat.le_of_ble_eq_true rfl, Nat.le_of_ble_eq_true rfl⟩ (fun z19 w9 hp20 => ?_)
            obtain ⟨rfl, hp20⟩ := hp20
            obtain rfl : z19 = 0 := by omega
            clear hp20
            refine sw_if_eq (tgt := 143) X (by omega) dX6_drive_129 (by decide) (fun h21 => ?_) (fun h21 => ?_)
            · refine sw_iconst X dX6_drive_143 ?_
              exact RI _ _ _ _ _ _ dX6_drive_144 (by decide) (by decide) rfl (Or.inl ⟨_, _, _, _, _, rfl, by decide, by unfold kDrive; rw [if_neg (by omega), if_pos (by omega)]⟩)
            · exfalso; revert h21; decide
        · refine sw_iconst X dX6_drive_103 ?_
          refine sw_goto (tgt := 126) X dX6_drive_104 (by decide) ?_
          refine sw_callVI0 (C := RX6) (As := [.int (J 1)]) (rest := []) X (c_X6_goesWell l D k ad st tl t u9 v9 g9 1 (by omega)) (cwV 1 (sw_ts X) (sw_goodV gw4_58 gw4_60 gws_17 gw1_3 gw4_61) rfl rfl rfl (by decide +kernel) ⟨Nat.le_of_ble_eq_true rfl, Nat.le_of_ble_eq_true rfl⟩) 0 (ci := 6) rfl rfl rfl dX6_drive_126 rfl rfl (Nat.le_of_ble_eq_true rfl) ⟨Nat.le_of_ble_eq_true rfl, Nat.le_of_ble_eq_true rfl⟩ (fun z22 w9 hp23 => ?_)
          obtain ⟨rfl, hp23⟩ := hp23
          obtain rfl : z22 = 0 := by omega
          clear hp23
          refine sw_if_eq (tgt := 143) X (by omega) dX6_drive_129 (by decide) (fun h24 => ?_) (fun h24 => ?_)
          · refine sw_iconst X dX6_drive_143 ?_
            exact RI _ _ _ _ _ _ dX6_drive_144 (by decide) (by decide) rfl (Or.inl ⟨_, _, _, _, _, rfl, by decide, by unfold kDrive; rw [if_pos (by omega)]⟩)
          · exfalso; revert h24; decide
      refine sw_if_eq (tgt := 97) X (by omega) dX6_drive_73 (by decide) (fun h25 => ?_) (fun h25 => ?_)
      · refine sw_sub [1, 2, 3, 4, 5, 6, 0] rfl ?_
        exact jn7 y9 x y h (by unfold onG; omega)
      · have hcc := I_c hI c (by omega) (by omega)
        have hck := clk_b hI (c := c) (by omega) (by omega)
        have hpf := pA_full hI (c := c) (by omega) (by omega) (m := clk st c) (nP st c) (by rw [nP_e hI (by omega) (by omega)]; omega) (Int.le_refl _)
        have htp := I_t hI c (nP st c) (by omega) (by omega) (by rw [nP_e hI (by omega) (by omega)]; omega)
        have hth := tP_h st c (nP st c)
        refine sw_aload_n X dX6_drive_76 rfl 1 rfl ?_
        refine sw_iload_n X dX6_drive_77 rfl 2 rfl ?_
        refine sw_aload_n X dX6_drive_78 rfl 1 rfl ?_
        refine sw_iload_n X dX6_drive_79 rfl 2 rfl ?_
        refine sw_callVI0 (C := RX6) (As := [.int (J c)]) (rest := [.int (J c), .ref (ad 0)]) X (c_X6_clockOf l D k N ad st tl t x y h c hI (by omega)) (cwV 1 (sw_ts X) (sw_goodV gw4_106 gw4_108 gws_24 gw1_3 gw4_109) rfl rfl rfl (by decide +kernel) ⟨Nat.le_of_ble_eq_true rfl, Nat.le_of_ble_eq_true rfl⟩) 0 (ci := 6) rfl rfl rfl dX6_drive_80 rfl rfl (Nat.le_of_ble_eq_true rfl) ⟨Nat.le_of_ble_eq_true rfl, Nat.le_of_ble_eq_true rfl⟩ (fun z26 w9 hp27 => ?_)
        obtain ⟨rfl, rfl⟩ := hp27
        refine sw_callVV0 (C := RX6) (As := [.int (J c), .int (J (clk st c))]) (rest := []) X (c_X6_followTrack l D k N ad st tl t x y h c (clk st c) hI (by omega) (by omega)) (cwV 2 (sw_ts X) (sw_goodV gw4_110 gw4_112 gws_25 gw1_3 gw4_113) rfl rfl rfl (by decide +kernel) ⟨Nat.le_of_ble_eq_true rfl, Nat.le_of_ble_eq_true rfl⟩) 0 (ci := 6) rfl rfl rfl dX6_drive_83 rfl rfl (Nat.le_of_ble_eq_true rfl) ⟨Nat.le_of_ble_eq_true rfl, Nat.le_of_ble_eq_true rfl⟩ (fun w9 hp29 => ?_)
        obtain ⟨g30, rfl, eg30⟩ := hp29
        have hgg := eg30 rfl
        subst hgg
        have hd1 := dx_b (tP st c (nP st c)).2.2 a (by omega)
        have hd2 := dy_b (tP st c (nP st c)).2.2 a (by omega)
        have hp1 : (pA st c (clk st c) (nP st c)).1 = (tP st c (nP st c)).1 := by rw [hpf]
        have hp2 : (pA st c (clk st c) (nP st c)).2 = (tP st c (nP st c)).2.1 := by rw [hpf]
        refine sw_aload_n X dX6_drive_86 rfl 1 rfl ?_
        refine sw_iload_n X dX6_drive_87 rfl 3 rfl ?_
        refine sw_callVV0 (C := RX6) (As := [.int (J a)]) (rest := []) X (c_X6_goOn l D k ad st tl t ((pA st c (clk st c) (nP st c)).1) ((pA st c (clk st c) (nP st c)).2) ((tP st c (nP st c)).2.2) a (by omega)) (cwV 1 (sw_ts X) (sw_goodV gw4_74 gw4_76 gws_20 gw1_3 gw4_77) rfl rfl rfl (by decide +kernel) ⟨Nat.le_of_ble_eq_true rfl, Nat.le_of_ble_eq_true rfl⟩) 0 (ci := 6) rfl rfl rfl dX6_drive_88 rfl rfl (Nat.le_of_ble_eq_true rfl) ⟨Nat.le_of_ble_eq_true rfl, Nat.le_of_ble_eq_true rfl⟩ (fun w9 hp32 => ?_)
        subst hp32
        refine sw_aload_n X dX6_drive_91 rfl 1 rfl ?_
        refine sw_callVI0 (C := RX6) (As := []) (rest := []) X (c_X6_isOnGround l D k ad st tl t (((pA st c (clk st c) (nP st c)).1) + dx ((tP st c (nP st c)).2.2) a) (((pA st c (clk st c) (nP st c)).2) + dy ((tP st c (nP st c)).2.2) a) ((tP st c (nP st c)).2.2) (by omega)) (cwV 0 (sw_ts X) (sw_goodV gw4_78 gw4_80 gws_21 gw1_3 gw4_81) rfl rfl rfl (by decide +kernel) ⟨Nat.le_of_ble_eq_true rfl, Nat.le_of_ble_eq_true rfl⟩) 0 (ci := 6) rfl rfl rfl dX6_drive_92 rfl rfl (Nat.le_of_ble_eq_true rfl) ⟨Nat.le_of_ble_eq_true rfl, Nat.le_of_ble_eq_true rfl⟩ (fun z33 w9 hp34 => ?_)
        obtain ⟨rfl, hp34⟩ := hp34
        refine sw_istore (lv' := [(6, .int (J z33)), (0, .ref (ad 0)), (1, .int (J c)), (2, .int (J a)), (3, .int (J b)), (4, .int (J z1)), (5, .int (J z9))]) X dX6_drive_95 (by decide) rfl ?_
        refine sw_sub [1, 2, 3, 4, 5, 6, 0] rfl ?_
        exact jn7 z33 (((pA st c (clk st c) (nP st c)).1) + dx ((tP st c (nP st c)).2.2) a) (((pA st c (clk st c) (nP st c)).2) + dy ((tP st c (nP st c)).2.2) a) ((tP st c (nP st c)).2.2) (by unfold onG; omega)
    refine sw_if_eq (tgt := 68) X (by omega) dX6_drive_35 (by decide) (fun h35 => ?_) (fun h35 => ?_)
    · refine sw_iconst X dX6_drive_68 ?_
      refine sw_sub [1, 2, 3, 4, 5, 0] rfl ?_
      exact jn6 0 (by omega)
    · refine sw_iload X dX6_drive_38 0 rfl ?_
      refine sw_if_eq (tgt := 68) X (by omega) dX6_drive_40 (by decide) (fun h36 => ?_) (fun h36 => ?_)
      · refine sw_iconst X dX6_drive_68 ?_
        refine sw_sub [1, 2, 3, 4, 5, 0] rfl ?_
        exact jn6 0 (by omega)
      · have hcc := I_c hI c (by omega) (by omega)
        refine sw_aload_n X dX6_drive_43 rfl 1 rfl ?_
        refine sw_get (q0 := 0) (v := .ref (ad 14)) X iw_X6 rfl rfl 14 (by decide) gw3_222 rfl rfl dX6_drive_44 ?_
        refine sw_iload_n X dX6_drive_47 rfl 2 rfl ?_
        refine sw_iald (q0 := 9) (n := 8) X rfl (by omega) (by omega) (by decide) dX6_drive_48 ?_
        refine sw_iconst X dX6_drive_49 ?_
        refine sw_icmp_ne (tgt := 68) X (by omega) (by omega) dX6_drive_50 (by decide) (fun h37 => ?_) (fun h37 => ?_)
        · refine sw_iconst X dX6_drive_68 ?_
          refine sw_sub [1, 2, 3, 4, 5, 0] rfl ?_
          exact jn6 0 (by omega)
        · refine sw_aload_n X dX6_drive_53 rfl 1 rfl ?_
          refine sw_get (q0 := 0) (v := .ref (ad 10)) X iw_X6 rfl rfl 10 (by decide) gw3_218 rfl rfl dX6_drive_54 ?_
          refine sw_iload_n X dX6_drive_57 rfl 2 rfl ?_
          refine sw_iald (q0 := 5) (n := 8) X rfl (by omega) (by omega) (by decide) dX6_drive_58 ?_
          refine sw_bipush X dX6_drive_59 (by decide +kernel) ?_
          refine sw_icmp_ge (tgt := 68) X (by omega) (by omega) dX6_drive_61 (by decide) (fun h38 => ?_) (fun h38 => ?_)
          · refine sw_iconst X dX6_drive_68 ?_
            refine sw_sub [1, 2, 3, 4, 5, 0] rfl ?_
            exact jn6 0 (by omega)
          · refine sw_iconst X dX6_drive_64 ?_
            refine sw_goto (tgt := 69) X dX6_drive_65 (by decide) ?_
            refine sw_sub [1, 2, 3, 4, 5, 0] rfl ?_
            exact jn6 1 (by omega)
  refine sw_if_eq (tgt := 30) X (by omega) dX6_drive_14 (by decide) (fun h39 => ?_) (fun h39 => ?_)
  · refine sw_iconst X dX6_drive_30 ?_
    refine sw_sub [1, 2, 3, 4, 0] rfl ?_
    exact jn5 0 (by omega)
  · refine sw_iload_n X dX6_drive_17 rfl 4 rfl ?_
    refine sw_iconst X dX6_drive_18 ?_
    refine sw_iconst X dX6_drive_19 ?_
    refine sw_callSI0 (As := [.int (J b), .int (J 0), .int (J 3)]) (rest := []) X (c_X6_in l D k (mW k ad st tl t x y h) b 0 3 (by omega)) (va_cwS 3 (sw_ts X) (sw_goodS gw4_55 gw4_56 gw1_3 gw4_57) rfl rfl rfl (by decide +kernel) ⟨Nat.le_of_ble_eq_true rfl, Nat.le_of_ble_eq_true rfl⟩) dX6_drive_20 rfl rfl (Nat.le_of_ble_eq_true rfl) ⟨Nat.le_of_ble_eq_true rfl, Nat.le_of_ble_eq_true rfl⟩ (fun z40 w9 hp41 => ?_)
    obtain ⟨rfl, hp41⟩ := hp41
    refine sw_if_eq (tgt := 30) X (by omega) dX6_drive_23 (by decide) (fun h42 => ?_) (fun h42 => ?_)
    · refine sw_iconst X dX6_drive_30 ?_
      refine sw_sub [1, 2, 3, 4, 0] rfl ?_
      exact jn5 0 (by omega)
    · refine sw_iconst X dX6_drive_26 ?_
      refine sw_goto (tgt := 31) X dX6_drive_27 (by decide) ?_
      refine sw_sub [1, 2, 3, 4, 0] rfl ?_
      exact jn5 1 (by omega)
abbrev rm_X6_stand : Room := { frames := 2, cells := 0, slots := 0, locals := 48 }
set_option maxHeartbeats 4000000 in
set_option maxRecDepth 100000 in
theorem c_X6_stand (l : Launch) (D : va_G) (k : Nat → ClassId) (N : Int) (ad : Nat → Nat) (st : Nat → Int → Int) (tl : Int → Int) (t x y h : Int) (c a : Int) (hI : I6 N st) (h_c : (-2147483648 ≤ c ∧ c < 2147483648)) (h_a : (-2147483648 ≤ a ∧ a < 2147483648)) : CI l yX6_stand cX6_stand 5 (some .int) rm_X6_stand D k [.ref (ad 0), .int (J c), .int (J a)] (mW k ad st tl t x y h) (oP k ad st (aP st c (-1) a 0) (kStand st c a) (clk (aP st c (-1) a 0) c)) := by
  refine CI.of (by decide +kernel) (Nat.le_of_ble_eq_true rfl) (fun pᵢ eᵢ sᵢ mᵢ argsᵢ belowᵢ methᵢ cᵢ Aᵢ Qᵢ X RI => ?_)
  show SW pᵢ l eᵢ rm_X6_stand sᵢ mᵢ argsᵢ belowᵢ methᵢ cᵢ 5 D Aᵢ 0 0 Qᵢ (mW k ad st tl t x y h) 0 [(0, .ref (ad 0)), (1, .int (J c)), (2, .int (J a))] []
  have hS_ := I_st hI
  have hE_ := I_en hI
  have hG_ := I_ga hI
  have hU_ := I_cu hI
  have hC_ := I_ca hI
  have hP_ := I_pa hI
  refine sw_aload_n X dX6_stand_0 rfl 0 rfl ?_
  refine sw_iload_n X dX6_stand_1 rfl 1 rfl ?_
  refine sw_callVI0 (C := RX6) (As := [.int (J c)]) (rest := []) X (c_X6_isCar l D k ad st tl t x y h c (by omega) (by omega)) (cwV 1 (sw_ts X) (sw_goodV gw4_102 gw4_104 gws_23 gw1_3 gw4_105) rfl rfl rfl (by decide +kernel) ⟨Nat.le_of_ble_eq_true rfl, Nat.le_of_ble_eq_true rfl⟩) 0 (ci := 6) rfl rfl rfl dX6_stand_2 rfl rfl (Nat.le_of_ble_eq_true rfl) ⟨Nat.le_of_ble_eq_true rfl, Nat.le_of_ble_eq_true rfl⟩ (fun z1 w9 hp2 => ?_)
  obtain ⟨rfl, hp2⟩ := hp2
  refine sw_istore_n (lv' := [(3, .int (J z1)), (0, .ref (ad 0)), (1, .int (J c)), (2, .int (J a))]) X dX6_stand_5 rfl (by decide) rfl ?_
  refine sw_iload_n X dX6_stand_6 rfl 3 rfl ?_
  refine sw_iconst X dX6_stand_7 ?_
  refine sw_bipush X dX6_stand_8 (by decide +kernel) ?_
  refine sw_callSI0 (As := [.int (J a), .int (J 1), .int (J 100)]) (rest := []) X (c_X6_in l D k (mW k ad st tl t x y h) a 1 100 (by omega)) (va_cwS 3 (sw_ts X) (sw_goodS gw4_55 gw4_56 gw1_3 gw4_57) rfl rfl rfl (by decide +kernel) ⟨Nat.le_of_ble_eq_true rfl, Nat.le_of_ble_eq_true rfl⟩) dX6_stand_10 rfl rfl (Nat.le_of_ble_eq_true rfl) ⟨Nat.le_of_ble_eq_true rfl, Nat.le_of_ble_eq_true rfl⟩ (fun z3 w9 hp4 => ?_)
  obtain ⟨rfl, hp4⟩ := hp4
  refine sw_istore (lv' := [(4, .int (J z3)), (3, .int (J z1)), (0, .ref (ad 0)), (1, .int (J c)), (2, .int (J a))]) X dX6_stand_13 (by decide) rfl ?_
  refine sw_aload_n X dX6_stand_15 rfl 2 rfl ?_
  refine sw_iload_n X dX6_stand_16 rfl 1 rfl ?_
  refine sw_if_ne (tgt := 24) X (by omega) dX6_stand_17 (by decide) (fun h5 => ?_) (fun h5 => ?_)
  · refine sw_iload X dX6_stand_24 0 rfl ?_
    refine sw_if_ne (tgt := 33) X (by omega) dX6_stand_26 (by decide) (fun h6 => ?_) (fun h6 => ?_)
    · have hcc := I_c hI c (by omega) (by omega)
      refine sw_aload_n X dX6_stand_33 rfl 2 rfl ?_
      refine sw_get (q0 := 0) (v := .ref (ad 10)) X iw_X6 rfl rfl 10 (by decide) gw3_218 rfl rfl dX6_stand_34 ?_
      refine sw_iload_n X dX6_stand_37 rfl 3 rfl ?_
      refine sw_iald (q0 := 5) (n := 8) X rfl (by omega) (by omega) (by decide) dX6_stand_38 ?_
      refine sw_bipush X dX6_stand_39 (by decide +kernel) ?_
      refine sw_icmp_ne (tgt := 48) X (by omega) (by omega) dX6_stand_41 (by decide) (fun h7 => ?_) (fun h7 => ?_)
      · refine sw_iconst X dX6_stand_48 ?_
        refine sw_callVI0 (C := RX6) (As := [.int (J 0)]) (rest := []) X (c_X6_goesWell l D k ad st tl t x y h 0 (by omega)) (cwV 1 (sw_ts X) (sw_goodV gw4_58 gw4_60 gws_17 gw1_3 gw4_61) rfl rfl rfl (by decide +kernel) ⟨Nat.le_of_ble_eq_true rfl, Nat.le_of_ble_eq_true rfl⟩) 0 (ci := 6) rfl rfl rfl dX6_stand_49 rfl rfl (Nat.le_of_ble_eq_true rfl) ⟨Nat.le_of_ble_eq_true rfl, Nat.le_of_ble_eq_true rfl⟩ (fun z8 w9 hp9 => ?_)
        obtain ⟨rfl, hp9⟩ := hp9
        obtain rfl : z8 = 1 := by omega
        clear hp9
        refine sw_if_eq (tgt := 66) X (by omega) dX6_stand_52 (by decide) (fun h10 => ?_) (fun h10 => ?_)
        · exfalso; revert h10; decide
        · have hcc := I_c hI c (by omega) (by omega)
          have htp := I_t hI c (nP st c) (by omega) (by omega) (by rw [nP_e hI (by omega) (by omega)]; omega)
          have hI2 : I6 N (aP st c (-1) a 0) := I_piece hI (by omega) (by omega) (by omega) (by omega) (by rw [if_pos rfl, dx_0]; omega) (by rw [if_pos rfl, dy_0]; omega)
          refine sw_aload_n X dX6_stand_55 rfl 2 rfl ?_
          refine sw_iload_n X dX6_stand_56 rfl 3 rfl ?_
          refine sw_iconst X dX6_stand_57 ?_
          refine sw_iload_n X dX6_stand_58 rfl 4 rfl ?_
          refine sw_iconst X dX6_stand_59 ?_
          refine sw_callVI0 (C := RX6) (As := [.int (J c), .int (J (-1)), .int (J a), .int (J 0)]) (rest := []) X (c_X6_addPiece l D k N ad st tl 0 x y h c (-1) a 0 (by assumption) (by omega) (by first | omega | (show 0 ≤ st 10 c ∧ st 10 c < 60; omega))) (cwV 4 (sw_ts X) (sw_goodV gw4_114 gw4_116 gws_26 gw1_3 gw4_117) rfl rfl rfl (by decide +kernel) ⟨Nat.le_of_ble_eq_true rfl, Nat.le_of_ble_eq_true rfl⟩) 0 (ci := 6) rfl rfl rfl dX6_stand_60 rfl rfl (Nat.le_of_ble_eq_true rfl) ⟨Nat.le_of_ble_eq_true rfl, Nat.le_of_ble_eq_true rfl⟩ (fun z11 w9 hp12 => ?_)
          obtain ⟨rfl, rfl⟩ := hp12
          refine sw_goto (tgt := 67) X dX6_stand_63 (by decide) ?_
          exact RI _ _ _ _ _ _ dX6_stand_67 (by decide) (by decide) rfl (Or.inr ⟨_, _, _, _, rfl, by unfold kStand; rw [if_neg (by omega), if_neg (by omega), if_neg (by omega)], rfl⟩)
      · refine sw_iconst X dX6_stand_44 ?_
        refine sw_goto (tgt := 49) X dX6_stand_45 (by decide) ?_
        refine sw_callVI0 (C := RX6) (As := [.int (J 3)]) (rest := []) X (c_X6_goesWell l D k ad st tl t x y h 3 (by omega)) (cwV 1 (sw_ts X) (sw_goodV gw4_58 gw4_60 gws_17 gw1_3 gw4_61) rfl rfl rfl (by decide +kernel) ⟨Nat.le_of_ble_eq_true rfl, Nat.le_of_ble_eq_true rfl⟩) 0 (ci := 6) rfl rfl rfl dX6_stand_49 rfl rfl (Nat.le_of_ble_eq_true rfl) ⟨Nat.le_of_ble_eq_true rfl, Nat.le_of_ble_eq_true rfl⟩ (fun z13 w9 hp14 => ?_)
        obtain ⟨rfl, hp14⟩ := hp14
        obtain rfl : z13 = 0 := by omega
        clear hp14
        refine sw_if_eq (tgt := 66) X (by omega) dX6_stand_52 (by decide) (fun h15 => ?_) (fun h15 => ?_)
        · refine sw_iconst X dX6_stand_66 ?_
          exact RI _ _ _ _ _ _ dX6_stand_67 (by decide) (by decide) rfl (Or.inl ⟨_, _, _, _, _, rfl, by decide, by unfold kStand; rw [if_neg (by omega), if_neg (by omega), if_pos (by omega)]⟩)
        · exfalso; revert h15; decide
    · refine sw_iconst X dX6_stand_29 ?_
      refine sw_goto (tgt := 49) X dX6_stand_30 (by decide) ?_
      refine sw_callVI0 (C := RX6) (As := [.int (J 2)]) (rest := []) X (c_X6_goesWell l D k ad st tl t x y h 2 (by omega)) (cwV 1 (sw_ts X) (sw_goodV gw4_58 gw4_60 gws_17 gw1_3 gw4_61) rfl rfl rfl (by decide +kernel) ⟨Nat.le_of_ble_eq_true rfl, Nat.le_of_ble_eq_true rfl⟩) 0 (ci := 6) rfl rfl rfl dX6_stand_49 rfl rfl (Nat.le_of_ble_eq_true rfl) ⟨Nat.le_of_ble_eq_true rfl, Nat.le_of_ble_eq_true rfl⟩ (fun z16 w9 hp17 => ?_)
      obtain ⟨rfl, hp17⟩ := hp17
      obtain rfl : z16 = 0 := by omega
      clear hp17
      refine sw_if_eq (tgt := 66) X (by omega) dX6_stand_52 (by decide) (fun h18 => ?_) (fun h18 => ?_)
      · refine sw_iconst X dX6_stand_66 ?_
        exact RI _ _ _ _ _ _ dX6_stand_67 (by decide) (by decide) rfl (Or.inl ⟨_, _, _, _, _, rfl, by decide, by unfold kStand; rw [if_neg (by omega), if_pos (by omega)]⟩)
      · exfalso; revert h18; decide
  · refine sw_iconst X dX6_stand_20 ?_
    refine sw_goto (tgt := 49) X dX6_stand_21 (by decide) ?_
    refine sw_callVI0 (C := RX6) (As := [.int (J 1)]) (rest := []) X (c_X6_goesWell l D k ad st tl t x y h 1 (by omega)) (cwV 1 (sw_ts X) (sw_goodV gw4_58 gw4_60 gws_17 gw1_3 gw4_61) rfl rfl rfl (by decide +kernel) ⟨Nat.le_of_ble_eq_true rfl, Nat.le_of_ble_eq_true rfl⟩) 0 (ci := 6) rfl rfl rfl dX6_stand_49 rfl rfl (Nat.le_of_ble_eq_true rfl) ⟨Nat.le_of_ble_eq_true rfl, Nat.le_of_ble_eq_true rfl⟩ (fun z19 w9 hp20 => ?_)
    obtain ⟨rfl, hp20⟩ := hp20
    obtain rfl : z19 = 0 := by omega
    clear hp20
    refine sw_if_eq (tgt := 66) X (by omega) dX6_stand_52 (by decide) (fun h21 => ?_) (fun h21 => ?_)
    · refine sw_iconst X dX6_stand_66 ?_
      exact RI _ _ _ _ _ _ dX6_stand_67 (by decide) (by decide) rfl (Or.inl ⟨_, _, _, _, _, rfl, by decide, by unfold kStand; rw [if_pos (by omega)]⟩)
    · exfalso; revert h21; decide
abbrev rm_X6_breakDown : Room := { frames := 2, cells := 0, slots := 0, locals := 43 }
set_option maxHeartbeats 4000000 in
set_option maxRecDepth 100000 in
theorem c_X6_breakDown (l : Launch) (D : va_G) (k : Nat → ClassId) (N : Int) (ad : Nat → Nat) (st : Nat → Int → Int) (tl : Int → Int) (t x y h : Int) (c a : Int) (hI : I6 N st) (h_c : (-2147483648 ≤ c ∧ c < 2147483648)) (h_a : (-2147483648 ≤ a ∧ a < 2147483648)) : CV l yX6_breakDown cX6_breakDown 4 none rm_X6_breakDown D k [.ref (ad 0), .int (J c), .int (J a)] (mW k ad st tl t x y h) (oP k ad st (up2 st 14 c a) (kBreak st c a) 0 0) := by
  refine CV.of (by decide +kernel) (Nat.le_of_ble_eq_true rfl) (fun pᵢ eᵢ sᵢ mᵢ argsᵢ belowᵢ methᵢ cᵢ Aᵢ Qᵢ X hnm RV => ?_)
  show SW pᵢ l eᵢ rm_X6_breakDown sᵢ mᵢ argsᵢ belowᵢ methᵢ cᵢ 4 D Aᵢ 0 0 Qᵢ (mW k ad st tl t x y h) 0 [(0, .ref (ad 0)), (1, .int (J c)), (2, .int (J a))] []
  have hS_ := I_st hI
  have hE_ := I_en hI
  have hG_ := I_ga hI
  have hU_ := I_cu hI
  have hC_ := I_ca hI
  have hP_ := I_pa hI
  refine sw_aload_n X dX6_breakDown_0 rfl 0 rfl ?_
  refine sw_iload_n X dX6_breakDown_1 rfl 1 rfl ?_
  refine sw_callVI0 (C := RX6) (As := [.int (J c)]) (rest := []) X (c_X6_isCar l D k ad st tl t x y h c (by omega) (by omega)) (cwV 1 (sw_ts X) (sw_goodV gw4_102 gw4_104 gws_23 gw1_3 gw4_105) rfl rfl rfl (by decide +kernel) ⟨Nat.le_of_ble_eq_true rfl, Nat.le_of_ble_eq_true rfl⟩) 0 (ci := 6) rfl rfl rfl dX6_breakDown_2 rfl rfl (Nat.le_of_ble_eq_true rfl) ⟨Nat.le_of_ble_eq_true rfl, Nat.le_of_ble_eq_true rfl⟩ (fun z1 w9 hp2 => ?_)
  obtain ⟨rfl, hp2⟩ := hp2
  have jn3 : ∀ (z9 : Int), ((z9 = 1 ∧ (0 ≤ c ∧ c < st 9 0) ∧ 0 ≤ a ∧ a ≤ 3) ∨ (z9 = 0 ∧ ¬ ((0 ≤ c ∧ c < st 9 0) ∧ 0 ≤ a ∧ a ≤ 3))) → SW pᵢ l eᵢ rm_X6_breakDown sᵢ mᵢ argsᵢ belowᵢ methᵢ cᵢ 4 D Aᵢ 0 0 Qᵢ (mW k ad st tl t x y h) 22 [(0, .ref (ad 0)), (1, .int (J c)), (2, .int (J a))] [.int (J z9)] := by
    intro z9 hz9
    refine sw_istore_n (lv' := [(3, .int (J z9)), (0, .ref (ad 0)), (1, .int (J c)), (2, .int (J a))]) X dX6_breakDown_22 rfl (by decide) rfl ?_
    refine sw_aload_n X dX6_breakDown_23 rfl 1 rfl ?_
    refine sw_iload_n X dX6_breakDown_24 rfl 0 rfl ?_
    refine sw_if_ne (tgt := 32) X (by omega) dX6_breakDown_25 (by decide) (fun h4 => ?_) (fun h4 => ?_)
    · have hcc := I_c hI c (by omega) (by omega)
      refine sw_aload_n X dX6_breakDown_32 rfl 1 rfl ?_
      refine sw_get (q0 := 0) (v := .ref (ad 14)) X iw_X6 rfl rfl 14 (by decide) gw3_222 rfl rfl dX6_breakDown_33 ?_
      refine sw_iload_n X dX6_breakDown_36 rfl 2 rfl ?_
      refine sw_iald (q0 := 9) (n := 8) X rfl (by omega) (by omega) (by decide) dX6_breakDown_37 ?_
      refine sw_iconst X dX6_breakDown_38 ?_
      refine sw_icmp_ne (tgt := 46) X (by omega) (by omega) dX6_breakDown_39 (by decide) (fun h5 => ?_) (fun h5 => ?_)
      · refine sw_iconst X dX6_breakDown_46 ?_
        refine sw_callVI0 (C := RX6) (As := [.int (J 2)]) (rest := []) X (c_X6_goesWell l D k ad st tl t x y h 2 (by omega)) (cwV 1 (sw_ts X) (sw_goodV gw4_58 gw4_60 gws_17 gw1_3 gw4_61) rfl rfl rfl (by decide +kernel) ⟨Nat.le_of_ble_eq_true rfl, Nat.le_of_ble_eq_true rfl⟩) 0 (ci := 6) rfl rfl rfl dX6_breakDown_47 rfl rfl (Nat.le_of_ble_eq_true rfl) ⟨Nat.le_of_ble_eq_true rfl, Nat.le_of_ble_eq_true rfl⟩ (fun z6 w9 hp7 => ?_)
        obtain ⟨rfl, hp7⟩ := hp7
        obtain rfl : z6 = 0 := by omega
        clear hp7
        refine sw_if_eq (tgt := 60) X (by omega) dX6_breakDown_50 (by decide) (fun h8 => ?_) (fun h8 => ?_)
        · exact RV _ _ _ _ _ dX6_breakDown_60 (by decide) (by decide) (Or.inl ⟨_, _, _, _, _, rfl, by decide, by unfold kBreak; rw [if_neg (by omega), if_neg (by omega)]⟩)
        · exfalso; revert h8; decide
      · refine sw_iconst X dX6_breakDown_42 ?_
        refine sw_goto (tgt := 47) X dX6_breakDown_43 (by decide) ?_
        refine sw_callVI0 (C := RX6) (As := [.int (J 0)]) (rest := []) X (c_X6_goesWell l D k ad st tl t x y h 0 (by omega)) (cwV 1 (sw_ts X) (sw_goodV gw4_58 gw4_60 gws_17 gw1_3 gw4_61) rfl rfl rfl (by decide +kernel) ⟨Nat.le_of_ble_eq_true rfl, Nat.le_of_ble_eq_true rfl⟩) 0 (ci := 6) rfl rfl rfl dX6_breakDown_47 rfl rfl (Nat.le_of_ble_eq_true rfl) ⟨Nat.le_of_ble_eq_true rfl, Nat.le_of_ble_eq_true rfl⟩ (fun z9 w9 hp10 => ?_)
        obtain ⟨rfl, hp10⟩ := hp10
        obtain rfl : z9 = 1 := by omega
        clear hp10
        refine sw_if_eq (tgt := 60) X (by omega) dX6_breakDown_50 (by decide) (fun h11 => ?_) (fun h11 => ?_)
        · exfalso; revert h11; decide
        · refine sw_aload_n X dX6_breakDown_53 rfl 1 rfl ?_
          refine sw_get (q0 := 0) (v := .ref (ad 14)) X iw_X6 rfl rfl 14 (by decide) gw3_222 rfl rfl dX6_breakDown_54 ?_
          refine sw_iload_n X dX6_breakDown_57 rfl 2 rfl ?_
          refine sw_iload_n X dX6_breakDown_58 rfl 3 rfl ?_
          refine sw_iast (q0 := 9) (n := 8) X rfl (by omega) (by omega) (by decide) mW_a14 dX6_breakDown_59 ?_
          exact RV _ _ _ _ _ dX6_breakDown_60 (by decide) (by decide) (Or.inr ⟨_, _, _, _, rfl, by unfold kBreak; rw [if_neg (by omega), if_pos (by omega)], rfl⟩)
    · refine sw_iconst X dX6_breakDown_28 ?_
      refine sw_goto (tgt := 47) X dX6_breakDown_29 (by decide) ?_
      refine sw_callVI0 (C := RX6) (As := [.int (J 1)]) (rest := []) X (c_X6_goesWell l D k ad st tl t x y h 1 (by omega)) (cwV 1 (sw_ts X) (sw_goodV gw4_58 gw4_60 gws_17 gw1_3 gw4_61) rfl rfl rfl (by decide +kernel) ⟨Nat.le_of_ble_eq_true rfl, Nat.le_of_ble_eq_true rfl⟩) 0 (ci := 6) rfl rfl rfl dX6_breakDown_47 rfl rfl (Nat.le_of_ble_eq_true rfl) ⟨Nat.le_of_ble_eq_true rfl, Nat.le_of_ble_eq_true rfl⟩ (fun z12 w9 hp13 => ?_)
      obtain ⟨rfl, hp13⟩ := hp13
      obtain rfl : z12 = 0 := by omega
      clear hp13
      refine sw_if_eq (tgt := 60) X (by omega) dX6_breakDown_50 (by decide) (fun h14 => ?_) (fun h14 => ?_)
      · exact RV _ _ _ _ _ dX6_breakDown_60 (by decide) (by decide) (Or.inl ⟨_, _, _, _, _, rfl, by decide, by unfold kBreak; rw [if_pos (by omega)]⟩)
      · exfalso; revert h14; decide
  refine sw_if_eq (tgt := 21) X (by omega) dX6_breakDown_5 (by decide) (fun h15 => ?_) (fun h15 => ?_)
  · refine sw_iconst X dX6_breakDown_21 ?_
    exact jn3 0 (by omega)
  · refine sw_iload_n X dX6_breakDown_8 rfl 2 rfl ?_
    refine sw_iconst X dX6_breakDown_9 ?_
    refine sw_iconst X dX6_breakDown_10 ?_
    refine sw_callSI0 (As := [.int (J a), .int (J 0), .int (J 3)]) (rest := []) X (c_X6_in l D k (mW k ad st tl t x y h) a 0 3 (by omega)) (va_cwS 3 (sw_ts X) (sw_goodS gw4_55 gw4_56 gw1_3 gw4_57) rfl rfl rfl (by decide +kernel) ⟨Nat.le_of_ble_eq_true rfl, Nat.le_of_ble_eq_true rfl⟩) dX6_breakDown_11 rfl rfl (Nat.le_of_ble_eq_true rfl) ⟨Nat.le_of_ble_eq_true rfl, Nat.le_of_ble_eq_true rfl⟩ (fun z16 w9 hp17 => ?_)
    obtain ⟨rfl, hp17⟩ := hp17
    refine sw_if_eq (tgt := 21) X (by omega) dX6_breakDown_14 (by decide) (fun h18 => ?_) (fun h18 => ?_)
    · refine sw_iconst X dX6_breakDown_21 ?_
      exact jn3 0 (by omega)
    · refine sw_iconst X dX6_breakDown_17 ?_
      refine sw_goto (tgt := 22) X dX6_breakDown_18 (by decide) ?_
      exact jn3 1 (by omega)
abbrev rm_X6_bring : Room := { frames := 2, cells := 0, slots := 0, locals := 43 }
set_option maxHeartbeats 4000000 in
set_option maxRecDepth 100000 in
theorem c_X6_bring (l : Launch) (D : va_G) (k : Nat → ClassId) (N : Int) (ad : Nat → Nat) (st : Nat → Int → Int) (tl : Int → Int) (t x y h : Int) (a b : Int) (hI : I6 N st) (h_a : (-2147483648 ≤ a ∧ a < 2147483648)) (h_b : (-2147483648 ≤ b ∧ b < 2147483648)) : CI l yX6_bring cX6_bring 4 (some .int) rm_X6_bring D k [.ref (ad 0), .int (J a), .int (J b)] (mW k ad st tl t x y h) (oP k ad st (sBring st a b) (kBring st a b) (st 17 0)) := by
  refine CI.of (by decide +kernel) (Nat.le_of_ble_eq_true rfl) (fun pᵢ eᵢ sᵢ mᵢ argsᵢ belowᵢ methᵢ cᵢ Aᵢ Qᵢ X RI => ?_)
  show SW pᵢ l eᵢ rm_X6_bring sᵢ mᵢ argsᵢ belowᵢ methᵢ cᵢ 4 D Aᵢ 0 0 Qᵢ (mW k ad st tl t x y h) 0 [(0, .ref (ad 0)), (1, .int (J a)), (2, .int (J b))] []
  have hS_ := I_st hI
  have hE_ := I_en hI
  have hG_ := I_ga hI
  have hU_ := I_cu hI
  have hC_ := I_ca hI
  have hP_ := I_pa hI
  refine sw_iload_n X dX6_bring_0 rfl 1 rfl ?_
  refine sw_iconst X dX6_bring_1 ?_
  refine sw_iconst X dX6_bring_2 ?_
  refine sw_callSI0 (As := [.int (J a), .int (J 0), .int (J 3)]) (rest := []) X (c_X6_in l D k (mW k ad st tl t x y h) a 0 3 (by omega)) (va_cwS 3 (sw_ts X) (sw_goodS gw4_55 gw4_56 gw1_3 gw4_57) rfl rfl rfl (by decide +kernel) ⟨Nat.le_of_ble_eq_true rfl, Nat.le_of_ble_eq_true rfl⟩) dX6_bring_3 rfl rfl (Nat.le_of_ble_eq_true rfl) ⟨Nat.le_of_ble_eq_true rfl, Nat.le_of_ble_eq_true rfl⟩ (fun z1 w9 hp2 => ?_)
  obtain ⟨rfl, hp2⟩ := hp2
  have jn3 : ∀ (z9 : Int), ((z9 = 1 ∧ (0 ≤ a ∧ a ≤ 3) ∧ (b = -1 ∨ (0 ≤ b ∧ b < st 9 0))) ∨ (z9 = 0 ∧ ¬ ((0 ≤ a ∧ a ≤ 3) ∧ (b = -1 ∨ (0 ≤ b ∧ b < st 9 0))))) → SW pᵢ l eᵢ rm_X6_bring sᵢ mᵢ argsᵢ belowᵢ methᵢ cᵢ 4 D Aᵢ 0 0 Qᵢ (mW k ad st tl t x y h) 27 [(0, .ref (ad 0)), (1, .int (J a)), (2, .int (J b))] [.int (J z9)] := by
    intro z9 hz9
    refine sw_istore_n (lv' := [(3, .int (J z9)), (0, .ref (ad 0)), (1, .int (J a)), (2, .int (J b))]) X dX6_bring_27 rfl (by decide) rfl ?_
    refine sw_aload_n X dX6_bring_28 rfl 1 rfl ?_
    refine sw_iload_n X dX6_bring_29 rfl 0 rfl ?_
    refine sw_if_ne (tgt := 37) X (by omega) dX6_bring_30 (by decide) (fun h4 => ?_) (fun h4 => ?_)
    · refine sw_aload_n X dX6_bring_37 rfl 1 rfl ?_
      refine sw_get (q0 := 0) (v := .int (J (st 17 0))) X iw_X6 rfl rfl 17 (by decide) gw3_225 rfl rfl dX6_bring_38 ?_
      refine sw_bipush X dX6_bring_41 (by decide +kernel) ?_
      refine sw_icmp_ne (tgt := 50) X (by omega) (by omega) dX6_bring_43 (by decide) (fun h5 => ?_) (fun h5 => ?_)
      · refine sw_iconst X dX6_bring_50 ?_
        refine sw_callVI0 (C := RX6) (As := [.int (J 0)]) (rest := []) X (c_X6_goesWell l D k ad st tl t x y h 0 (by omega)) (cwV 1 (sw_ts X) (sw_goodV gw4_58 gw4_60 gws_17 gw1_3 gw4_61) rfl rfl rfl (by decide +kernel) ⟨Nat.le_of_ble_eq_true rfl, Nat.le_of_ble_eq_true rfl⟩) 0 (ci := 6) rfl rfl rfl dX6_bring_51 rfl rfl (Nat.le_of_ble_eq_true rfl) ⟨Nat.le_of_ble_eq_true rfl, Nat.le_of_ble_eq_true rfl⟩ (fun z6 w9 hp7 => ?_)
        obtain ⟨rfl, hp7⟩ := hp7
        obtain rfl : z6 = 1 := by omega
        clear hp7
        refine sw_if_ne (tgt := 59) X (by omega) dX6_bring_54 (by decide) (fun h8 => ?_) (fun h8 => ?_)
        · refine sw_aload_n X dX6_bring_59 rfl 1 rfl ?_
          refine sw_get (q0 := 0) (v := .ref (ad 18)) X iw_X6 rfl rfl 18 (by decide) gw3_226 rfl rfl dX6_bring_60 ?_
          refine sw_aload_n X dX6_bring_63 rfl 1 rfl ?_
          refine sw_get (q0 := 0) (v := .int (J (st 17 0))) X iw_X6 rfl rfl 17 (by decide) gw3_225 rfl rfl dX6_bring_64 ?_
          refine sw_iload_n X dX6_bring_67 rfl 2 rfl ?_
          refine sw_iast (q0 := 12) (n := 40) X rfl (by omega) (by omega) (by decide) mW_a18 dX6_bring_68 ?_
          refine sw_aload_n X dX6_bring_69 rfl 1 rfl ?_
          refine sw_get (q0 := 0) (v := .ref (ad 19)) X iw_X6 rfl rfl 19 (by decide) gw3_227 rfl rfl dX6_bring_70 ?_
          refine sw_aload_n X dX6_bring_73 rfl 1 rfl ?_
          refine sw_get (q0 := 0) (v := .int (J (st 17 0))) X iw_X6 rfl rfl 17 (by decide) gw3_225 rfl rfl dX6_bring_74 ?_
          refine sw_iload_n X dX6_bring_77 rfl 3 rfl ?_
          refine sw_iast (q0 := 13) (n := 40) X rfl (by omega) (by omega) (by decide) mW_a19 dX6_bring_78 ?_
          refine sw_aload_n X dX6_bring_79 rfl 1 rfl ?_
          refine sw_get (q0 := 0) (v := .ref (ad 20)) X iw_X6 rfl rfl 20 (by decide) gw3_228 rfl rfl dX6_bring_80 ?_
          refine sw_aload_n X dX6_bring_83 rfl 1 rfl ?_
          refine sw_get (q0 := 0) (v := .int (J (st 17 0))) X iw_X6 rfl rfl 17 (by decide) gw3_225 rfl rfl dX6_bring_84 ?_
          refine sw_iload_n X dX6_bring_87 rfl 3 rfl ?_
          refine sw_iast (q0 := 14) (n := 40) X rfl (by omega) (by omega) (by decide) mW_a20 dX6_bring_88 ?_
          refine sw_aload_n X dX6_bring_89 rfl 1 rfl ?_
          refine sw_dup X dX6_bring_90 rfl ?_
          refine sw_get (q0 := 0) (v := .int (J (st 17 0))) X iw_X6 rfl rfl 17 (by decide) gw3_225 rfl rfl dX6_bring_91 ?_
          refine sw_iconst X dX6_bring_94 ?_
          refine sw_iadd X dX6_bring_95 ?_
          refine sw_put (q0 := 0) X iw_X6 tyX6 tyX6_ok nmX6 rfl rfl 17 (by decide) gw3_225 rfl rfl (ty := .int) (by decide +kernel) rfl rfl (Nat.le_of_ble_eq_true rfl) mW_p17 dX6_bring_96 ?_
          refine sw_aload_n X dX6_bring_99 rfl 1 rfl ?_
          refine sw_get (q0 := 0) (v := .int (J ((st 17 0) + 1))) X iw_X6 rfl rfl 17 (by decide) gw3_225 rfl rfl dX6_bring_100 ?_
          refine sw_iconst X dX6_bring_103 ?_
          refine sw_isub X dX6_bring_104 ?_
          exact RI _ _ _ _ _ _ dX6_bring_105 (by decide) (by decide) rfl (Or.inr ⟨_, _, _, _, rfl, by unfold kBring; rw [if_neg (by omega), if_neg (by omega)], by omega⟩)
        · exfalso; revert h8; decide
      · refine sw_iconst X dX6_bring_46 ?_
        refine sw_goto (tgt := 51) X dX6_bring_47 (by decide) ?_
        refine sw_callVI0 (C := RX6) (As := [.int (J 2)]) (rest := []) X (c_X6_goesWell l D k ad st tl t x y h 2 (by omega)) (cwV 1 (sw_ts X) (sw_goodV gw4_58 gw4_60 gws_17 gw1_3 gw4_61) rfl rfl rfl (by decide +kernel) ⟨Nat.le_of_ble_eq_true rfl, Nat.le_of_ble_eq_true rfl⟩) 0 (ci := 6) rfl rfl rfl dX6_bring_51 rfl rfl (Nat.le_of_ble_eq_true rfl) ⟨Nat.le_of_ble_eq_true rfl, Nat.le_of_ble_eq_true rfl⟩ (fun z9 w9 hp10 => ?_)
        obtain ⟨rfl, hp10⟩ := hp10
        obtain rfl : z9 = 0 := by omega
        clear hp10
        refine sw_if_ne (tgt := 59) X (by omega) dX6_bring_54 (by decide) (fun h11 => ?_) (fun h11 => ?_)
        · exfalso; revert h11; decide
        · refine sw_iconst X dX6_bring_57 ?_
          exact RI _ _ _ _ _ _ dX6_bring_58 (by decide) (by decide) rfl (Or.inl ⟨_, _, _, _, _, rfl, by decide, by unfold kBring; rw [if_neg (by omega), if_pos (by omega)]⟩)
    · refine sw_iconst X dX6_bring_33 ?_
      refine sw_goto (tgt := 51) X dX6_bring_34 (by decide) ?_
      refine sw_callVI0 (C := RX6) (As := [.int (J 1)]) (rest := []) X (c_X6_goesWell l D k ad st tl t x y h 1 (by omega)) (cwV 1 (sw_ts X) (sw_goodV gw4_58 gw4_60 gws_17 gw1_3 gw4_61) rfl rfl rfl (by decide +kernel) ⟨Nat.le_of_ble_eq_true rfl, Nat.le_of_ble_eq_true rfl⟩) 0 (ci := 6) rfl rfl rfl dX6_bring_51 rfl rfl (Nat.le_of_ble_eq_true rfl) ⟨Nat.le_of_ble_eq_true rfl, Nat.le_of_ble_eq_true rfl⟩ (fun z12 w9 hp13 => ?_)
      obtain ⟨rfl, hp13⟩ := hp13
      obtain rfl : z12 = 0 := by omega
      clear hp13
      refine sw_if_ne (tgt := 59) X (by omega) dX6_bring_54 (by decide) (fun h14 => ?_) (fun h14 => ?_)
      · exfalso; revert h14; decide
      · refine sw_iconst X dX6_bring_57 ?_
        exact RI _ _ _ _ _ _ dX6_bring_58 (by decide) (by decide) rfl (Or.inl ⟨_, _, _, _, _, rfl, by decide, by unfold kBring; rw [if_pos (by omega)]⟩)
  refine sw_if_eq (tgt := 26) X (by omega) dX6_bring_6 (by decide) (fun h15 => ?_) (fun h15 => ?_)
  · refine sw_iconst X dX6_bring_26 ?_
    exact jn3 0 (by omega)
  · refine sw_iload_n X dX6_bring_9 rfl 2 rfl ?_
    refine sw_iconst X dX6_bring_10 ?_
    refine sw_icmp_eq (tgt := 22) X (by omega) (by omega) dX6_bring_11 (by decide) (fun h16 => ?_) (fun h16 => ?_)
    · refine sw_iconst X dX6_bring_22 ?_
      refine sw_goto (tgt := 27) X dX6_bring_23 (by decide) ?_
      exact jn3 1 (by omega)
    · refine sw_aload_n X dX6_bring_14 rfl 0 rfl ?_
      refine sw_iload_n X dX6_bring_15 rfl 2 rfl ?_
      refine sw_callVI0 (C := RX6) (As := [.int (J b)]) (rest := []) X (c_X6_isCar l D k ad st tl t x y h b (by omega) (by omega)) (cwV 1 (sw_ts X) (sw_goodV gw4_102 gw4_104 gws_23 gw1_3 gw4_105) rfl rfl rfl (by decide +kernel) ⟨Nat.le_of_ble_eq_true rfl, Nat.le_of_ble_eq_true rfl⟩) 0 (ci := 6) rfl rfl rfl dX6_bring_16 rfl rfl (Nat.le_of_ble_eq_true rfl) ⟨Nat.le_of_ble_eq_true rfl, Nat.le_of_ble_eq_true rfl⟩ (fun z17 w9 hp18 => ?_)
      obtain ⟨rfl, hp18⟩ := hp18
      refine sw_if_eq (tgt := 26) X (by omega) dX6_bring_19 (by decide) (fun h19 => ?_) (fun h19 => ?_)
      · refine sw_iconst X dX6_bring_26 ?_
        exact jn3 0 (by omega)
      · refine sw_iconst X dX6_bring_22 ?_
        refine sw_goto (tgt := 27) X dX6_bring_23 (by decide) ?_
        exact jn3 1 (by omega)
abbrev rm_X6_hand : Room := { frames := 4, cells := 0, slots := 0, locals := 88 }
set_option maxHeartbeats 4000000 in
set_option maxRecDepth 100000 in
theorem c_X6_hand (l : Launch) (D : va_G) (k : Nat → ClassId) (N : Int) (ad : Nat → Nat) (st : Nat → Int → Int) (tl : Int → Int) (t x y h : Int) (a b : Int) (hI : I6 N st) (h_a : (-2147483648 ≤ a ∧ a < 2147483648)) (h_b : (-2147483648 ≤ b ∧ b < 2147483648)) : CI l yX6_hand cX6_hand 6 (some .int) rm_X6_hand D k [.ref (ad 0), .int (J a), .int (J b)] (mW k ad st tl t x y h) (oP k ad st (up2 st 20 a b) (kHand st a b) (st 20 a)) := by
  refine CI.of (by decide +kernel) (Nat.le_of_ble_eq_true rfl) (fun pᵢ eᵢ sᵢ mᵢ argsᵢ belowᵢ methᵢ cᵢ Aᵢ Qᵢ X RI => ?_)
  show SW pᵢ l eᵢ rm_X6_hand sᵢ mᵢ argsᵢ belowᵢ methᵢ cᵢ 6 D Aᵢ 0 0 Qᵢ (mW k ad st tl t x y h) 0 [(0, .ref (ad 0)), (1, .int (J a)), (2, .int (J b))] []
  have hS_ := I_st hI
  have hE_ := I_en hI
  have hG_ := I_ga hI
  have hU_ := I_cu hI
  have hC_ := I_ca hI
  have hP_ := I_pa hI
  refine sw_iload_n X dX6_hand_0 rfl 1 rfl ?_
  refine sw_iconst X dX6_hand_1 ?_
  refine sw_aload_n X dX6_hand_2 rfl 0 rfl ?_
  refine sw_get (q0 := 0) (v := .int (J (st 17 0))) X iw_X6 rfl rfl 17 (by decide) gw3_225 rfl rfl dX6_hand_3 ?_
  refine sw_iconst X dX6_hand_6 ?_
  refine sw_isub X dX6_hand_7 ?_
  refine sw_callSI0 (As := [.int (J a), .int (J 0), .int (J ((st 17 0) - 1))]) (rest := []) X (c_X6_in l D k (mW k ad st tl t x y h) a 0 ((st 17 0) - 1) (by omega)) (va_cwS 3 (sw_ts X) (sw_goodS gw4_55 gw4_56 gw1_3 gw4_57) rfl rfl rfl (by decide +kernel) ⟨Nat.le_of_ble_eq_true rfl, Nat.le_of_ble_eq_true rfl⟩) dX6_hand_8 rfl rfl (Nat.le_of_ble_eq_true rfl) ⟨Nat.le_of_ble_eq_true rfl, Nat.le_of_ble_eq_true rfl⟩ (fun z1 w9 hp2 => ?_)
  obtain ⟨rfl, hp2⟩ := hp2
  have jn3 : ∀ (z9 : Int), ((z9 = 1 ∧ (0 ≤ a ∧ a < st 17 0) ∧ (b = -1 ∨ (0 ≤ b ∧ b < st 9 0))) ∨ (z9 = 0 ∧ ¬ ((0 ≤ a ∧ a < st 17 0) ∧ (b = -1 ∨ (0 ≤ b ∧ b < st 9 0))))) → SW pᵢ l eᵢ rm_X6_hand sᵢ mᵢ argsᵢ belowᵢ methᵢ cᵢ 6 D Aᵢ 0 0 Qᵢ (mW k ad st tl t x y h) 32 [(0, .ref (ad 0)), (1, .int (J a)), (2, .int (J b))] [.int (J z9)] := by
    intro z9 hz9
    refine sw_istore_n (lv' := [(3, .int (J z9)), (0, .ref (ad 0)), (1, .int (J a)), (2, .int (J b))]) X dX6_hand_32 rfl (by decide) rfl ?_
    refine sw_iload_n X dX6_hand_33 rfl 0 rfl ?_
    have jn4 : ∀ (y9 : Int), ((y9 = 1 ∧ z9 = 1 ∧ st 20 a ≠ -2 ∧ st 20 a ≠ b) ∨ (y9 = 0 ∧ ¬ (z9 = 1 ∧ st 20 a ≠ -2 ∧ st 20 a ≠ b))) → SW pᵢ l eᵢ rm_X6_hand sᵢ mᵢ argsᵢ belowᵢ methᵢ cᵢ 6 D Aᵢ 0 0 Qᵢ (mW k ad st tl t x y h) 63 [(0, .ref (ad 0)), (1, .int (J a)), (2, .int (J b)), (3, .int (J z9))] [.int (J y9)] := by
      intro y9 hy9
      refine sw_istore (lv' := [(4, .int (J y9)), (0, .ref (ad 0)), (1, .int (J a)), (2, .int (J b)), (3, .int (J z9))]) X dX6_hand_63 (by decide) rfl ?_
      refine sw_iload X dX6_hand_65 0 rfl ?_
      have jn5 : ∀ (x9 u9 v9 g9 : Int), ((x9 = 1 ∧ y9 = 1 ∧ cPl st (st 20 a) = cPl st b) ∨ (x9 = 0 ∧ ¬ (y9 = 1 ∧ cPl st (st 20 a) = cPl st b))) → SW pᵢ l eᵢ rm_X6_hand sᵢ mᵢ argsᵢ belowᵢ methᵢ cᵢ 6 D Aᵢ 0 0 Qᵢ (mW k ad st tl t u9 v9 g9) 99 [(0, .ref (ad 0)), (1, .int (J a)), (2, .int (J b)), (3, .int (J z9)), (4, .int (J x9))] [] := by
        intro x9 u9 v9 g9 hx9
        refine sw_aload_n X dX6_hand_99 rfl 0 rfl ?_
        refine sw_iload_n X dX6_hand_100 rfl 3 rfl ?_
        refine sw_if_ne (tgt := 108) X (by omega) dX6_hand_101 (by decide) (fun h6 => ?_) (fun h6 => ?_)
        · refine sw_iload X dX6_hand_108 4 rfl ?_
          refine sw_if_eq (tgt := 117) X (by omega) dX6_hand_110 (by decide) (fun h7 => ?_) (fun h7 => ?_)
          · refine sw_iconst X dX6_hand_117 ?_
            refine sw_callVI0 (C := RX6) (As := [.int (J 2)]) (rest := []) X (c_X6_goesWell l D k ad st tl t u9 v9 g9 2 (by omega)) (cwV 1 (sw_ts X) (sw_goodV gw4_58 gw4_60 gws_17 gw1_3 gw4_61) rfl rfl rfl (by decide +kernel) ⟨Nat.le_of_ble_eq_true rfl, Nat.le_of_ble_eq_true rfl⟩) 0 (ci := 6) rfl rfl rfl dX6_hand_118 rfl rfl (Nat.le_of_ble_eq_true rfl) ⟨Nat.le_of_ble_eq_true rfl, Nat.le_of_ble_eq_true rfl⟩ (fun z8 w9 hp9 => ?_)
            obtain ⟨rfl, hp9⟩ := hp9
            obtain rfl : z8 = 0 := by omega
            clear hp9
            refine sw_if_ne (tgt := 126) X (by omega) dX6_hand_121 (by decide) (fun h10 => ?_) (fun h10 => ?_)
            · exfalso; revert h10; decide
            · refine sw_iconst X dX6_hand_124 ?_
              exact RI _ _ _ _ _ _ dX6_hand_125 (by decide) (by decide) rfl (Or.inl ⟨_, _, _, _, _, rfl, by decide, by unfold kHand; rw [if_neg (by omega), if_pos (by omega)]⟩)
          · refine sw_iconst X dX6_hand_113 ?_
            refine sw_goto (tgt := 118) X dX6_hand_114 (by decide) ?_
            refine sw_callVI0 (C := RX6) (As := [.int (J 0)]) (rest := []) X (c_X6_goesWell l D k ad st tl t u9 v9 g9 0 (by omega)) (cwV 1 (sw_ts X) (sw_goodV gw4_58 gw4_60 gws_17 gw1_3 gw4_61) rfl rfl rfl (by decide +kernel) ⟨Nat.le_of_ble_eq_true rfl, Nat.le_of_ble_eq_true rfl⟩) 0 (ci := 6) rfl rfl rfl dX6_hand_118 rfl rfl (Nat.le_of_ble_eq_true rfl) ⟨Nat.le_of_ble_eq_true rfl, Nat.le_of_ble_eq_true rfl⟩ (fun z11 w9 hp12 => ?_)
            obtain ⟨rfl, hp12⟩ := hp12
            obtain rfl : z11 = 1 := by omega
            clear hp12
            refine sw_if_ne (tgt := 126) X (by omega) dX6_hand_121 (by decide) (fun h13 => ?_) (fun h13 => ?_)
            · refine sw_aload_n X dX6_hand_126 rfl 0 rfl ?_
              refine sw_get (q0 := 0) (v := .ref (ad 20)) X iw_X6 rfl rfl 20 (by decide) gw3_228 rfl rfl dX6_hand_127 ?_
              refine sw_iload_n X dX6_hand_130 rfl 1 rfl ?_
              refine sw_iald (q0 := 14) (n := 40) X rfl (by omega) (by omega) (by decide) dX6_hand_131 ?_
              refine sw_istore (lv' := [(5, .int (J (st 20 a))), (0, .ref (ad 0)), (1, .int (J a)), (2, .int (J b)), (3, .int (J z9)), (4, .int (J x9))]) X dX6_hand_132 (by decide) rfl ?_
              refine sw_aload_n X dX6_hand_134 rfl 1 rfl ?_
              refine sw_get (q0 := 0) (v := .ref (ad 20)) X iw_X6 rfl rfl 20 (by decide) gw3_228 rfl rfl dX6_hand_135 ?_
              refine sw_iload_n X dX6_hand_138 rfl 2 rfl ?_
              refine sw_iload_n X dX6_hand_139 rfl 3 rfl ?_
              refine sw_iast (q0 := 14) (n := 40) X rfl (by omega) (by omega) (by decide) mW_a20 dX6_hand_140 ?_
              refine sw_iload X dX6_hand_141 0 rfl ?_
              exact RI _ _ _ _ _ _ dX6_hand_143 (by decide) (by decide) rfl (Or.inr ⟨_, _, _, _, rfl, by unfold kHand; rw [if_neg (by omega), if_neg (by omega)], rfl⟩)
            · exfalso; revert h13; decide
        · refine sw_iconst X dX6_hand_104 ?_
          refine sw_goto (tgt := 118) X dX6_hand_105 (by decide) ?_
          refine sw_callVI0 (C := RX6) (As := [.int (J 1)]) (rest := []) X (c_X6_goesWell l D k ad st tl t u9 v9 g9 1 (by omega)) (cwV 1 (sw_ts X) (sw_goodV gw4_58 gw4_60 gws_17 gw1_3 gw4_61) rfl rfl rfl (by decide +kernel) ⟨Nat.le_of_ble_eq_true rfl, Nat.le_of_ble_eq_true rfl⟩) 0 (ci := 6) rfl rfl rfl dX6_hand_118 rfl rfl (Nat.le_of_ble_eq_true rfl) ⟨Nat.le_of_ble_eq_true rfl, Nat.le_of_ble_eq_true rfl⟩ (fun z14 w9 hp15 => ?_)
          obtain ⟨rfl, hp15⟩ := hp15
          obtain rfl : z14 = 0 := by omega
          clear hp15
          refine sw_if_ne (tgt := 126) X (by omega) dX6_hand_121 (by decide) (fun h16 => ?_) (fun h16 => ?_)
          · exfalso; revert h16; decide
          · refine sw_iconst X dX6_hand_124 ?_
            exact RI _ _ _ _ _ _ dX6_hand_125 (by decide) (by decide) rfl (Or.inl ⟨_, _, _, _, _, rfl, by decide, by unfold kHand; rw [if_pos (by omega)]⟩)
      refine sw_if_eq (tgt := 99) X (by omega) dX6_hand_67 (by decide) (fun h17 => ?_) (fun h17 => ?_)
      · refine sw_sub [1, 2, 3, 4, 0] rfl ?_
        exact jn5 y9 x y h (by omega)
      · have hjj := I_j hI a (by omega) (by omega)
        have hq1 := cPl_b hI (a := st 20 a) (by omega)
        have hq2 := cPl_b hI (a := b) (by omega)
        refine sw_aload_n X dX6_hand_70 rfl 1 rfl ?_
        refine sw_aload_n X dX6_hand_71 rfl 1 rfl ?_
        refine sw_get (q0 := 0) (v := .ref (ad 20)) X iw_X6 rfl rfl 20 (by decide) gw3_228 rfl rfl dX6_hand_72 ?_
        refine sw_iload_n X dX6_hand_75 rfl 2 rfl ?_
        refine sw_iald (q0 := 14) (n := 40) X rfl (by omega) (by omega) (by decide) dX6_hand_76 ?_
        refine sw_callVI0 (C := RX6) (As := [.int (J (st 20 a))]) (rest := []) X (c_X6_cellOfPlace l D k N ad st tl t x y h (st 20 a) hI (by omega)) (cwV 1 (sw_ts X) (sw_goodV gw4_138 gw4_140 gws_27 gw1_3 gw4_141) rfl rfl rfl (by decide +kernel) ⟨Nat.le_of_ble_eq_true rfl, Nat.le_of_ble_eq_true rfl⟩) 0 (ci := 6) rfl rfl rfl dX6_hand_77 rfl rfl (Nat.le_of_ble_eq_true rfl) ⟨Nat.le_of_ble_eq_true rfl, Nat.le_of_ble_eq_true rfl⟩ (fun z18 w9 hp19 => ?_)
        obtain ⟨u20, v21, g22, rfl, rfl⟩ := hp19
        refine sw_istore (lv' := [(5, .int (J (cPl st (st 20 a)))), (4, .int (J y9)), (0, .ref (ad 0)), (1, .int (J a)), (2, .int (J b)), (3, .int (J z9))]) X dX6_hand_80 (by decide) rfl ?_
        refine sw_iload X dX6_hand_82 0 rfl ?_
        refine sw_aload_n X dX6_hand_84 rfl 2 rfl ?_
        refine sw_iload_n X dX6_hand_85 rfl 4 rfl ?_
        refine sw_callVI0 (C := RX6) (As := [.int (J b)]) (rest := [.int (J (cPl st (st 20 a)))]) X (c_X6_cellOfPlace l D k N ad st tl t u20 v21 g22 b hI (by omega)) (cwV 1 (sw_ts X) (sw_goodV gw4_138 gw4_140 gws_27 gw1_3 gw4_141) rfl rfl rfl (by decide +kernel) ⟨Nat.le_of_ble_eq_true rfl, Nat.le_of_ble_eq_true rfl⟩) 0 (ci := 6) rfl rfl rfl dX6_hand_86 rfl rfl (Nat.le_of_ble_eq_true rfl) ⟨Nat.le_of_ble_eq_true rfl, Nat.le_of_ble_eq_true rfl⟩ (fun z23 w9 hp24 => ?_)
        obtain ⟨u25, v26, g27, rfl, rfl⟩ := hp24
        refine sw_icmp_ne (tgt := 96) X (by omega) (by omega) dX6_hand_89 (by decide) (fun h28 => ?_) (fun h28 => ?_)
        · refine sw_iconst X dX6_hand_96 ?_
          refine sw_istore (lv' := [(4, .int (J 0)), (5, .int (J (cPl st (st 20 a)))), (0, .ref (ad 0)), (1, .int (J a)), (2, .int (J b)), (3, .int (J z9))]) X dX6_hand_97 (by decide) rfl ?_
          refine sw_sub [2, 3, 4, 5, 0] rfl ?_
          exact jn5 0 u25 v26 g27 (by omega)
        · refine sw_iconst X dX6_hand_92 ?_
          refine sw_goto (tgt := 97) X dX6_hand_93 (by decide) ?_
          refine sw_istore (lv' := [(4, .int (J 1)), (5, .int (J (cPl st (st 20 a)))), (0, .ref (ad 0)), (1, .int (J a)), (2, .int (J b)), (3, .int (J z9))]) X dX6_hand_97 (by decide) rfl ?_
          refine sw_sub [2, 3, 4, 5, 0] rfl ?_
          exact jn5 1 u25 v26 g27 (by omega)
    refine sw_if_eq (tgt := 62) X (by omega) dX6_hand_34 (by decide) (fun h29 => ?_) (fun h29 => ?_)
    · refine sw_iconst X dX6_hand_62 ?_
      refine sw_sub [1, 2, 3, 0] rfl ?_
      exact jn4 0 (by omega)
    · have hjj := I_j hI a (by omega) (by omega)
      refine sw_aload_n X dX6_hand_37 rfl 1 rfl ?_
      refine sw_get (q0 := 0) (v := .ref (ad 20)) X iw_X6 rfl rfl 20 (by decide) gw3_228 rfl rfl dX6_hand_38 ?_
      refine sw_iload_n X dX6_hand_41 rfl 2 rfl ?_
      refine sw_iald (q0 := 14) (n := 40) X rfl (by omega) (by omega) (by decide) dX6_hand_42 ?_
      refine sw_bipush X dX6_hand_43 (by decide +kernel) ?_
      refine sw_icmp_eq (tgt := 62) X (by omega) (by omega) dX6_hand_45 (by decide) (fun h30 => ?_) (fun h30 => ?_)
      · refine sw_iconst X dX6_hand_62 ?_
        refine sw_sub [1, 2, 3, 0] rfl ?_
        exact jn4 0 (by omega)
      · refine sw_aload_n X dX6_hand_48 rfl 1 rfl ?_
        refine sw_get (q0 := 0) (v := .ref (ad 20)) X iw_X6 rfl rfl 20 (by decide) gw3_228 rfl rfl dX6_hand_49 ?_
        refine sw_iload_n X dX6_hand_52 rfl 2 rfl ?_
        refine sw_iald (q0 := 14) (n := 40) X rfl (by omega) (by omega) (by decide) dX6_hand_53 ?_
        refine sw_iload_n X dX6_hand_54 rfl 3 rfl ?_
        refine sw_icmp_eq (tgt := 62) X (by omega) (by omega) dX6_hand_55 (by decide) (fun h31 => ?_) (fun h31 => ?_)
        · refine sw_iconst X dX6_hand_62 ?_
          refine sw_sub [1, 2, 3, 0] rfl ?_
          exact jn4 0 (by omega)
        · refine sw_iconst X dX6_hand_58 ?_
          refine sw_goto (tgt := 63) X dX6_hand_59 (by decide) ?_
          refine sw_sub [1, 2, 3, 0] rfl ?_
          exact jn4 1 (by omega)
  refine sw_if_eq (tgt := 31) X (by omega) dX6_hand_11 (by decide) (fun h32 => ?_) (fun h32 => ?_)
  · refine sw_iconst X dX6_hand_31 ?_
    exact jn3 0 (by omega)
  · refine sw_iload_n X dX6_hand_14 rfl 2 rfl ?_
    refine sw_iconst X dX6_hand_15 ?_
    refine sw_icmp_eq (tgt := 27) X (by omega) (by omega) dX6_hand_16 (by decide) (fun h33 => ?_) (fun h33 => ?_)
    · refine sw_iconst X dX6_hand_27 ?_
      refine sw_goto (tgt := 32) X dX6_hand_28 (by decide) ?_
      exact jn3 1 (by omega)
    · refine sw_aload_n X dX6_hand_19 rfl 0 rfl ?_
      refine sw_iload_n X dX6_hand_20 rfl 2 rfl ?_
      refine sw_callVI0 (C := RX6) (As := [.int (J b)]) (rest := []) X (c_X6_isCar l D k ad st tl t x y h b (by omega) (by omega)) (cwV 1 (sw_ts X) (sw_goodV gw4_102 gw4_104 gws_23 gw1_3 gw4_105) rfl rfl rfl (by decide +kernel) ⟨Nat.le_of_ble_eq_true rfl, Nat.le_of_ble_eq_true rfl⟩) 0 (ci := 6) rfl rfl rfl dX6_hand_21 rfl rfl (Nat.le_of_ble_eq_true rfl) ⟨Nat.le_of_ble_eq_true rfl, Nat.le_of_ble_eq_true rfl⟩ (fun z34 w9 hp35 => ?_)
      obtain ⟨rfl, hp35⟩ := hp35
      refine sw_if_eq (tgt := 31) X (by omega) dX6_hand_24 (by decide) (fun h36 => ?_) (fun h36 => ?_)
      · refine sw_iconst X dX6_hand_31 ?_
        exact jn3 0 (by omega)
      · refine sw_iconst X dX6_hand_27 ?_
        refine sw_goto (tgt := 32) X dX6_hand_28 (by decide) ?_
        exact jn3 1 (by omega)
abbrev rm_X6_record : Room := { frames := 5, cells := 0, slots := 0, locals := 112 }
set_option maxHeartbeats 4000000 in
set_option maxRecDepth 100000 in
theorem c_X6_record (l : Launch) (D : va_G) (k : Nat → ClassId) (N : Int) (ad : Nat → Nat) (st : Nat → Int → Int) (tl : Int → Int) (t x y h : Int) (c b a : Int) (hI : I6 N st) (h_c : (-2147483648 ≤ c ∧ c < 2147483648)) (h_b : (-2147483648 ≤ b ∧ b < 2147483648)) (h_a : (-2147483648 ≤ a ∧ a < 2147483648)) : CI l yX6_record cX6_record 6 (some .int) rm_X6_record D k [.ref (ad 0), .int (J c), .int (J b), .int (J a)] (mW k ad st tl t x y h) (oP k ad st (up2 st 16 (10 * c + b) a) (kRecord st c b a) (tim st c b)) := by
  refine CI.of (by decide +kernel) (Nat.le_of_ble_eq_true rfl) (fun pᵢ eᵢ sᵢ mᵢ argsᵢ belowᵢ methᵢ cᵢ Aᵢ Qᵢ X RI => ?_)
  show SW pᵢ l eᵢ rm_X6_record sᵢ mᵢ argsᵢ belowᵢ methᵢ cᵢ 6 D Aᵢ 0 0 Qᵢ (mW k ad st tl t x y h) 0 [(0, .ref (ad 0)), (1, .int (J c)), (2, .int (J b)), (3, .int (J a))] []
  have hS_ := I_st hI
  have hE_ := I_en hI
  have hG_ := I_ga hI
  have hU_ := I_cu hI
  have hC_ := I_ca hI
  have hP_ := I_pa hI
  refine sw_aload_n X dX6_record_0 rfl 0 rfl ?_
  refine sw_iload_n X dX6_record_1 rfl 1 rfl ?_
  refine sw_callVI0 (C := RX6) (As := [.int (J c)]) (rest := []) X (c_X6_isCar l D k ad st tl t x y h c (by omega) (by omega)) (cwV 1 (sw_ts X) (sw_goodV gw4_102 gw4_104 gws_23 gw1_3 gw4_105) rfl rfl rfl (by decide +kernel) ⟨Nat.le_of_ble_eq_true rfl, Nat.le_of_ble_eq_true rfl⟩) 0 (ci := 6) rfl rfl rfl dX6_record_2 rfl rfl (Nat.le_of_ble_eq_true rfl) ⟨Nat.le_of_ble_eq_true rfl, Nat.le_of_ble_eq_true rfl⟩ (fun z1 w9 hp2 => ?_)
  obtain ⟨rfl, hp2⟩ := hp2
  have jn3 : ∀ (z9 : Int), ((z9 = 1 ∧ (0 ≤ c ∧ c < st 9 0) ∧ 0 ≤ b ∧ b < st 5 0) ∨ (z9 = 0 ∧ ¬ ((0 ≤ c ∧ c < st 9 0) ∧ 0 ≤ b ∧ b < st 5 0))) → SW pᵢ l eᵢ rm_X6_record sᵢ mᵢ argsᵢ belowᵢ methᵢ cᵢ 6 D Aᵢ 0 0 Qᵢ (mW k ad st tl t x y h) 21 [(0, .ref (ad 0)), (1, .int (J c)), (2, .int (J b)), (3, .int (J a))] [.int (J z9)] := by
    intro z9 hz9
    refine sw_istore (lv' := [(4, .int (J z9)), (0, .ref (ad 0)), (1, .int (J c)), (2, .int (J b)), (3, .int (J a))]) X dX6_record_21 (by decide) rfl ?_
    refine sw_aload_n X dX6_record_23 rfl 1 rfl ?_
    refine sw_iload X dX6_record_24 0 rfl ?_
    refine sw_if_ne (tgt := 33) X (by omega) dX6_record_26 (by decide) (fun h4 => ?_) (fun h4 => ?_)
    · refine sw_iload_n X dX6_record_33 rfl 4 rfl ?_
      refine sw_iconst X dX6_record_34 ?_
      refine sw_sipush X dX6_record_35 (by decide +kernel) ?_
      refine sw_callSI0 (As := [.int (J a), .int (J 0), .int (J 10000)]) (rest := [.ref (ad 0)]) X (c_X6_in l D k (mW k ad st tl t x y h) a 0 10000 (by omega)) (va_cwS 3 (sw_ts X) (sw_goodS gw4_55 gw4_56 gw1_3 gw4_57) rfl rfl rfl (by decide +kernel) ⟨Nat.le_of_ble_eq_true rfl, Nat.le_of_ble_eq_true rfl⟩) dX6_record_38 rfl rfl (Nat.le_of_ble_eq_true rfl) ⟨Nat.le_of_ble_eq_true rfl, Nat.le_of_ble_eq_true rfl⟩ (fun z5 w9 hp6 => ?_)
      obtain ⟨rfl, hp6⟩ := hp6
      refine sw_if_eq (tgt := 48) X (by omega) dX6_record_41 (by decide) (fun h7 => ?_) (fun h7 => ?_)
      · refine sw_iconst X dX6_record_48 ?_
        refine sw_callVI0 (C := RX6) (As := [.int (J 2)]) (rest := []) X (c_X6_goesWell l D k ad st tl t x y h 2 (by omega)) (cwV 1 (sw_ts X) (sw_goodV gw4_58 gw4_60 gws_17 gw1_3 gw4_61) rfl rfl rfl (by decide +kernel) ⟨Nat.le_of_ble_eq_true rfl, Nat.le_of_ble_eq_true rfl⟩) 0 (ci := 6) rfl rfl rfl dX6_record_49 rfl rfl (Nat.le_of_ble_eq_true rfl) ⟨Nat.le_of_ble_eq_true rfl, Nat.le_of_ble_eq_true rfl⟩ (fun z8 w9 hp9 => ?_)
        obtain ⟨rfl, hp9⟩ := hp9
        obtain rfl : z8 = 0 := by omega
        clear hp9
        refine sw_if_ne (tgt := 57) X (by omega) dX6_record_52 (by decide) (fun h10 => ?_) (fun h10 => ?_)
        · exfalso; revert h10; decide
        · refine sw_iconst X dX6_record_55 ?_
          exact RI _ _ _ _ _ _ dX6_record_56 (by decide) (by decide) rfl (Or.inl ⟨_, _, _, _, _, rfl, by decide, by unfold kRecord; rw [if_neg (by omega), if_neg (by omega)]⟩)
      · refine sw_iconst X dX6_record_44 ?_
        refine sw_goto (tgt := 49) X dX6_record_45 (by decide) ?_
        refine sw_callVI0 (C := RX6) (As := [.int (J 0)]) (rest := []) X (c_X6_goesWell l D k ad st tl t x y h 0 (by omega)) (cwV 1 (sw_ts X) (sw_goodV gw4_58 gw4_60 gws_17 gw1_3 gw4_61) rfl rfl rfl (by decide +kernel) ⟨Nat.le_of_ble_eq_true rfl, Nat.le_of_ble_eq_true rfl⟩) 0 (ci := 6) rfl rfl rfl dX6_record_49 rfl rfl (Nat.le_of_ble_eq_true rfl) ⟨Nat.le_of_ble_eq_true rfl, Nat.le_of_ble_eq_true rfl⟩ (fun z11 w9 hp12 => ?_)
        obtain ⟨rfl, hp12⟩ := hp12
        obtain rfl : z11 = 1 := by omega
        clear hp12
        refine sw_if_ne (tgt := 57) X (by omega) dX6_record_52 (by decide) (fun h13 => ?_) (fun h13 => ?_)
        · refine sw_aload_n X dX6_record_57 rfl 1 rfl ?_
          refine sw_iload_n X dX6_record_58 rfl 2 rfl ?_
          refine sw_iload_n X dX6_record_59 rfl 3 rfl ?_
          refine sw_callVI0 (C := RX6) (As := [.int (J c), .int (J b)]) (rest := []) X (c_X6_timeOf l D k N ad st tl 0 x y h c b hI (by omega) (by omega)) (cwV 2 (sw_ts X) (sw_goodV gw4_154 gw4_156 gws_30 gw1_3 gw4_157) rfl rfl rfl (by decide +kernel) ⟨Nat.le_of_ble_eq_true rfl, Nat.le_of_ble_eq_true rfl⟩) 0 (ci := 6) rfl rfl rfl dX6_record_60 rfl rfl (Nat.le_of_ble_eq_true rfl) ⟨Nat.le_of_ble_eq_true rfl, Nat.le_of_ble_eq_true rfl⟩ (fun z14 w9 hp15 => ?_)
          obtain ⟨u16, v17, g18, rfl, rfl⟩ := hp15
          refine sw_istore (lv' := [(5, .int (J (tim st c b))), (4, .int (J z9)), (0, .ref (ad 0)), (1, .int (J c)), (2, .int (J b)), (3, .int (J a))]) X dX6_record_63 (by decide) rfl ?_
          refine sw_aload_n X dX6_record_65 rfl 2 rfl ?_
          refine sw_get (q0 := 0) (v := .ref (ad 16)) X iw_X6 rfl rfl 16 (by decide) gw3_224 rfl rfl dX6_record_66 ?_
          refine sw_bipush X dX6_record_69 (by decide +kernel) ?_
          refine sw_iload_n X dX6_record_71 rfl 3 rfl ?_
          refine sw_imul X dX6_record_72 ?_
          refine sw_iload_n X dX6_record_73 rfl 4 rfl ?_
          refine sw_iadd X dX6_record_74 ?_
          refine sw_iload_n X dX6_record_75 rfl 5 rfl ?_
          refine sw_iast (q0 := 11) (n := 80) X rfl (by omega) (by omega) (by decide) mW_a16 dX6_record_76 ?_
          refine sw_iload X dX6_record_77 0 rfl ?_
          exact RI _ _ _ _ _ _ dX6_record_79 (by decide) (by decide) rfl (Or.inr ⟨_, _, _, _, rfl, by unfold kRecord; rw [if_neg (by omega), if_pos (by omega)], rfl⟩)
        · exfalso; revert h13; decide
    · refine sw_iconst X dX6_record_29 ?_
      refine sw_goto (tgt := 49) X dX6_record_30 (by decide) ?_
      refine sw_callVI0 (C := RX6) (As := [.int (J 1)]) (rest := []) X (c_X6_goesWell l D k ad st tl t x y h 1 (by omega)) (cwV 1 (sw_ts X) (sw_goodV gw4_58 gw4_60 gws_17 gw1_3 gw4_61) rfl rfl rfl (by decide +kernel) ⟨Nat.le_of_ble_eq_true rfl, Nat.le_of_ble_eq_true rfl⟩) 0 (ci := 6) rfl rfl rfl dX6_record_49 rfl rfl (Nat.le_of_ble_eq_true rfl) ⟨Nat.le_of_ble_eq_true rfl, Nat.le_of_ble_eq_true rfl⟩ (fun z19 w9 hp20 => ?_)
      obtain ⟨rfl, hp20⟩ := hp20
      obtain rfl : z19 = 0 := by omega
      clear hp20
      refine sw_if_ne (tgt := 57) X (by omega) dX6_record_52 (by decide) (fun h21 => ?_) (fun h21 => ?_)
      · exfalso; revert h21; decide
      · refine sw_iconst X dX6_record_55 ?_
        exact RI _ _ _ _ _ _ dX6_record_56 (by decide) (by decide) rfl (Or.inl ⟨_, _, _, _, _, rfl, by decide, by unfold kRecord; rw [if_pos (by omega)]⟩)
  refine sw_if_eq (tgt := 20) X (by omega) dX6_record_5 (by decide) (fun h22 => ?_) (fun h22 => ?_)
  · refine sw_iconst X dX6_record_20 ?_
    exact jn3 0 (by omega)
  · refine sw_aload_n X dX6_record_8 rfl 0 rfl ?_
    refine sw_iload_n X dX6_record_9 rfl 2 rfl ?_
    refine sw_callVI0 (C := RX6) (As := [.int (J b)]) (rest := []) X (c_X6_isGate l D k ad st tl t x y h b (by omega) (by omega)) (cwV 1 (sw_ts X) (sw_goodV gw4_150 gw4_152 gws_29 gw1_3 gw4_153) rfl rfl rfl (by decide +kernel) ⟨Nat.le_of_ble_eq_true rfl, Nat.le_of_ble_eq_true rfl⟩) 0 (ci := 6) rfl rfl rfl dX6_record_10 rfl rfl (Nat.le_of_ble_eq_true rfl) ⟨Nat.le_of_ble_eq_true rfl, Nat.le_of_ble_eq_true rfl⟩ (fun z23 w9 hp24 => ?_)
    obtain ⟨rfl, hp24⟩ := hp24
    refine sw_if_eq (tgt := 20) X (by omega) dX6_record_13 (by decide) (fun h25 => ?_) (fun h25 => ?_)
    · refine sw_iconst X dX6_record_20 ?_
      exact jn3 0 (by omega)
    · refine sw_iconst X dX6_record_16 ?_
      refine sw_goto (tgt := 21) X dX6_record_17 (by decide) ?_
      exact jn3 1 (by omega)
end
