section
-- ===== PART A: goes FIRST, ahead of the names: the tables' words, and 'selects' of the private methods out of them =====
/-- a private method of a class that the tables say can be made, by its rows of tables_1 -/
def lw_okq (q : MethodName × Nat) : Prop := (q.1.cls ≠ "java/lang/invoke/MethodHandle" ∧ q.1.cls ≠ "java/lang/invoke/VarHandle") ∧ Cond.instantiable q.1.cls q.2 ∈ tables_1 ∧ Cond.privateMethod q.1 ∈ tables_1 ∧ Cond.instanceMethod q.1 ∈ tables_1
theorem lw_p0 : lw_okq (⟨"SpiralDominoes$Text", "isAllowed", "(II)Z"⟩, 2) := ⟨⟨by decide +kernel, by decide +kernel⟩, List.mem_of_getElem? (i := 27) (by decide +kernel), List.mem_of_getElem? (i := 212) (by decide +kernel), List.mem_of_getElem? (i := 213) (by decide +kernel)⟩
theorem lw_p1 : lw_okq (⟨"SpiralDominoes$Text", "isDigit", "(III)Z"⟩, 2) := ⟨⟨by decide +kernel, by decide +kernel⟩, List.mem_of_getElem? (i := 27) (by decide +kernel), List.mem_of_getElem? (i := 219) (by decide +kernel), List.mem_of_getElem? (i := 220) (by decide +kernel)⟩
theorem lw_p2 : lw_okq (⟨"SpiralDominoes$Game", "holderOf", "(I)I"⟩, 13) := ⟨⟨by decide +kernel, by decide +kernel⟩, List.mem_of_getElem? (i := 41) (by decide +kernel), List.mem_of_getElem? (i := 247) (by decide +kernel), List.mem_of_getElem? (i := 248) (by decide +kernel)⟩
theorem lw_p3 : lw_okq (⟨"SpiralDominoes$Line", "isFree", "(II)Z"⟩, 11) := ⟨⟨by decide +kernel, by decide +kernel⟩, List.mem_of_getElem? (i := 47) (by decide +kernel), List.mem_of_getElem? (i := 272) (by decide +kernel), List.mem_of_getElem? (i := 273) (by decide +kernel)⟩
theorem lw_p4 : lw_okq (⟨"java/lang/Throwable", "fillInStackTrace", "(I)Ljava/lang/Throwable;"⟩, 6) := ⟨⟨by decide +kernel, by decide +kernel⟩, List.mem_of_getElem? (i := 340) (by decide +kernel), List.mem_of_getElem? (i := 338) (by decide +kernel), List.mem_of_getElem? (i := 339) (by decide +kernel)⟩
theorem lw_p5 : lw_okq (⟨"SpiralDominoes", "doCommandsOfText", "()I"⟩, 6) := ⟨⟨by decide +kernel, by decide +kernel⟩, List.mem_of_getElem? (i := 19) (by decide +kernel), List.mem_of_getElem? (i := 411) (by decide +kernel), List.mem_of_getElem? (i := 412) (by decide +kernel)⟩
theorem lw_p6 : lw_okq (⟨"SpiralDominoes", "doCommandAt", "(I)Z"⟩, 6) := ⟨⟨by decide +kernel, by decide +kernel⟩, List.mem_of_getElem? (i := 19) (by decide +kernel), List.mem_of_getElem? (i := 420) (by decide +kernel), List.mem_of_getElem? (i := 421) (by decide +kernel)⟩
theorem lw_p7 : lw_okq (⟨"SpiralDominoes$Game", "shuffle", "(J)V"⟩, 13) := ⟨⟨by decide +kernel, by decide +kernel⟩, List.mem_of_getElem? (i := 41) (by decide +kernel), List.mem_of_getElem? (i := 434) (by decide +kernel), List.mem_of_getElem? (i := 435) (by decide +kernel)⟩
theorem lw_p8 : lw_okq (⟨"SpiralDominoes$Game", "giveTo", "(II)V"⟩, 13) := ⟨⟨by decide +kernel, by decide +kernel⟩, List.mem_of_getElem? (i := 41) (by decide +kernel), List.mem_of_getElem? (i := 440) (by decide +kernel), List.mem_of_getElem? (i := 441) (by decide +kernel)⟩
theorem lw_p9 : lw_okq (⟨"SpiralDominoes$Line", "cover", "(II)V"⟩, 11) := ⟨⟨by decide +kernel, by decide +kernel⟩, List.mem_of_getElem? (i := 47) (by decide +kernel), List.mem_of_getElem? (i := 452) (by decide +kernel), List.mem_of_getElem? (i := 453) (by decide +kernel)⟩
theorem lw_p10 : lw_okq (⟨"SpiralDominoes$Game", "handOf", "(I)I"⟩, 13) := ⟨⟨by decide +kernel, by decide +kernel⟩, List.mem_of_getElem? (i := 41) (by decide +kernel), List.mem_of_getElem? (i := 464) (by decide +kernel), List.mem_of_getElem? (i := 465) (by decide +kernel)⟩
theorem lw_p11 : lw_okq (⟨"SpiralDominoes$Game", "winRound", "(I)V"⟩, 13) := ⟨⟨by decide +kernel, by decide +kernel⟩, List.mem_of_getElem? (i := 41) (by decide +kernel), List.mem_of_getElem? (i := 474) (by decide +kernel), List.mem_of_getElem? (i := 475) (by decide +kernel)⟩
theorem lw_p12 : lw_okq (⟨"SpiralDominoes$Game", "pipsOf", "(I)I"⟩, 13) := ⟨⟨by decide +kernel, by decide +kernel⟩, List.mem_of_getElem? (i := 41) (by decide +kernel), List.mem_of_getElem? (i := 481) (by decide +kernel), List.mem_of_getElem? (i := 482) (by decide +kernel)⟩
theorem lw_p13 : lw_okq (⟨"SpiralDominoes$Game", "goToNextPlayer", "()V"⟩, 13) := ⟨⟨by decide +kernel, by decide +kernel⟩, List.mem_of_getElem? (i := 41) (by decide +kernel), List.mem_of_getElem? (i := 487) (by decide +kernel), List.mem_of_getElem? (i := 488) (by decide +kernel)⟩
theorem lw_p14 : lw_okq (⟨"SpiralDominoes$Game", "playerWithFewestPips", "()I"⟩, 13) := ⟨⟨by decide +kernel, by decide +kernel⟩, List.mem_of_getElem? (i := 41) (by decide +kernel), List.mem_of_getElem? (i := 507) (by decide +kernel), List.mem_of_getElem? (i := 508) (by decide +kernel)⟩
theorem lw_p15 : lw_okq (⟨"SpiralDominoes$Game", "placeInHeap", "(I)I"⟩, 13) := ⟨⟨by decide +kernel, by decide +kernel⟩, List.mem_of_getElem? (i := 41) (by decide +kernel), List.mem_of_getElem? (i := 582) (by decide +kernel), List.mem_of_getElem? (i := 583) (by decide +kernel)⟩
def lw_privs_1 : List (MethodName × Nat) := [(⟨"SpiralDominoes$Text", "isAllowed", "(II)Z"⟩, 2), (⟨"SpiralDominoes$Text", "isDigit", "(III)Z"⟩, 2), (⟨"SpiralDominoes$Game", "holderOf", "(I)I"⟩, 13), (⟨"SpiralDominoes$Line", "isFree", "(II)Z"⟩, 11), (⟨"java/lang/Throwable", "fillInStackTrace", "(I)Ljava/lang/Throwable;"⟩, 6), (⟨"SpiralDominoes", "doCommandsOfText", "()I"⟩, 6), (⟨"SpiralDominoes", "doCommandAt", "(I)Z"⟩, 6), (⟨"SpiralDominoes$Game", "shuffle", "(J)V"⟩, 13), (⟨"SpiralDominoes$Game", "giveTo", "(II)V"⟩, 13), (⟨"SpiralDominoes$Line", "cover", "(II)V"⟩, 11), (⟨"SpiralDominoes$Game", "handOf", "(I)I"⟩, 13), (⟨"SpiralDominoes$Game", "winRound", "(I)V"⟩, 13), (⟨"SpiralDominoes$Game", "pipsOf", "(I)I"⟩, 13), (⟨"SpiralDominoes$Game", "goToNextPlayer", "()V"⟩, 13), (⟨"SpiralDominoes$Game", "playerWithFewestPips", "()I"⟩, 13), (⟨"SpiralDominoes$Game", "placeInHeap", "(I)I"⟩, 13)]
theorem lw_r1 : ∀ q ∈ lw_privs_1, lw_okq q := List.forall_mem_cons.mpr ⟨lw_p0, List.forall_mem_cons.mpr ⟨lw_p1, List.forall_mem_cons.mpr ⟨lw_p2, List.forall_mem_cons.mpr ⟨lw_p3, List.forall_mem_cons.mpr ⟨lw_p4, List.forall_mem_cons.mpr ⟨lw_p5, List.forall_mem_cons.mpr ⟨lw_p6, List.forall_mem_cons.mpr ⟨lw_p7, List.forall_mem_cons.mpr ⟨lw_p8, List.forall_mem_cons.mpr ⟨lw_p9, List.forall_mem_cons.mpr ⟨lw_p10, List.forall_mem_cons.mpr ⟨lw_p11, List.forall_mem_cons.mpr ⟨lw_p12, List.forall_mem_cons.mpr ⟨lw_p13, List.forall_mem_cons.mpr ⟨lw_p14, List.forall_mem_cons.mpr ⟨lw_p15, fun _ h => absurd h List.not_mem_nil⟩⟩⟩⟩⟩⟩⟩⟩⟩⟩⟩⟩⟩⟩⟩⟩
theorem lw_p16 : lw_okq (⟨"SpiralDominoes$History", "stateOf", "(I)LSpiralDominoes$Game;"⟩, 3) := ⟨⟨by decide +kernel, by decide +kernel⟩, List.mem_of_getElem? (i := 139) (by decide +kernel), List.mem_of_getElem? (i := 660) (by decide +kernel), List.mem_of_getElem? (i := 661) (by decide +kernel)⟩
theorem lw_p17 : lw_okq (⟨"SpiralDominoes$Line", "least", "(Z)I"⟩, 11) := ⟨⟨by decide +kernel, by decide +kernel⟩, List.mem_of_getElem? (i := 47) (by decide +kernel), List.mem_of_getElem? (i := 778) (by decide +kernel), List.mem_of_getElem? (i := 779) (by decide +kernel)⟩
theorem lw_p18 : lw_okq (⟨"SpiralDominoes$Line", "step", "(IZ)I"⟩, 11) := ⟨⟨by decide +kernel, by decide +kernel⟩, List.mem_of_getElem? (i := 47) (by decide +kernel), List.mem_of_getElem? (i := 782) (by decide +kernel), List.mem_of_getElem? (i := 783) (by decide +kernel)⟩
theorem lw_p19 : lw_okq (⟨"SpiralDominoes$Line", "greatest", "(Z)I"⟩, 11) := ⟨⟨by decide +kernel, by decide +kernel⟩, List.mem_of_getElem? (i := 47) (by decide +kernel), List.mem_of_getElem? (i := 787) (by decide +kernel), List.mem_of_getElem? (i := 788) (by decide +kernel)⟩
theorem lw_p20 : lw_okq (⟨"SpiralDominoes$Line", "turnsTo", "(I)I"⟩, 11) := ⟨⟨by decide +kernel, by decide +kernel⟩, List.mem_of_getElem? (i := 47) (by decide +kernel), List.mem_of_getElem? (i := 792) (by decide +kernel), List.mem_of_getElem? (i := 793) (by decide +kernel)⟩
theorem lw_p21 : lw_okq (⟨"SpiralDominoes", "succeeds", "(I)Z"⟩, 6) := ⟨⟨by decide +kernel, by decide +kernel⟩, List.mem_of_getElem? (i := 19) (by decide +kernel), List.mem_of_getElem? (i := 810) (by decide +kernel), List.mem_of_getElem? (i := 811) (by decide +kernel)⟩
theorem lw_p22 : lw_okq (⟨"SpiralDominoes", "simulateTurn", "(I)V"⟩, 6) := ⟨⟨by decide +kernel, by decide +kernel⟩, List.mem_of_getElem? (i := 19) (by decide +kernel), List.mem_of_getElem? (i := 832) (by decide +kernel), List.mem_of_getElem? (i := 833) (by decide +kernel)⟩
theorem lw_p23 : lw_okq (⟨"SpiralDominoes", "slotOf", "(I)LSpiralDominoes$Slot;"⟩, 6) := ⟨⟨by decide +kernel, by decide +kernel⟩, List.mem_of_getElem? (i := 19) (by decide +kernel), List.mem_of_getElem? (i := 849) (by decide +kernel), List.mem_of_getElem? (i := 850) (by decide +kernel)⟩
theorem lw_p24 : lw_okq (⟨"SpiralDominoesModel", "refused", "(I)Z"⟩, 14) := ⟨⟨by decide +kernel, by decide +kernel⟩, List.mem_of_getElem? (i := 874) (by decide +kernel), List.mem_of_getElem? (i := 939) (by decide +kernel), List.mem_of_getElem? (i := 940) (by decide +kernel)⟩
theorem lw_p25 : lw_okq (⟨"SpiralDominoesModel", "readText", "([I)I"⟩, 14) := ⟨⟨by decide +kernel, by decide +kernel⟩, List.mem_of_getElem? (i := 874) (by decide +kernel), List.mem_of_getElem? (i := 951) (by decide +kernel), List.mem_of_getElem? (i := 952) (by decide +kernel)⟩
theorem lw_p26 : lw_okq (⟨"SpiralDominoesModel", "readCommand", "([I)Z"⟩, 14) := ⟨⟨by decide +kernel, by decide +kernel⟩, List.mem_of_getElem? (i := 874) (by decide +kernel), List.mem_of_getElem? (i := 955) (by decide +kernel), List.mem_of_getElem? (i := 956) (by decide +kernel)⟩
theorem lw_p27 : lw_okq (⟨"SpiralDominoesModel", "figures", "(IIII)I"⟩, 14) := ⟨⟨by decide +kernel, by decide +kernel⟩, List.mem_of_getElem? (i := 874) (by decide +kernel), List.mem_of_getElem? (i := 959) (by decide +kernel), List.mem_of_getElem? (i := 960) (by decide +kernel)⟩
theorem lw_p28 : lw_okq (⟨"SpiralDominoesModel", "dealOn", "([IIJ)I"⟩, 14) := ⟨⟨by decide +kernel, by decide +kernel⟩, List.mem_of_getElem? (i := 874) (by decide +kernel), List.mem_of_getElem? (i := 964) (by decide +kernel), List.mem_of_getElem? (i := 965) (by decide +kernel)⟩
theorem lw_p29 : lw_okq (⟨"SpiralDominoesModel", "done", "(Z)Z"⟩, 14) := ⟨⟨by decide +kernel, by decide +kernel⟩, List.mem_of_getElem? (i := 874) (by decide +kernel), List.mem_of_getElem? (i := 970) (by decide +kernel), List.mem_of_getElem? (i := 971) (by decide +kernel)⟩
theorem lw_p30 : lw_okq (⟨"SpiralDominoesModel", "readTile", "([I)Z"⟩, 14) := ⟨⟨by decide +kernel, by decide +kernel⟩, List.mem_of_getElem? (i := 874) (by decide +kernel), List.mem_of_getElem? (i := 974) (by decide +kernel), List.mem_of_getElem? (i := 975) (by decide +kernel)⟩
theorem lw_p31 : lw_okq (⟨"SpiralDominoesModel", "remember", "()V"⟩, 14) := ⟨⟨by decide +kernel, by decide +kernel⟩, List.mem_of_getElem? (i := 874) (by decide +kernel), List.mem_of_getElem? (i := 1119) (by decide +kernel), List.mem_of_getElem? (i := 1120) (by decide +kernel)⟩
def lw_privs_2 : List (MethodName × Nat) := [(⟨"SpiralDominoes$History", "stateOf", "(I)LSpiralDominoes$Game;"⟩, 3), (⟨"SpiralDominoes$Line", "least", "(Z)I"⟩, 11), (⟨"SpiralDominoes$Line", "step", "(IZ)I"⟩, 11), (⟨"SpiralDominoes$Line", "greatest", "(Z)I"⟩, 11), (⟨"SpiralDominoes$Line", "turnsTo", "(I)I"⟩, 11), (⟨"SpiralDominoes", "succeeds", "(I)Z"⟩, 6), (⟨"SpiralDominoes", "simulateTurn", "(I)V"⟩, 6), (⟨"SpiralDominoes", "slotOf", "(I)LSpiralDominoes$Slot;"⟩, 6), (⟨"SpiralDominoesModel", "refused", "(I)Z"⟩, 14), (⟨"SpiralDominoesModel", "readText", "([I)I"⟩, 14), (⟨"SpiralDominoesModel", "readCommand", "([I)Z"⟩, 14), (⟨"SpiralDominoesModel", "figures", "(IIII)I"⟩, 14), (⟨"SpiralDominoesModel", "dealOn", "([IIJ)I"⟩, 14), (⟨"SpiralDominoesModel", "done", "(Z)Z"⟩, 14), (⟨"SpiralDominoesModel", "readTile", "([I)Z"⟩, 14), (⟨"SpiralDominoesModel", "remember", "()V"⟩, 14)]
theorem lw_r2 : ∀ q ∈ lw_privs_2, lw_okq q := List.forall_mem_cons.mpr ⟨lw_p16, List.forall_mem_cons.mpr ⟨lw_p17, List.forall_mem_cons.mpr ⟨lw_p18, List.forall_mem_cons.mpr ⟨lw_p19, List.forall_mem_cons.mpr ⟨lw_p20, List.forall_mem_cons.mpr ⟨lw_p21, List.forall_mem_cons.mpr ⟨lw_p22, List.forall_mem_cons.mpr ⟨lw_p23, List.forall_mem_cons.mpr ⟨lw_p24, List.forall_mem_cons.mpr ⟨lw_p25, List.forall_mem_cons.mpr ⟨lw_p26, List.forall_mem_cons.mpr ⟨lw_p27, List.forall_mem_cons.mpr ⟨lw_p28, List.forall_mem_cons.mpr ⟨lw_p29, List.forall_mem_cons.mpr ⟨lw_p30, List.forall_mem_cons.mpr ⟨lw_p31, fun _ h => absurd h List.not_mem_nil⟩⟩⟩⟩⟩⟩⟩⟩⟩⟩⟩⟩⟩⟩⟩⟩
theorem lw_p32 : lw_okq (⟨"SpiralDominoesModel", "longest", "([III)I"⟩, 14) := ⟨⟨by decide +kernel, by decide +kernel⟩, List.mem_of_getElem? (i := 874) (by decide +kernel), List.mem_of_getElem? (i := 1156) (by decide +kernel), List.mem_of_getElem? (i := 1157) (by decide +kernel)⟩
theorem lw_p33 : lw_okq (⟨"SpiralDominoesModel", "nextTried", "([IIII)I"⟩, 14) := ⟨⟨by decide +kernel, by decide +kernel⟩, List.mem_of_getElem? (i := 874) (by decide +kernel), List.mem_of_getElem? (i := 1160) (by decide +kernel), List.mem_of_getElem? (i := 1161) (by decide +kernel)⟩
theorem lw_p34 : lw_okq (⟨"SpiralDominoesModel", "isTried", "(II)Z"⟩, 14) := ⟨⟨by decide +kernel, by decide +kernel⟩, List.mem_of_getElem? (i := 874) (by decide +kernel), List.mem_of_getElem? (i := 1164) (by decide +kernel), List.mem_of_getElem? (i := 1165) (by decide +kernel)⟩
theorem lw_p35 : lw_okq (⟨"SpiralDominoesModel", "command", "(II)Z"⟩, 14) := ⟨⟨by decide +kernel, by decide +kernel⟩, List.mem_of_getElem? (i := 874) (by decide +kernel), List.mem_of_getElem? (i := 1180) (by decide +kernel), List.mem_of_getElem? (i := 1181) (by decide +kernel)⟩
theorem lw_p36 : lw_okq (⟨"SpiralDominoesModel", "playsBest", "(I)Z"⟩, 14) := ⟨⟨by decide +kernel, by decide +kernel⟩, List.mem_of_getElem? (i := 874) (by decide +kernel), List.mem_of_getElem? (i := 1184) (by decide +kernel), List.mem_of_getElem? (i := 1185) (by decide +kernel)⟩
theorem lw_p37 : lw_okq (⟨"SpiralDominoesModel", "turnOf", "([II)V"⟩, 14) := ⟨⟨by decide +kernel, by decide +kernel⟩, List.mem_of_getElem? (i := 874) (by decide +kernel), List.mem_of_getElem? (i := 1193) (by decide +kernel), List.mem_of_getElem? (i := 1194) (by decide +kernel)⟩
def lw_privs_3 : List (MethodName × Nat) := [(⟨"SpiralDominoesModel", "longest", "([III)I"⟩, 14), (⟨"SpiralDominoesModel", "nextTried", "([IIII)I"⟩, 14), (⟨"SpiralDominoesModel", "isTried", "(II)Z"⟩, 14), (⟨"SpiralDominoesModel", "command", "(II)Z"⟩, 14), (⟨"SpiralDominoesModel", "playsBest", "(I)Z"⟩, 14), (⟨"SpiralDominoesModel", "turnOf", "([II)V"⟩, 14)]
theorem lw_r3 : ∀ q ∈ lw_privs_3, lw_okq q := List.forall_mem_cons.mpr ⟨lw_p32, List.forall_mem_cons.mpr ⟨lw_p33, List.forall_mem_cons.mpr ⟨lw_p34, List.forall_mem_cons.mpr ⟨lw_p35, List.forall_mem_cons.mpr ⟨lw_p36, List.forall_mem_cons.mpr ⟨lw_p37, fun _ h => absurd h List.not_mem_nil⟩⟩⟩⟩⟩⟩
def lw_privs : List (MethodName × Nat) := lw_privs_1 ++ (lw_privs_2 ++ (lw_privs_3))
def lw_tbl : List Cond := k2_sels lw_privs ++ tables_1
theorem lw_privs_ok : ∀ q ∈ lw_privs, lw_okq q := by
  show ∀ q ∈ lw_privs_1 ++ (lw_privs_2 ++ (lw_privs_3)), lw_okq q
  exact List.forall_mem_append.mpr ⟨lw_r1, List.forall_mem_append.mpr ⟨lw_r2, lw_r3⟩⟩
-- ===== end of PART A; then your names; then what follows =====
/-! ===== BEGIN words of one list among another's, by their places ===== -/
theorem goodIn_r {big : List Cond} (ws : List Cond) (ps : List Nat) (hp : ws = ps.filterMap (fun i => big[i]?)) (h : ws.all goodWord = true) : GoodIn big ws := by
  intro w hw
  have h1 := List.all_eq_true.mp h w hw
  rw [hp] at hw
  obtain ⟨i, -, hi⟩ := List.mem_filterMap.mp hw
  have hm : w ∈ big := by first | exact List.mem_of_getElem? hi | exact List.getElem?_mem hi
  exact ⟨hm, good_of_word h1⟩
theorem goodIn_app {big a b : List Cond} (ha : GoodIn big a) (hb : GoodIn big b) : GoodIn big (a ++ b) := fun w h => (List.mem_append.mp h).elim (ha w) (hb w)
theorem goodIn_ca {big a b : List Cond} {c : Cond} (ha : GoodIn big (c :: a)) (hb : GoodIn big b) : GoodIn big (c :: (a ++ b)) := fun w h => (List.mem_cons.mp h).elim (fun e => ha w (List.mem_cons.mpr (Or.inl e))) (fun h => (List.mem_append.mp h).elim (fun h => ha w (List.mem_cons.mpr (Or.inr h))) (hb w))
theorem goodIn_sub {big ws : List Cond} (hm : ∀ w ∈ ws, w ∈ big) (h : ws.all goodWord = true) : GoodIn big ws := fun w hw => ⟨hm w hw, good_of_word (List.all_eq_true.mp h w hw)⟩
/-! ===== END ===== -/

/-! ===== BEGIN exceptions that leave a method, and their catching by the caller (launches without stack traces) ===== -/
section VXA
/-! The laws vx_back, vx_callV, vx_callS, vx_callSW, vx_throw0, vx_throwS follow proofs of the library, with one case more: JvmDerived/Free/Laws.lean (Back.of_free), Shelf42/LK1.lean (callV, callS), Shelf/KitTraced.lean (throwNew0V, throwNewS). -/
/-- where a method has thrown q: the class by its name, the cell, what was written, the world -/
def vx_T (XC : String → State → State → Prop) (st : State) (q : Addr) (t : State) (mc ms : Nat) (free : Addr → Prop) : Prop :=
  ∃ (E : String) (ce : Cell) (L : List Loc), XC E st t ∧ t.heap[q]? = some ce ∧ ce.vm = .none ∧ st.vm.findClass E = some ce.cls ∧ st.WarmedH t.vm ∧ st.sameButNew ({ t with vm := st.vm } : State) L mc ms ∧ ∀ z ∈ L, free z.base
def vx_Q (Qc : Array Value → State → Outcome → State → Prop) (XC : String → State → State → Prop) (mc ms : Nat) (free : Addr → Prop) : Array Value → State → Outcome → State → Prop := fun a st o t =>
  (Qc a st o t ∧ ∃ L, FrameEnd st o t L mc ms ∧ ∀ q ∈ L, free q.base) ∨ ∃ q, o = .threw q ∧ vx_T XC st q t mc ms free
/-- a callee that returns or throws -/
def vx_Met (l : Launch) (y : MethodName) (ws : List Cond) (rm : Room) (Pc : Array Value → State → Prop) (Qc : Array Value → State → Outcome → State → Prop) (XC : String → State → State → Prop) (mc ms : Nat) (free : Addr → Prop) : Prop :=
  MetFree l y (headSpec ws rm) Pc (fun _ _ _ _ _ => True) (vx_Q Qc XC mc ms free)
def vx_Post (XC : String → State → State → Prop) (mc ms : Nat) (free : Addr → Prop) : Pt → Array Value → Addr → Pt → Prop := fun A a q B =>
  ∃ (g : JFrame) (mk : MethodId) (t : State) (L : List Loc) (E : String) (ce : Cell), B.U.heap = t.heap ∧ B.U.vm = t.vm ∧ XC E (A.U.calling g mk a) t ∧ t.heap[q]? = some ce ∧ ce.vm = .none ∧ A.U.vm.findClass E = some ce.cls ∧ B.locs = A.locs ++ L ∧ (∀ z ∈ L, free z.base) ∧ B.cells = A.cells + mc ∧ B.slots = A.slots + ms
def vx_Back (l : Launch) (R : Room) (p : Program) (e : Env) (below : List Frame) (s : State) (sargs : Array Value) (y : MethodName) (len W9 : Nat)
    (Pre : Pt → Array Value → Prop) (Post : Pt → Array Value → Option Value → Pt → Prop) (PostX : Pt → Array Value → Addr → Pt → Prop) : Prop :=
  ∀ (m : MethodId) (meth : Method) (c : Code) (A : Pt) (g : JFrame) (ig : Instr) (mk : MethodId) (a : Array Value),
    Stand p l e R s m sargs below meth c A.U A.locs A.cells A.slots → g.method = m → g.locals.size = c.maxLocals → decode c.code g.pc = .ok (ig, len) →
    2 * g.monitorRoom + (g.stack.map fun v => v.category).sum ≤ W9 → A.U.methodNamed? y = some mk → Pre A a →
    (∃ (v : Option Value) (B : Pt), Stand p l e R s m sargs below meth c B.U B.locs B.cells B.slots ∧ Post A a v B ∧
      Steps p.tables e below (doInvoke e (A.U.setTop g) [] mk a).1 (B.U.setTop { g with pc := g.pc + len, stack := v.toList ++ g.stack })) ∨
    (∃ (q : Addr) (B : Pt), Stand p l e R s m sargs below meth c B.U B.locs B.cells B.slots ∧ PostX A a q B ∧
      Steps p.tables e below (doInvoke e (A.U.setTop g) [] mk a).1 ((B.U.setTop g).pushFrame (.throwing q)))
section Payer
variable {l : Launch} {R : Room} {p : Program} {e : Env} {below : List Frame} {s : State} {sargs : Array Value} {y : MethodName} {len W9 : Nat}
theorem vx_back {ws : List Cond} {rm : Room} {Pc : Array Value → State → Prop} {Qc : Array Value → State → Outcome → State → Prop} {XC : String → State → State → Prop} {mc ms : Nat} {free : Addr → Prop} {bytes : ByteArray} {maxL : Nat} {ret : Option FieldType}
    (hM : vx_Met l y ws rm Pc Qc XC mc ms free) (hblind : FrameBlind Pc) (hrc : rm.cells = mc) (hrs : rm.slots = ms)
    (hframes : rm.frames + 1 ≤ R.frames) (hlocals : W9 + (maxL + 11) + rm.locals ≤ R.locals)
    (hws : ∀ w ∈ ws, ∀ a' U, s.WarmedH U.vm → w.before a' U = true) (hcode : Cond.code y bytes maxL ret ∈ ws) (hinit : ∀ a' U, s.WarmedH U.vm → (Cond.initialized y.cls).before a' U = true) :
    vx_Back l R p e below s sargs y len W9 (PreOf R mc ms Pc) (PostOf Qc mc ms free) (vx_Post XC mc ms free) := by
  intro m meth c A g ig mk a X hg hsize hdg hW hn hp
  have h1 : (headSpec ws rm).pre.before a A.U = true := atoms_intro fun w hw => hws w hw _ _ X.warmed
  have h2 : (Cond.code y bytes maxL ret).before a A.U = true := hws _ hcode _ _ X.warmed
  have h3 : (Cond.initialized y.cls).before a A.U = true := hinit _ _ X.warmed
  have h4 : A.cells + (headSpec ws rm).room.cells ≤ R.cells := by rw [show (headSpec ws rm).room.cells = mc from hrc]; exact hp.1
  have h5 : A.slots + (headSpec ws rm).room.slots ≤ R.slots := by rw [show (headSpec ws rm).room.slots = ms from hrs]; exact hp.2.1
  have hPc : Pc a (A.U.calling g mk a) := hblind _ _ _ _ hp.2.2
  obtain ⟨U, Ls, c0, s0⟩ := A
  dsimp only [Pt.U, Pt.locs, Pt.cells, Pt.slots] at h1 h2 h3 h4 h5 X hn hPc ⊢
  obtain ⟨methY, cY, hmY, hcY, -, hlY, -, -, -, -⟩ := Cond.code_spec hn h2
  obtain ⟨kY, hkY, -⟩ := className_of_methodNamed hn
  have hinitY : kY.init = .initialized := Cond.initialized_spec (findClass_of_methodNamed hn) hkY h3
  have h : At U g.method c below := by rw [hg]; exact X.here
  have hlocals9 : W9 + (maxL + 11) + (headSpec ws rm).room.locals ≤ R.locals := hlocals
  have happ : (headSpec ws rm).appliesLoose y e.platform (U.calling g mk a) = true :=
    Spec.appliesLoose_calling (g := g) h hdg hn hkY hinitY
      (X.room_calling (g := g) (R' := (headSpec ws rm).room) hsize hmY hcY hframes (by rw [hlY]; omega) h4 h5) h1
  obtain ⟨mid, hmid⟩ := h.above
  have hfr : (U.setTop g).frames = (.java g :: mid) ++ below := by rw [State.frames_setTop' g h.top, hmid]; rfl
  obtain ⟨o, s₂, hsteps, -, hend, hq⟩ := Steps.callFree hM p X.admits X.cas X.clock (acts := []) hfr happ hPc trivial
  have hq' : vx_Q Qc XC mc ms free a (U.calling g mk a) o s₂ := hq
  rw [State.frames_setTop' g h.top] at hend
  obtain ⟨g₀, hg0⟩ := Option.isSome_iff_exists.mp h.top
  obtain ⟨r, hr⟩ := State.topJava?_eq_some.mp hg0
  have hr' : (({ U with heap := s₂.heap, slotsUsed := s₂.slotsUsed } : State).setVm s₂.vm).frames = .java g₀ :: r := hr
  rcases hq' with ⟨hqc, L, hfe, hL⟩ | ⟨q, rfl, E, ce, L, hx, hce, hcv, hcl, hW₂, hsm, hL⟩
  · obtain ⟨⟨v, rfl⟩, hW₂, e2, q2, q3, q4, q5, q6⟩ := id hfe
    have e3 : s₂ = ({ (U.calling g mk a).setFrames s₂.frames with heap := s₂.heap, slotsUsed := s₂.slotsUsed } : State).setVm s₂.vm := by
      have : s₂ = ({ s₂ with vm := (U.calling g mk a).vm } : State).setVm s₂.vm := rfl
      rw [e2] at this
      exact this
    obtain ⟨c₂, i₂, len₂, hc₂, hd₂, hf₂⟩ := hend
    have hW' : U.WarmedH s₂.vm := hW₂
    have hcc : c₂ = c := by
      have h1 : s₂.code? g.method = U.code? g.method := by
        rw [State.code?_eq, State.code?_eq, hW'.alike.method?]
      exact Option.some.inj (hc₂.symm.trans (h1.trans h.code))
    subst hcc
    have hlen : len₂ = len := by rw [hdg] at hd₂; cases hd₂; rfl
    subst hlen
    have hs₂ : s₂ = (({ U with heap := s₂.heap, slotsUsed := s₂.slotsUsed } : State).setVm s₂.vm).setTop { g with pc := g.pc + len₂, stack := v.toList ++ g.stack } := by
      refine e3.trans ?_
      rw [hf₂, State.calling_eq h.top, State.setFrames_setFrames, State.setTop_of_frames _ hr', hr]
      rfl
    have hsame : U.sameButNew ({ U with heap := s₂.heap, slotsUsed := s₂.slotsUsed } : State) L mc ms := by
      refine ⟨?_, q2, q3, q4, q5, q6⟩
      obtain ⟨t, ht, -⟩ := State.frames_cons hr
      show ({ U with heap := s₂.heap, slotsUsed := s₂.slotsUsed } : State) = { U.setFrames U.frames with heap := s₂.heap, slotsUsed := s₂.slotsUsed }
      rw [State.setFrames_self ht]
    subst hg
    refine Or.inl ⟨v, ⟨(({ U with heap := s₂.heap, slotsUsed := s₂.slotsUsed } : State).setVm s₂.vm), Ls ++ L, c0 + mc, s0 + ms⟩,
      ⟨X.admits, X.cas, X.clock, X.frames, X.room, X.hears, X.method, X.code, (X.here.setHeapUsed s₂.heap s₂.slotsUsed).setVm hW'.alike, X.tail, State.WarmedH.trans X.warmed hW', X.limits, X.bytes, X.same.trans (hsame.setVm s.vm)⟩,
      ⟨g, mk, s₂, L, rfl, rfl, hqc, rfl, hL, rfl, rfl⟩, ?_⟩
    show Steps p.tables e below _ ((({ U with heap := s₂.heap, slotsUsed := s₂.slotsUsed } : State).setVm s₂.vm).setTop { g with pc := g.pc + len₂, stack := v.toList ++ g.stack })
    rw [← hs₂]
    exact hsteps
  · obtain ⟨e2, q2, q3, q4, q5, q6⟩ := id hsm
    have e3 : s₂ = ({ (U.calling g mk a).setFrames s₂.frames with heap := s₂.heap, slotsUsed := s₂.slotsUsed } : State).setVm s₂.vm := by
      have : s₂ = ({ s₂ with vm := (U.calling g mk a).vm } : State).setVm s₂.vm := rfl
      rw [e2] at this
      exact this
    have hf₂ : s₂.frames = .throwing q :: .java g :: U.frames.tail := hend
    have hW' : U.WarmedH s₂.vm := hW₂
    have hs₂ : s₂ = ((({ U with heap := s₂.heap, slotsUsed := s₂.slotsUsed } : State).setVm s₂.vm).setTop g).pushFrame (.throwing q) := by
      refine e3.trans ?_
      rw [hf₂, State.calling_eq h.top, State.setFrames_setFrames, State.pushFrame, State.frames_setTop _ hr', State.setTop_of_frames _ hr', State.setFrames_setFrames, hr]
      rfl
    have hsame : U.sameButNew ({ U with heap := s₂.heap, slotsUsed := s₂.slotsUsed } : State) L mc ms := by
      refine ⟨?_, q2, q3, q4, q5, q6⟩
      obtain ⟨t, ht, -⟩ := State.frames_cons hr
      show ({ U with heap := s₂.heap, slotsUsed := s₂.slotsUsed } : State) = { U.setFrames U.frames with heap := s₂.heap, slotsUsed := s₂.slotsUsed }
      rw [State.setFrames_self ht]
    subst hg
    refine Or.inr ⟨q, ⟨(({ U with heap := s₂.heap, slotsUsed := s₂.slotsUsed } : State).setVm s₂.vm), Ls ++ L, c0 + mc, s0 + ms⟩,
      ⟨X.admits, X.cas, X.clock, X.frames, X.room, X.hears, X.method, X.code, (X.here.setHeapUsed s₂.heap s₂.slotsUsed).setVm hW'.alike, X.tail, State.WarmedH.trans X.warmed hW', X.limits, X.bytes, X.same.trans (hsame.setVm s.vm)⟩,
      ⟨g, mk, s₂, L, E, ce, rfl, rfl, hx, hce, hcv, hcl, rfl, hL, rfl, rfl⟩, ?_⟩
    show Steps p.tables e below _ (((({ U with heap := s₂.heap, slotsUsed := s₂.slotsUsed } : State).setVm s₂.vm).setTop g).pushFrame (.throwing q))
    rw [← hs₂]
    exact hsteps
end Payer
section Calls
variable {p : Program} {l : Launch} {e : Env} {R : Room} {s : State} {m : MethodId} {args : Array Value} {below : List Frame} {meth : Method} {c : Code} {T : State} {locs : List Loc} {cells slots : Nat}
theorem vx_callV (X : Stand p l e R s m args below meth c T locs cells slots) (hexec : p.tables.exec = Jvm.exec) {own C : String} {index : Nat} {y : MethodName} {bytes : ByteArray} {maxL : Nat} {ret : Option FieldType}
    (hown : s.vm.findClass own = some m.cls) (hlink : (Cond.methodLink own index y).before args s = true) (hinst : (Cond.instanceMethod y).before args s = true) (hsel : (Cond.selects C y y).before args s = true)
    (hcode : (Cond.code y bytes maxL ret).before args s = true) (hy : y.cls ≠ "java/lang/invoke/MethodHandle" ∧ y.cls ≠ "java/lang/invoke/VarHandle")
    {W9 : Nat} {Pre : Pt → Array Value → Prop} {Post : Pt → Array Value → Option Value → Pt → Prop} {PostX : Pt → Array Value → Addr → Pt → Prop} (hK : vx_Back l R p e below s args y 3 W9 Pre Post PostX)
    {b : Addr} {cellB : Cell} (hcell : T.heap[b]? = some cellB) (hobj : cellB.vm.isStatics = false) (hcls : s.vm.findClass C = some cellB.cls)
    {g : JFrame} (hg : g.method = m) (hsize : g.locals.size = c.maxLocals) {argsL rest : List Value} (hlen : ∀ sig, parseMethodDescriptor y.desc = some sig → argsL.length = sig.parameters.length)
    (hstack : g.stack = argsL.reverse ++ .ref b :: rest) (hW : 2 * g.monitorRoom + (rest.map fun v => v.category).sum ≤ W9) (hdg : decode c.code g.pc = .ok (.invokevirtual index, 3))
    (hpre : ∀ vm₁, s.WarmedH vm₁ → Pre ⟨T.setVm vm₁, locs, cells, slots⟩ (Value.ref b :: argsL).toArray) :
    (∃ (v : Option Value) (vm₁ : Vm) (B : Pt), s.WarmedH vm₁ ∧ Stand p l e R s m args below meth c B.U B.locs B.cells B.slots ∧ Post ⟨T.setVm vm₁, locs, cells, slots⟩ (Value.ref b :: argsL).toArray v B ∧
      ∀ target, Steps p.tables e below (B.U.setTop { g with pc := g.pc + 3, stack := v.toList ++ rest }) target → Steps p.tables e below (T.setTop g) target) ∨
    (∃ (q : Addr) (vm₁ : Vm) (B : Pt), s.WarmedH vm₁ ∧ Stand p l e R s m args below meth c B.U B.locs B.cells B.slots ∧ PostX ⟨T.setVm vm₁, locs, cells, slots⟩ (Value.ref b :: argsL).toArray q B ∧
      Steps p.tables e below (T.setTop g) ((B.U.setTop { g with stack := rest }).pushFrame (.throwing q))) := by
  obtain ⟨mk, methM, hnamed, hmethM, hstM, habM⟩ := Cond.instanceMethod_spec hinst
  obtain ⟨methM', cM, hmethM', -, -, -, -, -, -, hsigM⟩ := Cond.code_spec hnamed hcode
  cases hmethM.symm.trans hmethM'
  obtain ⟨c2, r2, m2, q1, q2, q3, q4, kP, hkP, hkPi⟩ := Cond.selects_spec hsel
  cases hcls.symm.trans q1
  cases (State.methodFound?_of_named hnamed hy).symm.trans q2
  cases hnamed.symm.trans q3
  have hselP : selectMethod e.platform s.vm cellB.cls mk = .method mk := by rw [Launch.admits_selectMethod X.admits]; exact q4
  obtain ⟨vm₁, X₁, hstep₁⟩ := X.invokevirtual hexec hown hlink hnamed hmethM hstM hkP hkPi hy (a := b) (cell := cellB) hcell
    (fun z h => by rw [h] at hobj; cases hobj) hselP hmethM habM hkP hkPi (g := g) hg (argsL := argsL) (rest := rest) (hlen _ hsigM) hstack hdg
  rcases hK m meth c ⟨T.setVm vm₁, locs, cells, slots⟩ { g with stack := rest } (.invokevirtual index) mk (Value.ref b :: argsL).toArray X₁ hg hsize hdg hW (X₁.named hnamed) (hpre vm₁ X₁.warmed) with ⟨v, B, X', hpost, hsteps⟩ | ⟨q, B, X', hpost, hsteps⟩
  · exact Or.inl ⟨v, vm₁, B, X₁.warmed, X', hpost, fun target h => hstep₁ _ fun acts => by rw [doInvoke_state]; exact hsteps.trans h⟩
  · exact Or.inr ⟨q, vm₁, B, X₁.warmed, X', hpost, hstep₁ _ fun acts => by rw [doInvoke_state]; exact hsteps⟩
theorem vx_callS (X : Stand p l e R s m args below meth c T locs cells slots) (hexec : p.tables.exec = Jvm.exec) {own : String} {index : Nat} {y : MethodName} {bytes : ByteArray} {maxL : Nat} {ret : Option FieldType}
    (hown : s.vm.findClass own = some m.cls) (hlink : (Cond.methodLink own index y).before args s = true) (hstat : (Cond.static y).before args s = true) (hinit : (Cond.initialized y.cls).before args s = true)
    (hcode : (Cond.code y bytes maxL ret).before args s = true) (hy : y.cls ≠ "java/lang/invoke/MethodHandle" ∧ y.cls ≠ "java/lang/invoke/VarHandle")
    {W9 : Nat} {Pre : Pt → Array Value → Prop} {Post : Pt → Array Value → Option Value → Pt → Prop} {PostX : Pt → Array Value → Addr → Pt → Prop} (hK : vx_Back l R p e below s args y 3 W9 Pre Post PostX)
    {g : JFrame} (hg : g.method = m) (hsize : g.locals.size = c.maxLocals) {argsL rest : List Value} (hlen : ∀ sig, parseMethodDescriptor y.desc = some sig → argsL.length = sig.parameters.length)
    (hstack : g.stack = argsL.reverse ++ rest) (hW : 2 * g.monitorRoom + (rest.map fun v => v.category).sum ≤ W9) (hdg : decode c.code g.pc = .ok (.invokestatic index, 3))
    (hpre : ∀ vm₁, s.WarmedH vm₁ → Pre ⟨T.setVm vm₁, locs, cells, slots⟩ argsL.toArray) :
    (∃ (v : Option Value) (vm₁ : Vm) (B : Pt), s.WarmedH vm₁ ∧ Stand p l e R s m args below meth c B.U B.locs B.cells B.slots ∧ Post ⟨T.setVm vm₁, locs, cells, slots⟩ argsL.toArray v B ∧
      ∀ target, Steps p.tables e below (B.U.setTop { g with pc := g.pc + 3, stack := v.toList ++ rest }) target → Steps p.tables e below (T.setTop g) target) ∨
    (∃ (q : Addr) (vm₁ : Vm) (B : Pt), s.WarmedH vm₁ ∧ Stand p l e R s m args below meth c B.U B.locs B.cells B.slots ∧ PostX ⟨T.setVm vm₁, locs, cells, slots⟩ argsL.toArray q B ∧
      Steps p.tables e below (T.setTop g) ((B.U.setTop { g with stack := rest }).pushFrame (.throwing q))) := by
  obtain ⟨mk, hnamed⟩ := Cond.code_named hcode
  obtain ⟨methM, cM, hmethM, -, -, -, -, -, -, hsigM⟩ := Cond.code_spec hnamed hcode
  have hstatic : methM.isStatic = true := Cond.static_spec hnamed hmethM hstat
  obtain ⟨kP, hkP, -⟩ := className_of_methodNamed hnamed
  have hinitP : kP.init = .initialized := Cond.initialized_spec (findClass_of_methodNamed hnamed) hkP hinit
  obtain ⟨vm₁, X₁, hstep₁⟩ := X.invokestatic hexec hown hlink hnamed hmethM hstatic hkP hinitP hy (g := g) hg (argsL := argsL) (rest := rest) (hlen _ hsigM) hstack hdg
  rcases hK m meth c ⟨T.setVm vm₁, locs, cells, slots⟩ { g with stack := rest } (.invokestatic index) mk argsL.toArray X₁ hg hsize hdg hW (X₁.named hnamed) (hpre vm₁ X₁.warmed) with ⟨v, B, X', hpost, hsteps⟩ | ⟨q, B, X', hpost, hsteps⟩
  · exact Or.inl ⟨v, vm₁, B, X₁.warmed, X', hpost, fun target h => hstep₁ _ fun acts => by rw [doInvoke_state]; exact hsteps.trans h⟩
  · exact Or.inr ⟨q, vm₁, B, X₁.warmed, X', hpost, hstep₁ _ fun acts => by rw [doInvoke_state]; exact hsteps⟩
end Calls
theorem vx_cls {s : State} {T : State} {vm₁ : Vm} {E : String} {k : ClassId} (hW : s.WarmedH vm₁) (h : (T.setVm vm₁).vm.findClass E = some k) : s.vm.findClass E = some k := by
  have h1 : vm₁.findClass E = some k := h
  rw [hW.alike.findClass] at h1
  exact h1
/-- the method's frame g, with q thrown over it -/
def vx_W (p : Program) (l : Launch) (e : Env) (R : Room) (s : State) (m : MethodId) (args : Array Value) (below : List Frame) (meth : Method) (c : Code) (H : Heap) (locs : List Loc) (cells slots : Nat) (Q : State → Prop) (g : JFrame) (q : Addr) : Prop :=
  ∀ T : State, T.heap = H → Stand p l e R s m args below meth c T locs cells slots → ∃ t, Steps p.tables e below ((T.setTop g).pushFrame (.throwing q)) t ∧ Q t
def vx_Run (p : Program) (l : Launch) (e : Env) (R : Room) (s : State) (m : MethodId) (args : Array Value) (below : List Frame) (meth : Method) (c : Code) (H : Heap) (locs : List Loc) (cells slots mc ms : Nat) (g : JFrame) (rest : List Value) (Qa : State → Outcome → State → Prop) (XC : String → State → State → Prop) (free : Addr → Prop) : Prop :=
  ∀ T : State, T.heap = H → Stand p l e R s m args below meth c T locs cells slots →
    (∃ (v : Option Value) (st₀ t T' : State) (L : List Loc), st₀.heap = H ∧ Stand p l e R s m args below meth c T' (locs ++ L) (cells + mc) (slots + ms) ∧ (∀ q ∈ L, free q.base) ∧ T'.heap = t.heap ∧ T'.vm = t.vm ∧ Qa st₀ (.returned v) t ∧
      Goes p e below T g T' { g with pc := g.pc + 3, stack := v.toList ++ rest }) ∨
    (∃ (q : Addr) (st₀ t T' : State) (L : List Loc) (E : String) (ce : Cell), st₀.heap = H ∧ Stand p l e R s m args below meth c T' (locs ++ L) (cells + mc) (slots + ms) ∧ (∀ z ∈ L, free z.base) ∧ T'.heap = t.heap ∧ T'.vm = t.vm ∧ XC E st₀ t ∧ t.heap[q]? = some ce ∧ ce.vm = .none ∧ s.vm.findClass E = some ce.cls ∧
      Steps p.tables e below (T.setTop g) ((T'.setTop { g with stack := rest }).pushFrame (.throwing q)))
def vx_X {S : Type} (px : S → Prop) (B : String → S → State → Prop) (A : Nat → Prop) : String → State → State → Prop := fun E st t => ∃ u : S, px u ∧ B E u t ∧ va_F A st t
section Runs
variable {p : Program} {l : Launch} {e : Env} {R : Room} {s : State} {m : MethodId} {args : Array Value} {below : List Frame} {meth : Method} {c : Code} {H : Heap} {locs : List Loc} {cells slots : Nat}
variable {y : MethodName} {bytes cc : ByteArray} {maxL nL mc ms n index : Nat} {ret : Option FieldType} {ws : List Cond} {rm : Room} {Pc : Array Value → State → Prop} {Qc : Array Value → State → Outcome → State → Prop} {XC : String → State → State → Prop} {free : Addr → Prop} {Ts : List Cond} {own C : String} {b : Addr} {As rest : List Value} {g : JFrame}
theorem vx_callBack (cb : CallB R s args own index y bytes maxL ret ws rm mc ms n) (hM : vx_Met l y ws rm Pc Qc XC mc ms free) (hbl : FrameBlind Pc) : vx_Back l R p e below s args y 3 8 (PreOf R mc ms Pc) (PostOf Qc mc ms free) (vx_Post XC mc ms free) := by
  obtain ⟨hrc, hrs, hfr, hlo, hws, hcw, -, hini, -⟩ := cb
  exact vx_back (bytes := bytes) (maxL := maxL) (ret := ret) hM hbl hrc hrs hfr hlo hws hcw (fun a' U hW => word_at hW (Or.inl (by first | rfl | simp [Cond.onTables, Cond.keeps, Cond.steady])) hini)
theorem vx_runV (S : CallFix p m c cc nL s args Ts own) (hM : vx_Met l y ws rm Pc Qc XC mc ms free) (cw : CallW R s args own C index y bytes maxL ret ws rm mc ms n) (hp : PreV s H C b Pc As)
    (hg : g.method = m) (hn : As.length = n) (hsize : g.locals.size = nL) (hstack : g.stack = As.reverse ++ .ref b :: rest) (hW : 2 * g.monitorRoom + (rest.map fun v => v.category).sum ≤ 8) (hdg : decode cc g.pc = .ok (.invokevirtual index, 3)) (hf : cells + mc ≤ R.cells ∧ slots + ms ≤ R.slots) :
    vx_Run p l e R s m args below meth c H locs cells slots mc ms g rest (Qc (Value.ref b :: As).toArray) XC free := by
  have hK : vx_Back l R p e below s args y 3 8 (PreOf R mc ms Pc) (PostOf Qc mc ms free) (vx_Post XC mc ms free) := vx_callBack cw.1 hM hp.1
  obtain ⟨⟨-, -, -, -, -, -, hcode, -, hy, hlen, hl⟩, hin, hse⟩ := cw
  obtain ⟨hx, hb, hml, ho, -⟩ := S
  obtain ⟨-, ⟨cellB, hcB, hoB, hclB⟩, hPc⟩ := hp
  intro T hT X
  rcases vx_callV X hx (C := C) (bytes := bytes) (maxL := maxL) (ret := ret) ho hl hin hse hcode hy hK (by rw [hT]; exact hcB) hoB hclB hg (hsize.trans hml.symm) (argsL := As) (rest := rest) (fun sig h => hn.trans (hlen sig h)) hstack hW (by rw [hb]; exact hdg)
    (fun vm₁ hW₁ => ⟨hf.1, hf.2, hPc (T.setVm vm₁) hT hW₁⟩) with ⟨v, vm₁, ⟨U', l2, c2, s2⟩, hW₁, X', ⟨g', mk, t, L, e1, e2, hq, h1, hL, h2, h3⟩, st⟩ | ⟨q, vm₁, ⟨U', l2, c2, s2⟩, hW₁, X', ⟨g', mk, t, L, E, ce, e1, e2, hq, hce, hcv, hcl, h1, hL, h2, h3⟩, st⟩
  · dsimp only [Pt.U, Pt.locs, Pt.cells, Pt.slots] at X' e1 e2 h1 h2 h3 st
    subst h1; subst h2; subst h3
    exact Or.inl ⟨v, (T.setVm vm₁).calling g' mk (Value.ref b :: As).toArray, t, U', L, hT, X', hL, e1, e2, hq, st⟩
  · dsimp only [Pt.U, Pt.locs, Pt.cells, Pt.slots] at X' e1 e2 h1 h2 h3 st hcl
    subst h1; subst h2; subst h3
    exact Or.inr ⟨q, (T.setVm vm₁).calling g' mk (Value.ref b :: As).toArray, t, U', L, E, ce, hT, X', hL, e1, e2, hq, hce, hcv, vx_cls hW₁ hcl, st⟩
theorem vx_runS (S : CallFix p m c cc nL s args Ts own) (hM : vx_Met l y ws rm Pc Qc XC mc ms free) (cw : CallB R s args own index y bytes maxL ret ws rm mc ms n ∧ (Cond.static y).before args s = true) (hp : PreS s H Pc As)
    (hg : g.method = m) (hn : As.length = n) (hsize : g.locals.size = nL) (hstack : g.stack = As.reverse ++ rest) (hW : 2 * g.monitorRoom + (rest.map fun v => v.category).sum ≤ 8) (hdg : decode cc g.pc = .ok (.invokestatic index, 3)) (hf : cells + mc ≤ R.cells ∧ slots + ms ≤ R.slots) :
    vx_Run p l e R s m args below meth c H locs cells slots mc ms g rest (Qc As.toArray) XC free := by
  have hK : vx_Back l R p e below s args y 3 8 (PreOf R mc ms Pc) (PostOf Qc mc ms free) (vx_Post XC mc ms free) := vx_callBack cw.1 hM hp.1
  obtain ⟨⟨-, -, -, -, -, -, hcode, hini, hy, hlen, hl⟩, hstt⟩ := cw
  obtain ⟨hx, hb, hml, ho, -⟩ := S
  intro T hT X
  rcases vx_callS X hx (bytes := bytes) (maxL := maxL) (ret := ret) ho hl hstt hini hcode hy hK hg (hsize.trans hml.symm) (argsL := As) (rest := rest) (fun sig h => hn.trans (hlen sig h)) hstack hW (by rw [hb]; exact hdg)
    (fun vm₁ hW₁ => ⟨hf.1, hf.2, hp.2 (T.setVm vm₁) hT hW₁⟩) with ⟨v, vm₁, ⟨U', l2, c2, s2⟩, hW₁, X', ⟨g', mk, t, L, e1, e2, hq, h1, hL, h2, h3⟩, st⟩ | ⟨q, vm₁, ⟨U', l2, c2, s2⟩, hW₁, X', ⟨g', mk, t, L, E, ce, e1, e2, hq, hce, hcv, hcl, h1, hL, h2, h3⟩, st⟩
  · dsimp only [Pt.U, Pt.locs, Pt.cells, Pt.slots] at X' e1 e2 h1 h2 h3 st
    subst h1; subst h2; subst h3
    exact Or.inl ⟨v, (T.setVm vm₁).calling g' mk As.toArray, t, U', L, hT, X', hL, e1, e2, hq, st⟩
  · dsimp only [Pt.U, Pt.locs, Pt.cells, Pt.slots] at X' e1 e2 h1 h2 h3 st hcl
    subst h1; subst h2; subst h3
    exact Or.inr ⟨q, (T.setVm vm₁).calling g' mk As.toArray, t, U', L, E, ce, hT, X', hL, e1, e2, hq, hce, hcv, vx_cls hW₁ hcl, st⟩
end Runs
section Rows
variable {p : Program} {l : Launch} {e : Env} {R : Room} {s : State} {m : MethodId} {args : Array Value} {below : List Frame} {meth : Method} {c : Code} {H : Heap} {locs : List Loc} {cells slots : Nat} {Q : State → Prop}
variable {mc ms : Nat} {free : Addr → Prop} {A0 A1 : Nat → Prop} {H0 : Heap} {a : Array Value} {pc : Nat} {ls : Array Slot} {st0 rest : List Value}
theorem vx_keep {st₀ t T' : State} {L : List Loc} (h0 : st₀.heap = H) (e1 : T'.heap = t.heap) (hS : va_S A0 H0 H locs) (hA : ∀ q, q < H.size → A1 q → A0 q) (hf : ∀ q, free q → A0 q) (hL : ∀ q ∈ L, free q.base) (hF : va_F A1 st₀ t) :
    H.size ≤ T'.heap.size ∧ (∀ q : Nat, q < H.size → ¬ A1 q → T'.heap[q]? = H[q]?) ∧ va_S A0 H0 T'.heap (locs ++ L) := by
  obtain ⟨hz, hk⟩ := hF
  rw [h0] at hz hk
  exact ⟨by rw [e1]; exact hz, fun q h1 h2 => by rw [e1]; exact hk q h1 h2,
    ⟨Nat.le_trans hS.1 (by rw [e1]; exact hz), fun q h1 h2 => by rw [e1, hk q (Nat.lt_of_lt_of_le h1 hS.1) (fun z => h2 (hA q (Nat.lt_of_lt_of_le h1 hS.1) z))]; exact hS.2.1 q h1 h2, fun q hq => by
      rcases List.mem_append.mp hq with h | h
      · exact hS.2.2 q h
      · exact hf _ (hL q h)⟩⟩
theorem vx_calli {S SX : Type} {post : Int32 → S → Prop} {px : SX → Prop} {B : S → State → Prop} {BX : String → SX → State → Prop} {AX : Nat → Prop} (hr : vx_Run p l e R s m args below meth c H locs cells slots mc ms (F0 m pc ls st0) rest (va_Qi post B A1 a) (vx_X px BX AX) free) (hS : va_S A0 H0 H locs) (hA : ∀ q, q < H.size → A1 q → A0 q) (hf : ∀ q, free q → A0 q) (hAX : ∀ q, q < H.size → AX q → A0 q)
    (kx : ∀ (E : String) (ce : Cell) (q9 : Addr) (u : SX) (t : State) (H1 : Heap) (locs1 : List Loc), t.heap = H1 → s.vm.Alike t.vm → px u → BX E u t → H.size ≤ H1.size → (∀ q : Nat, q < H.size → ¬ AX q → H1[q]? = H[q]?) → va_S A0 H0 H1 locs1 → H1[q9]? = some ce → ce.vm = .none → s.vm.findClass E = some ce.cls → vx_W p l e R s m args below meth c H1 locs1 (cells + mc) (slots + ms) Q (F0 m pc ls rest) q9)
    (kk : ∀ (r : Int32) (u : S) (t : State) (H1 : Heap) (locs1 : List Loc), t.heap = H1 → s.vm.Alike t.vm → post r u → B u t → H.size ≤ H1.size → (∀ q : Nat, q < H.size → ¬ A1 q → H1[q]? = H[q]?) → va_S A0 H0 H1 locs1 → W p l e R s m args below meth c H1 locs1 (cells + mc) (slots + ms) Q (F0 m (pc + 3) ls (.int r :: rest))) : W p l e R s m args below meth c H locs cells slots Q (F0 m pc ls st0) := by
  intro T hT X
  rcases hr T hT X with ⟨v, st₀, t, T', L, h0, X', hL, e1, e2, ⟨⟨r, u, hv, hp, hb⟩, hF⟩, st⟩ | ⟨q, st₀, t, T', L, E, ce, h0, X', hL, e1, e2, ⟨u, hp, hb, hF⟩, hce, hcv, hcl, st⟩
  · cases hv
    obtain ⟨k1, k2, k3⟩ := vx_keep h0 e1 hS hA hf hL hF
    obtain ⟨t2, a1, b1⟩ := kk r u t T'.heap (locs ++ L) e1.symm (by rw [← e2]; exact X'.warmed.alike) hp hb k1 k2 k3 T' rfl X'
    exact ⟨t2, st t2 a1, b1⟩
  · obtain ⟨k1, k2, k3⟩ := vx_keep h0 e1 hS hAX hf hL hF
    obtain ⟨t2, a1, b1⟩ := kx E ce q u t T'.heap (locs ++ L) e1.symm (by rw [← e2]; exact X'.warmed.alike) hp hb k1 k2 k3 (by rw [e1]; exact hce) hcv hcl T' rfl X'
    exact ⟨t2, st.trans a1, b1⟩
theorem vx_calll {S SX : Type} {post : Int64 → S → Prop} {px : SX → Prop} {B : S → State → Prop} {BX : String → SX → State → Prop} {AX : Nat → Prop} (hr : vx_Run p l e R s m args below meth c H locs cells slots mc ms (F0 m pc ls st0) rest (va_Ql post B A1 a) (vx_X px BX AX) free) (hS : va_S A0 H0 H locs) (hA : ∀ q, q < H.size → A1 q → A0 q) (hf : ∀ q, free q → A0 q) (hAX : ∀ q, q < H.size → AX q → A0 q)
    (kx : ∀ (E : String) (ce : Cell) (q9 : Addr) (u : SX) (t : State) (H1 : Heap) (locs1 : List Loc), t.heap = H1 → s.vm.Alike t.vm → px u → BX E u t → H.size ≤ H1.size → (∀ q : Nat, q < H.size → ¬ AX q → H1[q]? = H[q]?) → va_S A0 H0 H1 locs1 → H1[q9]? = some ce → ce.vm = .none → s.vm.findClass E = some ce.cls → vx_W p l e R s m args below meth c H1 locs1 (cells + mc) (slots + ms) Q (F0 m pc ls rest) q9)
    (kk : ∀ (r : Int64) (u : S) (t : State) (H1 : Heap) (locs1 : List Loc), t.heap = H1 → s.vm.Alike t.vm → post r u → B u t → H.size ≤ H1.size → (∀ q : Nat, q < H.size → ¬ A1 q → H1[q]? = H[q]?) → va_S A0 H0 H1 locs1 → W p l e R s m args below meth c H1 locs1 (cells + mc) (slots + ms) Q (F0 m (pc + 3) ls (.long r :: rest))) : W p l e R s m args below meth c H locs cells slots Q (F0 m pc ls st0) := by
  intro T hT X
  rcases hr T hT X with ⟨v, st₀, t, T', L, h0, X', hL, e1, e2, ⟨⟨r, u, hv, hp, hb⟩, hF⟩, st⟩ | ⟨q, st₀, t, T', L, E, ce, h0, X', hL, e1, e2, ⟨u, hp, hb, hF⟩, hce, hcv, hcl, st⟩
  · cases hv
    obtain ⟨k1, k2, k3⟩ := vx_keep h0 e1 hS hA hf hL hF
    obtain ⟨t2, a1, b1⟩ := kk r u t T'.heap (locs ++ L) e1.symm (by rw [← e2]; exact X'.warmed.alike) hp hb k1 k2 k3 T' rfl X'
    exact ⟨t2, st t2 a1, b1⟩
  · obtain ⟨k1, k2, k3⟩ := vx_keep h0 e1 hS hAX hf hL hF
    obtain ⟨t2, a1, b1⟩ := kx E ce q u t T'.heap (locs ++ L) e1.symm (by rw [← e2]; exact X'.warmed.alike) hp hb k1 k2 k3 (by rw [e1]; exact hce) hcv hcl T' rfl X'
    exact ⟨t2, st.trans a1, b1⟩
theorem vx_callf {S SX : Type} {post : UInt32 → S → Prop} {px : SX → Prop} {B : S → State → Prop} {BX : String → SX → State → Prop} {AX : Nat → Prop} (hr : vx_Run p l e R s m args below meth c H locs cells slots mc ms (F0 m pc ls st0) rest (va_Qf post B A1 a) (vx_X px BX AX) free) (hS : va_S A0 H0 H locs) (hA : ∀ q, q < H.size → A1 q → A0 q) (hf : ∀ q, free q → A0 q) (hAX : ∀ q, q < H.size → AX q → A0 q)
    (kx : ∀ (E : String) (ce : Cell) (q9 : Addr) (u : SX) (t : State) (H1 : Heap) (locs1 : List Loc), t.heap = H1 → s.vm.Alike t.vm → px u → BX E u t → H.size ≤ H1.size → (∀ q : Nat, q < H.size → ¬ AX q → H1[q]? = H[q]?) → va_S A0 H0 H1 locs1 → H1[q9]? = some ce → ce.vm = .none → s.vm.findClass E = some ce.cls → vx_W p l e R s m args below meth c H1 locs1 (cells + mc) (slots + ms) Q (F0 m pc ls rest) q9)
    (kk : ∀ (r : UInt32) (u : S) (t : State) (H1 : Heap) (locs1 : List Loc), t.heap = H1 → s.vm.Alike t.vm → post r u → B u t → H.size ≤ H1.size → (∀ q : Nat, q < H.size → ¬ A1 q → H1[q]? = H[q]?) → va_S A0 H0 H1 locs1 → W p l e R s m args below meth c H1 locs1 (cells + mc) (slots + ms) Q (F0 m (pc + 3) ls (.float r :: rest))) : W p l e R s m args below meth c H locs cells slots Q (F0 m pc ls st0) := by
  intro T hT X
  rcases hr T hT X with ⟨v, st₀, t, T', L, h0, X', hL, e1, e2, ⟨⟨r, u, hv, hp, hb⟩, hF⟩, st⟩ | ⟨q, st₀, t, T', L, E, ce, h0, X', hL, e1, e2, ⟨u, hp, hb, hF⟩, hce, hcv, hcl, st⟩
  · cases hv
    obtain ⟨k1, k2, k3⟩ := vx_keep h0 e1 hS hA hf hL hF
    obtain ⟨t2, a1, b1⟩ := kk r u t T'.heap (locs ++ L) e1.symm (by rw [← e2]; exact X'.warmed.alike) hp hb k1 k2 k3 T' rfl X'
    exact ⟨t2, st t2 a1, b1⟩
  · obtain ⟨k1, k2, k3⟩ := vx_keep h0 e1 hS hAX hf hL hF
    obtain ⟨t2, a1, b1⟩ := kx E ce q u t T'.heap (locs ++ L) e1.symm (by rw [← e2]; exact X'.warmed.alike) hp hb k1 k2 k3 (by rw [e1]; exact hce) hcv hcl T' rfl X'
    exact ⟨t2, st.trans a1, b1⟩
theorem vx_calld {S SX : Type} {post : UInt64 → S → Prop} {px : SX → Prop} {B : S → State → Prop} {BX : String → SX → State → Prop} {AX : Nat → Prop} (hr : vx_Run p l e R s m args below meth c H locs cells slots mc ms (F0 m pc ls st0) rest (va_Qd post B A1 a) (vx_X px BX AX) free) (hS : va_S A0 H0 H locs) (hA : ∀ q, q < H.size → A1 q → A0 q) (hf : ∀ q, free q → A0 q) (hAX : ∀ q, q < H.size → AX q → A0 q)
    (kx : ∀ (E : String) (ce : Cell) (q9 : Addr) (u : SX) (t : State) (H1 : Heap) (locs1 : List Loc), t.heap = H1 → s.vm.Alike t.vm → px u → BX E u t → H.size ≤ H1.size → (∀ q : Nat, q < H.size → ¬ AX q → H1[q]? = H[q]?) → va_S A0 H0 H1 locs1 → H1[q9]? = some ce → ce.vm = .none → s.vm.findClass E = some ce.cls → vx_W p l e R s m args below meth c H1 locs1 (cells + mc) (slots + ms) Q (F0 m pc ls rest) q9)
    (kk : ∀ (r : UInt64) (u : S) (t : State) (H1 : Heap) (locs1 : List Loc), t.heap = H1 → s.vm.Alike t.vm → post r u → B u t → H.size ≤ H1.size → (∀ q : Nat, q < H.size → ¬ A1 q → H1[q]? = H[q]?) → va_S A0 H0 H1 locs1 → W p l e R s m args below meth c H1 locs1 (cells + mc) (slots + ms) Q (F0 m (pc + 3) ls (.double r :: rest))) : W p l e R s m args below meth c H locs cells slots Q (F0 m pc ls st0) := by
  intro T hT X
  rcases hr T hT X with ⟨v, st₀, t, T', L, h0, X', hL, e1, e2, ⟨⟨r, u, hv, hp, hb⟩, hF⟩, st⟩ | ⟨q, st₀, t, T', L, E, ce, h0, X', hL, e1, e2, ⟨u, hp, hb, hF⟩, hce, hcv, hcl, st⟩
  · cases hv
    obtain ⟨k1, k2, k3⟩ := vx_keep h0 e1 hS hA hf hL hF
    obtain ⟨t2, a1, b1⟩ := kk r u t T'.heap (locs ++ L) e1.symm (by rw [← e2]; exact X'.warmed.alike) hp hb k1 k2 k3 T' rfl X'
    exact ⟨t2, st t2 a1, b1⟩
  · obtain ⟨k1, k2, k3⟩ := vx_keep h0 e1 hS hAX hf hL hF
    obtain ⟨t2, a1, b1⟩ := kx E ce q u t T'.heap (locs ++ L) e1.symm (by rw [← e2]; exact X'.warmed.alike) hp hb k1 k2 k3 (by rw [e1]; exact hce) hcv hcl T' rfl X'
    exact ⟨t2, st.trans a1, b1⟩
theorem vx_callv {S SX : Type} {post : S → Prop} {px : SX → Prop} {B : S → State → Prop} {BX : String → SX → State → Prop} {AX : Nat → Prop} (hr : vx_Run p l e R s m args below meth c H locs cells slots mc ms (F0 m pc ls st0) rest (va_Qv post B A1 a) (vx_X px BX AX) free) (hS : va_S A0 H0 H locs) (hA : ∀ q, q < H.size → A1 q → A0 q) (hf : ∀ q, free q → A0 q) (hAX : ∀ q, q < H.size → AX q → A0 q)
    (kx : ∀ (E : String) (ce : Cell) (q9 : Addr) (u : SX) (t : State) (H1 : Heap) (locs1 : List Loc), t.heap = H1 → s.vm.Alike t.vm → px u → BX E u t → H.size ≤ H1.size → (∀ q : Nat, q < H.size → ¬ AX q → H1[q]? = H[q]?) → va_S A0 H0 H1 locs1 → H1[q9]? = some ce → ce.vm = .none → s.vm.findClass E = some ce.cls → vx_W p l e R s m args below meth c H1 locs1 (cells + mc) (slots + ms) Q (F0 m pc ls rest) q9)
    (kk : ∀ (u : S) (t : State) (H1 : Heap) (locs1 : List Loc), t.heap = H1 → s.vm.Alike t.vm → post u → B u t → H.size ≤ H1.size → (∀ q : Nat, q < H.size → ¬ A1 q → H1[q]? = H[q]?) → va_S A0 H0 H1 locs1 → W p l e R s m args below meth c H1 locs1 (cells + mc) (slots + ms) Q (F0 m (pc + 3) ls (rest))) : W p l e R s m args below meth c H locs cells slots Q (F0 m pc ls st0) := by
  intro T hT X
  rcases hr T hT X with ⟨v, st₀, t, T', L, h0, X', hL, e1, e2, ⟨⟨u, hv, hp, hb⟩, hF⟩, st⟩ | ⟨q, st₀, t, T', L, E, ce, h0, X', hL, e1, e2, ⟨u, hp, hb, hF⟩, hce, hcv, hcl, st⟩
  · cases hv
    obtain ⟨k1, k2, k3⟩ := vx_keep h0 e1 hS hA hf hL hF
    obtain ⟨t2, a1, b1⟩ := kk u t T'.heap (locs ++ L) e1.symm (by rw [← e2]; exact X'.warmed.alike) hp hb k1 k2 k3 T' rfl X'
    exact ⟨t2, st t2 a1, b1⟩
  · obtain ⟨k1, k2, k3⟩ := vx_keep h0 e1 hS hAX hf hL hF
    obtain ⟨t2, a1, b1⟩ := kx E ce q u t T'.heap (locs ++ L) e1.symm (by rw [← e2]; exact X'.warmed.alike) hp hb k1 k2 k3 (by rw [e1]; exact hce) hcv hcl T' rfl X'
    exact ⟨t2, st.trans a1, b1⟩
/-- caught by the row x of this method's table; the rows ahead don't take it -/
theorem vx_catch {own name : String} {E : String} {ce : Cell} {q : Addr} (hown : s.vm.findClass own = some m.cls) (pre : List ExceptionTableEntry) (x : ExceptionTableEntry) (suf : List ExceptionTableEntry) (hsplit : c.exceptionTable.toList = pre ++ x :: suf)
    (hpass : ∀ z ∈ pre, covers z pc = false ∨ (z.catchType ≠ 0 ∧ ∃ nm : String, (Cond.classLink own z.catchType nm).before args s = true ∧ va_Nc E nm s)) (hx : covers x pc = true) (h0 : x.catchType ≠ 0)
    (hlink : (Cond.classLink own x.catchType name).before args s = true) (hcast : (Cond.castable E name).before args s = true) (hcell : H[q]? = some ce) (hv : ce.vm = .none) (hcl : s.vm.findClass E = some ce.cls)
    (kk : W p l e R s m args below meth c H locs cells slots Q (F0 m x.handlerPc ls [.ref q])) : vx_W p l e R s m args below meth c H locs cells slots Q (F0 m pc ls rest) q := by
  intro T hT X
  have hpl : e.platform.magicAccessors = ({} : Platform).magicAccessors := by rw [X.admits.platform]
  obtain ⟨c3, c4, hc3, hc4, hasg⟩ := Cond.castable_spec hcast
  cases Option.some.inj (hc3.symm.trans hcl)
  obtain ⟨c5, hc5, hcl5⟩ := Cond.classLink_spec hown hlink e.platform hpl
  cases Option.some.inj (hc4.symm.trans hc5)
  obtain ⟨vm', X', st⟩ := X.thenCaughtThrough q (g := F0 m pc ls rest) rfl (Steps.refl _) (by rw [hT]; exact hcell) (by rw [hv]; rfl) (by obtain ⟨k9, h9, -⟩ := Vm.findClass_spec hcl; exact ⟨k9, h9⟩) pre x suf hsplit
    (fun z hz => by
      rcases hpass z hz with h | ⟨hz0, nm, hl1, hn1⟩
      · exact Or.inl h
      · obtain ⟨c6, hc6, hcl6⟩ := Cond.classLink_spec hown hl1 e.platform hpl
        obtain ⟨a8, b8, h1, h2, h3⟩ := hn1
        cases Option.some.inj (h1.symm.trans hcl)
        cases Option.some.inj (h2.symm.trans hc6)
        exact Or.inr ⟨hz0, _, hcl6, h3⟩) hx (Or.inr ⟨h0, c4, hcl5, hasg⟩)
  obtain ⟨t, a1, b1⟩ := kk (T.setVm vm') hT X'
  exact ⟨t, st.trans a1, b1⟩
end Rows
section Ends
variable {p : Program} {l : Launch} {e : Env} {R : Room} {s : State} {m : MethodId} {args : Array Value} {below : List Frame} {meth : Method} {c : Code} {H : Heap} {locs : List Loc} {cells slots : Nat} {Q : State → Prop}
variable {mc ms : Nat} {free : Addr → Prop} {A0 A1 : Nat → Prop} {H0 : Heap} {a : Array Value} {ls : Array Slot} {st0 rest : List Value}
variable {Qc : Array Value → State → Outcome → State → Prop} {XC : String → State → State → Prop}
/-- what a body that may throw owes at its end -/
def vx_MQ (below : List Frame) (Qc : Array Value → State → Outcome → State → Prop) (XC : String → State → State → Prop) (a : Array Value) (s : State) (mc ms : Nat) (free : Addr → Prop) : State → Prop := fun t =>
  ∃ o, t.status = .running ∧ Ended t below o ∧ vx_Q Qc XC mc ms free a s o t
theorem vx_ret {g : JFrame} {mc ms : Nat} (k : W p l e R s m args below meth c H locs cells slots (MQ below Qc args s mc ms free) g) : W p l e R s m args below meth c H locs cells slots (vx_MQ below Qc XC args s mc ms free) g := by
  intro T hT X
  obtain ⟨t, a1, o, b1, b2, b3, b4⟩ := k T hT X
  exact ⟨t, a1, o, b1, b2, Or.inl ⟨b3, b4⟩⟩
/-- not caught here: it goes on to the caller -/
theorem vx_widen {g : JFrame} {q : Addr} {k n : Nat} (h1 : cells ≤ k) (h2 : slots ≤ n) (kk : vx_W p l e R s m args below meth c H locs k n Q g q) : vx_W p l e R s m args below meth c H locs cells slots Q g q := fun T hT X => kk T hT (stand_widen X h1 h2)
theorem vx_out {pc : Nat} {E : String} {ce : Cell} {q : Addr} {mc ms : Nat} (hout : ∀ x ∈ c.exceptionTable.toList, covers x pc = false) (hlocks : meth.locks = false) (hcell : H[q]? = some ce) (hv : ce.vm = .none) (hcl : s.vm.findClass E = some ce.cls)
    (hx : ∀ t : State, t.heap = H → s.vm.Alike t.vm → XC E s t) (hf : ∀ z ∈ locs, free z.base) (hc : cells ≤ mc) (hs : slots ≤ ms) :
    vx_W p l e R s m args below meth c H locs cells slots (vx_MQ below Qc XC args s mc ms free) (F0 m pc ls rest) q := by
  intro T hT X
  obtain ⟨st1, hrun, hend, hW, hsm⟩ := X.leaveThrown q (g := F0 m pc ls rest) rfl rfl rfl hout hlocks
  have hcell9 : (T.setFrames (.throwing q :: below)).heap[q]? = some ce := by
    show T.heap[q]? = some ce
    rw [hT]; exact hcell
  exact ⟨_, st1, .threw q, hrun, hend, Or.inr ⟨q, rfl, E, ce, locs, hx _ hT hW.alike, hcell9, hv, hcl, hW, hsm.mono hc hs, hf⟩⟩
theorem vx_frame {U : State} {k n : Nat} (h : s.sameButNew ({ U with vm := s.vm } : State) locs k n) : s.heap.size ≤ U.heap.size ∧ ∀ q : Nat, q < s.heap.size → (∀ z ∈ locs, z.base ≠ q) → U.heap[q]? = s.heap[q]? := by
  obtain ⟨-, h2, -, -, -, h6⟩ := h
  refine ⟨h2, fun q hq hz => ?_⟩
  obtain ⟨c9, e1, e2, e3, e4⟩ := h6 q _ (Array.getElem?_eq_getElem hq)
  have hs : c9.slots = (s.heap[q]).slots := Array.ext_getElem? fun i => e4 i fun hm => hz _ hm rfl
  have h9 : c9 = s.heap[q] := by
    rw [hs] at e2
    exact e2
  have e5 : U.heap[q]? = some c9 := e1
  rw [e5, h9, Array.getElem?_eq_getElem hq]
/-- the words of a throw but the four that speak of the heap -/
def vx_no (w : Cond) : Bool := decide (w ≠ .isRef (.static Bundle.tN "UNASSIGNED_STACK" Bundle.steD)) && decide (w ≠ .isRef (.static Bundle.tN "SUPPRESSED_SENTINEL" Bundle.listD)) && decide (w ≠ .laysStatic Bundle.tN "UNASSIGNED_STACK" Bundle.steD) && decide (w ≠ .laysStatic Bundle.tN "SUPPRESSED_SENTINEL" Bundle.listD)
def vx_at0 (own : String) (ic : Nat) (X : String) (names : List String) : List Cond := (Bundle.ownAtoms0 own ic X names).filter vx_no
def vx_atS (own : String) (ic : Nat) (X : String) (names : List String) : List Cond := (Bundle.ownAtoms own ic X names).filter vx_no
/-- a word that the tables alone decide, or a good one -/
def vx_ot (w : Cond) : Bool := w.onTables || goodWord w
theorem vx_ot_at {args a' : Array Value} {s U : State} {w : Cond} (hW : s.WarmedH U.vm) (hvm : s.vm = U.vm) (hg : vx_ot w = true) (h : w.before args s = true) : w.before a' U = true := by
  simp only [vx_ot, Bool.or_eq_true] at hg
  rcases hg with hg | hg
  · exact va_tabs hg hvm h
  · exact word_at hW (good_of_word hg) h
/-- a list's words: the good ones out of the method's own list, the others by premises of their own -/
theorem vx_hat {args : Array Value} {s : State} {L B : List Cond} (h1 : ∀ w ∈ L.filter goodWord, w.before args s = true) (h2 : ∀ w ∈ L.filter (fun w => !goodWord w), w ∈ B) (h3 : ∀ w ∈ B, w.before args s = true) : ∀ w ∈ L, w.before args s = true := by
  intro w hw
  by_cases g : goodWord w = true
  · exact h1 w (List.mem_filter.mpr ⟨hw, g⟩)
  · refine h3 w (h2 w (List.mem_filter.mpr ⟨hw, ?_⟩))
    show (!goodWord w) = true
    cases hgw : goodWord w
    · rfl
    · exact absurd hgw g
theorem vx_c {args : Array Value} {s : State} {w : Cond} {B : List Cond} (h : w.before args s = true) (t : ∀ w ∈ B, w.before args s = true) : ∀ w' ∈ w :: B, w'.before args s = true := fun w' h' => (List.mem_cons.mp h').elim (fun e => by rw [e]; exact h) (t w')
theorem vx_n {args : Array Value} {s : State} : ∀ w ∈ ([] : List Cond), w.before args s = true := fun _ h => nomatch h
theorem vx_own {args : Array Value} {s : State} {L : List Cond} (h1 : ∀ w ∈ L.filter vx_no, w.before args s = true)
    (hU : (Cond.isRef (.static Bundle.tN "UNASSIGNED_STACK" Bundle.steD)).before args s = true) (hN : (Cond.isRef (.static Bundle.tN "SUPPRESSED_SENTINEL" Bundle.listD)).before args s = true)
    (lU : (Cond.laysStatic Bundle.tN "UNASSIGNED_STACK" Bundle.steD).before args s = true) (lN : (Cond.laysStatic Bundle.tN "SUPPRESSED_SENTINEL" Bundle.listD).before args s = true) : ∀ w ∈ L, w.before args s = true := by
  intro w hw
  by_cases e1 : w = .isRef (.static Bundle.tN "UNASSIGNED_STACK" Bundle.steD)
  · rw [e1]; exact hU
  · by_cases e2 : w = .isRef (.static Bundle.tN "SUPPRESSED_SENTINEL" Bundle.listD)
    · rw [e2]; exact hN
    · by_cases e3 : w = .laysStatic Bundle.tN "UNASSIGNED_STACK" Bundle.steD
      · rw [e3]; exact lU
      · by_cases e4 : w = .laysStatic Bundle.tN "SUPPRESSED_SENTINEL" Bundle.listD
        · rw [e4]; exact lN
        · exact h1 w (List.mem_filter.mpr ⟨hw, by unfold vx_no; rw [decide_eq_true e1, decide_eq_true e2, decide_eq_true e3, decide_eq_true e4]; rfl⟩)
/-- where a static field lies, its class's statics cell in H -/
def vx_L (C n d : String) (A : Nat → Prop) (U : State) (H : Heap) : Prop := ∃ (c : ClassId) (k : Class) (i : Nat) (f : Field) (a : Nat) (cell : Cell), U.vm.findClass C = some c ∧ U.fieldFound? C n d = some (c, k, i, f) ∧ f.isStatic = true ∧ k.statics = some a ∧ H[a]? = some cell ∧ cell.vm.isStatics = true ∧ cell.cls = c ∧ f.slot < cell.slots.size ∧ k.staticTypes[f.slot]? = some f.type ∧ ¬ A a
theorem vx_L.moved {C n d : String} {A : Nat → Prop} {u U : State} {H : Heap} (hvm : u.vm.Alike U.vm) (h : vx_L C n d A u H) : vx_L C n d A U H := by
  obtain ⟨c, k, i, f, a, cell, h1, h2, h3, h4, h5, h6, h7, h8, h9, h10⟩ := h
  obtain ⟨k', hi', he⟩ := State.fieldFound?_setVm hvm h2
  exact ⟨c, k', i, f, a, cell, by rw [hvm.findClass]; exact h1, hi', h3, by rw [he]; exact h4, h5, h6, h7, h8, by rw [he]; exact h9, h10⟩
theorem vx_L.kept {C n d : String} {A : Nat → Prop} {U : State} {H H1 : Heap} (h : vx_L C n d A U H) (hq : ∀ a : Nat, a < H.size → ¬ A a → H1[a]? = H[a]?) : vx_L C n d A U H1 := by
  obtain ⟨c, k, i, f, a, cell, h1, h2, h3, h4, h5, h6, h7, h8, h9, h10⟩ := h
  exact ⟨c, k, i, f, a, cell, h1, h2, h3, h4, by rw [hq a (Array.getElem?_eq_some_iff.mp h5).1 h10]; exact h5, h6, h7, h8, h9, h10⟩
theorem vx_L.narrow {C n d : String} {A B : Nat → Prop} {U : State} {H : Heap} (h : vx_L C n d A U H) (hAB : ∀ q, B q → A q) : vx_L C n d B U H := by
  obtain ⟨c, k, i, f, a, cell, h1, h2, h3, h4, h5, h6, h7, h8, h9, h10⟩ := h
  exact ⟨c, k, i, f, a, cell, h1, h2, h3, h4, h5, h6, h7, h8, h9, fun z => h10 (hAB _ z)⟩
theorem vx_L.word {C n d : String} {A : Nat → Prop} {s : State} {args : Array Value} (h : vx_L C n d A s s.heap) : (Cond.laysStatic C n d).before args s = true := by
  obtain ⟨c, k, i, f, a, cell, h1, h2, h3, h4, h5, h6, h7, h8, h9, -⟩ := h
  show (Cond.laysStatic C n d).holds args s none s [] = true
  exact Cond.laysStatic_of h1 h2 h3 h4 h5 h6 h7 h8 h9
/-- .. and what it holds: null or some reference -/
def vx_Zq (C n d : String) (A : Nat → Prop) (U : State) (H : Heap) : Prop := va_Zq C n d A U H ∧ vx_L C n d A U H
theorem vx_Zq.moved {C n d : String} {A : Nat → Prop} {u U : State} {H : Heap} (hvm : u.vm.Alike U.vm) (h : vx_Zq C n d A u H) : vx_Zq C n d A U H := ⟨va_Zq.moved hvm h.1, vx_L.moved hvm h.2⟩
theorem vx_Zq.kept {C n d : String} {A : Nat → Prop} {U : State} {H H1 : Heap} (h : vx_Zq C n d A U H) (hq : ∀ a : Nat, a < H.size → ¬ A a → H1[a]? = H[a]?) : vx_Zq C n d A U H1 := ⟨va_Zq.kept h.1 hq, vx_L.kept h.2 hq⟩
theorem vx_Zq.narrow {C n d : String} {A B : Nat → Prop} {U : State} {H : Heap} (h : vx_Zq C n d A U H) (hAB : ∀ q, B q → A q) : vx_Zq C n d B U H := ⟨va_Zq.narrow h.1 hAB, vx_L.narrow h.2 hAB⟩
theorem vx_Zqof {args : Array Value} {s : State} {C n d : String} {A : Nat → Prop} (hl : (Cond.laysStatic C n d).before args s = true) (hini : (Cond.initialized C).before args s = true) (h : (Cond.isRef (.static C n d)).before args s = true) (hA : ∀ a : Nat, a < s.heap.size → ¬ A a) : vx_Zq C n d A s s.heap := by
  refine ⟨va_Zqof hl hini h hA, ?_⟩
  obtain ⟨c, k, i, f, a, cell, h1, h2, h3, h4, h5, h6, h7, h8, h9⟩ := Cond.laysStatic_spec hl
  exact ⟨c, k, i, f, a, cell, h1, h2, h3, h4, h5, h6, h7, h8, h9, hA a (Array.getElem?_eq_some_iff.mp h5).1⟩
theorem vx_isRef {C n d : String} {v : Value} {A : Nat → Prop} {s : State} {args : Array Value} (h : va_Z C n d v A s s.heap) (hv : v.isRef = true) : (Cond.isRef (.static C n d)).before args s = true := by
  obtain ⟨cf, kf, fi, f, a, cell, h1, h2, h3, h4, h5, h6, h7, -⟩ := h
  have he : (Term.static C n d).eval args s none [] s = some v := by
    simp [Term.eval, State.fieldNamed?, h1, h2, h4, h5, h6, h7]
  simp only [Cond.before, Cond.holds, Cond.value, he]
  cases v <;> simp_all [Value.isRef]
theorem vx_isRefq {C n d : String} {A : Nat → Prop} {s : State} {args : Array Value} (h : va_Zq C n d A s s.heap) : (Cond.isRef (.static C n d)).before args s = true := by
  rcases h with h | ⟨t, h⟩
  · exact vx_isRef h rfl
  · exact vx_isRef h rfl
/-- the same frame, seen from here: as if the method were called anew in this heap -/
theorem vx_rebase {T : State} (X : Stand p l e R s m args below meth c T locs cells slots) {R' : Room} (hf : R'.frames ≤ R.frames) (hl : R'.locals ≤ R.locals) (hc : cells + R'.cells ≤ R.cells) (hs : slots + R'.slots ≤ R.slots) :
    Stand p l e R' ((T.setVm s.vm).setFrames (.invoking m args :: below)) m args below meth c T [] 0 0 := by
  have htop : (T.setVm s.vm).topJava?.isSome := X.here.top
  have hF : ((T.setVm s.vm).setFrames (.invoking m args :: below)).frames = .invoking m args :: below := State.frames_setFrames _ (State.cur_lt_of_top htop)
  obtain ⟨g₀, hg0⟩ := Option.isSome_iff_exists.mp htop
  obtain ⟨r, hr⟩ := State.topJava?_eq_some.mp hg0
  have hl9 : e.platform.stackLimits (T.setVm s.vm).me = e.platform.stackLimits s.me := X.limits
  have hb9 : (T.setVm s.vm).me.stackBytes = s.me.stackBytes := X.bytes
  refine ⟨X.admits, X.cas, X.clock, hF, ?_, X.hears, X.method, X.code, X.here, X.tail, X.warmed, ?_, ?_, ?_⟩
  · have h := X.room
    have hU : ((T.setVm s.vm).setFrames (.invoking m args :: below)).localsInUse = s.localsInUse := by
      rw [State.localsInUse_invoking hF (meth := meth) (c := c) X.method X.code, State.localsInUse_invoking X.frames X.method X.code]
    simp only [State.hasRoom, Bool.and_eq_true, decide_eq_true_eq] at h ⊢
    obtain ⟨⟨⟨⟨h1, h2, h3, h4, h5, h6⟩, h7⟩, h8⟩, h9⟩ := h
    rw [X.frames, List.length_cons] at h2 h3
    have q1 := X.heapSize
    have q2 := X.used
    simp only [hF, hU, List.length_cons, State.stackLimits_setFrames, State.stackBytes_setFrames, hl9, hb9]
    refine ⟨⟨⟨⟨by omega, by omega, by omega, by omega, by omega, h6⟩, ?_⟩, ?_⟩, X.book⟩
    · show T.heap.size + R'.cells ≤ e.platform.maxCells
      omega
    · show T.slotsUsed + R'.slots ≤ e.platform.maxSlots
      omega
  · rw [State.stackLimits_setFrames]; rfl
  · rw [State.stackBytes_setFrames]; rfl
  · refine ⟨?_, Nat.le_refl _, Nat.le_refl _, ?_, ?_, fun a c9 h9 => ⟨c9, h9, rfl, rfl, fun _ _ => rfl⟩⟩
    · obtain ⟨t, ht, -⟩ := State.frames_cons hr
      show T.setVm s.vm = { ((T.setVm s.vm).setFrames (.invoking m args :: below)).setFrames (T.setVm s.vm).frames with heap := T.heap, slotsUsed := T.slotsUsed }
      rw [State.setFrames_setFrames, State.setFrames_self ht]
      rfl
    · show T.slotsUsed = T.slotsUsed + ((T.heap.toList.drop T.heap.size).map (·.slots.size)).sum
      rw [List.drop_eq_nil_of_le (Nat.le_of_eq Array.length_toList)]
      rfl
    · show ((T.heap.toList.drop T.heap.size).map (·.slots.size)).sum ≤ 0
      rw [List.drop_eq_nil_of_le (Nat.le_of_eq Array.length_toList)]
      exact Nat.le_refl _
/-- 'throw new E()': new; dup; invokespecial; athrow -/
theorem vx_throw0 {cc : ByteArray} {pc : Nat} (hexec : p.tables.exec = Jvm.exec) (hb : c.code = cc) (hl : l.stackTraces = false) {own cls : String} {names : List String} {ik ic mc ms : Nat} {A : Nat → Prop}
    (hown : s.vm.findClass own = some m.cls) (hcls : Bundle.fit cls = true) (hnames : ∀ n ∈ names, Bundle.fit n = true)
    (hk : (Cond.classLink own ik cls).before args s = true) (hini : (Cond.initialized cls).before args s = true) (hat : ∀ w ∈ vx_at0 own ic cls names, w.before args s = true)
    (hgood : ∀ w ∈ Cond.classLink own ik cls :: Cond.initialized cls :: vx_at0 own ic cls names, vx_ot w = true)
    (hU : vx_Zq Bundle.tN "UNASSIGNED_STACK" Bundle.steD A s s.heap) (hN : vx_Zq Bundle.tN "SUPPRESSED_SENTINEL" Bundle.listD A s s.heap) (hS : va_S A s.heap H locs) (hsize : ls.size = c.maxLocals)
    (d0 : decode cc pc = .ok (.new ik, 3)) (d3 : decode cc (pc + 3) = .ok (.dup, 1)) (d4 : decode cc (pc + 4) = .ok (.invokespecial ic, 3)) (d7 : decode cc (pc + 7) = .ok (.athrow, 1))
    (hout : ∀ x ∈ c.exceptionTable.toList, covers x (pc + 7) = false)
    (hRframes : names.length + 3 < R.frames) (hRlocals : (rest.map fun v => v.category).sum + (13 * (names.length + 1) + 42) ≤ R.locals) (hRcells : cells + 1 ≤ R.cells) (hRslots : slots + 6 ≤ R.slots) (hlocks : meth.locks = false)
    (hx : ∀ t : State, s.vm.Alike t.vm → H.size ≤ t.heap.size → (∀ q : Nat, q < H.size → t.heap[q]? = H[q]?) → XC cls s t)
    (hf : ∀ z ∈ locs, free z.base) (hc : cells + 1 ≤ mc) (hs : slots + 6 ≤ ms) :
    W p l e R s m args below meth c H locs cells slots (vx_MQ below Qc XC args s mc ms free) (F0 m pc ls rest) := by
  intro T hT X
  have htr : e.platform.stackTraces = false := (show e.platform.stackTraces = l.stackTraces by rw [X.admits.platform]).trans hl
  have Y := vx_rebase X (R' := { frames := R.frames, locals := R.locals, cells := 1, slots := 6 }) (Nat.le_refl _) (Nat.le_refl _) hRcells hRslots
  obtain ⟨s', hA⟩ : ∃ z, z = (T.setVm s.vm).setFrames (.invoking m args :: below) := ⟨_, rfl⟩
  rw [← hA] at Y
  have hvm : s'.vm = s.vm := by rw [hA]; rfl
  have hhp : s'.heap = H := by rw [hA]; exact hT
  have hW0 : s.WarmedH s'.vm := by rw [hvm]; exact State.WarmedH.refl s
  have hat' : ∀ w ∈ vx_at0 own ic cls names, w.before args s' = true := fun w hw => vx_ot_at hW0 hvm.symm (hgood w (List.mem_cons_of_mem _ (List.mem_cons_of_mem _ hw))) (hat w hw)
  have hk' : (Cond.classLink own ik cls).before args s' = true := vx_ot_at hW0 hvm.symm (hgood _ List.mem_cons_self) hk
  have hini' : (Cond.initialized cls).before args s' = true := vx_ot_at hW0 hvm.symm (hgood _ (List.mem_cons_of_mem _ List.mem_cons_self)) hini
  have hU' : vx_Zq Bundle.tN "UNASSIGNED_STACK" Bundle.steD A s' s'.heap := by rw [hhp]; exact vx_Zq.moved hW0.alike (hU.kept hS.2.1)
  have hN' : vx_Zq Bundle.tN "SUPPRESSED_SENTINEL" Bundle.listD A s' s'.heap := by rw [hhp]; exact vx_Zq.moved hW0.alike (hN.kept hS.2.1)
  have h : ∀ w ∈ Bundle.ownAtoms0 own ic cls names, w.before args s' = true := vx_own hat' (vx_isRefq hU'.1) (vx_isRefq hN'.1) hU'.2.word hN'.2.word
  have hown' : s'.vm.findClass own = some m.cls := by rw [hvm]; exact hown
  have hins : (Cond.instantiable cls 6).before args s' = true := h _ (by simp [Bundle.ownAtoms0])
  obtain ⟨vm₁, cX, kX, hfX, hkX, -, -, X₁, st1⟩ := Y.newCold hexec (own := own) (C := cls) (index := ik) (n := 6) hown' hk' hins hini'
    (g := F0 m pc ls rest) rfl (by rw [hb]; exact d0) (Nat.le_refl _) (Nat.le_refl _)
  generalize hT1 : (T.setVm vm₁).pushCell { cls := cX, slots := kX.instanceTypes.map defaultValue, vm := .none } = T1 at X₁ st1
  have hcat : (Value.ref T.heap.size).category = 1 := rfl
  have hcellA : T1.heap[T.heap.size]? = some (freshCell cX kX) := by rw [← hT1]; exact State.heap_pushCell_size _ _
  have d3' : decode c.code (pc + 3) = .ok (.dup, 1) := by rw [hb]; exact d3
  obtain ⟨U, hsteps, hrun, hend, hW, hsame, ce, hce, hO⟩ := X₁.ctorThrow0 hexec htr (own := own) (cls := cls) (names := names) (ic := ic) hown' hcls hnames h (fun x hx => nomatch hx) hfX hkX hcellA (by rw [hhp, hT]; exact Nat.le_refl _)
    (g := { method := m, pc := pc + 4, locals := ls, stack := .ref T.heap.size :: .ref T.heap.size :: rest, locked := none }) rfl hsize rfl rfl (rest := rest) rfl
    (by rw [hb]; exact d4) (by rw [hb]; exact d7) hout hRframes (by simp only [List.map_cons, List.sum_cons, hcat]; omega) hlocks
  obtain ⟨f1, f2⟩ := vx_frame hsame
  rw [hhp] at f1 f2
  have hWs : s.WarmedH U.vm := State.WarmedH.trans hW0 hW
  have hcl : s.vm.findClass cls = some ce.cls := by
    have h9 := hO.cls
    rw [hvm] at h9
    exact h9
  have hall : s.sameButNew ({ U with vm := s.vm } : State) locs mc ms := by
    subst hA
    obtain ⟨e1, e2⟩ := hsame
    rw [State.setFrames_setFrames] at e1
    have h2 : (T.setVm s.vm).sameButNew ({ U with vm := s.vm } : State) [] (0 + 1) (0 + 6) := ⟨e1, e2⟩
    have h3 := X.same.trans h2
    rw [List.append_nil] at h3
    exact h3.mono hc hs
  refine ⟨U, ?_, .threw T.heap.size, hrun, hend, Or.inr ⟨T.heap.size, rfl, cls, ce, locs, hx U hWs.alike f1 (fun q hq => f2 q hq (fun z hz => nomatch hz)), hce, hO.vm, hcl, hWs, hall, hf⟩⟩
  refine st1 _ ?_
  show Steps p.tables e below (T1.setTop { method := m, pc := pc + 3, locals := ls, stack := .ref T.heap.size :: rest, locked := none }) _
  jvm_step X₁.here [X₁.here.top, hexec, d3', Value.category]
  exact hsteps
/-- 'throw new E("text")': new; dup; ldc; invokespecial; athrow -/
theorem vx_throwS {cc : ByteArray} {pc : Nat} (hexec : p.tables.exec = Jvm.exec) (hb : c.code = cc) (hl : l.stackTraces = false) {own cls text : String} {names : List String} {ik is ic mc ms sa : Nat} {A : Nat → Prop}
    (hown : s.vm.findClass own = some m.cls) (hcls : Bundle.fit cls = true) (hnames : ∀ n ∈ names, Bundle.fit n = true)
    (hk : (Cond.classLink own ik cls).before args s = true) (hini : (Cond.initialized cls).before args s = true) (hstr : vk_R own is text sa s) (hat : ∀ w ∈ vx_atS own ic cls names, w.before args s = true)
    (hgood : ∀ w ∈ Cond.classLink own ik cls :: Cond.initialized cls :: vx_atS own ic cls names, vx_ot w = true)
    (hU : vx_Zq Bundle.tN "UNASSIGNED_STACK" Bundle.steD A s s.heap) (hN : vx_Zq Bundle.tN "SUPPRESSED_SENTINEL" Bundle.listD A s s.heap) (hS : va_S A s.heap H locs) (hsize : ls.size = c.maxLocals)
    (d0 : decode cc pc = .ok (.new ik, 3)) (d3 : decode cc (pc + 3) = .ok (.dup, 1)) (d4 : decode cc (pc + 4) = .ok (.ldc is, 2)) (d6 : decode cc (pc + 6) = .ok (.invokespecial ic, 3)) (d9 : decode cc (pc + 9) = .ok (.athrow, 1))
    (hout : ∀ x ∈ c.exceptionTable.toList, covers x (pc + 9) = false)
    (hRframes : names.length + 3 < R.frames) (hRlocals : (rest.map fun v => v.category).sum + (13 * (names.length + 1) + 43) ≤ R.locals) (hRcells : cells + 1 ≤ R.cells) (hRslots : slots + 6 ≤ R.slots) (hlocks : meth.locks = false)
    (hx : ∀ t : State, s.vm.Alike t.vm → H.size ≤ t.heap.size → (∀ q : Nat, q < H.size → t.heap[q]? = H[q]?) → XC cls s t)
    (hf : ∀ z ∈ locs, free z.base) (hc : cells + 1 ≤ mc) (hs : slots + 6 ≤ ms) :
    W p l e R s m args below meth c H locs cells slots (vx_MQ below Qc XC args s mc ms free) (F0 m pc ls rest) := by
  intro T hT X
  have htr : e.platform.stackTraces = false := (show e.platform.stackTraces = l.stackTraces by rw [X.admits.platform]).trans hl
  have Y := vx_rebase X (R' := { frames := R.frames, locals := R.locals, cells := 1, slots := 6 }) (Nat.le_refl _) (Nat.le_refl _) hRcells hRslots
  obtain ⟨s', hA⟩ : ∃ z, z = (T.setVm s.vm).setFrames (.invoking m args :: below) := ⟨_, rfl⟩
  rw [← hA] at Y
  have hvm : s'.vm = s.vm := by rw [hA]; rfl
  have hhp : s'.heap = H := by rw [hA]; exact hT
  have hW0 : s.WarmedH s'.vm := by rw [hvm]; exact State.WarmedH.refl s
  have hat' : ∀ w ∈ vx_atS own ic cls names, w.before args s' = true := fun w hw => vx_ot_at hW0 hvm.symm (hgood w (List.mem_cons_of_mem _ (List.mem_cons_of_mem _ hw))) (hat w hw)
  have hk' : (Cond.classLink own ik cls).before args s' = true := vx_ot_at hW0 hvm.symm (hgood _ List.mem_cons_self) hk
  have hini' : (Cond.initialized cls).before args s' = true := vx_ot_at hW0 hvm.symm (hgood _ (List.mem_cons_of_mem _ List.mem_cons_self)) hini
  have hU' : vx_Zq Bundle.tN "UNASSIGNED_STACK" Bundle.steD A s' s'.heap := by rw [hhp]; exact vx_Zq.moved hW0.alike (hU.kept hS.2.1)
  have hN' : vx_Zq Bundle.tN "SUPPRESSED_SENTINEL" Bundle.listD A s' s'.heap := by rw [hhp]; exact vx_Zq.moved hW0.alike (hN.kept hS.2.1)
  have h : ∀ w ∈ Bundle.ownAtoms own ic cls names, w.before args s' = true := vx_own hat' (vx_isRefq hU'.1) (vx_isRefq hN'.1) hU'.2.word hN'.2.word
  have hown' : s'.vm.findClass own = some m.cls := by rw [hvm]; exact hown
  have hins : (Cond.instantiable cls 6).before args s' = true := h _ (by simp [Bundle.ownAtoms])
  obtain ⟨vm₁, cX, kX, hfX, hkX, -, -, X₁, st1⟩ := Y.newCold hexec (own := own) (C := cls) (index := ik) (n := 6) hown' hk' hins hini'
    (g := F0 m pc ls rest) rfl (by rw [hb]; exact d0) (Nat.le_refl _) (Nat.le_refl _)
  generalize hT1 : (T.setVm vm₁).pushCell { cls := cX, slots := kX.instanceTypes.map defaultValue, vm := .none } = T1 at X₁ st1
  have hcat : (Value.ref T.heap.size).category = 1 := rfl
  have hcellA : T1.heap[T.heap.size]? = some (freshCell cX kX) := by rw [← hT1]; exact State.heap_pushCell_size _ _
  have d3' : decode c.code (pc + 3) = .ok (.dup, 1) := by rw [hb]; exact d3
  have d4' : decode c.code (pc + 4) = .ok (.ldc is, 2) := by rw [hb]; exact d4
  have hstr' : vk_R own is text sa s' := vk_R.warm hW0 hstr
  obtain ⟨U, hsteps, hrun, hend, hW, hsame, ce, hce, hO⟩ := X₁.ctorThrowS hexec htr (own := own) (cls := cls) (names := names) (ic := ic) hown' hcls hnames h (fun x hx => nomatch hx) hfX hkX hcellA (by rw [hhp, hT]; exact Nat.le_refl _) (msg := .ref sa) rfl
    (g := { method := m, pc := pc + 6, locals := ls, stack := .ref sa :: .ref T.heap.size :: .ref T.heap.size :: rest, locked := none }) rfl hsize rfl rfl (rest := rest) rfl
    (by rw [hb]; exact d6) (by rw [hb]; exact d9) hout hRframes (by simp only [List.map_cons, List.sum_cons, hcat]; omega) hlocks
  obtain ⟨f1, f2⟩ := vx_frame hsame
  rw [hhp] at f1 f2
  have hWs : s.WarmedH U.vm := State.WarmedH.trans hW0 hW
  have hcl : s.vm.findClass cls = some ce.cls := by
    have h9 := hO.cls
    rw [hvm] at h9
    exact h9
  have hall : s.sameButNew ({ U with vm := s.vm } : State) locs mc ms := by
    subst hA
    obtain ⟨e1, e2⟩ := hsame
    rw [State.setFrames_setFrames] at e1
    have h2 : (T.setVm s.vm).sameButNew ({ U with vm := s.vm } : State) [] (0 + 1) (0 + 6) := ⟨e1, e2⟩
    have h3 := X.same.trans h2
    rw [List.append_nil] at h3
    exact h3.mono hc hs
  refine ⟨U, ?_, .threw T.heap.size, hrun, hend, Or.inr ⟨T.heap.size, rfl, cls, ce, locs, hx U hWs.alike f1 (fun q hq => f2 q hq (fun z hz => nomatch hz)), hce, hO.vm, hcl, hWs, hall, hf⟩⟩
  refine st1 _ ?_
  show Steps p.tables e below (T1.setTop { method := m, pc := pc + 3, locals := ls, stack := .ref T.heap.size :: rest, locked := none }) _
  jvm_step X₁.here [X₁.here.top, hexec, d3', Value.category]
  exact X₁.ldcString hexec (own := own) (text := text) (index := is) (a := sa) hown' hstr'.1 hstr'.2
    (g := { method := m, pc := pc + 4, locals := ls, stack := .ref T.heap.size :: .ref T.heap.size :: rest, locked := none }) rfl d4' _ hsteps
/-- 'throw new E("text")', the text by a wide index -/
theorem vx_throwSW {cc : ByteArray} {pc : Nat} (hexec : p.tables.exec = Jvm.exec) (hb : c.code = cc) (hl : l.stackTraces = false) {own cls text : String} {names : List String} {ik is ic mc ms sa : Nat} {A : Nat → Prop}
    (hown : s.vm.findClass own = some m.cls) (hcls : Bundle.fit cls = true) (hnames : ∀ n ∈ names, Bundle.fit n = true)
    (hk : (Cond.classLink own ik cls).before args s = true) (hini : (Cond.initialized cls).before args s = true) (hstr : vk_R own is text sa s) (hat : ∀ w ∈ vx_atS own ic cls names, w.before args s = true)
    (hgood : ∀ w ∈ Cond.classLink own ik cls :: Cond.initialized cls :: vx_atS own ic cls names, vx_ot w = true)
    (hU : vx_Zq Bundle.tN "UNASSIGNED_STACK" Bundle.steD A s s.heap) (hN : vx_Zq Bundle.tN "SUPPRESSED_SENTINEL" Bundle.listD A s s.heap) (hS : va_S A s.heap H locs) (hsize : ls.size = c.maxLocals)
    (d0 : decode cc pc = .ok (.new ik, 3)) (d3 : decode cc (pc + 3) = .ok (.dup, 1)) (d4 : decode cc (pc + 4) = .ok (.ldc_w is, 3)) (d7 : decode cc (pc + 7) = .ok (.invokespecial ic, 3)) (d10 : decode cc (pc + 10) = .ok (.athrow, 1))
    (hout : ∀ x ∈ c.exceptionTable.toList, covers x (pc + 10) = false)
    (hRframes : names.length + 3 < R.frames) (hRlocals : (rest.map fun v => v.category).sum + (13 * (names.length + 1) + 43) ≤ R.locals) (hRcells : cells + 1 ≤ R.cells) (hRslots : slots + 6 ≤ R.slots) (hlocks : meth.locks = false)
    (hx : ∀ t : State, s.vm.Alike t.vm → H.size ≤ t.heap.size → (∀ q : Nat, q < H.size → t.heap[q]? = H[q]?) → XC cls s t)
    (hf : ∀ z ∈ locs, free z.base) (hc : cells + 1 ≤ mc) (hs : slots + 6 ≤ ms) :
    W p l e R s m args below meth c H locs cells slots (vx_MQ below Qc XC args s mc ms free) (F0 m pc ls rest) := by
  intro T hT X
  have htr : e.platform.stackTraces = false := (show e.platform.stackTraces = l.stackTraces by rw [X.admits.platform]).trans hl
  have Y := vx_rebase X (R' := { frames := R.frames, locals := R.locals, cells := 1, slots := 6 }) (Nat.le_refl _) (Nat.le_refl _) hRcells hRslots
  obtain ⟨s', hA⟩ : ∃ z, z = (T.setVm s.vm).setFrames (.invoking m args :: below) := ⟨_, rfl⟩
  rw [← hA] at Y
  have hvm : s'.vm = s.vm := by rw [hA]; rfl
  have hhp : s'.heap = H := by rw [hA]; exact hT
  have hW0 : s.WarmedH s'.vm := by rw [hvm]; exact State.WarmedH.refl s
  have hat' : ∀ w ∈ vx_atS own ic cls names, w.before args s' = true := fun w hw => vx_ot_at hW0 hvm.symm (hgood w (List.mem_cons_of_mem _ (List.mem_cons_of_mem _ hw))) (hat w hw)
  have hk' : (Cond.classLink own ik cls).before args s' = true := vx_ot_at hW0 hvm.symm (hgood _ List.mem_cons_self) hk
  have hini' : (Cond.initialized cls).before args s' = true := vx_ot_at hW0 hvm.symm (hgood _ (List.mem_cons_of_mem _ List.mem_cons_self)) hini
  have hU' : vx_Zq Bundle.tN "UNASSIGNED_STACK" Bundle.steD A s' s'.heap := by rw [hhp]; exact vx_Zq.moved hW0.alike (hU.kept hS.2.1)
  have hN' : vx_Zq Bundle.tN "SUPPRESSED_SENTINEL" Bundle.listD A s' s'.heap := by rw [hhp]; exact vx_Zq.moved hW0.alike (hN.kept hS.2.1)
  have h : ∀ w ∈ Bundle.ownAtoms own ic cls names, w.before args s' = true := vx_own hat' (vx_isRefq hU'.1) (vx_isRefq hN'.1) hU'.2.word hN'.2.word
  have hown' : s'.vm.findClass own = some m.cls := by rw [hvm]; exact hown
  have hins : (Cond.instantiable cls 6).before args s' = true := h _ (by simp [Bundle.ownAtoms])
  obtain ⟨vm₁, cX, kX, hfX, hkX, -, -, X₁, st1⟩ := Y.newCold hexec (own := own) (C := cls) (index := ik) (n := 6) hown' hk' hins hini'
    (g := F0 m pc ls rest) rfl (by rw [hb]; exact d0) (Nat.le_refl _) (Nat.le_refl _)
  generalize hT1 : (T.setVm vm₁).pushCell { cls := cX, slots := kX.instanceTypes.map defaultValue, vm := .none } = T1 at X₁ st1
  have hcat : (Value.ref T.heap.size).category = 1 := rfl
  have hcellA : T1.heap[T.heap.size]? = some (freshCell cX kX) := by rw [← hT1]; exact State.heap_pushCell_size _ _
  have d3' : decode c.code (pc + 3) = .ok (.dup, 1) := by rw [hb]; exact d3
  have d4' : decode c.code (pc + 4) = .ok (.ldc_w is, 3) := by rw [hb]; exact d4
  have hstr' : vk_R own is text sa s' := vk_R.warm hW0 hstr
  obtain ⟨U, hsteps, hrun, hend, hW, hsame, ce, hce, hO⟩ := X₁.ctorThrowS hexec htr (own := own) (cls := cls) (names := names) (ic := ic) hown' hcls hnames h (fun x hx => nomatch hx) hfX hkX hcellA (by rw [hhp, hT]; exact Nat.le_refl _) (msg := .ref sa) rfl
    (g := { method := m, pc := pc + 7, locals := ls, stack := .ref sa :: .ref T.heap.size :: .ref T.heap.size :: rest, locked := none }) rfl hsize rfl rfl (rest := rest) rfl
    (by rw [hb]; exact d7) (by rw [hb]; exact d10) hout hRframes (by simp only [List.map_cons, List.sum_cons, hcat]; omega) hlocks
  obtain ⟨f1, f2⟩ := vx_frame hsame
  rw [hhp] at f1 f2
  have hWs : s.WarmedH U.vm := State.WarmedH.trans hW0 hW
  have hcl : s.vm.findClass cls = some ce.cls := by
    have h9 := hO.cls
    rw [hvm] at h9
    exact h9
  have hall : s.sameButNew ({ U with vm := s.vm } : State) locs mc ms := by
    subst hA
    obtain ⟨e1, e2⟩ := hsame
    rw [State.setFrames_setFrames] at e1
    have h2 : (T.setVm s.vm).sameButNew ({ U with vm := s.vm } : State) [] (0 + 1) (0 + 6) := ⟨e1, e2⟩
    have h3 := X.same.trans h2
    rw [List.append_nil] at h3
    exact h3.mono hc hs
  refine ⟨U, ?_, .threw T.heap.size, hrun, hend, Or.inr ⟨T.heap.size, rfl, cls, ce, locs, hx U hWs.alike f1 (fun q hq => f2 q hq (fun z hz => nomatch hz)), hce, hO.vm, hcl, hWs, hall, hf⟩⟩
  refine st1 _ ?_
  show Steps p.tables e below (T1.setTop { method := m, pc := pc + 3, locals := ls, stack := .ref T.heap.size :: rest, locked := none }) _
  jvm_step X₁.here [X₁.here.top, hexec, d3', Value.category]
  exact X₁.ldcStringW hexec (own := own) (text := text) (index := is) (a := sa) hown' hstr'.1 hstr'.2
    (g := { method := m, pc := pc + 4, locals := ls, stack := .ref T.heap.size :: .ref T.heap.size :: rest, locked := none }) rfl d4' _ hsteps
end Ends
section Bodies
variable {l : Launch}
theorem vx_ofW {y : MethodName} {ws ws' : List Cond} {rm : Room} {Pc : Array Value → State → Prop} {Qc : Array Value → State → Outcome → State → Prop} {XC : String → State → State → Prop} {mc ms : Nat} {free : Addr → Prop} {cc : ByteArray} {maxL : Nat} {ret : Option FieldType}
    (hy : plainName y.cls = true) (hw : ws = Cond.code y cc maxL ret :: ws')
    (body : ∀ p e s m args below meth c s₁, BodyLoose p l y (headSpec ws rm) cc maxL ret e s m args below meth c s₁ → c.maxLocals = maxL → (∀ x ∈ c.exceptionTable.toList, False) → Pc args s →
      W p l e (headSpec ws rm).room s m args below meth c s.heap [] 0 0 (vx_MQ below Qc XC args s mc ms free) (entryFrame m args maxL)) : vx_Met l y ws rm Pc Qc XC mc ms free := by
  refine MetFree.of_bodyS (code := cc) (maxLocals := maxL) (ret := ret) hy ?_ ?_
  · intro args s m h hn
    obtain ⟨meth, c, h1, h2, h3, h4, h5, h6, -, -⟩ := Cond.code_spec hn (atoms_spec (ws := ws) h _ (by rw [hw]; exact List.mem_cons_self))
    exact ⟨meth, c, h1, h2, h3, h4, h5, h6⟩
  · intro p e s m args below meth c s₁ B hml hP _
    have hh0 : s₁.heap = s.heap := by rw [B.state]; rfl
    have ht : ∀ x ∈ c.exceptionTable.toList, False := by
      obtain ⟨meth9, c9, h1, h2, -, -, -, -, h7, -⟩ := Cond.code_spec B.named (atoms_spec (ws := ws) B.pre _ (by rw [hw]; exact List.mem_cons_self))
      cases Option.some.inj (h1.symm.trans B.method)
      cases Option.some.inj (h2.symm.trans (Stand.of_body B).code)
      intro x hx
      rw [Array.isEmpty_iff.mp h7] at hx
      cases hx
    obtain ⟨t, a1, o, b1, b2, b3⟩ := body p e s m args below meth c s₁ B hml ht hP s₁ hh0 (Stand.of_body B)
    exact ⟨t, o, a1, b1, b2, b3⟩
/-- the table of a body with handlers -/
theorem vx_table {p : Program} {x y : MethodName} {S : Spec} {cc bytes : ByteArray} {maxL maxL' : Nat} {ret ret' : Option FieldType} {e : Env} {s s₁ : State} {m : MethodId} {args : Array Value} {below : List Frame} {meth : Method} {c : Code} {hh : List (Nat × Nat × Nat × Nat)}
    (B : BodyLoose p l y S cc maxL ret e s m args below meth c s₁) (h : (Cond.codeWith y bytes maxL' ret' hh).before args s = true) : c.exceptionTable.toList = tableOf hh := by
  obtain ⟨m9, meth9, c9, hn9, h1, h2, -, -, h6, -⟩ := Cond.codeWith_spec h
  cases Option.some.inj (hn9.symm.trans B.named)
  cases Option.some.inj (h1.symm.trans B.method)
  cases Option.some.inj (h2.symm.trans (Stand.of_body B).code)
  rw [← h6, table_eq]
end Bodies
end VXA
/-! ===== END ===== -/
/-! ===== BEGIN a static call of a method with an exception table ===== -/
section VXS
variable {p : Program} {l : Launch} {e : Env} {R : Room} {s : State} {m : MethodId} {args : Array Value} {below : List Frame} {meth : Method} {c : Code} {T : State} {H : Heap} {locs : List Loc} {cells slots : Nat}
abbrev vx_CSW (R : Room) (s : State) (args : Array Value) (own : String) (index : Nat) (y : MethodName) (bytes : ByteArray) (maxL : Nat) (ret : Option FieldType) (hh : List (Nat × Nat × Nat × Nat)) (ws : List Cond) (rm : Room) (mc ms n : Nat) : Prop :=
  (rm.cells = mc ∧ rm.slots = ms ∧ rm.frames + 1 ≤ R.frames ∧ 8 + (maxL + 11) + rm.locals ≤ R.locals ∧ (∀ w ∈ ws, ∀ (a' : Array Value) (U : State), s.WarmedH U.vm → w.before a' U = true) ∧ Cond.codeWith y bytes maxL ret hh ∈ ws) ∧
  (Cond.codeWith y bytes maxL ret hh).before args s = true ∧ (Cond.initialized y.cls).before args s = true ∧ (y.cls ≠ "java/lang/invoke/MethodHandle" ∧ y.cls ≠ "java/lang/invoke/VarHandle") ∧
  (∀ sig, parseMethodDescriptor y.desc = some sig → n = sig.parameters.length) ∧ (Cond.methodLink own index y).before args s = true ∧ (Cond.static y).before args s = true
theorem vx_cwSW {own : String} {index maxL mc ms : Nat} {y : MethodName} {bytes : ByteArray} {ret : Option FieldType} {hh : List (Nat × Nat × Nat × Nat)} {Ts ws ws' : List Cond} {rm : Room} (n : Nat) (ht : ∀ w ∈ Ts, w.before args s = true) (hT : GoodIn Ts (va_wsS own index y ws)) (hw : ws = Cond.codeWith y bytes maxL ret hh :: ws') (hrc : rm.cells = mc) (hrs : rm.slots = ms)
    (hd : y.cls ≠ "java/lang/invoke/MethodHandle" ∧ y.cls ≠ "java/lang/invoke/VarHandle" ∧ (parseMethodDescriptor y.desc).map (fun d => d.parameters.length) = some n) (hR : rm.frames + 1 ≤ R.frames ∧ 8 + (maxL + 11) + rm.locals ≤ R.locals) :
    vx_CSW R s args own index y bytes maxL ret hh ws rm mc ms n := by
  have ok : ∀ w ∈ va_wsS own index y ws, w.before args s = true := fun w h => ht w (hT w h).1
  have hG : GoodIn Ts ws := fun w h => hT w (by unfold va_wsS; exact List.mem_append_right _ h)
  have hc : Cond.codeWith y bytes maxL ret hh ∈ ws := by rw [hw]; exact List.mem_cons_self
  refine ⟨⟨hrc, hrs, hR.1, hR.2, pay_in ht hG, hc⟩, ht _ (hG _ hc).1, ok _ (by simp [va_wsS]), ⟨hd.1, hd.2.1⟩, fun sig h => ?_, ok _ (by simp [va_wsS]), ok _ (by simp [va_wsS])⟩
  have h2 := hd.2.2
  rw [h] at h2
  exact (Option.some.inj h2).symm
theorem vx_callSW (X : Stand p l e R s m args below meth c T locs cells slots) (hexec : p.tables.exec = Jvm.exec) {own : String} {index : Nat} {y : MethodName} {bytes : ByteArray} {maxL : Nat} {ret : Option FieldType} {hh : List (Nat × Nat × Nat × Nat)}
    (hown : s.vm.findClass own = some m.cls) (hlink : (Cond.methodLink own index y).before args s = true) (hstat : (Cond.static y).before args s = true) (hinit : (Cond.initialized y.cls).before args s = true)
    (hcode : (Cond.codeWith y bytes maxL ret hh).before args s = true) (hy : y.cls ≠ "java/lang/invoke/MethodHandle" ∧ y.cls ≠ "java/lang/invoke/VarHandle")
    {W9 : Nat} {Pre : Pt → Array Value → Prop} {Post : Pt → Array Value → Option Value → Pt → Prop} (hK : Back l R p e below s args y 3 W9 Pre Post)
    {g : JFrame} (hg : g.method = m) (hsize : g.locals.size = c.maxLocals) {argsL rest : List Value} (hlen : ∀ sig, parseMethodDescriptor y.desc = some sig → argsL.length = sig.parameters.length)
    (hstack : g.stack = argsL.reverse ++ rest) (hW : 2 * g.monitorRoom + (rest.map fun v => v.category).sum ≤ W9) (hdg : decode c.code g.pc = .ok (.invokestatic index, 3))
    (hpre : ∀ vm₁, s.WarmedH vm₁ → Pre ⟨T.setVm vm₁, locs, cells, slots⟩ argsL.toArray) :
    ∃ (v : Option Value) (vm₁ : Vm) (B : Pt), s.WarmedH vm₁ ∧ Stand p l e R s m args below meth c B.U B.locs B.cells B.slots ∧ Post ⟨T.setVm vm₁, locs, cells, slots⟩ argsL.toArray v B ∧
      ∀ target, Steps p.tables e below (B.U.setTop { g with pc := g.pc + 3, stack := v.toList ++ rest }) target → Steps p.tables e below (T.setTop g) target := by
  obtain ⟨mk, methM, cM, hnamed, hmethM, -, -, -, -, -, -, hsigM⟩ := Cond.codeWith_spec hcode
  have hstatic : methM.isStatic = true := Cond.static_spec hnamed hmethM hstat
  obtain ⟨kP, hkP, -⟩ := className_of_methodNamed hnamed
  have hinitP : kP.init = .initialized := Cond.initialized_spec (findClass_of_methodNamed hnamed) hkP hinit
  obtain ⟨vm₁, X₁, hstep₁⟩ := X.invokestatic hexec hown hlink hnamed hmethM hstatic hkP hinitP hy (g := g) hg (argsL := argsL) (rest := rest) (hlen _ hsigM) hstack hdg
  obtain ⟨v, B, X', hpost, hsteps⟩ := hK m meth c ⟨T.setVm vm₁, locs, cells, slots⟩ { g with stack := rest } (.invokestatic index) mk argsL.toArray X₁ hg hsize hdg hW (X₁.named hnamed) (hpre vm₁ X₁.warmed)
  exact ⟨v, vm₁, B, X₁.warmed, X', hpost, fun target h => hstep₁ _ fun acts => by rw [doInvoke_state]; exact hsteps.trans h⟩
theorem vx_runSW {y : MethodName} {bytes cc : ByteArray} {maxL nL mc ms n index : Nat} {ret : Option FieldType} {hh : List (Nat × Nat × Nat × Nat)} {ws : List Cond} {rm : Room} {Pc : Array Value → State → Prop} {Qc : Array Value → State → Outcome → State → Prop} {free : Addr → Prop} {Ts : List Cond} {own : String} {As rest : List Value} {g : JFrame}
    (S : CallFix p m c cc nL s args Ts own) (hM : Met l y ws rm Pc Qc mc ms free) (cw : vx_CSW R s args own index y bytes maxL ret hh ws rm mc ms n) (hp : PreS s H Pc As)
    (hg : g.method = m) (hn : As.length = n) (hsize : g.locals.size = nL) (hstack : g.stack = As.reverse ++ rest) (hW : 2 * g.monitorRoom + (rest.map fun v => v.category).sum ≤ 8) (hdg : decode cc g.pc = .ok (.invokestatic index, 3)) (hf : cells + mc ≤ R.cells ∧ slots + ms ≤ R.slots) :
    va_Run p l e R s m args below meth c H locs cells slots mc ms g rest (Qc As.toArray) (free) := by
  obtain ⟨⟨hrc, hrs, hfr, hlo, hws, hcw⟩, hcode, hini, hy, hlen, hl, hstt⟩ := cw
  have hK : Back l R p e below s args y 3 8 (PreOf R mc ms Pc) (PostOf Qc mc ms free) := va_backW (hh := hh) (bytes := bytes) (maxL := maxL) (ret := ret) hM hp.1 hrc hrs hfr hlo hws hcw (fun a' U hW => word_at hW (Or.inl (by first | rfl | simp [Cond.onTables, Cond.keeps, Cond.steady])) hini)
  obtain ⟨hx, hb, hml, ho, -⟩ := S
  intro T hT X
  obtain ⟨v, vm₁, ⟨U', l2, c2, s2⟩, hW₁, X', ⟨g', mk, t, L, e1, e2, hq, h1, hL, h2, h3⟩, st⟩ := vx_callSW X hx (hh := hh) (bytes := bytes) (maxL := maxL) (ret := ret) ho hl hstt hini hcode hy hK hg (hsize.trans hml.symm) (argsL := As) (rest := rest) (fun sig h => hn.trans (hlen sig h)) hstack hW (by rw [hb]; exact hdg)
    (fun vm₁ hW₁ => ⟨hf.1, hf.2, hp.2 (T.setVm vm₁) hT hW₁⟩)
  dsimp only [Pt.U, Pt.locs, Pt.cells, Pt.slots] at X' e1 e2 h1 h2 h3 st
  subst h1; subst h2; subst h3
  exact ⟨v, (T.setVm vm₁).calling g' mk As.toArray, t, U', L, hT, X', hL, e1, e2, hq, st⟩
/-- not caught here, past rows that name other classes: it goes on to the caller -/
theorem vx_outP {p : Program} {l : Launch} {e : Env} {R : Room} {s : State} {m : MethodId} {args : Array Value} {below : List Frame} {meth : Method} {c : Code} {H : Heap} {locs : List Loc} {cells slots : Nat} {free : Addr → Prop} {ls : Array Slot} {rest : List Value} {Qc : Array Value → State → Outcome → State → Prop} {XC : String → State → State → Prop}
    {pc : Nat} {own E : String} {ce : Cell} {q : Addr} {mc ms : Nat} (hown : s.vm.findClass own = some m.cls) (hlocks : meth.locks = false)
    (hpass : ∀ z ∈ c.exceptionTable.toList, covers z pc = false ∨ (z.catchType ≠ 0 ∧ ∃ nm : String, (Cond.classLink own z.catchType nm).before args s = true ∧ va_Nc E nm s)) (hcell : H[q]? = some ce) (hv : ce.vm = .none) (hcl : s.vm.findClass E = some ce.cls)
    (hx : ∀ t : State, t.heap = H → s.vm.Alike t.vm → XC E s t) (hf : ∀ z ∈ locs, free z.base) (hc : cells ≤ mc) (hs : slots ≤ ms) :
    vx_W p l e R s m args below meth c H locs cells slots (vx_MQ below Qc XC args s mc ms free) (F0 m pc ls rest) q := by
  intro T hT X
  have hpl : e.platform.magicAccessors = ({} : Platform).magicAccessors := by rw [X.admits.platform]
  obtain ⟨vm', hW', X', st⟩ := X.outThrough hlocks q (g := F0 m pc ls rest) rfl rfl rfl (cell := ce) (by rw [hT]; exact hcell) (by rw [hv]; rfl)
    (by obtain ⟨k9, h9, -⟩ := Vm.findClass_spec hcl; exact ⟨k9, h9⟩) (fun z hz => by
      rcases hpass z hz with h | ⟨hz0, nm, hl1, hn1⟩
      · exact Or.inl h
      · obtain ⟨c6, hc6, hcl6⟩ := Cond.classLink_spec hown hl1 e.platform hpl
        obtain ⟨a8, b8, h1, h2, h3⟩ := hn1
        cases Option.some.inj (h1.symm.trans hcl)
        cases Option.some.inj (h2.symm.trans hc6)
        exact Or.inr ⟨hz0, _, hcl6, h3⟩)
  obtain ⟨g₀, hfr⟩ := X'.frames_eq
  have hcell9 : ((T.setVm vm').setFrames (.throwing q :: below)).heap[q]? = some ce := by
    show T.heap[q]? = some ce
    rw [hT]; exact hcell
  have hend : Ended ((T.setVm vm').setFrames (.throwing q :: below)) below (.threw q) := State.frames_setFrames _ (State.cur_lt_of_frames hfr)
  refine ⟨(T.setVm vm').setFrames (.throwing q :: below), ?_, .threw q, X'.here.running, hend, Or.inr ⟨q, rfl, E, ce, locs, hx _ hT (X'.ends _).1.alike, hcell9, hv, hcl, (X'.ends _).1, (X'.ends _).2.mono hc hs, hf⟩⟩
  rw [X.pushThrowing_eq]
  exact st
/-- a thing of a world lies in the heap -/
theorem vx_lt {D : va_G} {cl : List vw_C} {ws : va_W} {H1 : Heap} (h : va_P D cl ws H1) {k : Nat} {q : Nat × va_E} (hk : ws[k]? = some q) : q.1 < H1.size := (h k q hk).lt
end VXS
/-! ===== END ===== -/
/-! ===== BEGIN methods with a table of their own: called by a name, returning or throwing ===== -/
section VXH
/-! vx_backW, vx_callVX, vx_callSX, vx_callVW, vx_runVW, vx_runVX, vx_runSX, vx_ofWH follow the same proofs as their sisters above (Free/Laws.lean, Shelf42/LK1.lean); vx_outP calls Shelf42/NT130.lean (outThrough). -/
section
variable {l : Launch} {R : Room} {p : Program} {e : Env} {below : List Frame} {s : State} {sargs : Array Value} {y : MethodName} {len W9 : Nat}
theorem vx_backW {ws : List Cond} {rm : Room} {Pc : Array Value → State → Prop} {Qc : Array Value → State → Outcome → State → Prop} {XC : String → State → State → Prop} {mc ms : Nat} {free : Addr → Prop} {bytes : ByteArray} {maxL : Nat} {ret : Option FieldType} {hh : List (Nat × Nat × Nat × Nat)}
    (hM : vx_Met l y ws rm Pc Qc XC mc ms free) (hblind : FrameBlind Pc) (hrc : rm.cells = mc) (hrs : rm.slots = ms)
    (hframes : rm.frames + 1 ≤ R.frames) (hlocals : W9 + (maxL + 11) + rm.locals ≤ R.locals)
    (hws : ∀ w ∈ ws, ∀ a' U, s.WarmedH U.vm → w.before a' U = true) (hcode : Cond.codeWith y bytes maxL ret hh ∈ ws) (hinit : ∀ a' U, s.WarmedH U.vm → (Cond.initialized y.cls).before a' U = true) :
    vx_Back l R p e below s sargs y len W9 (PreOf R mc ms Pc) (PostOf Qc mc ms free) (vx_Post XC mc ms free) := by
  intro m meth c A g ig mk a X hg hsize hdg hW hn hp
  have h1 : (headSpec ws rm).pre.before a A.U = true := atoms_intro fun w hw => hws w hw _ _ X.warmed
  have h2 : (Cond.codeWith y bytes maxL ret hh).before a A.U = true := hws _ hcode _ _ X.warmed
  have h3 : (Cond.initialized y.cls).before a A.U = true := hinit _ _ X.warmed
  have h4 : A.cells + (headSpec ws rm).room.cells ≤ R.cells := by rw [show (headSpec ws rm).room.cells = mc from hrc]; exact hp.1
  have h5 : A.slots + (headSpec ws rm).room.slots ≤ R.slots := by rw [show (headSpec ws rm).room.slots = ms from hrs]; exact hp.2.1
  have hPc : Pc a (A.U.calling g mk a) := hblind _ _ _ _ hp.2.2
  obtain ⟨U, Ls, c0, s0⟩ := A
  dsimp only [Pt.U, Pt.locs, Pt.cells, Pt.slots] at h1 h2 h3 h4 h5 X hn hPc ⊢
  obtain ⟨m9, methY, cY, hn9, hmY, hcY, -, hlY, -⟩ := Cond.codeWith_spec h2
  cases Option.some.inj (hn9.symm.trans hn)
  obtain ⟨kY, hkY, -⟩ := className_of_methodNamed hn
  have hinitY : kY.init = .initialized := Cond.initialized_spec (findClass_of_methodNamed hn) hkY h3
  have h : At U g.method c below := by rw [hg]; exact X.here
  have hlocals9 : W9 + (maxL + 11) + (headSpec ws rm).room.locals ≤ R.locals := hlocals
  have happ : (headSpec ws rm).appliesLoose y e.platform (U.calling g mk a) = true :=
    Spec.appliesLoose_calling (g := g) h hdg hn hkY hinitY
      (X.room_calling (g := g) (R' := (headSpec ws rm).room) hsize hmY hcY hframes (by rw [hlY]; omega) h4 h5) h1
  obtain ⟨mid, hmid⟩ := h.above
  have hfr : (U.setTop g).frames = (.java g :: mid) ++ below := by rw [State.frames_setTop' g h.top, hmid]; rfl
  obtain ⟨o, s₂, hsteps, -, hend, hq⟩ := Steps.callFree hM p X.admits X.cas X.clock (acts := []) hfr happ hPc trivial
  have hq' : vx_Q Qc XC mc ms free a (U.calling g mk a) o s₂ := hq
  rw [State.frames_setTop' g h.top] at hend
  obtain ⟨g₀, hg0⟩ := Option.isSome_iff_exists.mp h.top
  obtain ⟨r, hr⟩ := State.topJava?_eq_some.mp hg0
  have hr' : (({ U with heap := s₂.heap, slotsUsed := s₂.slotsUsed } : State).setVm s₂.vm).frames = .java g₀ :: r := hr
  rcases hq' with ⟨hqc, L, hfe, hL⟩ | ⟨q, rfl, E, ce, L, hx, hce, hcv, hcl, hW₂, hsm, hL⟩
  · obtain ⟨⟨v, rfl⟩, hW₂, e2, q2, q3, q4, q5, q6⟩ := id hfe
    have e3 : s₂ = ({ (U.calling g mk a).setFrames s₂.frames with heap := s₂.heap, slotsUsed := s₂.slotsUsed } : State).setVm s₂.vm := by
      have : s₂ = ({ s₂ with vm := (U.calling g mk a).vm } : State).setVm s₂.vm := rfl
      rw [e2] at this
      exact this
    obtain ⟨c₂, i₂, len₂, hc₂, hd₂, hf₂⟩ := hend
    have hW' : U.WarmedH s₂.vm := hW₂
    have hcc : c₂ = c := by
      have h1 : s₂.code? g.method = U.code? g.method := by
        rw [State.code?_eq, State.code?_eq, hW'.alike.method?]
      exact Option.some.inj (hc₂.symm.trans (h1.trans h.code))
    subst hcc
    have hlen : len₂ = len := by rw [hdg] at hd₂; cases hd₂; rfl
    subst hlen
    have hs₂ : s₂ = (({ U with heap := s₂.heap, slotsUsed := s₂.slotsUsed } : State).setVm s₂.vm).setTop { g with pc := g.pc + len₂, stack := v.toList ++ g.stack } := by
      refine e3.trans ?_
      rw [hf₂, State.calling_eq h.top, State.setFrames_setFrames, State.setTop_of_frames _ hr', hr]
      rfl
    have hsame : U.sameButNew ({ U with heap := s₂.heap, slotsUsed := s₂.slotsUsed } : State) L mc ms := by
      refine ⟨?_, q2, q3, q4, q5, q6⟩
      obtain ⟨t, ht, -⟩ := State.frames_cons hr
      show ({ U with heap := s₂.heap, slotsUsed := s₂.slotsUsed } : State) = { U.setFrames U.frames with heap := s₂.heap, slotsUsed := s₂.slotsUsed }
      rw [State.setFrames_self ht]
    subst hg
    refine Or.inl ⟨v, ⟨(({ U with heap := s₂.heap, slotsUsed := s₂.slotsUsed } : State).setVm s₂.vm), Ls ++ L, c0 + mc, s0 + ms⟩,
      ⟨X.admits, X.cas, X.clock, X.frames, X.room, X.hears, X.method, X.code, (X.here.setHeapUsed s₂.heap s₂.slotsUsed).setVm hW'.alike, X.tail, State.WarmedH.trans X.warmed hW', X.limits, X.bytes, X.same.trans (hsame.setVm s.vm)⟩,
      ⟨g, mk, s₂, L, rfl, rfl, hqc, rfl, hL, rfl, rfl⟩, ?_⟩
    show Steps p.tables e below _ ((({ U with heap := s₂.heap, slotsUsed := s₂.slotsUsed } : State).setVm s₂.vm).setTop { g with pc := g.pc + len₂, stack := v.toList ++ g.stack })
    rw [← hs₂]
    exact hsteps
  · obtain ⟨e2, q2, q3, q4, q5, q6⟩ := id hsm
    have e3 : s₂ = ({ (U.calling g mk a).setFrames s₂.frames with heap := s₂.heap, slotsUsed := s₂.slotsUsed } : State).setVm s₂.vm := by
      have : s₂ = ({ s₂ with vm := (U.calling g mk a).vm } : State).setVm s₂.vm := rfl
      rw [e2] at this
      exact this
    have hf₂ : s₂.frames = .throwing q :: .java g :: U.frames.tail := hend
    have hW' : U.WarmedH s₂.vm := hW₂
    have hs₂ : s₂ = ((({ U with heap := s₂.heap, slotsUsed := s₂.slotsUsed } : State).setVm s₂.vm).setTop g).pushFrame (.throwing q) := by
      refine e3.trans ?_
      rw [hf₂, State.calling_eq h.top, State.setFrames_setFrames, State.pushFrame, State.frames_setTop _ hr', State.setTop_of_frames _ hr', State.setFrames_setFrames, hr]
      rfl
    have hsame : U.sameButNew ({ U with heap := s₂.heap, slotsUsed := s₂.slotsUsed } : State) L mc ms := by
      refine ⟨?_, q2, q3, q4, q5, q6⟩
      obtain ⟨t, ht, -⟩ := State.frames_cons hr
      show ({ U with heap := s₂.heap, slotsUsed := s₂.slotsUsed } : State) = { U.setFrames U.frames with heap := s₂.heap, slotsUsed := s₂.slotsUsed }
      rw [State.setFrames_self ht]
    subst hg
    refine Or.inr ⟨q, ⟨(({ U with heap := s₂.heap, slotsUsed := s₂.slotsUsed } : State).setVm s₂.vm), Ls ++ L, c0 + mc, s0 + ms⟩,
      ⟨X.admits, X.cas, X.clock, X.frames, X.room, X.hears, X.method, X.code, (X.here.setHeapUsed s₂.heap s₂.slotsUsed).setVm hW'.alike, X.tail, State.WarmedH.trans X.warmed hW', X.limits, X.bytes, X.same.trans (hsame.setVm s.vm)⟩,
      ⟨g, mk, s₂, L, E, ce, rfl, rfl, hx, hce, hcv, hcl, rfl, hL, rfl, rfl⟩, ?_⟩
    show Steps p.tables e below _ (((({ U with heap := s₂.heap, slotsUsed := s₂.slotsUsed } : State).setVm s₂.vm).setTop g).pushFrame (.throwing q))
    rw [← hs₂]
    exact hsteps
end
variable {p : Program} {l : Launch} {e : Env} {R : Room} {s : State} {m : MethodId} {args : Array Value} {below : List Frame} {meth : Method} {c : Code} {T : State} {H : Heap} {locs : List Loc} {cells slots : Nat}
theorem vx_callVX (X : Stand p l e R s m args below meth c T locs cells slots) (hexec : p.tables.exec = Jvm.exec) {own C : String} {index : Nat} {y : MethodName} {bytes : ByteArray} {maxL : Nat} {ret : Option FieldType} {hh : List (Nat × Nat × Nat × Nat)}
    (hown : s.vm.findClass own = some m.cls) (hlink : (Cond.methodLink own index y).before args s = true) (hinst : (Cond.instanceMethod y).before args s = true) (hsel : (Cond.selects C y y).before args s = true)
    (hcode : (Cond.codeWith y bytes maxL ret hh).before args s = true) (hy : y.cls ≠ "java/lang/invoke/MethodHandle" ∧ y.cls ≠ "java/lang/invoke/VarHandle")
    {W9 : Nat} {Pre : Pt → Array Value → Prop} {Post : Pt → Array Value → Option Value → Pt → Prop} {PostX : Pt → Array Value → Addr → Pt → Prop} (hK : vx_Back l R p e below s args y 3 W9 Pre Post PostX)
    {b : Addr} {cellB : Cell} (hcell : T.heap[b]? = some cellB) (hobj : cellB.vm.isStatics = false) (hcls : s.vm.findClass C = some cellB.cls)
    {g : JFrame} (hg : g.method = m) (hsize : g.locals.size = c.maxLocals) {argsL rest : List Value} (hlen : ∀ sig, parseMethodDescriptor y.desc = some sig → argsL.length = sig.parameters.length)
    (hstack : g.stack = argsL.reverse ++ .ref b :: rest) (hW : 2 * g.monitorRoom + (rest.map fun v => v.category).sum ≤ W9) (hdg : decode c.code g.pc = .ok (.invokevirtual index, 3))
    (hpre : ∀ vm₁, s.WarmedH vm₁ → Pre ⟨T.setVm vm₁, locs, cells, slots⟩ (Value.ref b :: argsL).toArray) :
    (∃ (v : Option Value) (vm₁ : Vm) (B : Pt), s.WarmedH vm₁ ∧ Stand p l e R s m args below meth c B.U B.locs B.cells B.slots ∧ Post ⟨T.setVm vm₁, locs, cells, slots⟩ (Value.ref b :: argsL).toArray v B ∧
      ∀ target, Steps p.tables e below (B.U.setTop { g with pc := g.pc + 3, stack := v.toList ++ rest }) target → Steps p.tables e below (T.setTop g) target) ∨
    (∃ (q : Addr) (vm₁ : Vm) (B : Pt), s.WarmedH vm₁ ∧ Stand p l e R s m args below meth c B.U B.locs B.cells B.slots ∧ PostX ⟨T.setVm vm₁, locs, cells, slots⟩ (Value.ref b :: argsL).toArray q B ∧
      Steps p.tables e below (T.setTop g) ((B.U.setTop { g with stack := rest }).pushFrame (.throwing q))) := by
  obtain ⟨mk, methM, hnamed, hmethM, hstM, habM⟩ := Cond.instanceMethod_spec hinst
  obtain ⟨m8, methM', cM, hn8, hmethM', -, -, -, -, -, -, hsigM⟩ := Cond.codeWith_spec hcode
  cases Option.some.inj (hn8.symm.trans hnamed)
  cases hmethM.symm.trans hmethM'
  obtain ⟨c2, r2, m2, q1, q2, q3, q4, kP, hkP, hkPi⟩ := Cond.selects_spec hsel
  cases hcls.symm.trans q1
  cases (State.methodFound?_of_named hnamed hy).symm.trans q2
  cases hnamed.symm.trans q3
  have hselP : selectMethod e.platform s.vm cellB.cls mk = .method mk := by rw [Launch.admits_selectMethod X.admits]; exact q4
  obtain ⟨vm₁, X₁, hstep₁⟩ := X.invokevirtual hexec hown hlink hnamed hmethM hstM hkP hkPi hy (a := b) (cell := cellB) hcell
    (fun z h => by rw [h] at hobj; cases hobj) hselP hmethM habM hkP hkPi (g := g) hg (argsL := argsL) (rest := rest) (hlen _ hsigM) hstack hdg
  rcases hK m meth c ⟨T.setVm vm₁, locs, cells, slots⟩ { g with stack := rest } (.invokevirtual index) mk (Value.ref b :: argsL).toArray X₁ hg hsize hdg hW (X₁.named hnamed) (hpre vm₁ X₁.warmed) with ⟨v, B, X', hpost, hsteps⟩ | ⟨q, B, X', hpost, hsteps⟩
  · exact Or.inl ⟨v, vm₁, B, X₁.warmed, X', hpost, fun target h => hstep₁ _ fun acts => by rw [doInvoke_state]; exact hsteps.trans h⟩
  · exact Or.inr ⟨q, vm₁, B, X₁.warmed, X', hpost, hstep₁ _ fun acts => by rw [doInvoke_state]; exact hsteps⟩
theorem vx_callSX (X : Stand p l e R s m args below meth c T locs cells slots) (hexec : p.tables.exec = Jvm.exec) {own : String} {index : Nat} {y : MethodName} {bytes : ByteArray} {maxL : Nat} {ret : Option FieldType} {hh : List (Nat × Nat × Nat × Nat)}
    (hown : s.vm.findClass own = some m.cls) (hlink : (Cond.methodLink own index y).before args s = true) (hstat : (Cond.static y).before args s = true) (hinit : (Cond.initialized y.cls).before args s = true)
    (hcode : (Cond.codeWith y bytes maxL ret hh).before args s = true) (hy : y.cls ≠ "java/lang/invoke/MethodHandle" ∧ y.cls ≠ "java/lang/invoke/VarHandle")
    {W9 : Nat} {Pre : Pt → Array Value → Prop} {Post : Pt → Array Value → Option Value → Pt → Prop} {PostX : Pt → Array Value → Addr → Pt → Prop} (hK : vx_Back l R p e below s args y 3 W9 Pre Post PostX)
    {g : JFrame} (hg : g.method = m) (hsize : g.locals.size = c.maxLocals) {argsL rest : List Value} (hlen : ∀ sig, parseMethodDescriptor y.desc = some sig → argsL.length = sig.parameters.length)
    (hstack : g.stack = argsL.reverse ++ rest) (hW : 2 * g.monitorRoom + (rest.map fun v => v.category).sum ≤ W9) (hdg : decode c.code g.pc = .ok (.invokestatic index, 3))
    (hpre : ∀ vm₁, s.WarmedH vm₁ → Pre ⟨T.setVm vm₁, locs, cells, slots⟩ argsL.toArray) :
    (∃ (v : Option Value) (vm₁ : Vm) (B : Pt), s.WarmedH vm₁ ∧ Stand p l e R s m args below meth c B.U B.locs B.cells B.slots ∧ Post ⟨T.setVm vm₁, locs, cells, slots⟩ argsL.toArray v B ∧
      ∀ target, Steps p.tables e below (B.U.setTop { g with pc := g.pc + 3, stack := v.toList ++ rest }) target → Steps p.tables e below (T.setTop g) target) ∨
    (∃ (q : Addr) (vm₁ : Vm) (B : Pt), s.WarmedH vm₁ ∧ Stand p l e R s m args below meth c B.U B.locs B.cells B.slots ∧ PostX ⟨T.setVm vm₁, locs, cells, slots⟩ argsL.toArray q B ∧
      Steps p.tables e below (T.setTop g) ((B.U.setTop { g with stack := rest }).pushFrame (.throwing q))) := by
  obtain ⟨mk, methM, cM, hnamed, hmethM, -, -, -, -, -, -, hsigM⟩ := Cond.codeWith_spec hcode
  have hstatic : methM.isStatic = true := Cond.static_spec hnamed hmethM hstat
  obtain ⟨kP, hkP, -⟩ := className_of_methodNamed hnamed
  have hinitP : kP.init = .initialized := Cond.initialized_spec (findClass_of_methodNamed hnamed) hkP hinit
  obtain ⟨vm₁, X₁, hstep₁⟩ := X.invokestatic hexec hown hlink hnamed hmethM hstatic hkP hinitP hy (g := g) hg (argsL := argsL) (rest := rest) (hlen _ hsigM) hstack hdg
  rcases hK m meth c ⟨T.setVm vm₁, locs, cells, slots⟩ { g with stack := rest } (.invokestatic index) mk argsL.toArray X₁ hg hsize hdg hW (X₁.named hnamed) (hpre vm₁ X₁.warmed) with ⟨v, B, X', hpost, hsteps⟩ | ⟨q, B, X', hpost, hsteps⟩
  · exact Or.inl ⟨v, vm₁, B, X₁.warmed, X', hpost, fun target h => hstep₁ _ fun acts => by rw [doInvoke_state]; exact hsteps.trans h⟩
  · exact Or.inr ⟨q, vm₁, B, X₁.warmed, X', hpost, hstep₁ _ fun acts => by rw [doInvoke_state]; exact hsteps⟩
theorem vx_callVW (X : Stand p l e R s m args below meth c T locs cells slots) (hexec : p.tables.exec = Jvm.exec) {own C : String} {index : Nat} {y : MethodName} {bytes : ByteArray} {maxL : Nat} {ret : Option FieldType} {hh : List (Nat × Nat × Nat × Nat)}
    (hown : s.vm.findClass own = some m.cls) (hlink : (Cond.methodLink own index y).before args s = true) (hinst : (Cond.instanceMethod y).before args s = true) (hsel : (Cond.selects C y y).before args s = true)
    (hcode : (Cond.codeWith y bytes maxL ret hh).before args s = true) (hy : y.cls ≠ "java/lang/invoke/MethodHandle" ∧ y.cls ≠ "java/lang/invoke/VarHandle")
    {W9 : Nat} {Pre : Pt → Array Value → Prop} {Post : Pt → Array Value → Option Value → Pt → Prop} (hK : Back l R p e below s args y 3 W9 Pre Post)
    {b : Addr} {cellB : Cell} (hcell : T.heap[b]? = some cellB) (hobj : cellB.vm.isStatics = false) (hcls : s.vm.findClass C = some cellB.cls)
    {g : JFrame} (hg : g.method = m) (hsize : g.locals.size = c.maxLocals) {argsL rest : List Value} (hlen : ∀ sig, parseMethodDescriptor y.desc = some sig → argsL.length = sig.parameters.length)
    (hstack : g.stack = argsL.reverse ++ .ref b :: rest) (hW : 2 * g.monitorRoom + (rest.map fun v => v.category).sum ≤ W9) (hdg : decode c.code g.pc = .ok (.invokevirtual index, 3))
    (hpre : ∀ vm₁, s.WarmedH vm₁ → Pre ⟨T.setVm vm₁, locs, cells, slots⟩ (Value.ref b :: argsL).toArray) :
    ∃ (v : Option Value) (vm₁ : Vm) (B : Pt), s.WarmedH vm₁ ∧ Stand p l e R s m args below meth c B.U B.locs B.cells B.slots ∧ Post ⟨T.setVm vm₁, locs, cells, slots⟩ (Value.ref b :: argsL).toArray v B ∧
      ∀ target, Steps p.tables e below (B.U.setTop { g with pc := g.pc + 3, stack := v.toList ++ rest }) target → Steps p.tables e below (T.setTop g) target := by
  obtain ⟨mk, methM, hnamed, hmethM, hstM, habM⟩ := Cond.instanceMethod_spec hinst
  obtain ⟨m8, methM', cM, hn8, hmethM', -, -, -, -, -, -, hsigM⟩ := Cond.codeWith_spec hcode
  cases Option.some.inj (hn8.symm.trans hnamed)
  cases hmethM.symm.trans hmethM'
  obtain ⟨c2, r2, m2, q1, q2, q3, q4, kP, hkP, hkPi⟩ := Cond.selects_spec hsel
  cases hcls.symm.trans q1
  cases (State.methodFound?_of_named hnamed hy).symm.trans q2
  cases hnamed.symm.trans q3
  have hselP : selectMethod e.platform s.vm cellB.cls mk = .method mk := by rw [Launch.admits_selectMethod X.admits]; exact q4
  obtain ⟨vm₁, X₁, hstep₁⟩ := X.invokevirtual hexec hown hlink hnamed hmethM hstM hkP hkPi hy (a := b) (cell := cellB) hcell
    (fun z h => by rw [h] at hobj; cases hobj) hselP hmethM habM hkP hkPi (g := g) hg (argsL := argsL) (rest := rest) (hlen _ hsigM) hstack hdg
  obtain ⟨v, B, X', hpost, hsteps⟩ := hK m meth c ⟨T.setVm vm₁, locs, cells, slots⟩ { g with stack := rest } (.invokevirtual index) mk (Value.ref b :: argsL).toArray X₁ hg hsize hdg hW (X₁.named hnamed) (hpre vm₁ X₁.warmed)
  exact ⟨v, vm₁, B, X₁.warmed, X', hpost, fun target h => hstep₁ _ fun acts => by rw [doInvoke_state]; exact hsteps.trans h⟩
abbrev vx_CVW (R : Room) (s : State) (args : Array Value) (own C : String) (index : Nat) (y : MethodName) (bytes : ByteArray) (maxL : Nat) (ret : Option FieldType) (hh : List (Nat × Nat × Nat × Nat)) (ws : List Cond) (rm : Room) (mc ms n : Nat) : Prop :=
  (rm.cells = mc ∧ rm.slots = ms ∧ rm.frames + 1 ≤ R.frames ∧ 8 + (maxL + 11) + rm.locals ≤ R.locals ∧ (∀ w ∈ ws, ∀ (a' : Array Value) (U : State), s.WarmedH U.vm → w.before a' U = true) ∧ Cond.codeWith y bytes maxL ret hh ∈ ws) ∧
  (Cond.codeWith y bytes maxL ret hh).before args s = true ∧ (Cond.initialized y.cls).before args s = true ∧ (y.cls ≠ "java/lang/invoke/MethodHandle" ∧ y.cls ≠ "java/lang/invoke/VarHandle") ∧
  (∀ sig, parseMethodDescriptor y.desc = some sig → n = sig.parameters.length) ∧ (Cond.methodLink own index y).before args s = true ∧ (Cond.instanceMethod y).before args s = true ∧ (Cond.selects C y y).before args s = true
theorem vx_cwVW {own C : String} {index maxL mc ms : Nat} {y : MethodName} {bytes : ByteArray} {ret : Option FieldType} {hh : List (Nat × Nat × Nat × Nat)} {Ts ws ws' : List Cond} {rm : Room} (n : Nat) (ht : ∀ w ∈ Ts, w.before args s = true) (hT : GoodIn Ts (wsV own index C y ws)) (hw : ws = Cond.codeWith y bytes maxL ret hh :: ws') (hrc : rm.cells = mc) (hrs : rm.slots = ms)
    (hd : y.cls = C ∧ y.cls ≠ "java/lang/invoke/MethodHandle" ∧ y.cls ≠ "java/lang/invoke/VarHandle" ∧ (parseMethodDescriptor y.desc).map (fun d => d.parameters.length) = some n) (hR : rm.frames + 1 ≤ R.frames ∧ 8 + (maxL + 11) + rm.locals ≤ R.locals) :
    vx_CVW R s args own C index y bytes maxL ret hh ws rm mc ms n := by
  obtain ⟨hC, hd⟩ := hd
  subst hC
  have ok : ∀ w ∈ wsV own index y.cls y ws, w.before args s = true := fun w h => ht w (hT w h).1
  have hG : GoodIn Ts ws := fun w h => hT w (by unfold wsV; exact List.mem_append_right _ h)
  have hc : Cond.codeWith y bytes maxL ret hh ∈ ws := by rw [hw]; exact List.mem_cons_self
  refine ⟨⟨hrc, hrs, hR.1, hR.2, pay_in ht hG, hc⟩, ht _ (hG _ hc).1, ok _ (by simp [wsV]), ⟨hd.1, hd.2.1⟩, fun sig h => ?_, ok _ (by simp [wsV]), ok _ (by simp [wsV]), ok _ (by simp [wsV])⟩
  have h2 := hd.2.2
  rw [h] at h2
  exact (Option.some.inj h2).symm
theorem vx_runVW {y : MethodName} {bytes cc : ByteArray} {maxL nL mc ms n index : Nat} {ret : Option FieldType} {hh : List (Nat × Nat × Nat × Nat)} {ws : List Cond} {rm : Room} {Pc : Array Value → State → Prop} {Qc : Array Value → State → Outcome → State → Prop} {free : Addr → Prop} {Ts : List Cond} {own C : String} {b : Addr} {As rest : List Value} {g : JFrame}
    (S : CallFix p m c cc nL s args Ts own) (hM : Met l y ws rm Pc Qc mc ms free) (cw : vx_CVW R s args own C index y bytes maxL ret hh ws rm mc ms n) (hp : PreV s H C b Pc As)
    (hg : g.method = m) (hn : As.length = n) (hsize : g.locals.size = nL) (hstack : g.stack = As.reverse ++ .ref b :: rest) (hW : 2 * g.monitorRoom + (rest.map fun v => v.category).sum ≤ 8) (hdg : decode cc g.pc = .ok (.invokevirtual index, 3)) (hf : cells + mc ≤ R.cells ∧ slots + ms ≤ R.slots) :
    va_Run p l e R s m args below meth c H locs cells slots mc ms g rest (Qc (Value.ref b :: As).toArray) free := by
  obtain ⟨⟨hrc, hrs, hfr, hlo, hws, hcw⟩, hcode, hini, hy, hlen, hl, hin, hse⟩ := cw
  have hK : Back l R p e below s args y 3 8 (PreOf R mc ms Pc) (PostOf Qc mc ms free) := va_backW (hh := hh) (bytes := bytes) (maxL := maxL) (ret := ret) hM hp.1 hrc hrs hfr hlo hws hcw (fun a' U hW => word_at hW (Or.inl (by first | rfl | simp [Cond.onTables, Cond.keeps, Cond.steady])) hini)
  obtain ⟨hx, hb, hml, ho, -⟩ := S
  obtain ⟨-, ⟨cellB, hcB, hoB, hclB⟩, hPc⟩ := hp
  intro T hT X
  obtain ⟨v, vm₁, ⟨U', l2, c2, s2⟩, hW₁, X', ⟨g', mk, t, L, e1, e2, hq, h1, hL, h2, h3⟩, st⟩ := vx_callVW X hx (C := C) (hh := hh) (bytes := bytes) (maxL := maxL) (ret := ret) ho hl hin hse hcode hy hK (by rw [hT]; exact hcB) hoB hclB hg (hsize.trans hml.symm) (argsL := As) (rest := rest) (fun sig h => hn.trans (hlen sig h)) hstack hW (by rw [hb]; exact hdg)
    (fun vm₁ hW₁ => ⟨hf.1, hf.2, hPc (T.setVm vm₁) hT hW₁⟩)
  dsimp only [Pt.U, Pt.locs, Pt.cells, Pt.slots] at X' e1 e2 h1 h2 h3 st
  subst h1; subst h2; subst h3
  exact ⟨v, (T.setVm vm₁).calling g' mk (Value.ref b :: As).toArray, t, U', L, hT, X', hL, e1, e2, hq, st⟩
section
variable {y : MethodName} {bytes cc : ByteArray} {maxL nL mc ms n index : Nat} {ret : Option FieldType} {ws : List Cond} {rm : Room} {Pc : Array Value → State → Prop} {Qc : Array Value → State → Outcome → State → Prop} {XC : String → State → State → Prop} {free : Addr → Prop} {Ts : List Cond} {own C : String} {b : Addr} {As rest : List Value} {g : JFrame}
theorem vx_runVX {hh : List (Nat × Nat × Nat × Nat)} (S : CallFix p m c cc nL s args Ts own) (hM : vx_Met l y ws rm Pc Qc XC mc ms free) (cw : vx_CVW R s args own C index y bytes maxL ret hh ws rm mc ms n) (hp : PreV s H C b Pc As)
    (hg : g.method = m) (hn : As.length = n) (hsize : g.locals.size = nL) (hstack : g.stack = As.reverse ++ .ref b :: rest) (hW : 2 * g.monitorRoom + (rest.map fun v => v.category).sum ≤ 8) (hdg : decode cc g.pc = .ok (.invokevirtual index, 3)) (hf : cells + mc ≤ R.cells ∧ slots + ms ≤ R.slots) :
    vx_Run p l e R s m args below meth c H locs cells slots mc ms g rest (Qc (Value.ref b :: As).toArray) XC free := by
  obtain ⟨⟨hrc, hrs, hfr, hlo, hws, hcw⟩, hcode, hini, hy, hlen, hl, hin, hse⟩ := cw
  have hK : vx_Back l R p e below s args y 3 8 (PreOf R mc ms Pc) (PostOf Qc mc ms free) (vx_Post XC mc ms free) := vx_backW (hh := hh) (bytes := bytes) (maxL := maxL) (ret := ret) hM hp.1 hrc hrs hfr hlo hws hcw (fun a' U hW => word_at hW (Or.inl (by first | rfl | simp [Cond.onTables, Cond.keeps, Cond.steady])) hini)
  obtain ⟨hx, hb, hml, ho, -⟩ := S
  obtain ⟨-, ⟨cellB, hcB, hoB, hclB⟩, hPc⟩ := hp
  intro T hT X
  rcases vx_callVX X hx (C := C) (hh := hh) (bytes := bytes) (maxL := maxL) (ret := ret) ho hl hin hse hcode hy hK (by rw [hT]; exact hcB) hoB hclB hg (hsize.trans hml.symm) (argsL := As) (rest := rest) (fun sig h => hn.trans (hlen sig h)) hstack hW (by rw [hb]; exact hdg)
    (fun vm₁ hW₁ => ⟨hf.1, hf.2, hPc (T.setVm vm₁) hT hW₁⟩) with ⟨v, vm₁, ⟨U', l2, c2, s2⟩, hW₁, X', ⟨g', mk, t, L, e1, e2, hq, h1, hL, h2, h3⟩, st⟩ | ⟨q, vm₁, ⟨U', l2, c2, s2⟩, hW₁, X', ⟨g', mk, t, L, E, ce, e1, e2, hq, hce, hcv, hcl, h1, hL, h2, h3⟩, st⟩
  · dsimp only [Pt.U, Pt.locs, Pt.cells, Pt.slots] at X' e1 e2 h1 h2 h3 st
    subst h1; subst h2; subst h3
    exact Or.inl ⟨v, (T.setVm vm₁).calling g' mk (Value.ref b :: As).toArray, t, U', L, hT, X', hL, e1, e2, hq, st⟩
  · dsimp only [Pt.U, Pt.locs, Pt.cells, Pt.slots] at X' e1 e2 h1 h2 h3 st hcl
    subst h1; subst h2; subst h3
    exact Or.inr ⟨q, (T.setVm vm₁).calling g' mk (Value.ref b :: As).toArray, t, U', L, E, ce, hT, X', hL, e1, e2, hq, hce, hcv, vx_cls hW₁ hcl, st⟩
theorem vx_runSX {hh : List (Nat × Nat × Nat × Nat)} (S : CallFix p m c cc nL s args Ts own) (hM : vx_Met l y ws rm Pc Qc XC mc ms free) (cw : vx_CSW R s args own index y bytes maxL ret hh ws rm mc ms n) (hp : PreS s H Pc As)
    (hg : g.method = m) (hn : As.length = n) (hsize : g.locals.size = nL) (hstack : g.stack = As.reverse ++ rest) (hW : 2 * g.monitorRoom + (rest.map fun v => v.category).sum ≤ 8) (hdg : decode cc g.pc = .ok (.invokestatic index, 3)) (hf : cells + mc ≤ R.cells ∧ slots + ms ≤ R.slots) :
    vx_Run p l e R s m args below meth c H locs cells slots mc ms g rest (Qc As.toArray) XC free := by
  obtain ⟨⟨hrc, hrs, hfr, hlo, hws, hcw⟩, hcode, hini, hy, hlen, hl, hstt⟩ := cw
  have hK : vx_Back l R p e below s args y 3 8 (PreOf R mc ms Pc) (PostOf Qc mc ms free) (vx_Post XC mc ms free) := vx_backW (hh := hh) (bytes := bytes) (maxL := maxL) (ret := ret) hM hp.1 hrc hrs hfr hlo hws hcw (fun a' U hW => word_at hW (Or.inl (by first | rfl | simp [Cond.onTables, Cond.keeps, Cond.steady])) hini)
  obtain ⟨hx, hb, hml, ho, -⟩ := S
  intro T hT X
  rcases vx_callSX X hx (hh := hh) (bytes := bytes) (maxL := maxL) (ret := ret) ho hl hstt hini hcode hy hK hg (hsize.trans hml.symm) (argsL := As) (rest := rest) (fun sig h => hn.trans (hlen sig h)) hstack hW (by rw [hb]; exact hdg)
    (fun vm₁ hW₁ => ⟨hf.1, hf.2, hp.2 (T.setVm vm₁) hT hW₁⟩) with ⟨v, vm₁, ⟨U', l2, c2, s2⟩, hW₁, X', ⟨g', mk, t, L, e1, e2, hq, h1, hL, h2, h3⟩, st⟩ | ⟨q, vm₁, ⟨U', l2, c2, s2⟩, hW₁, X', ⟨g', mk, t, L, E, ce, e1, e2, hq, hce, hcv, hcl, h1, hL, h2, h3⟩, st⟩
  · dsimp only [Pt.U, Pt.locs, Pt.cells, Pt.slots] at X' e1 e2 h1 h2 h3 st
    subst h1; subst h2; subst h3
    exact Or.inl ⟨v, (T.setVm vm₁).calling g' mk As.toArray, t, U', L, hT, X', hL, e1, e2, hq, st⟩
  · dsimp only [Pt.U, Pt.locs, Pt.cells, Pt.slots] at X' e1 e2 h1 h2 h3 st hcl
    subst h1; subst h2; subst h3
    exact Or.inr ⟨q, (T.setVm vm₁).calling g' mk As.toArray, t, U', L, E, ce, hT, X', hL, e1, e2, hq, hce, hcv, vx_cls hW₁ hcl, st⟩
end
end VXH
theorem vx_ofWH {l : Launch} {y : MethodName} {ws ws' : List Cond} {rm : Room} {Pc : Array Value → State → Prop} {Qc : Array Value → State → Outcome → State → Prop} {XC : String → State → State → Prop} {mc ms : Nat} {free : Addr → Prop} {cc : ByteArray} {maxL : Nat} {ret : Option FieldType} {hh : List (Nat × Nat × Nat × Nat)}
    (hy : plainName y.cls = true) (hw : ws = Cond.codeWith y cc maxL ret hh :: ws')
    (body : ∀ p e s m args below meth c s₁, BodyLoose p l y (headSpec ws rm) cc maxL ret e s m args below meth c s₁ → c.maxLocals = maxL → Pc args s →
      W p l e (headSpec ws rm).room s m args below meth c s.heap [] 0 0 (vx_MQ below Qc XC args s mc ms free) (entryFrame m args maxL)) : vx_Met l y ws rm Pc Qc XC mc ms free := by
  refine MetFree.of_bodyS (code := cc) (maxLocals := maxL) (ret := ret) hy ?_ ?_
  · intro args s m h hn
    obtain ⟨m9, meth, c, hn9, h1, h2, h3, h4, -, h5, h6, -⟩ := Cond.codeWith_spec (atoms_spec (ws := ws) h _ (by rw [hw]; exact List.mem_cons_self))
    cases hn.symm.trans hn9
    exact ⟨meth, c, h1, h2, h3, h4, h5, h6⟩
  · intro p e s m args below meth c s₁ B hml hP _
    have hh0 : s₁.heap = s.heap := by rw [B.state]; rfl
    obtain ⟨t, a1, o, b1, b2, b3⟩ := body p e s m args below meth c s₁ B hml hP s₁ hh0 (Stand.of_body B)
    exact ⟨t, o, a1, b1, b2, b3⟩
/-! ===== END ===== -/
end
section
def RX0 : String := "SpiralDominoes$Game"
def TX0 : u_T := fun k => match k with
  | 0 => ("SpiralDominoes$Game", "rounds", "I", false)
  | 1 => ("SpiralDominoes$Game", "refused", "I", false)
  | 2 => ("SpiralDominoes$Game", "laidInAll", "I", false)
  | 3 => ("SpiralDominoes$Game", "phase", "I", false)
  | 4 => ("SpiralDominoes$Game", "players", "I", false)
  | 5 => ("SpiralDominoes$Game", "turn", "I", false)
  | 6 => ("SpiralDominoes$Game", "passes", "I", false)
  | 7 => ("SpiralDominoes$Game", "row", "[I", true)
  | 8 => ("SpiralDominoes$Game", "heapBegin", "I", false)
  | 9 => ("SpiralDominoes$Game", "holders", "[I", true)
  | 10 => ("SpiralDominoes$Game", "scores", "[I", true)
  | 11 => ("SpiralDominoes$Game", "wins", "[I", true)
  | _ => ("SpiralDominoes$Game", "line", "LSpiralDominoes$Line;", true)
def tyX0 : Nat → FieldType := fun k => match k with
  | 0 => .int
  | 1 => .int
  | 2 => .int
  | 3 => .int
  | 4 => .int
  | 5 => .int
  | 6 => .int
  | 7 => .array .int
  | 8 => .int
  | 9 => .array .int
  | 10 => .array .int
  | 11 => .array .int
  | _ => .object "SpiralDominoes$Line"
abbrev wsX00 : List Cond := u_ws RX0 TX0 13
theorem nmX0 : ∀ a, a < 13 → ∀ b, b < 13 → a ≠ b → (TX0 a).2.1 ≠ (TX0 b).2.1 := by decide +kernel
theorem tyX0_ok : ∀ k, k < 13 → parseFieldDescriptor (TX0 k).2.2.1 = some (tyX0 k) := by decide +kernel
abbrev cX0_init : ByteArray := prog_2_method_1_code
def yX0_init : MethodName := ⟨RX0, "<init>", "()V"⟩
abbrev cX0_becomeNew : ByteArray := prog_2_method_2_code
def yX0_becomeNew : MethodName := ⟨RX0, "becomeNew", "()V"⟩
abbrev cX0_becomeLike : ByteArray := prog_2_method_3_code
def yX0_becomeLike : MethodName := ⟨RX0, "becomeLike", "(LSpiralDominoes$Game;)V"⟩
abbrev cX0_line : ByteArray := prog_2_method_4_code
def yX0_line : MethodName := ⟨RX0, "line", "()LSpiralDominoes$Line;"⟩
abbrev cX0_roundsSoFar : ByteArray := prog_2_method_5_code
def yX0_roundsSoFar : MethodName := ⟨RX0, "roundsSoFar", "()I"⟩
abbrev cX0_isPlayed : ByteArray := prog_2_method_6_code
def yX0_isPlayed : MethodName := ⟨RX0, "isPlayed", "()Z"⟩
abbrev cX0_playerToMove : ByteArray := prog_2_method_7_code
def yX0_playerToMove : MethodName := ⟨RX0, "playerToMove", "()I"⟩
abbrev cX0_heapSize : ByteArray := prog_2_method_8_code
def yX0_heapSize : MethodName := ⟨RX0, "heapSize", "()I"⟩
abbrev cX0_numberOfGame : ByteArray := prog_2_method_9_code
def yX0_numberOfGame : MethodName := ⟨RX0, "numberOfGame", "(I)I"⟩
abbrev cX0_numberOfTile : ByteArray := prog_2_method_10_code
def yX0_numberOfTile : MethodName := ⟨RX0, "numberOfTile", "(II)I"⟩
abbrev cX0_numberOfPlayer : ByteArray := prog_2_method_11_code
def yX0_numberOfPlayer : MethodName := ⟨RX0, "numberOfPlayer", "(II)I"⟩
abbrev cX0_tilesOf : ByteArray := prog_2_method_12_code
def yX0_tilesOf : MethodName := ⟨RX0, "tilesOf", "(I)I"⟩
abbrev cX0_startRound : ByteArray := prog_2_method_13_code
def yX0_startRound : MethodName := ⟨RX0, "startRound", "(IJ)Z"⟩
abbrev cX0_shuffle : ByteArray := prog_2_method_14_code
def yX0_shuffle : MethodName := ⟨RX0, "shuffle", "(J)V"⟩
abbrev cX0_reasonAgainst : ByteArray := prog_2_method_15_code
def yX0_reasonAgainst : MethodName := ⟨RX0, "reasonAgainst", "(I)I"⟩
abbrev cX0_layOrRefuse : ByteArray := prog_2_method_16_code
def yX0_layOrRefuse : MethodName := ⟨RX0, "layOrRefuse", "(IZ)I"⟩
abbrev cX0_layIfPossible : ByteArray := prog_2_method_17_code
def yX0_layIfPossible : MethodName := ⟨RX0, "layIfPossible", "(IZ)Z"⟩
abbrev cX0_layHeaviest : ByteArray := prog_2_method_18_code
def yX0_layHeaviest : MethodName := ⟨RX0, "layHeaviest", "(I)Z"⟩
abbrev cX0_canTakeFromHeap : ByteArray := prog_2_method_19_code
def yX0_canTakeFromHeap : MethodName := ⟨RX0, "canTakeFromHeap", "()Z"⟩
abbrev cX0_takeFromHeap : ByteArray := prog_2_method_20_code
def yX0_takeFromHeap : MethodName := ⟨RX0, "takeFromHeap", "()I"⟩
abbrev cX0_canSkipTurn : ByteArray := prog_2_method_21_code
def yX0_canSkipTurn : MethodName := ⟨RX0, "canSkipTurn", "()Z"⟩
abbrev cX0_skipTurn : ByteArray := prog_2_method_22_code
def yX0_skipTurn : MethodName := ⟨RX0, "skipTurn", "()I"⟩
abbrev cX0_goToNextPlayer : ByteArray := prog_2_method_23_code
def yX0_goToNextPlayer : MethodName := ⟨RX0, "goToNextPlayer", "()V"⟩
abbrev cX0_playerWithFewestPips : ByteArray := prog_2_method_24_code
def yX0_playerWithFewestPips : MethodName := ⟨RX0, "playerWithFewestPips", "()I"⟩
abbrev cX0_winRound : ByteArray := prog_2_method_25_code
def yX0_winRound : MethodName := ⟨RX0, "winRound", "(I)V"⟩
abbrev cX0_playable : ByteArray := prog_2_method_26_code
def yX0_playable : MethodName := ⟨RX0, "playable", "()I"⟩
abbrev cX0_heaviestPlayable : ByteArray := prog_2_method_27_code
def yX0_heaviestPlayable : MethodName := ⟨RX0, "heaviestPlayable", "()I"⟩
abbrev cX0_longestChainOf : ByteArray := prog_2_method_28_code
def yX0_longestChainOf : MethodName := ⟨RX0, "longestChainOf", "(II)I"⟩
abbrev cX0_mostFromAnyTile : ByteArray := prog_2_method_29_code
def yX0_mostFromAnyTile : MethodName := ⟨RX0, "mostFromAnyTile", "(II)I"⟩
abbrev cX0_mostBehind : ByteArray := prog_2_method_30_code
def yX0_mostBehind : MethodName := ⟨RX0, "mostBehind", "(III)I"⟩
abbrev cX0_holderOf : ByteArray := prog_2_method_31_code
def yX0_holderOf : MethodName := ⟨RX0, "holderOf", "(I)I"⟩
abbrev cX0_giveTo : ByteArray := prog_2_method_32_code
def yX0_giveTo : MethodName := ⟨RX0, "giveTo", "(II)V"⟩
abbrev cX0_handOf : ByteArray := prog_2_method_33_code
def yX0_handOf : MethodName := ⟨RX0, "handOf", "(I)I"⟩
abbrev cX0_pipsOf : ByteArray := prog_2_method_34_code
def yX0_pipsOf : MethodName := ⟨RX0, "pipsOf", "(I)I"⟩
abbrev cX0_placeInHeap : ByteArray := prog_2_method_35_code
def yX0_placeInHeap : MethodName := ⟨RX0, "placeInHeap", "(I)I"⟩
def RX1 : String := "SpiralDominoes$History"
def TX1 : u_T := fun k => match k with
  | 0 => ("SpiralDominoes$History", "states", "[LSpiralDominoes$Game;", true)
  | 1 => ("SpiralDominoes$History", "begin", "I", false)
  | _ => ("SpiralDominoes$History", "size", "I", false)
def tyX1 : Nat → FieldType := fun k => match k with
  | 0 => .array (.object "SpiralDominoes$Game")
  | 1 => .int
  | _ => .int
abbrev wsX10 : List Cond := u_ws RX1 TX1 3
theorem nmX1 : ∀ a, a < 3 → ∀ b, b < 3 → a ≠ b → (TX1 a).2.1 ≠ (TX1 b).2.1 := by decide +kernel
theorem tyX1_ok : ∀ k, k < 3 → parseFieldDescriptor (TX1 k).2.2.1 = some (tyX1 k) := by decide +kernel
abbrev cX1_init : ByteArray := prog_3_method_1_code
def yX1_init : MethodName := ⟨RX1, "<init>", "()V"⟩
abbrev cX1_size : ByteArray := prog_3_method_2_code
def yX1_size : MethodName := ⟨RX1, "size", "()I"⟩
abbrev cX1_forget : ByteArray := prog_3_method_3_code
def yX1_forget : MethodName := ⟨RX1, "forget", "()V"⟩
abbrev cX1_remember : ByteArray := prog_3_method_4_code
def yX1_remember : MethodName := ⟨RX1, "remember", "(LSpiralDominoes$Game;)V"⟩
abbrev cX1_takeBack : ByteArray := prog_3_method_5_code
def yX1_takeBack : MethodName := ⟨RX1, "takeBack", "(LSpiralDominoes$Game;)I"⟩
abbrev cX1_stateOf : ByteArray := prog_3_method_6_code
def yX1_stateOf : MethodName := ⟨RX1, "stateOf", "(I)LSpiralDominoes$Game;"⟩
def RX2 : String := "SpiralDominoes$Line"
def TX2 : u_T := fun k => match k with
  | 0 => ("SpiralDominoes$Line", "size", "I", false)
  | 1 => ("SpiralDominoes$Line", "end", "I", false)
  | 2 => ("SpiralDominoes$Line", "direction", "I", false)
  | 3 => ("SpiralDominoes$Line", "nextX", "I", false)
  | 4 => ("SpiralDominoes$Line", "nextY", "I", false)
  | 5 => ("SpiralDominoes$Line", "tiles", "[I", true)
  | 6 => ("SpiralDominoes$Line", "xs", "[I", true)
  | 7 => ("SpiralDominoes$Line", "ys", "[I", true)
  | 8 => ("SpiralDominoes$Line", "ways", "[I", true)
  | 9 => ("SpiralDominoes$Line", "firsts", "[I", true)
  | _ => ("SpiralDominoes$Line", "covered", "[I", true)
def tyX2 : Nat → FieldType := fun k => match k with
  | 0 => .int
  | 1 => .int
  | 2 => .int
  | 3 => .int
  | 4 => .int
  | 5 => .array .int
  | 6 => .array .int
  | 7 => .array .int
  | 8 => .array .int
  | 9 => .array .int
  | _ => .array .int
abbrev wsX20 : List Cond := u_ws RX2 TX2 11
theorem nmX2 : ∀ a, a < 11 → ∀ b, b < 11 → a ≠ b → (TX2 a).2.1 ≠ (TX2 b).2.1 := by decide +kernel
theorem tyX2_ok : ∀ k, k < 11 → parseFieldDescriptor (TX2 k).2.2.1 = some (tyX2 k) := by decide +kernel
abbrev cX2_init : ByteArray := prog_4_method_1_code
def yX2_init : MethodName := ⟨RX2, "<init>", "()V"⟩
abbrev cX2_size : ByteArray := prog_4_method_2_code
def yX2_size : MethodName := ⟨RX2, "size", "()I"⟩
abbrev cX2_endOfNow : ByteArray := prog_4_method_3_code
def yX2_endOfNow : MethodName := ⟨RX2, "endOfNow", "()I"⟩
abbrev cX2_directionOfNow : ByteArray := prog_4_method_4_code
def yX2_directionOfNow : MethodName := ⟨RX2, "directionOfNow", "()I"⟩
abbrev cX2_becomeEmpty : ByteArray := prog_4_method_5_code
def yX2_becomeEmpty : MethodName := ⟨RX2, "becomeEmpty", "()V"⟩
abbrev cX2_becomeLike : ByteArray := prog_4_method_6_code
def yX2_becomeLike : MethodName := ⟨RX2, "becomeLike", "(LSpiralDominoes$Line;)V"⟩
abbrev cX2_fits : ByteArray := prog_4_method_7_code
def yX2_fits : MethodName := ⟨RX2, "fits", "(I)Z"⟩
abbrev cX2_hasRoom : ByteArray := prog_4_method_8_code
def yX2_hasRoom : MethodName := ⟨RX2, "hasRoom", "()Z"⟩
abbrev cX2_add : ByteArray := prog_4_method_9_code
def yX2_add : MethodName := ⟨RX2, "add", "(IZ)V"⟩
abbrev cX2_placeOf : ByteArray := prog_4_method_10_code
def yX2_placeOf : MethodName := ⟨RX2, "placeOf", "(I)I"⟩
abbrev cX2_numberOfPlace : ByteArray := prog_4_method_11_code
def yX2_numberOfPlace : MethodName := ⟨RX2, "numberOfPlace", "(II)I"⟩
abbrev cX2_pips : ByteArray := prog_4_method_12_code
def yX2_pips : MethodName := ⟨RX2, "pips", "()I"⟩
abbrev cX2_pipsAt : ByteArray := prog_4_method_13_code
def yX2_pipsAt : MethodName := ⟨RX2, "pipsAt", "(II)I"⟩
abbrev cX2_freeByCells : ByteArray := prog_4_method_14_code
def yX2_freeByCells : MethodName := ⟨RX2, "freeByCells", "()I"⟩
abbrev cX2_freeByTiles : ByteArray := prog_4_method_15_code
def yX2_freeByTiles : MethodName := ⟨RX2, "freeByTiles", "()I"⟩
abbrev cX2_numberOfReach : ByteArray := prog_4_method_16_code
def yX2_numberOfReach : MethodName := ⟨RX2, "numberOfReach", "(I)I"⟩
abbrev cX2_least : ByteArray := prog_4_method_17_code
def yX2_least : MethodName := ⟨RX2, "least", "(Z)I"⟩
abbrev cX2_greatest : ByteArray := prog_4_method_18_code
def yX2_greatest : MethodName := ⟨RX2, "greatest", "(Z)I"⟩
abbrev cX2_step : ByteArray := prog_4_method_19_code
def yX2_step : MethodName := ⟨RX2, "step", "(IZ)I"⟩
abbrev cX2_turnsTo : ByteArray := prog_4_method_20_code
def yX2_turnsTo : MethodName := ⟨RX2, "turnsTo", "(I)I"⟩
abbrev cX2_isFree : ByteArray := prog_4_method_21_code
def yX2_isFree : MethodName := ⟨RX2, "isFree", "(II)Z"⟩
abbrev cX2_cover : ByteArray := prog_4_method_22_code
def yX2_cover : MethodName := ⟨RX2, "cover", "(II)V"⟩
def RX3 : String := "SpiralDominoes$Slot"
def TX3 : u_T := fun k => match k with
  | 0 => ("SpiralDominoes$Slot", "kept", "LSpiralDominoes$Game;", true)
  | _ => ("SpiralDominoes$Slot", "full", "Z", false)
def tyX3 : Nat → FieldType := fun k => match k with
  | 0 => .object "SpiralDominoes$Game"
  | _ => .boolean
abbrev wsX30 : List Cond := u_ws RX3 TX3 2
theorem nmX3 : ∀ a, a < 2 → ∀ b, b < 2 → a ≠ b → (TX3 a).2.1 ≠ (TX3 b).2.1 := by decide +kernel
theorem tyX3_ok : ∀ k, k < 2 → parseFieldDescriptor (TX3 k).2.2.1 = some (tyX3 k) := by decide +kernel
abbrev cX3_init : ByteArray := prog_5_method_1_code
def yX3_init : MethodName := ⟨RX3, "<init>", "()V"⟩
abbrev cX3_isFull : ByteArray := prog_5_method_2_code
def yX3_isFull : MethodName := ⟨RX3, "isFull", "()Z"⟩
abbrev cX3_becomeEmpty : ByteArray := prog_5_method_3_code
def yX3_becomeEmpty : MethodName := ⟨RX3, "becomeEmpty", "()V"⟩
abbrev cX3_keep : ByteArray := prog_5_method_4_code
def yX3_keep : MethodName := ⟨RX3, "keep", "(LSpiralDominoes$Game;)V"⟩
abbrev cX3_giveBack : ByteArray := prog_5_method_5_code
def yX3_giveBack : MethodName := ⟨RX3, "giveBack", "(LSpiralDominoes$Game;)V"⟩
def RX4 : String := "SpiralDominoes$Text"
def TX4 : u_T := fun k => match k with
  | 0 => ("SpiralDominoes$Text", "signs", "[I", true)
  | _ => ("SpiralDominoes$Text", "length", "I", false)
def tyX4 : Nat → FieldType := fun k => match k with
  | 0 => .array .int
  | _ => .int
abbrev wsX40 : List Cond := u_ws RX4 TX4 2
theorem nmX4 : ∀ a, a < 2 → ∀ b, b < 2 → a ≠ b → (TX4 a).2.1 ≠ (TX4 b).2.1 := by decide +kernel
theorem tyX4_ok : ∀ k, k < 2 → parseFieldDescriptor (TX4 k).2.2.1 = some (tyX4 k) := by decide +kernel
abbrev cX4_init : ByteArray := prog_6_method_1_code
def yX4_init : MethodName := ⟨RX4, "<init>", "()V"⟩
abbrev cX4_isFull : ByteArray := prog_6_method_2_code
def yX4_isFull : MethodName := ⟨RX4, "isFull", "()Z"⟩
abbrev cX4_size : ByteArray := prog_6_method_3_code
def yX4_size : MethodName := ⟨RX4, "size", "()I"⟩
abbrev cX4_add : ByteArray := prog_6_method_4_code
def yX4_add : MethodName := ⟨RX4, "add", "(I)I"⟩
abbrev cX4_becomeEmpty : ByteArray := prog_6_method_5_code
def yX4_becomeEmpty : MethodName := ⟨RX4, "becomeEmpty", "()I"⟩
abbrev cX4_signAt : ByteArray := prog_6_method_6_code
def yX4_signAt : MethodName := ⟨RX4, "signAt", "(I)I"⟩
abbrev cX4_digitAt : ByteArray := prog_6_method_7_code
def yX4_digitAt : MethodName := ⟨RX4, "digitAt", "(I)I"⟩
abbrev cX4_numberAt : ByteArray := prog_6_method_8_code
def yX4_numberAt : MethodName := ⟨RX4, "numberAt", "(I)I"⟩
abbrev cX4_firstError : ByteArray := prog_6_method_9_code
def yX4_firstError : MethodName := ⟨RX4, "firstError", "()I"⟩
abbrev cX4_isEndOfCommand : ByteArray := prog_6_method_10_code
def yX4_isEndOfCommand : MethodName := ⟨RX4, "isEndOfCommand", "(II)Z"⟩
abbrev cX4_lengthOfCommand : ByteArray := prog_6_method_11_code
def yX4_lengthOfCommand : MethodName := ⟨RX4, "lengthOfCommand", "(I)I"⟩
abbrev cX4_isAllowed : ByteArray := prog_6_method_12_code
def yX4_isAllowed : MethodName := ⟨RX4, "isAllowed", "(II)Z"⟩
abbrev cX4_isDigit : ByteArray := prog_6_method_13_code
def yX4_isDigit : MethodName := ⟨RX4, "isDigit", "(III)Z"⟩
def RX5 : String := "SpiralDominoes"
def TX5 : u_T := fun k => match k with
  | 0 => ("SpiralDominoes", "text", "LSpiralDominoes$Text;", true)
  | 1 => ("SpiralDominoes", "now", "LSpiralDominoes$Game;", true)
  | 2 => ("SpiralDominoes", "trial", "LSpiralDominoes$Game;", true)
  | 3 => ("SpiralDominoes", "history", "LSpiralDominoes$History;", true)
  | 4 => ("SpiralDominoes", "firstSlot", "LSpiralDominoes$Slot;", true)
  | _ => ("SpiralDominoes", "secondSlot", "LSpiralDominoes$Slot;", true)
def tyX5 : Nat → FieldType := fun k => match k with
  | 0 => .object "SpiralDominoes$Text"
  | 1 => .object "SpiralDominoes$Game"
  | 2 => .object "SpiralDominoes$Game"
  | 3 => .object "SpiralDominoes$History"
  | 4 => .object "SpiralDominoes$Slot"
  | _ => .object "SpiralDominoes$Slot"
abbrev wsX50 : List Cond := u_ws RX5 TX5 6
theorem nmX5 : ∀ a, a < 6 → ∀ b, b < 6 → a ≠ b → (TX5 a).2.1 ≠ (TX5 b).2.1 := by decide +kernel
theorem tyX5_ok : ∀ k, k < 6 → parseFieldDescriptor (TX5 k).2.2.1 = some (tyX5 k) := by decide +kernel
abbrev cX5_init : ByteArray := prog_1_method_1_code
def yX5_init : MethodName := ⟨RX5, "<init>", "()V"⟩
abbrev cX5_append : ByteArray := prog_1_method_2_code
def yX5_append : MethodName := ⟨RX5, "append", "(I)I"⟩
abbrev cX5_clearText : ByteArray := prog_1_method_3_code
def yX5_clearText : MethodName := ⟨RX5, "clearText", "()I"⟩
abbrev cX5_errorPosition : ByteArray := prog_1_method_4_code
def yX5_errorPosition : MethodName := ⟨RX5, "errorPosition", "()I"⟩
abbrev cX5_load : ByteArray := prog_1_method_5_code
def yX5_load : MethodName := ⟨RX5, "load", "()I"⟩
abbrev cX5_doCommandsOfText : ByteArray := prog_1_method_6_code
def yX5_doCommandsOfText : MethodName := ⟨RX5, "doCommandsOfText", "()I"⟩
abbrev cX5_doCommandAt : ByteArray := prog_1_method_7_code
def yX5_doCommandAt : MethodName := ⟨RX5, "doCommandAt", "(I)Z"⟩
abbrev cX5_about : ByteArray := prog_1_method_8_code
def yX5_about : MethodName := ⟨RX5, "about", "(I)I"⟩
abbrev cX5_tileOf : ByteArray := prog_1_method_9_code
def yX5_tileOf : MethodName := ⟨RX5, "tileOf", "(II)I"⟩
abbrev cX5_laid : ByteArray := prog_1_method_10_code
def yX5_laid : MethodName := ⟨RX5, "laid", "(II)I"⟩
abbrev cX5_playerOf : ByteArray := prog_1_method_11_code
def yX5_playerOf : MethodName := ⟨RX5, "playerOf", "(II)I"⟩
abbrev cX5_at : ByteArray := prog_1_method_12_code
def yX5_at : MethodName := ⟨RX5, "at", "(II)I"⟩
abbrev cX5_free : ByteArray := prog_1_method_13_code
def yX5_free : MethodName := ⟨RX5, "free", "(I)I"⟩
abbrev cX5_deal : ByteArray := prog_1_method_14_code
def yX5_deal : MethodName := ⟨RX5, "deal", "(IJ)I"⟩
abbrev cX5_play : ByteArray := prog_1_method_15_code
def yX5_play : MethodName := ⟨RX5, "play", "(IZ)I"⟩
abbrev cX5_draw : ByteArray := prog_1_method_16_code
def yX5_draw : MethodName := ⟨RX5, "draw", "()I"⟩
abbrev cX5_pass : ByteArray := prog_1_method_17_code
def yX5_pass : MethodName := ⟨RX5, "pass", "()I"⟩
abbrev cX5_undo : ByteArray := prog_1_method_18_code
def yX5_undo : MethodName := ⟨RX5, "undo", "()I"⟩
abbrev cX5_why : ByteArray := prog_1_method_19_code
def yX5_why : MethodName := ⟨RX5, "why", "(I)I"⟩
abbrev cX5_legal : ByteArray := prog_1_method_20_code
def yX5_legal : MethodName := ⟨RX5, "legal", "()I"⟩
abbrev cX5_best : ByteArray := prog_1_method_21_code
def yX5_best : MethodName := ⟨RX5, "best", "()I"⟩
abbrev cX5_chain : ByteArray := prog_1_method_22_code
def yX5_chain : MethodName := ⟨RX5, "chain", "(II)I"⟩
abbrev cX5_reach : ByteArray := prog_1_method_23_code
def yX5_reach : MethodName := ⟨RX5, "reach", "(I)I"⟩
abbrev cX5_runScript : ByteArray := prog_1_method_24_code
def yX5_runScript : MethodName := ⟨RX5, "runScript", "(IJ)I"⟩
abbrev cX5_withoutGroups : ByteArray := prog_1_method_25_code
def yX5_withoutGroups : MethodName := ⟨RX5, "withoutGroups", "(JI)J"⟩
abbrev cX5_succeeds : ByteArray := prog_1_method_26_code
def yX5_succeeds : MethodName := ⟨RX5, "succeeds", "(I)Z"⟩
abbrev cX5_simulate : ByteArray := prog_1_method_27_code
def yX5_simulate : MethodName := ⟨RX5, "simulate", "(JI)I"⟩
abbrev cX5_simulateTurn : ByteArray := prog_1_method_28_code
def yX5_simulateTurn : MethodName := ⟨RX5, "simulateTurn", "(I)V"⟩
abbrev cX5_memberOf : ByteArray := prog_1_method_29_code
def yX5_memberOf : MethodName := ⟨RX5, "memberOf", "(II)I"⟩
abbrev cX5_save : ByteArray := prog_1_method_30_code
def yX5_save : MethodName := ⟨RX5, "save", "(I)I"⟩
abbrev cX5_restore : ByteArray := prog_1_method_31_code
def yX5_restore : MethodName := ⟨RX5, "restore", "(I)I"⟩
abbrev cX5_slotOf : ByteArray := prog_1_method_32_code
def yX5_slotOf : MethodName := ⟨RX5, "slotOf", "(I)LSpiralDominoes$Slot;"⟩
abbrev cX5_isTile : ByteArray := prog_1_method_33_code
def yX5_isTile : MethodName := ⟨RX5, "isTile", "(I)Z"⟩
abbrev cX5_isPlayer : ByteArray := prog_1_method_34_code
def yX5_isPlayer : MethodName := ⟨RX5, "isPlayer", "(I)Z"⟩
abbrev cX5_isNumberOfPlayers : ByteArray := prog_1_method_35_code
def yX5_isNumberOfPlayers : MethodName := ⟨RX5, "isNumberOfPlayers", "(I)Z"⟩
abbrev cX5_isCell : ByteArray := prog_1_method_36_code
def yX5_isCell : MethodName := ⟨RX5, "isCell", "(II)Z"⟩
abbrev cX5_lowOf : ByteArray := prog_1_method_37_code
def yX5_lowOf : MethodName := ⟨RX5, "lowOf", "(I)I"⟩
abbrev cX5_highOf : ByteArray := prog_1_method_38_code
def yX5_highOf : MethodName := ⟨RX5, "highOf", "(I)I"⟩
abbrev cX5_pipsOn : ByteArray := prog_1_method_39_code
def yX5_pipsOn : MethodName := ⟨RX5, "pipsOn", "(I)I"⟩
abbrev cX5_tileWith : ByteArray := prog_1_method_40_code
def yX5_tileWith : MethodName := ⟨RX5, "tileWith", "(II)I"⟩
abbrev cX5_stepX : ByteArray := prog_1_method_41_code
def yX5_stepX : MethodName := ⟨RX5, "stepX", "(I)I"⟩
abbrev cX5_stepY : ByteArray := prog_1_method_42_code
def yX5_stepY : MethodName := ⟨RX5, "stepY", "(I)I"⟩
def RX6 : String := "SpiralDominoesModel"
def TX6 : u_T := fun k => match k with
  | 0 => ("SpiralDominoesModel", "refusal", "I", false)
  | 1 => ("SpiralDominoesModel", "text", "[I", true)
  | 2 => ("SpiralDominoesModel", "size", "I", false)
  | 3 => ("SpiralDominoesModel", "now", "[I", true)
  | 4 => ("SpiralDominoesModel", "trial", "[I", true)
  | 5 => ("SpiralDominoesModel", "diary", "[I", true)
  | 6 => ("SpiralDominoesModel", "acts", "I", false)
  | 7 => ("SpiralDominoesModel", "kept", "[I", true)
  | 8 => ("SpiralDominoesModel", "isKept", "[Z", true)
  | 9 => ("SpiralDominoesModel", "row", "[I", true)
  | 10 => ("SpiralDominoesModel", "tried", "[I", true)
  | 11 => ("SpiralDominoesModel", "ends", "[I", true)
  | 12 => ("SpiralDominoesModel", "spot", "I", false)
  | _ => ("SpiralDominoesModel", "out", "I", false)
def tyX6 : Nat → FieldType := fun k => match k with
  | 0 => .int
  | 1 => .array .int
  | 2 => .int
  | 3 => .array .int
  | 4 => .array .int
  | 5 => .array .int
  | 6 => .int
  | 7 => .array .int
  | 8 => .array .boolean
  | 9 => .array .int
  | 10 => .array .int
  | 11 => .array .int
  | 12 => .int
  | _ => .int
abbrev wsX60 : List Cond := u_ws RX6 TX6 14
theorem nmX6 : ∀ a, a < 14 → ∀ b, b < 14 → a ≠ b → (TX6 a).2.1 ≠ (TX6 b).2.1 := by decide +kernel
theorem tyX6_ok : ∀ k, k < 14 → parseFieldDescriptor (TX6 k).2.2.1 = some (tyX6 k) := by decide +kernel
abbrev cX6_init : ByteArray := prog_8_method_1_code
def yX6_init : MethodName := ⟨RX6, "<init>", "()V"⟩
abbrev cX6_thrown : ByteArray := prog_8_method_2_code
def yX6_thrown : MethodName := ⟨RX6, "thrown", "()I"⟩
abbrev cX6_refused : ByteArray := prog_8_method_3_code
def yX6_refused : MethodName := ⟨RX6, "refused", "(I)Z"⟩
abbrev cX6_in : ByteArray := prog_8_method_4_code
def yX6_in : MethodName := ⟨RX6, "in", "(JJJ)Z"⟩
abbrev cX6_copyState : ByteArray := prog_8_method_5_code
def yX6_copyState : MethodName := ⟨RX6, "copyState", "([II[II)V"⟩
abbrev cX6_clear : ByteArray := prog_8_method_6_code
def yX6_clear : MethodName := ⟨RX6, "clear", "([I)V"⟩
abbrev cX6_lesser : ByteArray := prog_8_method_7_code
def yX6_lesser : MethodName := ⟨RX6, "lesser", "(I)I"⟩
abbrev cX6_greater : ByteArray := prog_8_method_8_code
def yX6_greater : MethodName := ⟨RX6, "greater", "(I)I"⟩
abbrev cX6_pips : ByteArray := prog_8_method_9_code
def yX6_pips : MethodName := ⟨RX6, "pips", "(I)I"⟩
abbrev cX6_isTile : ByteArray := prog_8_method_10_code
def yX6_isTile : MethodName := ⟨RX6, "isTile", "(I)Z"⟩
abbrev cX6_handMany : ByteArray := prog_8_method_11_code
def yX6_handMany : MethodName := ⟨RX6, "handMany", "([II)I"⟩
abbrev cX6_handPips : ByteArray := prog_8_method_12_code
def yX6_handPips : MethodName := ⟨RX6, "handPips", "([II)I"⟩
abbrev cX6_dx : ByteArray := prog_8_method_13_code
def yX6_dx : MethodName := ⟨RX6, "dx", "(I)I"⟩
abbrev cX6_dy : ByteArray := prog_8_method_14_code
def yX6_dy : MethodName := ⟨RX6, "dy", "(I)I"⟩
abbrev cX6_onTable : ByteArray := prog_8_method_15_code
def yX6_onTable : MethodName := ⟨RX6, "onTable", "([III)I"⟩
abbrev cX6_otherPips : ByteArray := prog_8_method_16_code
def yX6_otherPips : MethodName := ⟨RX6, "otherPips", "([II)I"⟩
abbrev cX6_xOf : ByteArray := prog_8_method_17_code
def yX6_xOf : MethodName := ⟨RX6, "xOf", "([III)I"⟩
abbrev cX6_yOf : ByteArray := prog_8_method_18_code
def yX6_yOf : MethodName := ⟨RX6, "yOf", "([III)I"⟩
abbrev cX6_cellAt : ByteArray := prog_8_method_19_code
def yX6_cellAt : MethodName := ⟨RX6, "cellAt", "([III)I"⟩
abbrev cX6_isFree : ByteArray := prog_8_method_20_code
def yX6_isFree : MethodName := ⟨RX6, "isFree", "([III)Z"⟩
abbrev cX6_nextX : ByteArray := prog_8_method_21_code
def yX6_nextX : MethodName := ⟨RX6, "nextX", "([I)I"⟩
abbrev cX6_nextY : ByteArray := prog_8_method_22_code
def yX6_nextY : MethodName := ⟨RX6, "nextY", "([I)I"⟩
abbrev cX6_fitsTo : ByteArray := prog_8_method_23_code
def yX6_fitsTo : MethodName := ⟨RX6, "fitsTo", "(II)Z"⟩
abbrev cX6_endBehind : ByteArray := prog_8_method_24_code
def yX6_endBehind : MethodName := ⟨RX6, "endBehind", "(II)I"⟩
abbrev cX6_reason : ByteArray := prog_8_method_25_code
def yX6_reason : MethodName := ⟨RX6, "reason", "([II)I"⟩
abbrev cX6_legalMany : ByteArray := prog_8_method_26_code
def yX6_legalMany : MethodName := ⟨RX6, "legalMany", "([I)I"⟩
abbrev cX6_legalAt : ByteArray := prog_8_method_27_code
def yX6_legalAt : MethodName := ⟨RX6, "legalAt", "([II)I"⟩
abbrev cX6_bestOf : ByteArray := prog_8_method_28_code
def yX6_bestOf : MethodName := ⟨RX6, "bestOf", "([I)I"⟩
abbrev cX6_dealOn : ByteArray := prog_8_method_29_code
def yX6_dealOn : MethodName := ⟨RX6, "dealOn", "([IIJ)I"⟩
abbrev cX6_allPips : ByteArray := prog_8_method_30_code
def yX6_allPips : MethodName := ⟨RX6, "allPips", "([I)I"⟩
abbrev cX6_wins : ByteArray := prog_8_method_31_code
def yX6_wins : MethodName := ⟨RX6, "wins", "([II)V"⟩
abbrev cX6_nextTurn : ByteArray := prog_8_method_32_code
def yX6_nextTurn : MethodName := ⟨RX6, "nextTurn", "([I)V"⟩
abbrev cX6_put : ByteArray := prog_8_method_33_code
def yX6_put : MethodName := ⟨RX6, "put", "([IIZ)V"⟩
abbrev cX6_playOn : ByteArray := prog_8_method_34_code
def yX6_playOn : MethodName := ⟨RX6, "playOn", "([IIZ)I"⟩
abbrev cX6_canDraw : ByteArray := prog_8_method_35_code
def yX6_canDraw : MethodName := ⟨RX6, "canDraw", "([I)Z"⟩
abbrev cX6_canPass : ByteArray := prog_8_method_36_code
def yX6_canPass : MethodName := ⟨RX6, "canPass", "([I)Z"⟩
abbrev cX6_drawOn : ByteArray := prog_8_method_37_code
def yX6_drawOn : MethodName := ⟨RX6, "drawOn", "([I)I"⟩
abbrev cX6_passOn : ByteArray := prog_8_method_38_code
def yX6_passOn : MethodName := ⟨RX6, "passOn", "([I)I"⟩
abbrev cX6_playBest : ByteArray := prog_8_method_39_code
def yX6_playBest : MethodName := ⟨RX6, "playBest", "([I)Z"⟩
abbrev cX6_append : ByteArray := prog_8_method_40_code
def yX6_append : MethodName := ⟨RX6, "append", "(I)I"⟩
abbrev cX6_clearText : ByteArray := prog_8_method_41_code
def yX6_clearText : MethodName := ⟨RX6, "clearText", "()I"⟩
abbrev cX6_figures : ByteArray := prog_8_method_42_code
def yX6_figures : MethodName := ⟨RX6, "figures", "(IIII)I"⟩
abbrev cX6_done : ByteArray := prog_8_method_43_code
def yX6_done : MethodName := ⟨RX6, "done", "(Z)Z"⟩
abbrev cX6_readTile : ByteArray := prog_8_method_44_code
def yX6_readTile : MethodName := ⟨RX6, "readTile", "([I)Z"⟩
abbrev cX6_readCommand : ByteArray := prog_8_method_45_code
def yX6_readCommand : MethodName := ⟨RX6, "readCommand", "([I)Z"⟩
abbrev cX6_readText : ByteArray := prog_8_method_46_code
def yX6_readText : MethodName := ⟨RX6, "readText", "([I)I"⟩
abbrev cX6_errorPosition : ByteArray := prog_8_method_47_code
def yX6_errorPosition : MethodName := ⟨RX6, "errorPosition", "()I"⟩
abbrev cX6_load : ByteArray := prog_8_method_48_code
def yX6_load : MethodName := ⟨RX6, "load", "()I"⟩
abbrev cX6_tablePips : ByteArray := prog_8_method_49_code
def yX6_tablePips : MethodName := ⟨RX6, "tablePips", "([I)I"⟩
abbrev cX6_about : ByteArray := prog_8_method_50_code
def yX6_about : MethodName := ⟨RX6, "about", "(I)I"⟩
abbrev cX6_placeOf : ByteArray := prog_8_method_51_code
def yX6_placeOf : MethodName := ⟨RX6, "placeOf", "([II)I"⟩
abbrev cX6_inHeap : ByteArray := prog_8_method_52_code
def yX6_inHeap : MethodName := ⟨RX6, "inHeap", "([II)I"⟩
abbrev cX6_tileOf : ByteArray := prog_8_method_53_code
def yX6_tileOf : MethodName := ⟨RX6, "tileOf", "(II)I"⟩
abbrev cX6_laid : ByteArray := prog_8_method_54_code
def yX6_laid : MethodName := ⟨RX6, "laid", "(II)I"⟩
abbrev cX6_playerOf : ByteArray := prog_8_method_55_code
def yX6_playerOf : MethodName := ⟨RX6, "playerOf", "(II)I"⟩
abbrev cX6_at : ByteArray := prog_8_method_56_code
def yX6_at : MethodName := ⟨RX6, "at", "(II)I"⟩
abbrev cX6_free : ByteArray := prog_8_method_57_code
def yX6_free : MethodName := ⟨RX6, "free", "(I)I"⟩
abbrev cX6_remember : ByteArray := prog_8_method_58_code
def yX6_remember : MethodName := ⟨RX6, "remember", "()V"⟩
abbrev cX6_deal : ByteArray := prog_8_method_59_code
def yX6_deal : MethodName := ⟨RX6, "deal", "(IJ)I"⟩
abbrev cX6_play : ByteArray := prog_8_method_60_code
def yX6_play : MethodName := ⟨RX6, "play", "(IZ)I"⟩
abbrev cX6_draw : ByteArray := prog_8_method_61_code
def yX6_draw : MethodName := ⟨RX6, "draw", "()I"⟩
abbrev cX6_pass : ByteArray := prog_8_method_62_code
def yX6_pass : MethodName := ⟨RX6, "pass", "()I"⟩
abbrev cX6_undo : ByteArray := prog_8_method_63_code
def yX6_undo : MethodName := ⟨RX6, "undo", "()I"⟩
abbrev cX6_why : ByteArray := prog_8_method_64_code
def yX6_why : MethodName := ⟨RX6, "why", "(I)I"⟩
abbrev cX6_legal : ByteArray := prog_8_method_65_code
def yX6_legal : MethodName := ⟨RX6, "legal", "()I"⟩
abbrev cX6_best : ByteArray := prog_8_method_66_code
def yX6_best : MethodName := ⟨RX6, "best", "()I"⟩
abbrev cX6_isTried : ByteArray := prog_8_method_67_code
def yX6_isTried : MethodName := ⟨RX6, "isTried", "(II)Z"⟩
abbrev cX6_nextTried : ByteArray := prog_8_method_68_code
def yX6_nextTried : MethodName := ⟨RX6, "nextTried", "([IIII)I"⟩
abbrev cX6_longest : ByteArray := prog_8_method_69_code
def yX6_longest : MethodName := ⟨RX6, "longest", "([III)I"⟩
abbrev cX6_chain : ByteArray := prog_8_method_70_code
def yX6_chain : MethodName := ⟨RX6, "chain", "(II)I"⟩
abbrev cX6_reached : ByteArray := prog_8_method_71_code
def yX6_reached : MethodName := ⟨RX6, "reached", "([II)I"⟩
abbrev cX6_reach : ByteArray := prog_8_method_72_code
def yX6_reach : MethodName := ⟨RX6, "reach", "(I)I"⟩
abbrev cX6_playsBest : ByteArray := prog_8_method_73_code
def yX6_playsBest : MethodName := ⟨RX6, "playsBest", "(I)Z"⟩
abbrev cX6_command : ByteArray := prog_8_method_74_code
def yX6_command : MethodName := ⟨RX6, "command", "(II)Z"⟩
abbrev cX6_runScript : ByteArray := prog_8_method_75_code
def yX6_runScript : MethodName := ⟨RX6, "runScript", "(IJ)I"⟩
abbrev cX6_turnOf : ByteArray := prog_8_method_76_code
def yX6_turnOf : MethodName := ⟨RX6, "turnOf", "([II)V"⟩
abbrev cX6_simulate : ByteArray := prog_8_method_77_code
def yX6_simulate : MethodName := ⟨RX6, "simulate", "(JI)I"⟩
abbrev cX6_save : ByteArray := prog_8_method_78_code
def yX6_save : MethodName := ⟨RX6, "save", "(I)I"⟩
abbrev cX6_restore : ByteArray := prog_8_method_79_code
def yX6_restore : MethodName := ⟨RX6, "restore", "(I)I"⟩
def RJx145de : String := "java/io/Serializable"
def TJx145de : u_T := fun k => match k with
  | _ => ("", "", "", false)
def tyJx145de : Nat → FieldType := fun k => match k with
  | _ => .int
abbrev wsJx145de0 : List Cond := u_ws RJx145de TJx145de 0
theorem nmJx145de : ∀ a, a < 0 → ∀ b, b < 0 → a ≠ b → (TJx145de a).2.1 ≠ (TJx145de b).2.1 := by decide +kernel
theorem tyJx145de_ok : ∀ k, k < 0 → parseFieldDescriptor (TJx145de k).2.2.1 = some (tyJx145de k) := by decide +kernel
def RJ6 : String := "java/lang/Integer"
def TJ6 : u_T := fun k => match k with
  | _ => ("", "", "", false)
def tyJ6 : Nat → FieldType := fun k => match k with
  | _ => .int
abbrev wsJ60 : List Cond := u_ws RJ6 TJ6 0
theorem nmJ6 : ∀ a, a < 0 → ∀ b, b < 0 → a ≠ b → (TJ6 a).2.1 ≠ (TJ6 b).2.1 := by decide +kernel
theorem tyJ6_ok : ∀ k, k < 0 → parseFieldDescriptor (TJ6 k).2.2.1 = some (tyJ6 k) := by decide +kernel
abbrev cJ6_bitCount_0f7a4 : ByteArray := prog_13_method_49_code
def yJ6_bitCount_0f7a4 : MethodName := ⟨RJ6, "bitCount", "(I)I"⟩
def RJ9 : String := "java/lang/Math"
def TJ9 : u_T := fun k => match k with
  | _ => ("", "", "", false)
def tyJ9 : Nat → FieldType := fun k => match k with
  | _ => .int
abbrev wsJ90 : List Cond := u_ws RJ9 TJ9 0
theorem nmJ9 : ∀ a, a < 0 → ∀ b, b < 0 → a ≠ b → (TJ9 a).2.1 ≠ (TJ9 b).2.1 := by decide +kernel
theorem tyJ9_ok : ∀ k, k < 0 → parseFieldDescriptor (TJ9 k).2.2.1 = some (tyJ9 k) := by decide +kernel
abbrev cJ9_floorMod_7cf53 : ByteArray := prog_14_method_50_code
def yJ9_floorMod_7cf53 : MethodName := ⟨RJ9, "floorMod", "(II)I"⟩
abbrev cJ9_max_7cf53 : ByteArray := prog_14_method_65_code
def yJ9_max_7cf53 : MethodName := ⟨RJ9, "max", "(II)I"⟩
abbrev cJ9_min_7cf53 : ByteArray := prog_14_method_69_code
def yJ9_min_7cf53 : MethodName := ⟨RJ9, "min", "(II)I"⟩
def RJ0 : String := "java/lang/String"
def TJ0 : u_T := fun k => match k with
  | _ => ("", "", "", false)
def tyJ0 : Nat → FieldType := fun k => match k with
  | _ => .int
abbrev wsJ00 : List Cond := u_ws RJ0 TJ0 0
theorem nmJ0 : ∀ a, a < 0 → ∀ b, b < 0 → a ≠ b → (TJ0 a).2.1 ≠ (TJ0 b).2.1 := by decide +kernel
theorem tyJ0_ok : ∀ k, k < 0 → parseFieldDescriptor (TJ0 k).2.2.1 = some (tyJ0 k) := by decide +kernel
def RJ10 : String := "java/lang/System"
def TJ10 : u_T := fun k => match k with
  | _ => ("", "", "", false)
def tyJ10 : Nat → FieldType := fun k => match k with
  | _ => .int
abbrev wsJ100 : List Cond := u_ws RJ10 TJ10 0
theorem nmJ10 : ∀ a, a < 0 → ∀ b, b < 0 → a ≠ b → (TJ10 a).2.1 ≠ (TJ10 b).2.1 := by decide +kernel
theorem tyJ10_ok : ∀ k, k < 0 → parseFieldDescriptor (TJ10 k).2.2.1 = some (tyJ10 k) := by decide +kernel
def RJ7 : String := "java/util/Arrays"
def TJ7 : u_T := fun k => match k with
  | _ => ("", "", "", false)
def tyJ7 : Nat → FieldType := fun k => match k with
  | _ => .int
abbrev wsJ70 : List Cond := u_ws RJ7 TJ7 0
theorem nmJ7 : ∀ a, a < 0 → ∀ b, b < 0 → a ≠ b → (TJ7 a).2.1 ≠ (TJ7 b).2.1 := by decide +kernel
theorem tyJ7_ok : ∀ k, k < 0 → parseFieldDescriptor (TJ7 k).2.2.1 = some (tyJ7 k) := by decide +kernel
abbrev cJ7_fill_53178 : ByteArray := prog_19_method_103_code
def yJ7_fill_53178 : MethodName := ⟨RJ7, "fill", "([II)V"⟩
def RL : String := "SpiralDominoesLaw"
abbrev cL_append : ByteArray := method_3_code
def yL_append : MethodName := ⟨RL, "append", "(LSpiralDominoes;I[J)I"⟩
abbrev cL_load : ByteArray := method_4_code
def yL_load : MethodName := ⟨RL, "load", "(LSpiralDominoes;[J)I"⟩
abbrev cL_about : ByteArray := method_5_code
def yL_about : MethodName := ⟨RL, "about", "(LSpiralDominoes;I[J)I"⟩
abbrev cL_tileOf : ByteArray := method_6_code
def yL_tileOf : MethodName := ⟨RL, "tileOf", "(LSpiralDominoes;II[J)I"⟩
abbrev cL_laid : ByteArray := method_7_code
def yL_laid : MethodName := ⟨RL, "laid", "(LSpiralDominoes;II[J)I"⟩
abbrev cL_playerOf : ByteArray := method_8_code
def yL_playerOf : MethodName := ⟨RL, "playerOf", "(LSpiralDominoes;II[J)I"⟩
abbrev cL_at : ByteArray := method_9_code
def yL_at : MethodName := ⟨RL, "at", "(LSpiralDominoes;II[J)I"⟩
abbrev cL_free : ByteArray := method_10_code
def yL_free : MethodName := ⟨RL, "free", "(LSpiralDominoes;I[J)I"⟩
abbrev cL_deal : ByteArray := method_11_code
def yL_deal : MethodName := ⟨RL, "deal", "(LSpiralDominoes;IJ[J)I"⟩
abbrev cL_play : ByteArray := method_12_code
def yL_play : MethodName := ⟨RL, "play", "(LSpiralDominoes;IZ[J)I"⟩
abbrev cL_draw : ByteArray := method_13_code
def yL_draw : MethodName := ⟨RL, "draw", "(LSpiralDominoes;[J)I"⟩
abbrev cL_pass : ByteArray := method_14_code
def yL_pass : MethodName := ⟨RL, "pass", "(LSpiralDominoes;[J)I"⟩
abbrev cL_undo : ByteArray := method_15_code
def yL_undo : MethodName := ⟨RL, "undo", "(LSpiralDominoes;[J)I"⟩
abbrev cL_why : ByteArray := method_16_code
def yL_why : MethodName := ⟨RL, "why", "(LSpiralDominoes;I[J)I"⟩
abbrev cL_chain : ByteArray := method_17_code
def yL_chain : MethodName := ⟨RL, "chain", "(LSpiralDominoes;II[J)I"⟩
abbrev cL_reach : ByteArray := method_18_code
def yL_reach : MethodName := ⟨RL, "reach", "(LSpiralDominoes;I[J)I"⟩
abbrev cL_runScript : ByteArray := method_19_code
def yL_runScript : MethodName := ⟨RL, "runScript", "(LSpiralDominoes;IJ[J)I"⟩
abbrev cL_simulate : ByteArray := method_20_code
def yL_simulate : MethodName := ⟨RL, "simulate", "(LSpiralDominoes;JI[J)I"⟩
abbrev cL_save : ByteArray := method_21_code
def yL_save : MethodName := ⟨RL, "save", "(LSpiralDominoes;I[J)I"⟩
abbrev cL_restore : ByteArray := method_22_code
def yL_restore : MethodName := ⟨RL, "restore", "(LSpiralDominoes;I[J)I"⟩
abbrev cL_law : ByteArray := code
def yL_law : MethodName := ⟨RL, "law", "([I)Z"⟩
abbrev vwCl : List vw_C := [(RX0, TX0, 13), (RX1, TX1, 3), (RX2, TX2, 11), (RX3, TX3, 2), (RX4, TX4, 2), (RX5, TX5, 6), (RX6, TX6, 14)]
end
section
theorem dX0_init_0 : decode cX0_init 0 = .ok (.aload_n 0, 1) := by decide +kernel
theorem dX0_init_1 : decode cX0_init 1 = .ok (.invokespecial 3, 3) := by decide +kernel
theorem dX0_init_4 : decode cX0_init 4 = .ok (.aload_n 0, 1) := by decide +kernel
theorem dX0_init_5 : decode cX0_init 5 = .ok (.bipush 28, 2) := by decide +kernel
theorem dX0_init_7 : decode cX0_init 7 = .ok (.newarray .int, 2) := by decide +kernel
theorem dX0_init_9 : decode cX0_init 9 = .ok (.putfield 9, 3) := by decide +kernel
theorem dX0_init_12 : decode cX0_init 12 = .ok (.aload_n 0, 1) := by decide +kernel
theorem dX0_init_13 : decode cX0_init 13 = .ok (.bipush 28, 2) := by decide +kernel
theorem dX0_init_15 : decode cX0_init 15 = .ok (.newarray .int, 2) := by decide +kernel
theorem dX0_init_17 : decode cX0_init 17 = .ok (.putfield 15, 3) := by decide +kernel
theorem dX0_init_20 : decode cX0_init 20 = .ok (.aload_n 0, 1) := by decide +kernel
theorem dX0_init_21 : decode cX0_init 21 = .ok (.iconst 4, 1) := by decide +kernel
theorem dX0_init_22 : decode cX0_init 22 = .ok (.newarray .int, 2) := by decide +kernel
theorem dX0_init_24 : decode cX0_init 24 = .ok (.putfield 18, 3) := by decide +kernel
theorem dX0_init_27 : decode cX0_init 27 = .ok (.aload_n 0, 1) := by decide +kernel
theorem dX0_init_28 : decode cX0_init 28 = .ok (.iconst 4, 1) := by decide +kernel
theorem dX0_init_29 : decode cX0_init 29 = .ok (.newarray .int, 2) := by decide +kernel
theorem dX0_init_31 : decode cX0_init 31 = .ok (.putfield 21, 3) := by decide +kernel
theorem dX0_init_34 : decode cX0_init 34 = .ok (.aload_n 0, 1) := by decide +kernel
theorem dX0_init_35 : decode cX0_init 35 = .ok (.new 24, 3) := by decide +kernel
theorem dX0_init_38 : decode cX0_init 38 = .ok (.dup, 1) := by decide +kernel
theorem dX0_init_39 : decode cX0_init 39 = .ok (.invokespecial 26, 3) := by decide +kernel
theorem dX0_init_42 : decode cX0_init 42 = .ok (.putfield 27, 3) := by decide +kernel
theorem dX0_init_45 : decode cX0_init 45 = .ok (.aload_n 0, 1) := by decide +kernel
theorem dX0_init_46 : decode cX0_init 46 = .ok (.invokevirtual 31, 3) := by decide +kernel
theorem dX0_init_49 : decode cX0_init 49 = .ok (.return_, 1) := by decide +kernel
theorem dX0_becomeNew_0 : decode cX0_becomeNew 0 = .ok (.aload_n 0, 1) := by decide +kernel
theorem dX0_becomeNew_1 : decode cX0_becomeNew 1 = .ok (.iconst 0, 1) := by decide +kernel
theorem dX0_becomeNew_2 : decode cX0_becomeNew 2 = .ok (.putfield 34, 3) := by decide +kernel
theorem dX0_becomeNew_5 : decode cX0_becomeNew 5 = .ok (.aload_n 0, 1) := by decide +kernel
theorem dX0_becomeNew_6 : decode cX0_becomeNew 6 = .ok (.iconst 0, 1) := by decide +kernel
theorem dX0_becomeNew_7 : decode cX0_becomeNew 7 = .ok (.putfield 38, 3) := by decide +kernel
theorem dX0_becomeNew_10 : decode cX0_becomeNew 10 = .ok (.aload_n 0, 1) := by decide +kernel
theorem dX0_becomeNew_11 : decode cX0_becomeNew 11 = .ok (.iconst 0, 1) := by decide +kernel
theorem dX0_becomeNew_12 : decode cX0_becomeNew 12 = .ok (.putfield 41, 3) := by decide +kernel
theorem dX0_becomeNew_15 : decode cX0_becomeNew 15 = .ok (.aload_n 0, 1) := by decide +kernel
theorem dX0_becomeNew_16 : decode cX0_becomeNew 16 = .ok (.iconst 0, 1) := by decide +kernel
theorem dX0_becomeNew_17 : decode cX0_becomeNew 17 = .ok (.putfield 44, 3) := by decide +kernel
theorem dX0_becomeNew_20 : decode cX0_becomeNew 20 = .ok (.aload_n 0, 1) := by decide +kernel
theorem dX0_becomeNew_21 : decode cX0_becomeNew 21 = .ok (.iconst 0, 1) := by decide +kernel
theorem dX0_becomeNew_22 : decode cX0_becomeNew 22 = .ok (.putfield 47, 3) := by decide +kernel
theorem dX0_becomeNew_25 : decode cX0_becomeNew 25 = .ok (.aload_n 0, 1) := by decide +kernel
theorem dX0_becomeNew_26 : decode cX0_becomeNew 26 = .ok (.iconst 0, 1) := by decide +kernel
theorem dX0_becomeNew_27 : decode cX0_becomeNew 27 = .ok (.putfield 50, 3) := by decide +kernel
theorem dX0_becomeNew_30 : decode cX0_becomeNew 30 = .ok (.aload_n 0, 1) := by decide +kernel
theorem dX0_becomeNew_31 : decode cX0_becomeNew 31 = .ok (.iconst 0, 1) := by decide +kernel
theorem dX0_becomeNew_32 : decode cX0_becomeNew 32 = .ok (.putfield 53, 3) := by decide +kernel
theorem dX0_becomeNew_35 : decode cX0_becomeNew 35 = .ok (.aload_n 0, 1) := by decide +kernel
theorem dX0_becomeNew_36 : decode cX0_becomeNew 36 = .ok (.bipush 28, 2) := by decide +kernel
theorem dX0_becomeNew_38 : decode cX0_becomeNew 38 = .ok (.putfield 56, 3) := by decide +kernel
theorem dX0_becomeNew_41 : decode cX0_becomeNew 41 = .ok (.aload_n 0, 1) := by decide +kernel
theorem dX0_becomeNew_42 : decode cX0_becomeNew 42 = .ok (.getfield 15, 3) := by decide +kernel
theorem dX0_becomeNew_45 : decode cX0_becomeNew 45 = .ok (.iconst (-1), 1) := by decide +kernel
theorem dX0_becomeNew_46 : decode cX0_becomeNew 46 = .ok (.invokestatic 59, 3) := by decide +kernel
theorem dX0_becomeNew_49 : decode cX0_becomeNew 49 = .ok (.aload_n 0, 1) := by decide +kernel
theorem dX0_becomeNew_50 : decode cX0_becomeNew 50 = .ok (.getfield 18, 3) := by decide +kernel
theorem dX0_becomeNew_53 : decode cX0_becomeNew 53 = .ok (.iconst 0, 1) := by decide +kernel
theorem dX0_becomeNew_54 : decode cX0_becomeNew 54 = .ok (.invokestatic 59, 3) := by decide +kernel
theorem dX0_becomeNew_57 : decode cX0_becomeNew 57 = .ok (.aload_n 0, 1) := by decide +kernel
theorem dX0_becomeNew_58 : decode cX0_becomeNew 58 = .ok (.getfield 21, 3) := by decide +kernel
theorem dX0_becomeNew_61 : decode cX0_becomeNew 61 = .ok (.iconst 0, 1) := by decide +kernel
theorem dX0_becomeNew_62 : decode cX0_becomeNew 62 = .ok (.invokestatic 59, 3) := by decide +kernel
theorem dX0_becomeNew_65 : decode cX0_becomeNew 65 = .ok (.aload_n 0, 1) := by decide +kernel
theorem dX0_becomeNew_66 : decode cX0_becomeNew 66 = .ok (.getfield 27, 3) := by decide +kernel
theorem dX0_becomeNew_69 : decode cX0_becomeNew 69 = .ok (.invokevirtual 65, 3) := by decide +kernel
theorem dX0_becomeNew_72 : decode cX0_becomeNew 72 = .ok (.return_, 1) := by decide +kernel
theorem dX0_becomeLike_0 : decode cX0_becomeLike 0 = .ok (.aload_n 0, 1) := by decide +kernel
theorem dX0_becomeLike_1 : decode cX0_becomeLike 1 = .ok (.aload_n 1, 1) := by decide +kernel
theorem dX0_becomeLike_2 : decode cX0_becomeLike 2 = .ok (.getfield 34, 3) := by decide +kernel
theorem dX0_becomeLike_5 : decode cX0_becomeLike 5 = .ok (.putfield 34, 3) := by decide +kernel
theorem dX0_becomeLike_8 : decode cX0_becomeLike 8 = .ok (.aload_n 0, 1) := by decide +kernel
theorem dX0_becomeLike_9 : decode cX0_becomeLike 9 = .ok (.aload_n 1, 1) := by decide +kernel
theorem dX0_becomeLike_10 : decode cX0_becomeLike 10 = .ok (.getfield 38, 3) := by decide +kernel
theorem dX0_becomeLike_13 : decode cX0_becomeLike 13 = .ok (.putfield 38, 3) := by decide +kernel
theorem dX0_becomeLike_16 : decode cX0_becomeLike 16 = .ok (.aload_n 0, 1) := by decide +kernel
theorem dX0_becomeLike_17 : decode cX0_becomeLike 17 = .ok (.aload_n 1, 1) := by decide +kernel
theorem dX0_becomeLike_18 : decode cX0_becomeLike 18 = .ok (.getfield 41, 3) := by decide +kernel
theorem dX0_becomeLike_21 : decode cX0_becomeLike 21 = .ok (.putfield 41, 3) := by decide +kernel
theorem dX0_becomeLike_24 : decode cX0_becomeLike 24 = .ok (.aload_n 0, 1) := by decide +kernel
theorem dX0_becomeLike_25 : decode cX0_becomeLike 25 = .ok (.aload_n 1, 1) := by decide +kernel
theorem dX0_becomeLike_26 : decode cX0_becomeLike 26 = .ok (.getfield 44, 3) := by decide +kernel
theorem dX0_becomeLike_29 : decode cX0_becomeLike 29 = .ok (.putfield 44, 3) := by decide +kernel
theorem dX0_becomeLike_32 : decode cX0_becomeLike 32 = .ok (.aload_n 0, 1) := by decide +kernel
theorem dX0_becomeLike_33 : decode cX0_becomeLike 33 = .ok (.aload_n 1, 1) := by decide +kernel
theorem dX0_becomeLike_34 : decode cX0_becomeLike 34 = .ok (.getfield 47, 3) := by decide +kernel
theorem dX0_becomeLike_37 : decode cX0_becomeLike 37 = .ok (.putfield 47, 3) := by decide +kernel
theorem dX0_becomeLike_40 : decode cX0_becomeLike 40 = .ok (.aload_n 0, 1) := by decide +kernel
theorem dX0_becomeLike_41 : decode cX0_becomeLike 41 = .ok (.aload_n 1, 1) := by decide +kernel
theorem dX0_becomeLike_42 : decode cX0_becomeLike 42 = .ok (.getfield 50, 3) := by decide +kernel
theorem dX0_becomeLike_45 : decode cX0_becomeLike 45 = .ok (.putfield 50, 3) := by decide +kernel
theorem dX0_becomeLike_48 : decode cX0_becomeLike 48 = .ok (.aload_n 0, 1) := by decide +kernel
theorem dX0_becomeLike_49 : decode cX0_becomeLike 49 = .ok (.aload_n 1, 1) := by decide +kernel
theorem dX0_becomeLike_50 : decode cX0_becomeLike 50 = .ok (.getfield 53, 3) := by decide +kernel
theorem dX0_becomeLike_53 : decode cX0_becomeLike 53 = .ok (.putfield 53, 3) := by decide +kernel
theorem dX0_becomeLike_56 : decode cX0_becomeLike 56 = .ok (.aload_n 0, 1) := by decide +kernel
theorem dX0_becomeLike_57 : decode cX0_becomeLike 57 = .ok (.aload_n 1, 1) := by decide +kernel
theorem dX0_becomeLike_58 : decode cX0_becomeLike 58 = .ok (.getfield 56, 3) := by decide +kernel
theorem dX0_becomeLike_61 : decode cX0_becomeLike 61 = .ok (.putfield 56, 3) := by decide +kernel
theorem dX0_becomeLike_64 : decode cX0_becomeLike 64 = .ok (.aload_n 1, 1) := by decide +kernel
theorem dX0_becomeLike_65 : decode cX0_becomeLike 65 = .ok (.getfield 9, 3) := by decide +kernel
theorem dX0_becomeLike_68 : decode cX0_becomeLike 68 = .ok (.iconst 0, 1) := by decide +kernel
theorem dX0_becomeLike_69 : decode cX0_becomeLike 69 = .ok (.aload_n 0, 1) := by decide +kernel
theorem dX0_becomeLike_70 : decode cX0_becomeLike 70 = .ok (.getfield 9, 3) := by decide +kernel
theorem dX0_becomeLike_73 : decode cX0_becomeLike 73 = .ok (.iconst 0, 1) := by decide +kernel
theorem dX0_becomeLike_74 : decode cX0_becomeLike 74 = .ok (.bipush 28, 2) := by decide +kernel
theorem dX0_becomeLike_76 : decode cX0_becomeLike 76 = .ok (.invokestatic 68, 3) := by decide +kernel
theorem dX0_becomeLike_79 : decode cX0_becomeLike 79 = .ok (.aload_n 1, 1) := by decide +kernel
theorem dX0_becomeLike_80 : decode cX0_becomeLike 80 = .ok (.getfield 15, 3) := by decide +kernel
theorem dX0_becomeLike_83 : decode cX0_becomeLike 83 = .ok (.iconst 0, 1) := by decide +kernel
theorem dX0_becomeLike_84 : decode cX0_becomeLike 84 = .ok (.aload_n 0, 1) := by decide +kernel
theorem dX0_becomeLike_85 : decode cX0_becomeLike 85 = .ok (.getfield 15, 3) := by decide +kernel
theorem dX0_becomeLike_88 : decode cX0_becomeLike 88 = .ok (.iconst 0, 1) := by decide +kernel
theorem dX0_becomeLike_89 : decode cX0_becomeLike 89 = .ok (.bipush 28, 2) := by decide +kernel
theorem dX0_becomeLike_91 : decode cX0_becomeLike 91 = .ok (.invokestatic 68, 3) := by decide +kernel
theorem dX0_becomeLike_94 : decode cX0_becomeLike 94 = .ok (.aload_n 1, 1) := by decide +kernel
theorem dX0_becomeLike_95 : decode cX0_becomeLike 95 = .ok (.getfield 18, 3) := by decide +kernel
theorem dX0_becomeLike_98 : decode cX0_becomeLike 98 = .ok (.iconst 0, 1) := by decide +kernel
theorem dX0_becomeLike_99 : decode cX0_becomeLike 99 = .ok (.aload_n 0, 1) := by decide +kernel
theorem dX0_becomeLike_100 : decode cX0_becomeLike 100 = .ok (.getfield 18, 3) := by decide +kernel
theorem dX0_becomeLike_103 : decode cX0_becomeLike 103 = .ok (.iconst 0, 1) := by decide +kernel
theorem dX0_becomeLike_104 : decode cX0_becomeLike 104 = .ok (.iconst 4, 1) := by decide +kernel
theorem dX0_becomeLike_105 : decode cX0_becomeLike 105 = .ok (.invokestatic 68, 3) := by decide +kernel
theorem dX0_becomeLike_108 : decode cX0_becomeLike 108 = .ok (.aload_n 1, 1) := by decide +kernel
theorem dX0_becomeLike_109 : decode cX0_becomeLike 109 = .ok (.getfield 21, 3) := by decide +kernel
theorem dX0_becomeLike_112 : decode cX0_becomeLike 112 = .ok (.iconst 0, 1) := by decide +kernel
theorem dX0_becomeLike_113 : decode cX0_becomeLike 113 = .ok (.aload_n 0, 1) := by decide +kernel
theorem dX0_becomeLike_114 : decode cX0_becomeLike 114 = .ok (.getfield 21, 3) := by decide +kernel
theorem dX0_becomeLike_117 : decode cX0_becomeLike 117 = .ok (.iconst 0, 1) := by decide +kernel
theorem dX0_becomeLike_118 : decode cX0_becomeLike 118 = .ok (.iconst 4, 1) := by decide +kernel
theorem dX0_becomeLike_119 : decode cX0_becomeLike 119 = .ok (.invokestatic 68, 3) := by decide +kernel
theorem dX0_becomeLike_122 : decode cX0_becomeLike 122 = .ok (.aload_n 0, 1) := by decide +kernel
theorem dX0_becomeLike_123 : decode cX0_becomeLike 123 = .ok (.getfield 27, 3) := by decide +kernel
theorem dX0_becomeLike_126 : decode cX0_becomeLike 126 = .ok (.aload_n 1, 1) := by decide +kernel
theorem dX0_becomeLike_127 : decode cX0_becomeLike 127 = .ok (.getfield 27, 3) := by decide +kernel
theorem dX0_becomeLike_130 : decode cX0_becomeLike 130 = .ok (.invokevirtual 74, 3) := by decide +kernel
theorem dX0_becomeLike_133 : decode cX0_becomeLike 133 = .ok (.return_, 1) := by decide +kernel
theorem dX0_line_0 : decode cX0_line 0 = .ok (.aload_n 0, 1) := by decide +kernel
theorem dX0_line_1 : decode cX0_line 1 = .ok (.getfield 27, 3) := by decide +kernel
theorem dX0_line_4 : decode cX0_line 4 = .ok (.areturn, 1) := by decide +kernel
theorem dX0_roundsSoFar_0 : decode cX0_roundsSoFar 0 = .ok (.aload_n 0, 1) := by decide +kernel
theorem dX0_roundsSoFar_1 : decode cX0_roundsSoFar 1 = .ok (.getfield 34, 3) := by decide +kernel
theorem dX0_roundsSoFar_4 : decode cX0_roundsSoFar 4 = .ok (.ireturn, 1) := by decide +kernel
theorem dX0_isPlayed_0 : decode cX0_isPlayed 0 = .ok (.aload_n 0, 1) := by decide +kernel
theorem dX0_isPlayed_1 : decode cX0_isPlayed 1 = .ok (.getfield 44, 3) := by decide +kernel
theorem dX0_isPlayed_4 : decode cX0_isPlayed 4 = .ok (.iconst 1, 1) := by decide +kernel
theorem dX0_isPlayed_5 : decode cX0_isPlayed 5 = .ok (.if_icmp .ne 7, 3) := by decide +kernel
theorem dX0_isPlayed_8 : decode cX0_isPlayed 8 = .ok (.iconst 1, 1) := by decide +kernel
theorem dX0_isPlayed_9 : decode cX0_isPlayed 9 = .ok (.goto 4, 3) := by decide +kernel
theorem dX0_isPlayed_12 : decode cX0_isPlayed 12 = .ok (.iconst 0, 1) := by decide +kernel
theorem dX0_isPlayed_13 : decode cX0_isPlayed 13 = .ok (.ireturn, 1) := by decide +kernel
theorem dX0_playerToMove_0 : decode cX0_playerToMove 0 = .ok (.aload_n 0, 1) := by decide +kernel
theorem dX0_playerToMove_1 : decode cX0_playerToMove 1 = .ok (.invokevirtual 78, 3) := by decide +kernel
theorem dX0_playerToMove_4 : decode cX0_playerToMove 4 = .ok (.ifCond .eq 10, 3) := by decide +kernel
theorem dX0_playerToMove_7 : decode cX0_playerToMove 7 = .ok (.aload_n 0, 1) := by decide +kernel
theorem dX0_playerToMove_8 : decode cX0_playerToMove 8 = .ok (.getfield 50, 3) := by decide +kernel
theorem dX0_playerToMove_11 : decode cX0_playerToMove 11 = .ok (.goto 4, 3) := by decide +kernel
theorem dX0_playerToMove_14 : decode cX0_playerToMove 14 = .ok (.iconst (-1), 1) := by decide +kernel
theorem dX0_playerToMove_15 : decode cX0_playerToMove 15 = .ok (.ireturn, 1) := by decide +kernel
theorem dX0_heapSize_0 : decode cX0_heapSize 0 = .ok (.bipush 28, 2) := by decide +kernel
theorem dX0_heapSize_2 : decode cX0_heapSize 2 = .ok (.aload_n 0, 1) := by decide +kernel
theorem dX0_heapSize_3 : decode cX0_heapSize 3 = .ok (.getfield 56, 3) := by decide +kernel
theorem dX0_heapSize_6 : decode cX0_heapSize 6 = .ok (.isub, 1) := by decide +kernel
theorem dX0_heapSize_7 : decode cX0_heapSize 7 = .ok (.ireturn, 1) := by decide +kernel
theorem dX0_numberOfGame_0 : decode cX0_numberOfGame 0 = .ok (.iload_n 1, 1) := by decide +kernel
theorem dX0_numberOfGame_1 : decode cX0_numberOfGame 1 = .ok (.tableswitch 126 0 10 #[59, 64, 69, 74, 79, 84, 92, 100, 108, 113, 121], 59) := by decide +kernel
theorem dX0_numberOfGame_60 : decode cX0_numberOfGame 60 = .ok (.aload_n 0, 1) := by decide +kernel
theorem dX0_numberOfGame_61 : decode cX0_numberOfGame 61 = .ok (.getfield 34, 3) := by decide +kernel
theorem dX0_numberOfGame_64 : decode cX0_numberOfGame 64 = .ok (.ireturn, 1) := by decide +kernel
theorem dX0_numberOfGame_65 : decode cX0_numberOfGame 65 = .ok (.aload_n 0, 1) := by decide +kernel
theorem dX0_numberOfGame_66 : decode cX0_numberOfGame 66 = .ok (.getfield 44, 3) := by decide +kernel
theorem dX0_numberOfGame_69 : decode cX0_numberOfGame 69 = .ok (.ireturn, 1) := by decide +kernel
theorem dX0_numberOfGame_70 : decode cX0_numberOfGame 70 = .ok (.aload_n 0, 1) := by decide +kernel
theorem dX0_numberOfGame_71 : decode cX0_numberOfGame 71 = .ok (.getfield 47, 3) := by decide +kernel
theorem dX0_numberOfGame_74 : decode cX0_numberOfGame 74 = .ok (.ireturn, 1) := by decide +kernel
theorem dX0_numberOfGame_75 : decode cX0_numberOfGame 75 = .ok (.aload_n 0, 1) := by decide +kernel
theorem dX0_numberOfGame_76 : decode cX0_numberOfGame 76 = .ok (.invokevirtual 82, 3) := by decide +kernel
theorem dX0_numberOfGame_79 : decode cX0_numberOfGame 79 = .ok (.ireturn, 1) := by decide +kernel
theorem dX0_numberOfGame_80 : decode cX0_numberOfGame 80 = .ok (.aload_n 0, 1) := by decide +kernel
theorem dX0_numberOfGame_81 : decode cX0_numberOfGame 81 = .ok (.invokevirtual 86, 3) := by decide +kernel
theorem dX0_numberOfGame_84 : decode cX0_numberOfGame 84 = .ok (.ireturn, 1) := by decide +kernel
theorem dX0_numberOfGame_85 : decode cX0_numberOfGame 85 = .ok (.aload_n 0, 1) := by decide +kernel
theorem dX0_numberOfGame_86 : decode cX0_numberOfGame 86 = .ok (.getfield 27, 3) := by decide +kernel
theorem dX0_numberOfGame_89 : decode cX0_numberOfGame 89 = .ok (.invokevirtual 89, 3) := by decide +kernel
theorem dX0_numberOfGame_92 : decode cX0_numberOfGame 92 = .ok (.ireturn, 1) := by decide +kernel
theorem dX0_numberOfGame_93 : decode cX0_numberOfGame 93 = .ok (.aload_n 0, 1) := by decide +kernel
theorem dX0_numberOfGame_94 : decode cX0_numberOfGame 94 = .ok (.getfield 27, 3) := by decide +kernel
theorem dX0_numberOfGame_97 : decode cX0_numberOfGame 97 = .ok (.invokevirtual 92, 3) := by decide +kernel
theorem dX0_numberOfGame_100 : decode cX0_numberOfGame 100 = .ok (.ireturn, 1) := by decide +kernel
theorem dX0_numberOfGame_101 : decode cX0_numberOfGame 101 = .ok (.aload_n 0, 1) := by decide +kernel
theorem dX0_numberOfGame_102 : decode cX0_numberOfGame 102 = .ok (.getfield 27, 3) := by decide +kernel
theorem dX0_numberOfGame_105 : decode cX0_numberOfGame 105 = .ok (.invokevirtual 95, 3) := by decide +kernel
theorem dX0_numberOfGame_108 : decode cX0_numberOfGame 108 = .ok (.ireturn, 1) := by decide +kernel
theorem dX0_numberOfGame_109 : decode cX0_numberOfGame 109 = .ok (.aload_n 0, 1) := by decide +kernel
theorem dX0_numberOfGame_110 : decode cX0_numberOfGame 110 = .ok (.getfield 53, 3) := by decide +kernel
theorem dX0_numberOfGame_113 : decode cX0_numberOfGame 113 = .ok (.ireturn, 1) := by decide +kernel
theorem dX0_numberOfGame_114 : decode cX0_numberOfGame 114 = .ok (.aload_n 0, 1) := by decide +kernel
theorem dX0_numberOfGame_115 : decode cX0_numberOfGame 115 = .ok (.getfield 27, 3) := by decide +kernel
theorem dX0_numberOfGame_118 : decode cX0_numberOfGame 118 = .ok (.invokevirtual 98, 3) := by decide +kernel
theorem dX0_numberOfGame_121 : decode cX0_numberOfGame 121 = .ok (.ireturn, 1) := by decide +kernel
theorem dX0_numberOfGame_122 : decode cX0_numberOfGame 122 = .ok (.aload_n 0, 1) := by decide +kernel
theorem dX0_numberOfGame_123 : decode cX0_numberOfGame 123 = .ok (.getfield 38, 3) := by decide +kernel
theorem dX0_numberOfGame_126 : decode cX0_numberOfGame 126 = .ok (.ireturn, 1) := by decide +kernel
theorem dX0_numberOfGame_127 : decode cX0_numberOfGame 127 = .ok (.aload_n 0, 1) := by decide +kernel
theorem dX0_numberOfGame_128 : decode cX0_numberOfGame 128 = .ok (.getfield 41, 3) := by decide +kernel
theorem dX0_numberOfGame_131 : decode cX0_numberOfGame 131 = .ok (.ireturn, 1) := by decide +kernel
theorem dX0_numberOfTile_0 : decode cX0_numberOfTile 0 = .ok (.iload_n 2, 1) := by decide +kernel
theorem dX0_numberOfTile_1 : decode cX0_numberOfTile 1 = .ok (.tableswitch 56 0 3 #[31, 36, 41, 47], 31) := by decide +kernel
theorem dX0_numberOfTile_32 : decode cX0_numberOfTile 32 = .ok (.iload_n 1, 1) := by decide +kernel
theorem dX0_numberOfTile_33 : decode cX0_numberOfTile 33 = .ok (.invokestatic 101, 3) := by decide +kernel
theorem dX0_numberOfTile_36 : decode cX0_numberOfTile 36 = .ok (.ireturn, 1) := by decide +kernel
theorem dX0_numberOfTile_37 : decode cX0_numberOfTile 37 = .ok (.iload_n 1, 1) := by decide +kernel
theorem dX0_numberOfTile_38 : decode cX0_numberOfTile 38 = .ok (.invokestatic 105, 3) := by decide +kernel
theorem dX0_numberOfTile_41 : decode cX0_numberOfTile 41 = .ok (.ireturn, 1) := by decide +kernel
theorem dX0_numberOfTile_42 : decode cX0_numberOfTile 42 = .ok (.aload_n 0, 1) := by decide +kernel
theorem dX0_numberOfTile_43 : decode cX0_numberOfTile 43 = .ok (.iload_n 1, 1) := by decide +kernel
theorem dX0_numberOfTile_44 : decode cX0_numberOfTile 44 = .ok (.invokevirtual 108, 3) := by decide +kernel
theorem dX0_numberOfTile_47 : decode cX0_numberOfTile 47 = .ok (.ireturn, 1) := by decide +kernel
theorem dX0_numberOfTile_48 : decode cX0_numberOfTile 48 = .ok (.aload_n 0, 1) := by decide +kernel
theorem dX0_numberOfTile_49 : decode cX0_numberOfTile 49 = .ok (.getfield 27, 3) := by decide +kernel
theorem dX0_numberOfTile_52 : decode cX0_numberOfTile 52 = .ok (.iload_n 1, 1) := by decide +kernel
theorem dX0_numberOfTile_53 : decode cX0_numberOfTile 53 = .ok (.invokevirtual 111, 3) := by decide +kernel
theorem dX0_numberOfTile_56 : decode cX0_numberOfTile 56 = .ok (.ireturn, 1) := by decide +kernel
theorem dX0_numberOfTile_57 : decode cX0_numberOfTile 57 = .ok (.aload_n 0, 1) := by decide +kernel
theorem dX0_numberOfTile_58 : decode cX0_numberOfTile 58 = .ok (.iload_n 1, 1) := by decide +kernel
theorem dX0_numberOfTile_59 : decode cX0_numberOfTile 59 = .ok (.invokevirtual 114, 3) := by decide +kernel
theorem dX0_numberOfTile_62 : decode cX0_numberOfTile 62 = .ok (.ireturn, 1) := by decide +kernel
theorem dX0_numberOfPlayer_0 : decode cX0_numberOfPlayer 0 = .ok (.iload_n 1, 1) := by decide +kernel
theorem dX0_numberOfPlayer_1 : decode cX0_numberOfPlayer 1 = .ok (.invokestatic 117, 3) := by decide +kernel
theorem dX0_numberOfPlayer_4 : decode cX0_numberOfPlayer 4 = .ok (.ifCond .ne 5, 3) := by decide +kernel
theorem dX0_numberOfPlayer_7 : decode cX0_numberOfPlayer 7 = .ok (.iconst (-1), 1) := by decide +kernel
theorem dX0_numberOfPlayer_8 : decode cX0_numberOfPlayer 8 = .ok (.ireturn, 1) := by decide +kernel
theorem dX0_numberOfPlayer_9 : decode cX0_numberOfPlayer 9 = .ok (.iload_n 2, 1) := by decide +kernel
theorem dX0_numberOfPlayer_10 : decode cX0_numberOfPlayer 10 = .ok (.tableswitch 45 0 2 #[26, 32, 38], 26) := by decide +kernel
theorem dX0_numberOfPlayer_36 : decode cX0_numberOfPlayer 36 = .ok (.aload_n 0, 1) := by decide +kernel
theorem dX0_numberOfPlayer_37 : decode cX0_numberOfPlayer 37 = .ok (.iload_n 1, 1) := by decide +kernel
theorem dX0_numberOfPlayer_38 : decode cX0_numberOfPlayer 38 = .ok (.invokevirtual 121, 3) := by decide +kernel
theorem dX0_numberOfPlayer_41 : decode cX0_numberOfPlayer 41 = .ok (.ireturn, 1) := by decide +kernel
theorem dX0_numberOfPlayer_42 : decode cX0_numberOfPlayer 42 = .ok (.aload_n 0, 1) := by decide +kernel
theorem dX0_numberOfPlayer_43 : decode cX0_numberOfPlayer 43 = .ok (.iload_n 1, 1) := by decide +kernel
theorem dX0_numberOfPlayer_44 : decode cX0_numberOfPlayer 44 = .ok (.invokevirtual 124, 3) := by decide +kernel
theorem dX0_numberOfPlayer_47 : decode cX0_numberOfPlayer 47 = .ok (.ireturn, 1) := by decide +kernel
theorem dX0_numberOfPlayer_48 : decode cX0_numberOfPlayer 48 = .ok (.aload_n 0, 1) := by decide +kernel
theorem dX0_numberOfPlayer_49 : decode cX0_numberOfPlayer 49 = .ok (.getfield 18, 3) := by decide +kernel
theorem dX0_numberOfPlayer_52 : decode cX0_numberOfPlayer 52 = .ok (.iload_n 1, 1) := by decide +kernel
theorem dX0_numberOfPlayer_53 : decode cX0_numberOfPlayer 53 = .ok (.iaload, 1) := by decide +kernel
theorem dX0_numberOfPlayer_54 : decode cX0_numberOfPlayer 54 = .ok (.ireturn, 1) := by decide +kernel
theorem dX0_numberOfPlayer_55 : decode cX0_numberOfPlayer 55 = .ok (.aload_n 0, 1) := by decide +kernel
theorem dX0_numberOfPlayer_56 : decode cX0_numberOfPlayer 56 = .ok (.getfield 21, 3) := by decide +kernel
theorem dX0_numberOfPlayer_59 : decode cX0_numberOfPlayer 59 = .ok (.iload_n 1, 1) := by decide +kernel
theorem dX0_numberOfPlayer_60 : decode cX0_numberOfPlayer 60 = .ok (.iaload, 1) := by decide +kernel
theorem dX0_numberOfPlayer_61 : decode cX0_numberOfPlayer 61 = .ok (.ireturn, 1) := by decide +kernel
theorem dX0_tilesOf_0 : decode cX0_tilesOf 0 = .ok (.aload_n 0, 1) := by decide +kernel
theorem dX0_tilesOf_1 : decode cX0_tilesOf 1 = .ok (.iload_n 1, 1) := by decide +kernel
theorem dX0_tilesOf_2 : decode cX0_tilesOf 2 = .ok (.invokevirtual 127, 3) := by decide +kernel
theorem dX0_tilesOf_5 : decode cX0_tilesOf 5 = .ok (.invokestatic 130, 3) := by decide +kernel
theorem dX0_tilesOf_8 : decode cX0_tilesOf 8 = .ok (.ireturn, 1) := by decide +kernel
theorem dX0_startRound_0 : decode cX0_startRound 0 = .ok (.iload_n 1, 1) := by decide +kernel
theorem dX0_startRound_1 : decode cX0_startRound 1 = .ok (.iconst 2, 1) := by decide +kernel
theorem dX0_startRound_2 : decode cX0_startRound 2 = .ok (.if_icmp .lt 8, 3) := by decide +kernel
theorem dX0_startRound_5 : decode cX0_startRound 5 = .ok (.iload_n 1, 1) := by decide +kernel
theorem dX0_startRound_6 : decode cX0_startRound 6 = .ok (.iconst 4, 1) := by decide +kernel
theorem dX0_startRound_7 : decode cX0_startRound 7 = .ok (.if_icmp .le 5, 3) := by decide +kernel
theorem dX0_startRound_10 : decode cX0_startRound 10 = .ok (.iconst 0, 1) := by decide +kernel
theorem dX0_startRound_11 : decode cX0_startRound 11 = .ok (.ireturn, 1) := by decide +kernel
theorem dX0_startRound_12 : decode cX0_startRound 12 = .ok (.aload_n 0, 1) := by decide +kernel
theorem dX0_startRound_13 : decode cX0_startRound 13 = .ok (.lload_n 2, 1) := by decide +kernel
theorem dX0_startRound_14 : decode cX0_startRound 14 = .ok (.invokevirtual 135, 3) := by decide +kernel
theorem dX0_startRound_17 : decode cX0_startRound 17 = .ok (.aload_n 0, 1) := by decide +kernel
theorem dX0_startRound_18 : decode cX0_startRound 18 = .ok (.getfield 15, 3) := by decide +kernel
theorem dX0_startRound_21 : decode cX0_startRound 21 = .ok (.iconst (-1), 1) := by decide +kernel
theorem dX0_startRound_22 : decode cX0_startRound 22 = .ok (.invokestatic 59, 3) := by decide +kernel
theorem dX0_startRound_25 : decode cX0_startRound 25 = .ok (.aload_n 0, 1) := by decide +kernel
theorem dX0_startRound_26 : decode cX0_startRound 26 = .ok (.iload_n 1, 1) := by decide +kernel
theorem dX0_startRound_27 : decode cX0_startRound 27 = .ok (.iconst 5, 1) := by decide +kernel
theorem dX0_startRound_28 : decode cX0_startRound 28 = .ok (.imul, 1) := by decide +kernel
theorem dX0_startRound_29 : decode cX0_startRound 29 = .ok (.putfield 56, 3) := by decide +kernel
theorem dX0_startRound_32 : decode cX0_startRound 32 = .ok (.iconst 0, 1) := by decide +kernel
theorem dX0_startRound_33 : decode cX0_startRound 33 = .ok (.istore 4, 2) := by decide +kernel
theorem dX0_startRound_35 : decode cX0_startRound 35 = .ok (.iload 4, 2) := by decide +kernel
theorem dX0_startRound_37 : decode cX0_startRound 37 = .ok (.aload_n 0, 1) := by decide +kernel
theorem dX0_startRound_38 : decode cX0_startRound 38 = .ok (.getfield 56, 3) := by decide +kernel
theorem dX0_startRound_41 : decode cX0_startRound 41 = .ok (.if_icmp .ge 31, 3) := by decide +kernel
theorem dX0_startRound_44 : decode cX0_startRound 44 = .ok (.iload 4, 2) := by decide +kernel
theorem dX0_startRound_46 : decode cX0_startRound 46 = .ok (.bipush 28, 2) := by decide +kernel
theorem dX0_startRound_48 : decode cX0_startRound 48 = .ok (.if_icmp .ge 24, 3) := by decide +kernel
theorem dX0_startRound_51 : decode cX0_startRound 51 = .ok (.aload_n 0, 1) := by decide +kernel
theorem dX0_startRound_52 : decode cX0_startRound 52 = .ok (.aload_n 0, 1) := by decide +kernel
theorem dX0_startRound_53 : decode cX0_startRound 53 = .ok (.getfield 9, 3) := by decide +kernel
theorem dX0_startRound_56 : decode cX0_startRound 56 = .ok (.iload 4, 2) := by decide +kernel
theorem dX0_startRound_58 : decode cX0_startRound 58 = .ok (.iaload, 1) := by decide +kernel
theorem dX0_startRound_59 : decode cX0_startRound 59 = .ok (.iload 4, 2) := by decide +kernel
theorem dX0_startRound_61 : decode cX0_startRound 61 = .ok (.iconst 5, 1) := by decide +kernel
theorem dX0_startRound_62 : decode cX0_startRound 62 = .ok (.idiv, 1) := by decide +kernel
theorem dX0_startRound_63 : decode cX0_startRound 63 = .ok (.invokevirtual 139, 3) := by decide +kernel
theorem dX0_startRound_66 : decode cX0_startRound 66 = .ok (.iinc 4 1, 3) := by decide +kernel
theorem dX0_startRound_69 : decode cX0_startRound 69 = .ok (.goto (-34), 3) := by decide +kernel
theorem dX0_startRound_72 : decode cX0_startRound 72 = .ok (.aload_n 0, 1) := by decide +kernel
theorem dX0_startRound_73 : decode cX0_startRound 73 = .ok (.getfield 27, 3) := by decide +kernel
theorem dX0_startRound_76 : decode cX0_startRound 76 = .ok (.invokevirtual 65, 3) := by decide +kernel
theorem dX0_startRound_79 : decode cX0_startRound 79 = .ok (.aload_n 0, 1) := by decide +kernel
theorem dX0_startRound_80 : decode cX0_startRound 80 = .ok (.iload_n 1, 1) := by decide +kernel
theorem dX0_startRound_81 : decode cX0_startRound 81 = .ok (.putfield 47, 3) := by decide +kernel
theorem dX0_startRound_84 : decode cX0_startRound 84 = .ok (.aload_n 0, 1) := by decide +kernel
theorem dX0_startRound_85 : decode cX0_startRound 85 = .ok (.aload_n 0, 1) := by decide +kernel
theorem dX0_startRound_86 : decode cX0_startRound 86 = .ok (.getfield 34, 3) := by decide +kernel
theorem dX0_startRound_89 : decode cX0_startRound 89 = .ok (.iload_n 1, 1) := by decide +kernel
theorem dX0_startRound_90 : decode cX0_startRound 90 = .ok (.irem, 1) := by decide +kernel
theorem dX0_startRound_91 : decode cX0_startRound 91 = .ok (.putfield 50, 3) := by decide +kernel
theorem dX0_startRound_94 : decode cX0_startRound 94 = .ok (.aload_n 0, 1) := by decide +kernel
theorem dX0_startRound_95 : decode cX0_startRound 95 = .ok (.iconst 0, 1) := by decide +kernel
theorem dX0_startRound_96 : decode cX0_startRound 96 = .ok (.putfield 53, 3) := by decide +kernel
theorem dX0_startRound_99 : decode cX0_startRound 99 = .ok (.aload_n 0, 1) := by decide +kernel
theorem dX0_startRound_100 : decode cX0_startRound 100 = .ok (.iconst 1, 1) := by decide +kernel
theorem dX0_startRound_101 : decode cX0_startRound 101 = .ok (.putfield 44, 3) := by decide +kernel
theorem dX0_startRound_104 : decode cX0_startRound 104 = .ok (.aload_n 0, 1) := by decide +kernel
theorem dX0_startRound_105 : decode cX0_startRound 105 = .ok (.dup, 1) := by decide +kernel
theorem dX0_startRound_106 : decode cX0_startRound 106 = .ok (.getfield 34, 3) := by decide +kernel
theorem dX0_startRound_109 : decode cX0_startRound 109 = .ok (.iconst 1, 1) := by decide +kernel
theorem dX0_startRound_110 : decode cX0_startRound 110 = .ok (.iadd, 1) := by decide +kernel
theorem dX0_startRound_111 : decode cX0_startRound 111 = .ok (.putfield 34, 3) := by decide +kernel
theorem dX0_startRound_114 : decode cX0_startRound 114 = .ok (.iconst 1, 1) := by decide +kernel
theorem dX0_startRound_115 : decode cX0_startRound 115 = .ok (.ireturn, 1) := by decide +kernel
theorem dX0_shuffle_0 : decode cX0_shuffle 0 = .ok (.iconst 0, 1) := by decide +kernel
theorem dX0_shuffle_1 : decode cX0_shuffle 1 = .ok (.istore_n 3, 1) := by decide +kernel
theorem dX0_shuffle_2 : decode cX0_shuffle 2 = .ok (.iload_n 3, 1) := by decide +kernel
theorem dX0_shuffle_3 : decode cX0_shuffle 3 = .ok (.bipush 28, 2) := by decide +kernel
theorem dX0_shuffle_5 : decode cX0_shuffle 5 = .ok (.if_icmp .ge 16, 3) := by decide +kernel
theorem dX0_shuffle_8 : decode cX0_shuffle 8 = .ok (.aload_n 0, 1) := by decide +kernel
theorem dX0_shuffle_9 : decode cX0_shuffle 9 = .ok (.getfield 9, 3) := by decide +kernel
theorem dX0_shuffle_12 : decode cX0_shuffle 12 = .ok (.iload_n 3, 1) := by decide +kernel
theorem dX0_shuffle_13 : decode cX0_shuffle 13 = .ok (.iload_n 3, 1) := by decide +kernel
theorem dX0_shuffle_14 : decode cX0_shuffle 14 = .ok (.iastore, 1) := by decide +kernel
theorem dX0_shuffle_15 : decode cX0_shuffle 15 = .ok (.iinc 3 1, 3) := by decide +kernel
theorem dX0_shuffle_18 : decode cX0_shuffle 18 = .ok (.goto (-16), 3) := by decide +kernel
theorem dX0_shuffle_21 : decode cX0_shuffle 21 = .ok (.lload_n 1, 1) := by decide +kernel
theorem dX0_shuffle_22 : decode cX0_shuffle 22 = .ok (.lstore_n 3, 1) := by decide +kernel
theorem dX0_shuffle_23 : decode cX0_shuffle 23 = .ok (.bipush 27, 2) := by decide +kernel
theorem dX0_shuffle_25 : decode cX0_shuffle 25 = .ok (.istore 5, 2) := by decide +kernel
theorem dX0_shuffle_27 : decode cX0_shuffle 27 = .ok (.iload 5, 2) := by decide +kernel
theorem dX0_shuffle_29 : decode cX0_shuffle 29 = .ok (.iconst 1, 1) := by decide +kernel
theorem dX0_shuffle_30 : decode cX0_shuffle 30 = .ok (.if_icmp .lt 63, 3) := by decide +kernel
theorem dX0_shuffle_33 : decode cX0_shuffle 33 = .ok (.lload_n 3, 1) := by decide +kernel
theorem dX0_shuffle_34 : decode cX0_shuffle 34 = .ok (.ldc2_w 143, 3) := by decide +kernel
theorem dX0_shuffle_37 : decode cX0_shuffle 37 = .ok (.lmul, 1) := by decide +kernel
theorem dX0_shuffle_38 : decode cX0_shuffle 38 = .ok (.ldc2_w 145, 3) := by decide +kernel
theorem dX0_shuffle_41 : decode cX0_shuffle 41 = .ok (.ladd, 1) := by decide +kernel
theorem dX0_shuffle_42 : decode cX0_shuffle 42 = .ok (.lstore_n 3, 1) := by decide +kernel
theorem dX0_shuffle_43 : decode cX0_shuffle 43 = .ok (.lload_n 3, 1) := by decide +kernel
theorem dX0_shuffle_44 : decode cX0_shuffle 44 = .ok (.bipush 33, 2) := by decide +kernel
theorem dX0_shuffle_46 : decode cX0_shuffle 46 = .ok (.lushr, 1) := by decide +kernel
theorem dX0_shuffle_47 : decode cX0_shuffle 47 = .ok (.l2i, 1) := by decide +kernel
theorem dX0_shuffle_48 : decode cX0_shuffle 48 = .ok (.iload 5, 2) := by decide +kernel
theorem dX0_shuffle_50 : decode cX0_shuffle 50 = .ok (.iconst 1, 1) := by decide +kernel
theorem dX0_shuffle_51 : decode cX0_shuffle 51 = .ok (.iadd, 1) := by decide +kernel
theorem dX0_shuffle_52 : decode cX0_shuffle 52 = .ok (.irem, 1) := by decide +kernel
theorem dX0_shuffle_53 : decode cX0_shuffle 53 = .ok (.istore 6, 2) := by decide +kernel
theorem dX0_shuffle_55 : decode cX0_shuffle 55 = .ok (.aload_n 0, 1) := by decide +kernel
theorem dX0_shuffle_56 : decode cX0_shuffle 56 = .ok (.getfield 9, 3) := by decide +kernel
theorem dX0_shuffle_59 : decode cX0_shuffle 59 = .ok (.iload 5, 2) := by decide +kernel
theorem dX0_shuffle_61 : decode cX0_shuffle 61 = .ok (.iaload, 1) := by decide +kernel
theorem dX0_shuffle_62 : decode cX0_shuffle 62 = .ok (.istore 7, 2) := by decide +kernel
theorem dX0_shuffle_64 : decode cX0_shuffle 64 = .ok (.aload_n 0, 1) := by decide +kernel
theorem dX0_shuffle_65 : decode cX0_shuffle 65 = .ok (.getfield 9, 3) := by decide +kernel
theorem dX0_shuffle_68 : decode cX0_shuffle 68 = .ok (.iload 5, 2) := by decide +kernel
theorem dX0_shuffle_70 : decode cX0_shuffle 70 = .ok (.aload_n 0, 1) := by decide +kernel
theorem dX0_shuffle_71 : decode cX0_shuffle 71 = .ok (.getfield 9, 3) := by decide +kernel
theorem dX0_shuffle_74 : decode cX0_shuffle 74 = .ok (.iload 6, 2) := by decide +kernel
theorem dX0_shuffle_76 : decode cX0_shuffle 76 = .ok (.iaload, 1) := by decide +kernel
theorem dX0_shuffle_77 : decode cX0_shuffle 77 = .ok (.iastore, 1) := by decide +kernel
theorem dX0_shuffle_78 : decode cX0_shuffle 78 = .ok (.aload_n 0, 1) := by decide +kernel
theorem dX0_shuffle_79 : decode cX0_shuffle 79 = .ok (.getfield 9, 3) := by decide +kernel
theorem dX0_shuffle_82 : decode cX0_shuffle 82 = .ok (.iload 6, 2) := by decide +kernel
theorem dX0_shuffle_84 : decode cX0_shuffle 84 = .ok (.iload 7, 2) := by decide +kernel
theorem dX0_shuffle_86 : decode cX0_shuffle 86 = .ok (.iastore, 1) := by decide +kernel
theorem dX0_shuffle_87 : decode cX0_shuffle 87 = .ok (.iinc 5 (-1), 3) := by decide +kernel
theorem dX0_shuffle_90 : decode cX0_shuffle 90 = .ok (.goto (-63), 3) := by decide +kernel
theorem dX0_shuffle_93 : decode cX0_shuffle 93 = .ok (.return_, 1) := by decide +kernel
theorem dX0_reasonAgainst_0 : decode cX0_reasonAgainst 0 = .ok (.aload_n 0, 1) := by decide +kernel
theorem dX0_reasonAgainst_1 : decode cX0_reasonAgainst 1 = .ok (.invokevirtual 78, 3) := by decide +kernel
theorem dX0_reasonAgainst_4 : decode cX0_reasonAgainst 4 = .ok (.ifCond .ne 5, 3) := by decide +kernel
theorem dX0_reasonAgainst_7 : decode cX0_reasonAgainst 7 = .ok (.iconst (-1), 1) := by decide +kernel
theorem dX0_reasonAgainst_8 : decode cX0_reasonAgainst 8 = .ok (.ireturn, 1) := by decide +kernel
theorem dX0_reasonAgainst_9 : decode cX0_reasonAgainst 9 = .ok (.aload_n 0, 1) := by decide +kernel
theorem dX0_reasonAgainst_10 : decode cX0_reasonAgainst 10 = .ok (.iload_n 1, 1) := by decide +kernel
theorem dX0_reasonAgainst_11 : decode cX0_reasonAgainst 11 = .ok (.invokevirtual 108, 3) := by decide +kernel
theorem dX0_reasonAgainst_14 : decode cX0_reasonAgainst 14 = .ok (.aload_n 0, 1) := by decide +kernel
theorem dX0_reasonAgainst_15 : decode cX0_reasonAgainst 15 = .ok (.getfield 50, 3) := by decide +kernel
theorem dX0_reasonAgainst_18 : decode cX0_reasonAgainst 18 = .ok (.if_icmp .eq 5, 3) := by decide +kernel
theorem dX0_reasonAgainst_21 : decode cX0_reasonAgainst 21 = .ok (.iconst 1, 1) := by decide +kernel
theorem dX0_reasonAgainst_22 : decode cX0_reasonAgainst 22 = .ok (.ireturn, 1) := by decide +kernel
theorem dX0_reasonAgainst_23 : decode cX0_reasonAgainst 23 = .ok (.aload_n 0, 1) := by decide +kernel
theorem dX0_reasonAgainst_24 : decode cX0_reasonAgainst 24 = .ok (.getfield 27, 3) := by decide +kernel
theorem dX0_reasonAgainst_27 : decode cX0_reasonAgainst 27 = .ok (.iload_n 1, 1) := by decide +kernel
theorem dX0_reasonAgainst_28 : decode cX0_reasonAgainst 28 = .ok (.invokevirtual 147, 3) := by decide +kernel
theorem dX0_reasonAgainst_31 : decode cX0_reasonAgainst 31 = .ok (.ifCond .ne 5, 3) := by decide +kernel
theorem dX0_reasonAgainst_34 : decode cX0_reasonAgainst 34 = .ok (.iconst 2, 1) := by decide +kernel
theorem dX0_reasonAgainst_35 : decode cX0_reasonAgainst 35 = .ok (.ireturn, 1) := by decide +kernel
theorem dX0_reasonAgainst_36 : decode cX0_reasonAgainst 36 = .ok (.aload_n 0, 1) := by decide +kernel
theorem dX0_reasonAgainst_37 : decode cX0_reasonAgainst 37 = .ok (.getfield 27, 3) := by decide +kernel
theorem dX0_reasonAgainst_40 : decode cX0_reasonAgainst 40 = .ok (.invokevirtual 150, 3) := by decide +kernel
theorem dX0_reasonAgainst_43 : decode cX0_reasonAgainst 43 = .ok (.ifCond .eq 7, 3) := by decide +kernel
theorem dX0_reasonAgainst_46 : decode cX0_reasonAgainst 46 = .ok (.iconst 0, 1) := by decide +kernel
theorem dX0_reasonAgainst_47 : decode cX0_reasonAgainst 47 = .ok (.goto 4, 3) := by decide +kernel
theorem dX0_reasonAgainst_50 : decode cX0_reasonAgainst 50 = .ok (.iconst 3, 1) := by decide +kernel
theorem dX0_reasonAgainst_51 : decode cX0_reasonAgainst 51 = .ok (.ireturn, 1) := by decide +kernel
theorem dX0_layOrRefuse_0 : decode cX0_layOrRefuse 0 = .ok (.aload_n 0, 1) := by decide +kernel
theorem dX0_layOrRefuse_1 : decode cX0_layOrRefuse 1 = .ok (.iload_n 1, 1) := by decide +kernel
theorem dX0_layOrRefuse_2 : decode cX0_layOrRefuse 2 = .ok (.invokevirtual 153, 3) := by decide +kernel
theorem dX0_layOrRefuse_5 : decode cX0_layOrRefuse 5 = .ok (.istore_n 3, 1) := by decide +kernel
theorem dX0_layOrRefuse_6 : decode cX0_layOrRefuse 6 = .ok (.aload_n 0, 1) := by decide +kernel
theorem dX0_layOrRefuse_7 : decode cX0_layOrRefuse 7 = .ok (.iload_n 1, 1) := by decide +kernel
theorem dX0_layOrRefuse_8 : decode cX0_layOrRefuse 8 = .ok (.iload_n 2, 1) := by decide +kernel
theorem dX0_layOrRefuse_9 : decode cX0_layOrRefuse 9 = .ok (.invokevirtual 156, 3) := by decide +kernel
theorem dX0_layOrRefuse_12 : decode cX0_layOrRefuse 12 = .ok (.ifCond .ne 13, 3) := by decide +kernel
theorem dX0_layOrRefuse_15 : decode cX0_layOrRefuse 15 = .ok (.aload_n 0, 1) := by decide +kernel
theorem dX0_layOrRefuse_16 : decode cX0_layOrRefuse 16 = .ok (.dup, 1) := by decide +kernel
theorem dX0_layOrRefuse_17 : decode cX0_layOrRefuse 17 = .ok (.getfield 38, 3) := by decide +kernel
theorem dX0_layOrRefuse_20 : decode cX0_layOrRefuse 20 = .ok (.iconst 1, 1) := by decide +kernel
theorem dX0_layOrRefuse_21 : decode cX0_layOrRefuse 21 = .ok (.iadd, 1) := by decide +kernel
theorem dX0_layOrRefuse_22 : decode cX0_layOrRefuse 22 = .ok (.putfield 38, 3) := by decide +kernel
theorem dX0_layOrRefuse_25 : decode cX0_layOrRefuse 25 = .ok (.iload_n 3, 1) := by decide +kernel
theorem dX0_layOrRefuse_26 : decode cX0_layOrRefuse 26 = .ok (.ireturn, 1) := by decide +kernel
theorem dX0_layIfPossible_0 : decode cX0_layIfPossible 0 = .ok (.aload_n 0, 1) := by decide +kernel
theorem dX0_layIfPossible_1 : decode cX0_layIfPossible 1 = .ok (.iload_n 1, 1) := by decide +kernel
theorem dX0_layIfPossible_2 : decode cX0_layIfPossible 2 = .ok (.invokevirtual 153, 3) := by decide +kernel
theorem dX0_layIfPossible_5 : decode cX0_layIfPossible 5 = .ok (.ifCond .eq 5, 3) := by decide +kernel
theorem dX0_layIfPossible_8 : decode cX0_layIfPossible 8 = .ok (.iconst 0, 1) := by decide +kernel
theorem dX0_layIfPossible_9 : decode cX0_layIfPossible 9 = .ok (.ireturn, 1) := by decide +kernel
theorem dX0_layIfPossible_10 : decode cX0_layIfPossible 10 = .ok (.aload_n 0, 1) := by decide +kernel
theorem dX0_layIfPossible_11 : decode cX0_layIfPossible 11 = .ok (.getfield 27, 3) := by decide +kernel
theorem dX0_layIfPossible_14 : decode cX0_layIfPossible 14 = .ok (.iload_n 1, 1) := by decide +kernel
theorem dX0_layIfPossible_15 : decode cX0_layIfPossible 15 = .ok (.iload_n 2, 1) := by decide +kernel
theorem dX0_layIfPossible_16 : decode cX0_layIfPossible 16 = .ok (.invokevirtual 160, 3) := by decide +kernel
theorem dX0_layIfPossible_19 : decode cX0_layIfPossible 19 = .ok (.aload_n 0, 1) := by decide +kernel
theorem dX0_layIfPossible_20 : decode cX0_layIfPossible 20 = .ok (.iload_n 1, 1) := by decide +kernel
theorem dX0_layIfPossible_21 : decode cX0_layIfPossible 21 = .ok (.iconst (-1), 1) := by decide +kernel
theorem dX0_layIfPossible_22 : decode cX0_layIfPossible 22 = .ok (.invokevirtual 139, 3) := by decide +kernel
theorem dX0_layIfPossible_25 : decode cX0_layIfPossible 25 = .ok (.aload_n 0, 1) := by decide +kernel
theorem dX0_layIfPossible_26 : decode cX0_layIfPossible 26 = .ok (.dup, 1) := by decide +kernel
theorem dX0_layIfPossible_27 : decode cX0_layIfPossible 27 = .ok (.getfield 41, 3) := by decide +kernel
theorem dX0_layIfPossible_30 : decode cX0_layIfPossible 30 = .ok (.iconst 1, 1) := by decide +kernel
theorem dX0_layIfPossible_31 : decode cX0_layIfPossible 31 = .ok (.iadd, 1) := by decide +kernel
theorem dX0_layIfPossible_32 : decode cX0_layIfPossible 32 = .ok (.putfield 41, 3) := by decide +kernel
theorem dX0_layIfPossible_35 : decode cX0_layIfPossible 35 = .ok (.aload_n 0, 1) := by decide +kernel
theorem dX0_layIfPossible_36 : decode cX0_layIfPossible 36 = .ok (.iconst 0, 1) := by decide +kernel
theorem dX0_layIfPossible_37 : decode cX0_layIfPossible 37 = .ok (.putfield 53, 3) := by decide +kernel
theorem dX0_layIfPossible_40 : decode cX0_layIfPossible 40 = .ok (.aload_n 0, 1) := by decide +kernel
theorem dX0_layIfPossible_41 : decode cX0_layIfPossible 41 = .ok (.aload_n 0, 1) := by decide +kernel
theorem dX0_layIfPossible_42 : decode cX0_layIfPossible 42 = .ok (.getfield 50, 3) := by decide +kernel
theorem dX0_layIfPossible_45 : decode cX0_layIfPossible 45 = .ok (.invokevirtual 121, 3) := by decide +kernel
theorem dX0_layIfPossible_48 : decode cX0_layIfPossible 48 = .ok (.ifCond .ne 14, 3) := by decide +kernel
theorem dX0_layIfPossible_51 : decode cX0_layIfPossible 51 = .ok (.aload_n 0, 1) := by decide +kernel
theorem dX0_layIfPossible_52 : decode cX0_layIfPossible 52 = .ok (.aload_n 0, 1) := by decide +kernel
theorem dX0_layIfPossible_53 : decode cX0_layIfPossible 53 = .ok (.getfield 50, 3) := by decide +kernel
theorem dX0_layIfPossible_56 : decode cX0_layIfPossible 56 = .ok (.invokevirtual 164, 3) := by decide +kernel
theorem dX0_layIfPossible_59 : decode cX0_layIfPossible 59 = .ok (.goto 7, 3) := by decide +kernel
theorem dX0_layIfPossible_62 : decode cX0_layIfPossible 62 = .ok (.aload_n 0, 1) := by decide +kernel
theorem dX0_layIfPossible_63 : decode cX0_layIfPossible 63 = .ok (.invokevirtual 168, 3) := by decide +kernel
theorem dX0_layIfPossible_66 : decode cX0_layIfPossible 66 = .ok (.iconst 1, 1) := by decide +kernel
theorem dX0_layIfPossible_67 : decode cX0_layIfPossible 67 = .ok (.ireturn, 1) := by decide +kernel
theorem dX0_layHeaviest_0 : decode cX0_layHeaviest 0 = .ok (.iconst 0, 1) := by decide +kernel
theorem dX0_layHeaviest_1 : decode cX0_layHeaviest 1 = .ok (.istore_n 2, 1) := by decide +kernel
theorem dX0_layHeaviest_2 : decode cX0_layHeaviest 2 = .ok (.iload_n 2, 1) := by decide +kernel
theorem dX0_layHeaviest_3 : decode cX0_layHeaviest 3 = .ok (.iload_n 1, 1) := by decide +kernel
theorem dX0_layHeaviest_4 : decode cX0_layHeaviest 4 = .ok (.if_icmp .ge 23, 3) := by decide +kernel
theorem dX0_layHeaviest_7 : decode cX0_layHeaviest 7 = .ok (.aload_n 0, 1) := by decide +kernel
theorem dX0_layHeaviest_8 : decode cX0_layHeaviest 8 = .ok (.aload_n 0, 1) := by decide +kernel
theorem dX0_layHeaviest_9 : decode cX0_layHeaviest 9 = .ok (.invokevirtual 171, 3) := by decide +kernel
theorem dX0_layHeaviest_12 : decode cX0_layHeaviest 12 = .ok (.iconst 0, 1) := by decide +kernel
theorem dX0_layHeaviest_13 : decode cX0_layHeaviest 13 = .ok (.invokevirtual 156, 3) := by decide +kernel
theorem dX0_layHeaviest_16 : decode cX0_layHeaviest 16 = .ok (.ifCond .ne 5, 3) := by decide +kernel
theorem dX0_layHeaviest_19 : decode cX0_layHeaviest 19 = .ok (.iconst 0, 1) := by decide +kernel
theorem dX0_layHeaviest_20 : decode cX0_layHeaviest 20 = .ok (.ireturn, 1) := by decide +kernel
theorem dX0_layHeaviest_21 : decode cX0_layHeaviest 21 = .ok (.iinc 2 1, 3) := by decide +kernel
theorem dX0_layHeaviest_24 : decode cX0_layHeaviest 24 = .ok (.goto (-22), 3) := by decide +kernel
theorem dX0_layHeaviest_27 : decode cX0_layHeaviest 27 = .ok (.iconst 1, 1) := by decide +kernel
theorem dX0_layHeaviest_28 : decode cX0_layHeaviest 28 = .ok (.ireturn, 1) := by decide +kernel
theorem dX0_canTakeFromHeap_0 : decode cX0_canTakeFromHeap 0 = .ok (.aload_n 0, 1) := by decide +kernel
theorem dX0_canTakeFromHeap_1 : decode cX0_canTakeFromHeap 1 = .ok (.invokevirtual 78, 3) := by decide +kernel
theorem dX0_canTakeFromHeap_4 : decode cX0_canTakeFromHeap 4 = .ok (.ifCond .eq 16, 3) := by decide +kernel
theorem dX0_canTakeFromHeap_7 : decode cX0_canTakeFromHeap 7 = .ok (.aload_n 0, 1) := by decide +kernel
theorem dX0_canTakeFromHeap_8 : decode cX0_canTakeFromHeap 8 = .ok (.getfield 56, 3) := by decide +kernel
theorem dX0_canTakeFromHeap_11 : decode cX0_canTakeFromHeap 11 = .ok (.bipush 28, 2) := by decide +kernel
theorem dX0_canTakeFromHeap_13 : decode cX0_canTakeFromHeap 13 = .ok (.if_icmp .ge 7, 3) := by decide +kernel
theorem dX0_canTakeFromHeap_16 : decode cX0_canTakeFromHeap 16 = .ok (.iconst 1, 1) := by decide +kernel
theorem dX0_canTakeFromHeap_17 : decode cX0_canTakeFromHeap 17 = .ok (.goto 4, 3) := by decide +kernel
theorem dX0_canTakeFromHeap_20 : decode cX0_canTakeFromHeap 20 = .ok (.iconst 0, 1) := by decide +kernel
theorem dX0_canTakeFromHeap_21 : decode cX0_canTakeFromHeap 21 = .ok (.ireturn, 1) := by decide +kernel
theorem dX0_takeFromHeap_0 : decode cX0_takeFromHeap 0 = .ok (.aload_n 0, 1) := by decide +kernel
theorem dX0_takeFromHeap_1 : decode cX0_takeFromHeap 1 = .ok (.invokevirtual 174, 3) := by decide +kernel
theorem dX0_takeFromHeap_4 : decode cX0_takeFromHeap 4 = .ok (.ifCond .eq 10, 3) := by decide +kernel
theorem dX0_takeFromHeap_7 : decode cX0_takeFromHeap 7 = .ok (.aload_n 0, 1) := by decide +kernel
theorem dX0_takeFromHeap_8 : decode cX0_takeFromHeap 8 = .ok (.getfield 56, 3) := by decide +kernel
theorem dX0_takeFromHeap_11 : decode cX0_takeFromHeap 11 = .ok (.ifCond .ge 5, 3) := by decide +kernel
theorem dX0_takeFromHeap_14 : decode cX0_takeFromHeap 14 = .ok (.iconst (-1), 1) := by decide +kernel
theorem dX0_takeFromHeap_15 : decode cX0_takeFromHeap 15 = .ok (.ireturn, 1) := by decide +kernel
theorem dX0_takeFromHeap_16 : decode cX0_takeFromHeap 16 = .ok (.aload_n 0, 1) := by decide +kernel
theorem dX0_takeFromHeap_17 : decode cX0_takeFromHeap 17 = .ok (.getfield 9, 3) := by decide +kernel
theorem dX0_takeFromHeap_20 : decode cX0_takeFromHeap 20 = .ok (.aload_n 0, 1) := by decide +kernel
theorem dX0_takeFromHeap_21 : decode cX0_takeFromHeap 21 = .ok (.getfield 56, 3) := by decide +kernel
theorem dX0_takeFromHeap_24 : decode cX0_takeFromHeap 24 = .ok (.iaload, 1) := by decide +kernel
theorem dX0_takeFromHeap_25 : decode cX0_takeFromHeap 25 = .ok (.istore_n 1, 1) := by decide +kernel
theorem dX0_takeFromHeap_26 : decode cX0_takeFromHeap 26 = .ok (.aload_n 0, 1) := by decide +kernel
theorem dX0_takeFromHeap_27 : decode cX0_takeFromHeap 27 = .ok (.dup, 1) := by decide +kernel
theorem dX0_takeFromHeap_28 : decode cX0_takeFromHeap 28 = .ok (.getfield 56, 3) := by decide +kernel
theorem dX0_takeFromHeap_31 : decode cX0_takeFromHeap 31 = .ok (.iconst 1, 1) := by decide +kernel
theorem dX0_takeFromHeap_32 : decode cX0_takeFromHeap 32 = .ok (.iadd, 1) := by decide +kernel
theorem dX0_takeFromHeap_33 : decode cX0_takeFromHeap 33 = .ok (.putfield 56, 3) := by decide +kernel
theorem dX0_takeFromHeap_36 : decode cX0_takeFromHeap 36 = .ok (.aload_n 0, 1) := by decide +kernel
theorem dX0_takeFromHeap_37 : decode cX0_takeFromHeap 37 = .ok (.iload_n 1, 1) := by decide +kernel
theorem dX0_takeFromHeap_38 : decode cX0_takeFromHeap 38 = .ok (.aload_n 0, 1) := by decide +kernel
theorem dX0_takeFromHeap_39 : decode cX0_takeFromHeap 39 = .ok (.getfield 50, 3) := by decide +kernel
theorem dX0_takeFromHeap_42 : decode cX0_takeFromHeap 42 = .ok (.invokevirtual 139, 3) := by decide +kernel
theorem dX0_takeFromHeap_45 : decode cX0_takeFromHeap 45 = .ok (.aload_n 0, 1) := by decide +kernel
theorem dX0_takeFromHeap_46 : decode cX0_takeFromHeap 46 = .ok (.iconst 0, 1) := by decide +kernel
theorem dX0_takeFromHeap_47 : decode cX0_takeFromHeap 47 = .ok (.putfield 53, 3) := by decide +kernel
theorem dX0_takeFromHeap_50 : decode cX0_takeFromHeap 50 = .ok (.iload_n 1, 1) := by decide +kernel
theorem dX0_takeFromHeap_51 : decode cX0_takeFromHeap 51 = .ok (.ireturn, 1) := by decide +kernel
theorem dX0_canSkipTurn_0 : decode cX0_canSkipTurn 0 = .ok (.aload_n 0, 1) := by decide +kernel
theorem dX0_canSkipTurn_1 : decode cX0_canSkipTurn 1 = .ok (.invokevirtual 78, 3) := by decide +kernel
theorem dX0_canSkipTurn_4 : decode cX0_canSkipTurn 4 = .ok (.ifCond .eq 16, 3) := by decide +kernel
theorem dX0_canSkipTurn_7 : decode cX0_canSkipTurn 7 = .ok (.aload_n 0, 1) := by decide +kernel
theorem dX0_canSkipTurn_8 : decode cX0_canSkipTurn 8 = .ok (.getfield 56, 3) := by decide +kernel
theorem dX0_canSkipTurn_11 : decode cX0_canSkipTurn 11 = .ok (.bipush 28, 2) := by decide +kernel
theorem dX0_canSkipTurn_13 : decode cX0_canSkipTurn 13 = .ok (.if_icmp .lt 7, 3) := by decide +kernel
theorem dX0_canSkipTurn_16 : decode cX0_canSkipTurn 16 = .ok (.iconst 1, 1) := by decide +kernel
theorem dX0_canSkipTurn_17 : decode cX0_canSkipTurn 17 = .ok (.goto 4, 3) := by decide +kernel
theorem dX0_canSkipTurn_20 : decode cX0_canSkipTurn 20 = .ok (.iconst 0, 1) := by decide +kernel
theorem dX0_canSkipTurn_21 : decode cX0_canSkipTurn 21 = .ok (.ireturn, 1) := by decide +kernel
theorem dX0_skipTurn_0 : decode cX0_skipTurn 0 = .ok (.aload_n 0, 1) := by decide +kernel
theorem dX0_skipTurn_1 : decode cX0_skipTurn 1 = .ok (.invokevirtual 177, 3) := by decide +kernel
theorem dX0_skipTurn_4 : decode cX0_skipTurn 4 = .ok (.ifCond .ne 5, 3) := by decide +kernel
theorem dX0_skipTurn_7 : decode cX0_skipTurn 7 = .ok (.iconst (-1), 1) := by decide +kernel
theorem dX0_skipTurn_8 : decode cX0_skipTurn 8 = .ok (.ireturn, 1) := by decide +kernel
theorem dX0_skipTurn_9 : decode cX0_skipTurn 9 = .ok (.aload_n 0, 1) := by decide +kernel
theorem dX0_skipTurn_10 : decode cX0_skipTurn 10 = .ok (.dup, 1) := by decide +kernel
theorem dX0_skipTurn_11 : decode cX0_skipTurn 11 = .ok (.getfield 53, 3) := by decide +kernel
theorem dX0_skipTurn_14 : decode cX0_skipTurn 14 = .ok (.iconst 1, 1) := by decide +kernel
theorem dX0_skipTurn_15 : decode cX0_skipTurn 15 = .ok (.iadd, 1) := by decide +kernel
theorem dX0_skipTurn_16 : decode cX0_skipTurn 16 = .ok (.putfield 53, 3) := by decide +kernel
theorem dX0_skipTurn_19 : decode cX0_skipTurn 19 = .ok (.aload_n 0, 1) := by decide +kernel
theorem dX0_skipTurn_20 : decode cX0_skipTurn 20 = .ok (.getfield 53, 3) := by decide +kernel
theorem dX0_skipTurn_23 : decode cX0_skipTurn 23 = .ok (.aload_n 0, 1) := by decide +kernel
theorem dX0_skipTurn_24 : decode cX0_skipTurn 24 = .ok (.getfield 47, 3) := by decide +kernel
theorem dX0_skipTurn_27 : decode cX0_skipTurn 27 = .ok (.if_icmp .lt 14, 3) := by decide +kernel
theorem dX0_skipTurn_30 : decode cX0_skipTurn 30 = .ok (.aload_n 0, 1) := by decide +kernel
theorem dX0_skipTurn_31 : decode cX0_skipTurn 31 = .ok (.aload_n 0, 1) := by decide +kernel
theorem dX0_skipTurn_32 : decode cX0_skipTurn 32 = .ok (.invokevirtual 180, 3) := by decide +kernel
theorem dX0_skipTurn_35 : decode cX0_skipTurn 35 = .ok (.invokevirtual 164, 3) := by decide +kernel
theorem dX0_skipTurn_38 : decode cX0_skipTurn 38 = .ok (.goto 7, 3) := by decide +kernel
theorem dX0_skipTurn_41 : decode cX0_skipTurn 41 = .ok (.aload_n 0, 1) := by decide +kernel
theorem dX0_skipTurn_42 : decode cX0_skipTurn 42 = .ok (.invokevirtual 168, 3) := by decide +kernel
theorem dX0_skipTurn_45 : decode cX0_skipTurn 45 = .ok (.aload_n 0, 1) := by decide +kernel
theorem dX0_skipTurn_46 : decode cX0_skipTurn 46 = .ok (.getfield 44, 3) := by decide +kernel
theorem dX0_skipTurn_49 : decode cX0_skipTurn 49 = .ok (.ireturn, 1) := by decide +kernel
theorem dX0_goToNextPlayer_0 : decode cX0_goToNextPlayer 0 = .ok (.aload_n 0, 1) := by decide +kernel
theorem dX0_goToNextPlayer_1 : decode cX0_goToNextPlayer 1 = .ok (.aload_n 0, 1) := by decide +kernel
theorem dX0_goToNextPlayer_2 : decode cX0_goToNextPlayer 2 = .ok (.getfield 50, 3) := by decide +kernel
theorem dX0_goToNextPlayer_5 : decode cX0_goToNextPlayer 5 = .ok (.iconst 1, 1) := by decide +kernel
theorem dX0_goToNextPlayer_6 : decode cX0_goToNextPlayer 6 = .ok (.iadd, 1) := by decide +kernel
theorem dX0_goToNextPlayer_7 : decode cX0_goToNextPlayer 7 = .ok (.aload_n 0, 1) := by decide +kernel
theorem dX0_goToNextPlayer_8 : decode cX0_goToNextPlayer 8 = .ok (.getfield 47, 3) := by decide +kernel
theorem dX0_goToNextPlayer_11 : decode cX0_goToNextPlayer 11 = .ok (.if_icmp .ge 12, 3) := by decide +kernel
theorem dX0_goToNextPlayer_14 : decode cX0_goToNextPlayer 14 = .ok (.aload_n 0, 1) := by decide +kernel
theorem dX0_goToNextPlayer_15 : decode cX0_goToNextPlayer 15 = .ok (.getfield 50, 3) := by decide +kernel
theorem dX0_goToNextPlayer_18 : decode cX0_goToNextPlayer 18 = .ok (.iconst 1, 1) := by decide +kernel
theorem dX0_goToNextPlayer_19 : decode cX0_goToNextPlayer 19 = .ok (.iadd, 1) := by decide +kernel
theorem dX0_goToNextPlayer_20 : decode cX0_goToNextPlayer 20 = .ok (.goto 4, 3) := by decide +kernel
theorem dX0_goToNextPlayer_23 : decode cX0_goToNextPlayer 23 = .ok (.iconst 0, 1) := by decide +kernel
theorem dX0_goToNextPlayer_24 : decode cX0_goToNextPlayer 24 = .ok (.putfield 50, 3) := by decide +kernel
theorem dX0_goToNextPlayer_27 : decode cX0_goToNextPlayer 27 = .ok (.return_, 1) := by decide +kernel
theorem dX0_playerWithFewestPips_0 : decode cX0_playerWithFewestPips 0 = .ok (.iconst 0, 1) := by decide +kernel
theorem dX0_playerWithFewestPips_1 : decode cX0_playerWithFewestPips 1 = .ok (.istore_n 1, 1) := by decide +kernel
theorem dX0_playerWithFewestPips_2 : decode cX0_playerWithFewestPips 2 = .ok (.iconst 1, 1) := by decide +kernel
theorem dX0_playerWithFewestPips_3 : decode cX0_playerWithFewestPips 3 = .ok (.istore_n 2, 1) := by decide +kernel
theorem dX0_playerWithFewestPips_4 : decode cX0_playerWithFewestPips 4 = .ok (.iload_n 2, 1) := by decide +kernel
theorem dX0_playerWithFewestPips_5 : decode cX0_playerWithFewestPips 5 = .ok (.aload_n 0, 1) := by decide +kernel
theorem dX0_playerWithFewestPips_6 : decode cX0_playerWithFewestPips 6 = .ok (.getfield 47, 3) := by decide +kernel
theorem dX0_playerWithFewestPips_9 : decode cX0_playerWithFewestPips 9 = .ok (.if_icmp .ge 24, 3) := by decide +kernel
theorem dX0_playerWithFewestPips_12 : decode cX0_playerWithFewestPips 12 = .ok (.aload_n 0, 1) := by decide +kernel
theorem dX0_playerWithFewestPips_13 : decode cX0_playerWithFewestPips 13 = .ok (.iload_n 2, 1) := by decide +kernel
theorem dX0_playerWithFewestPips_14 : decode cX0_playerWithFewestPips 14 = .ok (.invokevirtual 124, 3) := by decide +kernel
theorem dX0_playerWithFewestPips_17 : decode cX0_playerWithFewestPips 17 = .ok (.aload_n 0, 1) := by decide +kernel
theorem dX0_playerWithFewestPips_18 : decode cX0_playerWithFewestPips 18 = .ok (.iload_n 1, 1) := by decide +kernel
theorem dX0_playerWithFewestPips_19 : decode cX0_playerWithFewestPips 19 = .ok (.invokevirtual 124, 3) := by decide +kernel
theorem dX0_playerWithFewestPips_22 : decode cX0_playerWithFewestPips 22 = .ok (.if_icmp .ge 5, 3) := by decide +kernel
theorem dX0_playerWithFewestPips_25 : decode cX0_playerWithFewestPips 25 = .ok (.iload_n 2, 1) := by decide +kernel
theorem dX0_playerWithFewestPips_26 : decode cX0_playerWithFewestPips 26 = .ok (.istore_n 1, 1) := by decide +kernel
theorem dX0_playerWithFewestPips_27 : decode cX0_playerWithFewestPips 27 = .ok (.iinc 2 1, 3) := by decide +kernel
theorem dX0_playerWithFewestPips_30 : decode cX0_playerWithFewestPips 30 = .ok (.goto (-26), 3) := by decide +kernel
theorem dX0_playerWithFewestPips_33 : decode cX0_playerWithFewestPips 33 = .ok (.iload_n 1, 1) := by decide +kernel
theorem dX0_playerWithFewestPips_34 : decode cX0_playerWithFewestPips 34 = .ok (.ireturn, 1) := by decide +kernel
theorem dX0_winRound_0 : decode cX0_winRound 0 = .ok (.iload_n 1, 1) := by decide +kernel
theorem dX0_winRound_1 : decode cX0_winRound 1 = .ok (.invokestatic 117, 3) := by decide +kernel
theorem dX0_winRound_4 : decode cX0_winRound 4 = .ok (.ifCond .eq 57, 3) := by decide +kernel
theorem dX0_winRound_7 : decode cX0_winRound 7 = .ok (.iconst 0, 1) := by decide +kernel
theorem dX0_winRound_8 : decode cX0_winRound 8 = .ok (.istore_n 2, 1) := by decide +kernel
theorem dX0_winRound_9 : decode cX0_winRound 9 = .ok (.iconst 0, 1) := by decide +kernel
theorem dX0_winRound_10 : decode cX0_winRound 10 = .ok (.istore_n 3, 1) := by decide +kernel
theorem dX0_winRound_11 : decode cX0_winRound 11 = .ok (.iload_n 3, 1) := by decide +kernel
theorem dX0_winRound_12 : decode cX0_winRound 12 = .ok (.aload_n 0, 1) := by decide +kernel
theorem dX0_winRound_13 : decode cX0_winRound 13 = .ok (.getfield 47, 3) := by decide +kernel
theorem dX0_winRound_16 : decode cX0_winRound 16 = .ok (.if_icmp .ge 17, 3) := by decide +kernel
theorem dX0_winRound_19 : decode cX0_winRound 19 = .ok (.iload_n 2, 1) := by decide +kernel
theorem dX0_winRound_20 : decode cX0_winRound 20 = .ok (.aload_n 0, 1) := by decide +kernel
theorem dX0_winRound_21 : decode cX0_winRound 21 = .ok (.iload_n 3, 1) := by decide +kernel
theorem dX0_winRound_22 : decode cX0_winRound 22 = .ok (.invokevirtual 124, 3) := by decide +kernel
theorem dX0_winRound_25 : decode cX0_winRound 25 = .ok (.iadd, 1) := by decide +kernel
theorem dX0_winRound_26 : decode cX0_winRound 26 = .ok (.istore_n 2, 1) := by decide +kernel
theorem dX0_winRound_27 : decode cX0_winRound 27 = .ok (.iinc 3 1, 3) := by decide +kernel
theorem dX0_winRound_30 : decode cX0_winRound 30 = .ok (.goto (-19), 3) := by decide +kernel
theorem dX0_winRound_33 : decode cX0_winRound 33 = .ok (.aload_n 0, 1) := by decide +kernel
theorem dX0_winRound_34 : decode cX0_winRound 34 = .ok (.getfield 18, 3) := by decide +kernel
theorem dX0_winRound_37 : decode cX0_winRound 37 = .ok (.iload_n 1, 1) := by decide +kernel
theorem dX0_winRound_38 : decode cX0_winRound 38 = .ok (.dup2, 1) := by decide +kernel
theorem dX0_winRound_39 : decode cX0_winRound 39 = .ok (.iaload, 1) := by decide +kernel
theorem dX0_winRound_40 : decode cX0_winRound 40 = .ok (.iload_n 2, 1) := by decide +kernel
theorem dX0_winRound_41 : decode cX0_winRound 41 = .ok (.iconst 2, 1) := by decide +kernel
theorem dX0_winRound_42 : decode cX0_winRound 42 = .ok (.aload_n 0, 1) := by decide +kernel
theorem dX0_winRound_43 : decode cX0_winRound 43 = .ok (.iload_n 1, 1) := by decide +kernel
theorem dX0_winRound_44 : decode cX0_winRound 44 = .ok (.invokevirtual 124, 3) := by decide +kernel
theorem dX0_winRound_47 : decode cX0_winRound 47 = .ok (.imul, 1) := by decide +kernel
theorem dX0_winRound_48 : decode cX0_winRound 48 = .ok (.isub, 1) := by decide +kernel
theorem dX0_winRound_49 : decode cX0_winRound 49 = .ok (.iadd, 1) := by decide +kernel
theorem dX0_winRound_50 : decode cX0_winRound 50 = .ok (.iastore, 1) := by decide +kernel
theorem dX0_winRound_51 : decode cX0_winRound 51 = .ok (.aload_n 0, 1) := by decide +kernel
theorem dX0_winRound_52 : decode cX0_winRound 52 = .ok (.getfield 21, 3) := by decide +kernel
theorem dX0_winRound_55 : decode cX0_winRound 55 = .ok (.iload_n 1, 1) := by decide +kernel
theorem dX0_winRound_56 : decode cX0_winRound 56 = .ok (.dup2, 1) := by decide +kernel
theorem dX0_winRound_57 : decode cX0_winRound 57 = .ok (.iaload, 1) := by decide +kernel
theorem dX0_winRound_58 : decode cX0_winRound 58 = .ok (.iconst 1, 1) := by decide +kernel
theorem dX0_winRound_59 : decode cX0_winRound 59 = .ok (.iadd, 1) := by decide +kernel
theorem dX0_winRound_60 : decode cX0_winRound 60 = .ok (.iastore, 1) := by decide +kernel
theorem dX0_winRound_61 : decode cX0_winRound 61 = .ok (.aload_n 0, 1) := by decide +kernel
theorem dX0_winRound_62 : decode cX0_winRound 62 = .ok (.iconst 2, 1) := by decide +kernel
theorem dX0_winRound_63 : decode cX0_winRound 63 = .ok (.putfield 44, 3) := by decide +kernel
theorem dX0_winRound_66 : decode cX0_winRound 66 = .ok (.return_, 1) := by decide +kernel
theorem dX0_playable_0 : decode cX0_playable 0 = .ok (.iconst 0, 1) := by decide +kernel
theorem dX0_playable_1 : decode cX0_playable 1 = .ok (.istore_n 1, 1) := by decide +kernel
theorem dX0_playable_2 : decode cX0_playable 2 = .ok (.iconst 0, 1) := by decide +kernel
theorem dX0_playable_3 : decode cX0_playable 3 = .ok (.istore_n 2, 1) := by decide +kernel
theorem dX0_playable_4 : decode cX0_playable 4 = .ok (.iload_n 2, 1) := by decide +kernel
theorem dX0_playable_5 : decode cX0_playable 5 = .ok (.bipush 28, 2) := by decide +kernel
theorem dX0_playable_7 : decode cX0_playable 7 = .ok (.if_icmp .ge 23, 3) := by decide +kernel
theorem dX0_playable_10 : decode cX0_playable 10 = .ok (.aload_n 0, 1) := by decide +kernel
theorem dX0_playable_11 : decode cX0_playable 11 = .ok (.iload_n 2, 1) := by decide +kernel
theorem dX0_playable_12 : decode cX0_playable 12 = .ok (.invokevirtual 153, 3) := by decide +kernel
theorem dX0_playable_15 : decode cX0_playable 15 = .ok (.ifCond .ne 9, 3) := by decide +kernel
theorem dX0_playable_18 : decode cX0_playable 18 = .ok (.iload_n 1, 1) := by decide +kernel
theorem dX0_playable_19 : decode cX0_playable 19 = .ok (.iconst 1, 1) := by decide +kernel
theorem dX0_playable_20 : decode cX0_playable 20 = .ok (.iload_n 2, 1) := by decide +kernel
theorem dX0_playable_21 : decode cX0_playable 21 = .ok (.ishl, 1) := by decide +kernel
theorem dX0_playable_22 : decode cX0_playable 22 = .ok (.ior, 1) := by decide +kernel
theorem dX0_playable_23 : decode cX0_playable 23 = .ok (.istore_n 1, 1) := by decide +kernel
theorem dX0_playable_24 : decode cX0_playable 24 = .ok (.iinc 2 1, 3) := by decide +kernel
theorem dX0_playable_27 : decode cX0_playable 27 = .ok (.goto (-23), 3) := by decide +kernel
theorem dX0_playable_30 : decode cX0_playable 30 = .ok (.iload_n 1, 1) := by decide +kernel
theorem dX0_playable_31 : decode cX0_playable 31 = .ok (.ireturn, 1) := by decide +kernel
theorem dX0_heaviestPlayable_0 : decode cX0_heaviestPlayable 0 = .ok (.iconst (-1), 1) := by decide +kernel
theorem dX0_heaviestPlayable_1 : decode cX0_heaviestPlayable 1 = .ok (.istore_n 1, 1) := by decide +kernel
theorem dX0_heaviestPlayable_2 : decode cX0_heaviestPlayable 2 = .ok (.iconst 0, 1) := by decide +kernel
theorem dX0_heaviestPlayable_3 : decode cX0_heaviestPlayable 3 = .ok (.istore_n 2, 1) := by decide +kernel
theorem dX0_heaviestPlayable_4 : decode cX0_heaviestPlayable 4 = .ok (.iload_n 2, 1) := by decide +kernel
theorem dX0_heaviestPlayable_5 : decode cX0_heaviestPlayable 5 = .ok (.bipush 28, 2) := by decide +kernel
theorem dX0_heaviestPlayable_7 : decode cX0_heaviestPlayable 7 = .ok (.if_icmp .ge 35, 3) := by decide +kernel
theorem dX0_heaviestPlayable_10 : decode cX0_heaviestPlayable 10 = .ok (.aload_n 0, 1) := by decide +kernel
theorem dX0_heaviestPlayable_11 : decode cX0_heaviestPlayable 11 = .ok (.iload_n 2, 1) := by decide +kernel
theorem dX0_heaviestPlayable_12 : decode cX0_heaviestPlayable 12 = .ok (.invokevirtual 153, 3) := by decide +kernel
theorem dX0_heaviestPlayable_15 : decode cX0_heaviestPlayable 15 = .ok (.ifCond .ne 21, 3) := by decide +kernel
theorem dX0_heaviestPlayable_18 : decode cX0_heaviestPlayable 18 = .ok (.iload_n 1, 1) := by decide +kernel
theorem dX0_heaviestPlayable_19 : decode cX0_heaviestPlayable 19 = .ok (.iconst (-1), 1) := by decide +kernel
theorem dX0_heaviestPlayable_20 : decode cX0_heaviestPlayable 20 = .ok (.if_icmp .eq 14, 3) := by decide +kernel
theorem dX0_heaviestPlayable_23 : decode cX0_heaviestPlayable 23 = .ok (.iload_n 2, 1) := by decide +kernel
theorem dX0_heaviestPlayable_24 : decode cX0_heaviestPlayable 24 = .ok (.invokestatic 183, 3) := by decide +kernel
theorem dX0_heaviestPlayable_27 : decode cX0_heaviestPlayable 27 = .ok (.iload_n 1, 1) := by decide +kernel
theorem dX0_heaviestPlayable_28 : decode cX0_heaviestPlayable 28 = .ok (.invokestatic 183, 3) := by decide +kernel
theorem dX0_heaviestPlayable_31 : decode cX0_heaviestPlayable 31 = .ok (.if_icmp .le 5, 3) := by decide +kernel
theorem dX0_heaviestPlayable_34 : decode cX0_heaviestPlayable 34 = .ok (.iload_n 2, 1) := by decide +kernel
theorem dX0_heaviestPlayable_35 : decode cX0_heaviestPlayable 35 = .ok (.istore_n 1, 1) := by decide +kernel
theorem dX0_heaviestPlayable_36 : decode cX0_heaviestPlayable 36 = .ok (.iinc 2 1, 3) := by decide +kernel
theorem dX0_heaviestPlayable_39 : decode cX0_heaviestPlayable 39 = .ok (.goto (-35), 3) := by decide +kernel
theorem dX0_heaviestPlayable_42 : decode cX0_heaviestPlayable 42 = .ok (.iload_n 1, 1) := by decide +kernel
theorem dX0_heaviestPlayable_43 : decode cX0_heaviestPlayable 43 = .ok (.ireturn, 1) := by decide +kernel
theorem dX0_longestChainOf_0 : decode cX0_longestChainOf 0 = .ok (.aload_n 0, 1) := by decide +kernel
theorem dX0_longestChainOf_1 : decode cX0_longestChainOf 1 = .ok (.invokevirtual 78, 3) := by decide +kernel
theorem dX0_longestChainOf_4 : decode cX0_longestChainOf 4 = .ok (.ifCond .ne 5, 3) := by decide +kernel
theorem dX0_longestChainOf_7 : decode cX0_longestChainOf 7 = .ok (.iconst 0, 1) := by decide +kernel
theorem dX0_longestChainOf_8 : decode cX0_longestChainOf 8 = .ok (.ireturn, 1) := by decide +kernel
theorem dX0_longestChainOf_9 : decode cX0_longestChainOf 9 = .ok (.aload_n 0, 1) := by decide +kernel
theorem dX0_longestChainOf_10 : decode cX0_longestChainOf 10 = .ok (.iload_n 1, 1) := by decide +kernel
theorem dX0_longestChainOf_11 : decode cX0_longestChainOf 11 = .ok (.invokevirtual 127, 3) := by decide +kernel
theorem dX0_longestChainOf_14 : decode cX0_longestChainOf 14 = .ok (.istore_n 3, 1) := by decide +kernel
theorem dX0_longestChainOf_15 : decode cX0_longestChainOf 15 = .ok (.aload_n 0, 1) := by decide +kernel
theorem dX0_longestChainOf_16 : decode cX0_longestChainOf 16 = .ok (.getfield 27, 3) := by decide +kernel
theorem dX0_longestChainOf_19 : decode cX0_longestChainOf 19 = .ok (.invokevirtual 89, 3) := by decide +kernel
theorem dX0_longestChainOf_22 : decode cX0_longestChainOf 22 = .ok (.ifCond .le 18, 3) := by decide +kernel
theorem dX0_longestChainOf_25 : decode cX0_longestChainOf 25 = .ok (.iload_n 3, 1) := by decide +kernel
theorem dX0_longestChainOf_26 : decode cX0_longestChainOf 26 = .ok (.aload_n 0, 1) := by decide +kernel
theorem dX0_longestChainOf_27 : decode cX0_longestChainOf 27 = .ok (.getfield 27, 3) := by decide +kernel
theorem dX0_longestChainOf_30 : decode cX0_longestChainOf 30 = .ok (.invokevirtual 92, 3) := by decide +kernel
theorem dX0_longestChainOf_33 : decode cX0_longestChainOf 33 = .ok (.iload_n 2, 1) := by decide +kernel
theorem dX0_longestChainOf_34 : decode cX0_longestChainOf 34 = .ok (.invokestatic 186, 3) := by decide +kernel
theorem dX0_longestChainOf_37 : decode cX0_longestChainOf 37 = .ok (.goto 8, 3) := by decide +kernel
theorem dX0_longestChainOf_40 : decode cX0_longestChainOf 40 = .ok (.iload_n 3, 1) := by decide +kernel
theorem dX0_longestChainOf_41 : decode cX0_longestChainOf 41 = .ok (.iload_n 2, 1) := by decide +kernel
theorem dX0_longestChainOf_42 : decode cX0_longestChainOf 42 = .ok (.invokestatic 190, 3) := by decide +kernel
theorem dX0_longestChainOf_45 : decode cX0_longestChainOf 45 = .ok (.ireturn, 1) := by decide +kernel
theorem dX0_mostFromAnyTile_0 : decode cX0_mostFromAnyTile 0 = .ok (.iconst 0, 1) := by decide +kernel
theorem dX0_mostFromAnyTile_1 : decode cX0_mostFromAnyTile 1 = .ok (.istore_n 2, 1) := by decide +kernel
theorem dX0_mostFromAnyTile_2 : decode cX0_mostFromAnyTile 2 = .ok (.iconst 0, 1) := by decide +kernel
theorem dX0_mostFromAnyTile_3 : decode cX0_mostFromAnyTile 3 = .ok (.istore_n 3, 1) := by decide +kernel
theorem dX0_mostFromAnyTile_4 : decode cX0_mostFromAnyTile 4 = .ok (.iload_n 3, 1) := by decide +kernel
theorem dX0_mostFromAnyTile_5 : decode cX0_mostFromAnyTile 5 = .ok (.bipush 28, 2) := by decide +kernel
theorem dX0_mostFromAnyTile_7 : decode cX0_mostFromAnyTile 7 = .ok (.if_icmp .ge 46, 3) := by decide +kernel
theorem dX0_mostFromAnyTile_10 : decode cX0_mostFromAnyTile 10 = .ok (.iload_n 2, 1) := by decide +kernel
theorem dX0_mostFromAnyTile_11 : decode cX0_mostFromAnyTile 11 = .ok (.iload_n 1, 1) := by decide +kernel
theorem dX0_mostFromAnyTile_12 : decode cX0_mostFromAnyTile 12 = .ok (.if_icmp .ge 41, 3) := by decide +kernel
theorem dX0_mostFromAnyTile_15 : decode cX0_mostFromAnyTile 15 = .ok (.iload_n 0, 1) := by decide +kernel
theorem dX0_mostFromAnyTile_16 : decode cX0_mostFromAnyTile 16 = .ok (.iload_n 3, 1) := by decide +kernel
theorem dX0_mostFromAnyTile_17 : decode cX0_mostFromAnyTile 17 = .ok (.iushr, 1) := by decide +kernel
theorem dX0_mostFromAnyTile_18 : decode cX0_mostFromAnyTile 18 = .ok (.iconst 1, 1) := by decide +kernel
theorem dX0_mostFromAnyTile_19 : decode cX0_mostFromAnyTile 19 = .ok (.iand, 1) := by decide +kernel
theorem dX0_mostFromAnyTile_20 : decode cX0_mostFromAnyTile 20 = .ok (.ifCond .eq 27, 3) := by decide +kernel
theorem dX0_mostFromAnyTile_23 : decode cX0_mostFromAnyTile 23 = .ok (.iload_n 2, 1) := by decide +kernel
theorem dX0_mostFromAnyTile_24 : decode cX0_mostFromAnyTile 24 = .ok (.iconst 1, 1) := by decide +kernel
theorem dX0_mostFromAnyTile_25 : decode cX0_mostFromAnyTile 25 = .ok (.iload_n 0, 1) := by decide +kernel
theorem dX0_mostFromAnyTile_26 : decode cX0_mostFromAnyTile 26 = .ok (.iconst 1, 1) := by decide +kernel
theorem dX0_mostFromAnyTile_27 : decode cX0_mostFromAnyTile 27 = .ok (.iload_n 3, 1) := by decide +kernel
theorem dX0_mostFromAnyTile_28 : decode cX0_mostFromAnyTile 28 = .ok (.ishl, 1) := by decide +kernel
theorem dX0_mostFromAnyTile_29 : decode cX0_mostFromAnyTile 29 = .ok (.iconst (-1), 1) := by decide +kernel
theorem dX0_mostFromAnyTile_30 : decode cX0_mostFromAnyTile 30 = .ok (.ixor, 1) := by decide +kernel
theorem dX0_mostFromAnyTile_31 : decode cX0_mostFromAnyTile 31 = .ok (.iand, 1) := by decide +kernel
theorem dX0_mostFromAnyTile_32 : decode cX0_mostFromAnyTile 32 = .ok (.iload_n 3, 1) := by decide +kernel
theorem dX0_mostFromAnyTile_33 : decode cX0_mostFromAnyTile 33 = .ok (.invokestatic 105, 3) := by decide +kernel
theorem dX0_mostFromAnyTile_36 : decode cX0_mostFromAnyTile 36 = .ok (.iload_n 1, 1) := by decide +kernel
theorem dX0_mostFromAnyTile_37 : decode cX0_mostFromAnyTile 37 = .ok (.iconst 1, 1) := by decide +kernel
theorem dX0_mostFromAnyTile_38 : decode cX0_mostFromAnyTile 38 = .ok (.isub, 1) := by decide +kernel
theorem dX0_mostFromAnyTile_39 : decode cX0_mostFromAnyTile 39 = .ok (.invokestatic 186, 3) := by decide +kernel
theorem dX0_mostFromAnyTile_42 : decode cX0_mostFromAnyTile 42 = .ok (.iadd, 1) := by decide +kernel
theorem dX0_mostFromAnyTile_43 : decode cX0_mostFromAnyTile 43 = .ok (.invokestatic 194, 3) := by decide +kernel
theorem dX0_mostFromAnyTile_46 : decode cX0_mostFromAnyTile 46 = .ok (.istore_n 2, 1) := by decide +kernel
theorem dX0_mostFromAnyTile_47 : decode cX0_mostFromAnyTile 47 = .ok (.iinc 3 1, 3) := by decide +kernel
theorem dX0_mostFromAnyTile_50 : decode cX0_mostFromAnyTile 50 = .ok (.goto (-46), 3) := by decide +kernel
theorem dX0_mostFromAnyTile_53 : decode cX0_mostFromAnyTile 53 = .ok (.iload_n 2, 1) := by decide +kernel
theorem dX0_mostFromAnyTile_54 : decode cX0_mostFromAnyTile 54 = .ok (.ireturn, 1) := by decide +kernel
theorem dX0_mostBehind_0 : decode cX0_mostBehind 0 = .ok (.iconst 0, 1) := by decide +kernel
theorem dX0_mostBehind_1 : decode cX0_mostBehind 1 = .ok (.istore_n 3, 1) := by decide +kernel
theorem dX0_mostBehind_2 : decode cX0_mostBehind 2 = .ok (.iconst 0, 1) := by decide +kernel
theorem dX0_mostBehind_3 : decode cX0_mostBehind 3 = .ok (.istore 4, 2) := by decide +kernel
theorem dX0_mostBehind_5 : decode cX0_mostBehind 5 = .ok (.iload 4, 2) := by decide +kernel
theorem dX0_mostBehind_7 : decode cX0_mostBehind 7 = .ok (.bipush 6, 2) := by decide +kernel
theorem dX0_mostBehind_9 : decode cX0_mostBehind 9 = .ok (.if_icmp .gt 54, 3) := by decide +kernel
theorem dX0_mostBehind_12 : decode cX0_mostBehind 12 = .ok (.iload_n 3, 1) := by decide +kernel
theorem dX0_mostBehind_13 : decode cX0_mostBehind 13 = .ok (.iload_n 2, 1) := by decide +kernel
theorem dX0_mostBehind_14 : decode cX0_mostBehind 14 = .ok (.if_icmp .ge 49, 3) := by decide +kernel
theorem dX0_mostBehind_17 : decode cX0_mostBehind 17 = .ok (.iload_n 1, 1) := by decide +kernel
theorem dX0_mostBehind_18 : decode cX0_mostBehind 18 = .ok (.iload 4, 2) := by decide +kernel
theorem dX0_mostBehind_20 : decode cX0_mostBehind 20 = .ok (.invokestatic 199, 3) := by decide +kernel
theorem dX0_mostBehind_23 : decode cX0_mostBehind 23 = .ok (.istore 5, 2) := by decide +kernel
theorem dX0_mostBehind_25 : decode cX0_mostBehind 25 = .ok (.iload_n 0, 1) := by decide +kernel
theorem dX0_mostBehind_26 : decode cX0_mostBehind 26 = .ok (.iload 5, 2) := by decide +kernel
theorem dX0_mostBehind_28 : decode cX0_mostBehind 28 = .ok (.iushr, 1) := by decide +kernel
theorem dX0_mostBehind_29 : decode cX0_mostBehind 29 = .ok (.iconst 1, 1) := by decide +kernel
theorem dX0_mostBehind_30 : decode cX0_mostBehind 30 = .ok (.iand, 1) := by decide +kernel
theorem dX0_mostBehind_31 : decode cX0_mostBehind 31 = .ok (.ifCond .eq 26, 3) := by decide +kernel
theorem dX0_mostBehind_34 : decode cX0_mostBehind 34 = .ok (.iload_n 3, 1) := by decide +kernel
theorem dX0_mostBehind_35 : decode cX0_mostBehind 35 = .ok (.iconst 1, 1) := by decide +kernel
theorem dX0_mostBehind_36 : decode cX0_mostBehind 36 = .ok (.iload_n 0, 1) := by decide +kernel
theorem dX0_mostBehind_37 : decode cX0_mostBehind 37 = .ok (.iconst 1, 1) := by decide +kernel
theorem dX0_mostBehind_38 : decode cX0_mostBehind 38 = .ok (.iload 5, 2) := by decide +kernel
theorem dX0_mostBehind_40 : decode cX0_mostBehind 40 = .ok (.ishl, 1) := by decide +kernel
theorem dX0_mostBehind_41 : decode cX0_mostBehind 41 = .ok (.iconst (-1), 1) := by decide +kernel
theorem dX0_mostBehind_42 : decode cX0_mostBehind 42 = .ok (.ixor, 1) := by decide +kernel
theorem dX0_mostBehind_43 : decode cX0_mostBehind 43 = .ok (.iand, 1) := by decide +kernel
theorem dX0_mostBehind_44 : decode cX0_mostBehind 44 = .ok (.iload 4, 2) := by decide +kernel
theorem dX0_mostBehind_46 : decode cX0_mostBehind 46 = .ok (.iload_n 2, 1) := by decide +kernel
theorem dX0_mostBehind_47 : decode cX0_mostBehind 47 = .ok (.iconst 1, 1) := by decide +kernel
theorem dX0_mostBehind_48 : decode cX0_mostBehind 48 = .ok (.isub, 1) := by decide +kernel
theorem dX0_mostBehind_49 : decode cX0_mostBehind 49 = .ok (.invokestatic 186, 3) := by decide +kernel
theorem dX0_mostBehind_52 : decode cX0_mostBehind 52 = .ok (.iadd, 1) := by decide +kernel
theorem dX0_mostBehind_53 : decode cX0_mostBehind 53 = .ok (.invokestatic 194, 3) := by decide +kernel
theorem dX0_mostBehind_56 : decode cX0_mostBehind 56 = .ok (.istore_n 3, 1) := by decide +kernel
theorem dX0_mostBehind_57 : decode cX0_mostBehind 57 = .ok (.iinc 4 1, 3) := by decide +kernel
theorem dX0_mostBehind_60 : decode cX0_mostBehind 60 = .ok (.goto (-55), 3) := by decide +kernel
theorem dX0_mostBehind_63 : decode cX0_mostBehind 63 = .ok (.iload_n 3, 1) := by decide +kernel
theorem dX0_mostBehind_64 : decode cX0_mostBehind 64 = .ok (.ireturn, 1) := by decide +kernel
theorem dX0_holderOf_0 : decode cX0_holderOf 0 = .ok (.iload_n 1, 1) := by decide +kernel
theorem dX0_holderOf_1 : decode cX0_holderOf 1 = .ok (.invokestatic 202, 3) := by decide +kernel
theorem dX0_holderOf_4 : decode cX0_holderOf 4 = .ok (.ifCond .eq 12, 3) := by decide +kernel
theorem dX0_holderOf_7 : decode cX0_holderOf 7 = .ok (.aload_n 0, 1) := by decide +kernel
theorem dX0_holderOf_8 : decode cX0_holderOf 8 = .ok (.getfield 15, 3) := by decide +kernel
theorem dX0_holderOf_11 : decode cX0_holderOf 11 = .ok (.iload_n 1, 1) := by decide +kernel
theorem dX0_holderOf_12 : decode cX0_holderOf 12 = .ok (.iaload, 1) := by decide +kernel
theorem dX0_holderOf_13 : decode cX0_holderOf 13 = .ok (.goto 4, 3) := by decide +kernel
theorem dX0_holderOf_16 : decode cX0_holderOf 16 = .ok (.iconst (-1), 1) := by decide +kernel
theorem dX0_holderOf_17 : decode cX0_holderOf 17 = .ok (.ireturn, 1) := by decide +kernel
theorem dX0_giveTo_0 : decode cX0_giveTo 0 = .ok (.iload_n 1, 1) := by decide +kernel
theorem dX0_giveTo_1 : decode cX0_giveTo 1 = .ok (.invokestatic 202, 3) := by decide +kernel
theorem dX0_giveTo_4 : decode cX0_giveTo 4 = .ok (.ifCond .eq 10, 3) := by decide +kernel
theorem dX0_giveTo_7 : decode cX0_giveTo 7 = .ok (.aload_n 0, 1) := by decide +kernel
theorem dX0_giveTo_8 : decode cX0_giveTo 8 = .ok (.getfield 15, 3) := by decide +kernel
theorem dX0_giveTo_11 : decode cX0_giveTo 11 = .ok (.iload_n 1, 1) := by decide +kernel
theorem dX0_giveTo_12 : decode cX0_giveTo 12 = .ok (.iload_n 2, 1) := by decide +kernel
theorem dX0_giveTo_13 : decode cX0_giveTo 13 = .ok (.iastore, 1) := by decide +kernel
theorem dX0_giveTo_14 : decode cX0_giveTo 14 = .ok (.return_, 1) := by decide +kernel
theorem dX0_handOf_0 : decode cX0_handOf 0 = .ok (.iconst 0, 1) := by decide +kernel
theorem dX0_handOf_1 : decode cX0_handOf 1 = .ok (.istore_n 2, 1) := by decide +kernel
theorem dX0_handOf_2 : decode cX0_handOf 2 = .ok (.iconst 0, 1) := by decide +kernel
theorem dX0_handOf_3 : decode cX0_handOf 3 = .ok (.istore_n 3, 1) := by decide +kernel
theorem dX0_handOf_4 : decode cX0_handOf 4 = .ok (.iload_n 3, 1) := by decide +kernel
theorem dX0_handOf_5 : decode cX0_handOf 5 = .ok (.bipush 28, 2) := by decide +kernel
theorem dX0_handOf_7 : decode cX0_handOf 7 = .ok (.if_icmp .ge 25, 3) := by decide +kernel
theorem dX0_handOf_10 : decode cX0_handOf 10 = .ok (.aload_n 0, 1) := by decide +kernel
theorem dX0_handOf_11 : decode cX0_handOf 11 = .ok (.getfield 15, 3) := by decide +kernel
theorem dX0_handOf_14 : decode cX0_handOf 14 = .ok (.iload_n 3, 1) := by decide +kernel
theorem dX0_handOf_15 : decode cX0_handOf 15 = .ok (.iaload, 1) := by decide +kernel
theorem dX0_handOf_16 : decode cX0_handOf 16 = .ok (.iload_n 1, 1) := by decide +kernel
theorem dX0_handOf_17 : decode cX0_handOf 17 = .ok (.if_icmp .ne 9, 3) := by decide +kernel
theorem dX0_handOf_20 : decode cX0_handOf 20 = .ok (.iload_n 2, 1) := by decide +kernel
theorem dX0_handOf_21 : decode cX0_handOf 21 = .ok (.iconst 1, 1) := by decide +kernel
theorem dX0_handOf_22 : decode cX0_handOf 22 = .ok (.iload_n 3, 1) := by decide +kernel
theorem dX0_handOf_23 : decode cX0_handOf 23 = .ok (.ishl, 1) := by decide +kernel
theorem dX0_handOf_24 : decode cX0_handOf 24 = .ok (.ior, 1) := by decide +kernel
theorem dX0_handOf_25 : decode cX0_handOf 25 = .ok (.istore_n 2, 1) := by decide +kernel
theorem dX0_handOf_26 : decode cX0_handOf 26 = .ok (.iinc 3 1, 3) := by decide +kernel
theorem dX0_handOf_29 : decode cX0_handOf 29 = .ok (.goto (-25), 3) := by decide +kernel
theorem dX0_handOf_32 : decode cX0_handOf 32 = .ok (.iload_n 2, 1) := by decide +kernel
theorem dX0_handOf_33 : decode cX0_handOf 33 = .ok (.ireturn, 1) := by decide +kernel
theorem dX0_pipsOf_0 : decode cX0_pipsOf 0 = .ok (.iconst 0, 1) := by decide +kernel
theorem dX0_pipsOf_1 : decode cX0_pipsOf 1 = .ok (.istore_n 2, 1) := by decide +kernel
theorem dX0_pipsOf_2 : decode cX0_pipsOf 2 = .ok (.iconst 0, 1) := by decide +kernel
theorem dX0_pipsOf_3 : decode cX0_pipsOf 3 = .ok (.istore_n 3, 1) := by decide +kernel
theorem dX0_pipsOf_4 : decode cX0_pipsOf 4 = .ok (.iload_n 3, 1) := by decide +kernel
theorem dX0_pipsOf_5 : decode cX0_pipsOf 5 = .ok (.bipush 28, 2) := by decide +kernel
theorem dX0_pipsOf_7 : decode cX0_pipsOf 7 = .ok (.if_icmp .ge 33, 3) := by decide +kernel
theorem dX0_pipsOf_10 : decode cX0_pipsOf 10 = .ok (.aload_n 0, 1) := by decide +kernel
theorem dX0_pipsOf_11 : decode cX0_pipsOf 11 = .ok (.getfield 15, 3) := by decide +kernel
theorem dX0_pipsOf_14 : decode cX0_pipsOf 14 = .ok (.iload_n 3, 1) := by decide +kernel
theorem dX0_pipsOf_15 : decode cX0_pipsOf 15 = .ok (.iaload, 1) := by decide +kernel
theorem dX0_pipsOf_16 : decode cX0_pipsOf 16 = .ok (.iload_n 1, 1) := by decide +kernel
theorem dX0_pipsOf_17 : decode cX0_pipsOf 17 = .ok (.if_icmp .ne 17, 3) := by decide +kernel
theorem dX0_pipsOf_20 : decode cX0_pipsOf 20 = .ok (.iload_n 2, 1) := by decide +kernel
theorem dX0_pipsOf_21 : decode cX0_pipsOf 21 = .ok (.getstatic 205, 3) := by decide +kernel
theorem dX0_pipsOf_24 : decode cX0_pipsOf 24 = .ok (.iload_n 3, 1) := by decide +kernel
theorem dX0_pipsOf_25 : decode cX0_pipsOf 25 = .ok (.iaload, 1) := by decide +kernel
theorem dX0_pipsOf_26 : decode cX0_pipsOf 26 = .ok (.getstatic 208, 3) := by decide +kernel
theorem dX0_pipsOf_29 : decode cX0_pipsOf 29 = .ok (.iload_n 3, 1) := by decide +kernel
theorem dX0_pipsOf_30 : decode cX0_pipsOf 30 = .ok (.iaload, 1) := by decide +kernel
theorem dX0_pipsOf_31 : decode cX0_pipsOf 31 = .ok (.iadd, 1) := by decide +kernel
theorem dX0_pipsOf_32 : decode cX0_pipsOf 32 = .ok (.iadd, 1) := by decide +kernel
theorem dX0_pipsOf_33 : decode cX0_pipsOf 33 = .ok (.istore_n 2, 1) := by decide +kernel
theorem dX0_pipsOf_34 : decode cX0_pipsOf 34 = .ok (.iinc 3 1, 3) := by decide +kernel
theorem dX0_pipsOf_37 : decode cX0_pipsOf 37 = .ok (.goto (-33), 3) := by decide +kernel
theorem dX0_pipsOf_40 : decode cX0_pipsOf 40 = .ok (.iload_n 2, 1) := by decide +kernel
theorem dX0_pipsOf_41 : decode cX0_pipsOf 41 = .ok (.ireturn, 1) := by decide +kernel
theorem dX0_placeInHeap_0 : decode cX0_placeInHeap 0 = .ok (.iconst 0, 1) := by decide +kernel
theorem dX0_placeInHeap_1 : decode cX0_placeInHeap 1 = .ok (.istore_n 2, 1) := by decide +kernel
theorem dX0_placeInHeap_2 : decode cX0_placeInHeap 2 = .ok (.iload_n 2, 1) := by decide +kernel
theorem dX0_placeInHeap_3 : decode cX0_placeInHeap 3 = .ok (.bipush 28, 2) := by decide +kernel
theorem dX0_placeInHeap_5 : decode cX0_placeInHeap 5 = .ok (.if_icmp .ge 34, 3) := by decide +kernel
theorem dX0_placeInHeap_8 : decode cX0_placeInHeap 8 = .ok (.iload_n 2, 1) := by decide +kernel
theorem dX0_placeInHeap_9 : decode cX0_placeInHeap 9 = .ok (.aload_n 0, 1) := by decide +kernel
theorem dX0_placeInHeap_10 : decode cX0_placeInHeap 10 = .ok (.getfield 56, 3) := by decide +kernel
theorem dX0_placeInHeap_13 : decode cX0_placeInHeap 13 = .ok (.if_icmp .lt 20, 3) := by decide +kernel
theorem dX0_placeInHeap_16 : decode cX0_placeInHeap 16 = .ok (.aload_n 0, 1) := by decide +kernel
theorem dX0_placeInHeap_17 : decode cX0_placeInHeap 17 = .ok (.getfield 9, 3) := by decide +kernel
theorem dX0_placeInHeap_20 : decode cX0_placeInHeap 20 = .ok (.iload_n 2, 1) := by decide +kernel
theorem dX0_placeInHeap_21 : decode cX0_placeInHeap 21 = .ok (.iaload, 1) := by decide +kernel
theorem dX0_placeInHeap_22 : decode cX0_placeInHeap 22 = .ok (.iload_n 1, 1) := by decide +kernel
theorem dX0_placeInHeap_23 : decode cX0_placeInHeap 23 = .ok (.if_icmp .ne 10, 3) := by decide +kernel
theorem dX0_placeInHeap_26 : decode cX0_placeInHeap 26 = .ok (.iload_n 2, 1) := by decide +kernel
theorem dX0_placeInHeap_27 : decode cX0_placeInHeap 27 = .ok (.aload_n 0, 1) := by decide +kernel
theorem dX0_placeInHeap_28 : decode cX0_placeInHeap 28 = .ok (.getfield 56, 3) := by decide +kernel
theorem dX0_placeInHeap_31 : decode cX0_placeInHeap 31 = .ok (.isub, 1) := by decide +kernel
theorem dX0_placeInHeap_32 : decode cX0_placeInHeap 32 = .ok (.ireturn, 1) := by decide +kernel
theorem dX0_placeInHeap_33 : decode cX0_placeInHeap 33 = .ok (.iinc 2 1, 3) := by decide +kernel
theorem dX0_placeInHeap_36 : decode cX0_placeInHeap 36 = .ok (.goto (-34), 3) := by decide +kernel
theorem dX0_placeInHeap_39 : decode cX0_placeInHeap 39 = .ok (.iconst (-1), 1) := by decide +kernel
theorem dX0_placeInHeap_40 : decode cX0_placeInHeap 40 = .ok (.ireturn, 1) := by decide +kernel
theorem dX1_init_0 : decode cX1_init 0 = .ok (.aload_n 0, 1) := by decide +kernel
theorem dX1_init_1 : decode cX1_init 1 = .ok (.invokespecial 3, 3) := by decide +kernel
theorem dX1_init_4 : decode cX1_init 4 = .ok (.aload_n 0, 1) := by decide +kernel
theorem dX1_init_5 : decode cX1_init 5 = .ok (.bipush 14, 2) := by decide +kernel
theorem dX1_init_7 : decode cX1_init 7 = .ok (.anewarray 9, 3) := by decide +kernel
theorem dX1_init_10 : decode cX1_init 10 = .ok (.putfield 11, 3) := by decide +kernel
theorem dX1_init_13 : decode cX1_init 13 = .ok (.iconst 0, 1) := by decide +kernel
theorem dX1_init_14 : decode cX1_init 14 = .ok (.istore_n 1, 1) := by decide +kernel
theorem dX1_init_15 : decode cX1_init 15 = .ok (.iload_n 1, 1) := by decide +kernel
theorem dX1_init_16 : decode cX1_init 16 = .ok (.bipush 14, 2) := by decide +kernel
theorem dX1_init_18 : decode cX1_init 18 = .ok (.if_icmp .ge 22, 3) := by decide +kernel
theorem dX1_init_21 : decode cX1_init 21 = .ok (.aload_n 0, 1) := by decide +kernel
theorem dX1_init_22 : decode cX1_init 22 = .ok (.getfield 11, 3) := by decide +kernel
theorem dX1_init_25 : decode cX1_init 25 = .ok (.iload_n 1, 1) := by decide +kernel
theorem dX1_init_26 : decode cX1_init 26 = .ok (.new 9, 3) := by decide +kernel
theorem dX1_init_29 : decode cX1_init 29 = .ok (.dup, 1) := by decide +kernel
theorem dX1_init_30 : decode cX1_init 30 = .ok (.invokespecial 17, 3) := by decide +kernel
theorem dX1_init_33 : decode cX1_init 33 = .ok (.aastore, 1) := by decide +kernel
theorem dX1_init_34 : decode cX1_init 34 = .ok (.iinc 1 1, 3) := by decide +kernel
theorem dX1_init_37 : decode cX1_init 37 = .ok (.goto (-22), 3) := by decide +kernel
theorem dX1_init_40 : decode cX1_init 40 = .ok (.return_, 1) := by decide +kernel
theorem dX1_size_0 : decode cX1_size 0 = .ok (.aload_n 0, 1) := by decide +kernel
theorem dX1_size_1 : decode cX1_size 1 = .ok (.getfield 18, 3) := by decide +kernel
theorem dX1_size_4 : decode cX1_size 4 = .ok (.ireturn, 1) := by decide +kernel
theorem dX1_forget_0 : decode cX1_forget 0 = .ok (.aload_n 0, 1) := by decide +kernel
theorem dX1_forget_1 : decode cX1_forget 1 = .ok (.iconst 0, 1) := by decide +kernel
theorem dX1_forget_2 : decode cX1_forget 2 = .ok (.putfield 22, 3) := by decide +kernel
theorem dX1_forget_5 : decode cX1_forget 5 = .ok (.aload_n 0, 1) := by decide +kernel
theorem dX1_forget_6 : decode cX1_forget 6 = .ok (.iconst 0, 1) := by decide +kernel
theorem dX1_forget_7 : decode cX1_forget 7 = .ok (.putfield 18, 3) := by decide +kernel
theorem dX1_forget_10 : decode cX1_forget 10 = .ok (.return_, 1) := by decide +kernel
theorem dX1_remember_0 : decode cX1_remember 0 = .ok (.aload_n 0, 1) := by decide +kernel
theorem dX1_remember_1 : decode cX1_remember 1 = .ok (.aload_n 0, 1) := by decide +kernel
theorem dX1_remember_2 : decode cX1_remember 2 = .ok (.getfield 18, 3) := by decide +kernel
theorem dX1_remember_5 : decode cX1_remember 5 = .ok (.invokevirtual 25, 3) := by decide +kernel
theorem dX1_remember_8 : decode cX1_remember 8 = .ok (.astore_n 2, 1) := by decide +kernel
theorem dX1_remember_9 : decode cX1_remember 9 = .ok (.aload_n 2, 1) := by decide +kernel
theorem dX1_remember_10 : decode cX1_remember 10 = .ok (.ifnull 8, 3) := by decide +kernel
theorem dX1_remember_13 : decode cX1_remember 13 = .ok (.aload_n 2, 1) := by decide +kernel
theorem dX1_remember_14 : decode cX1_remember 14 = .ok (.aload_n 1, 1) := by decide +kernel
theorem dX1_remember_15 : decode cX1_remember 15 = .ok (.invokevirtual 29, 3) := by decide +kernel
theorem dX1_remember_18 : decode cX1_remember 18 = .ok (.aload_n 0, 1) := by decide +kernel
theorem dX1_remember_19 : decode cX1_remember 19 = .ok (.getfield 18, 3) := by decide +kernel
theorem dX1_remember_22 : decode cX1_remember 22 = .ok (.bipush 14, 2) := by decide +kernel
theorem dX1_remember_24 : decode cX1_remember 24 = .ok (.if_icmp .ge 16, 3) := by decide +kernel
theorem dX1_remember_27 : decode cX1_remember 27 = .ok (.aload_n 0, 1) := by decide +kernel
theorem dX1_remember_28 : decode cX1_remember 28 = .ok (.dup, 1) := by decide +kernel
theorem dX1_remember_29 : decode cX1_remember 29 = .ok (.getfield 18, 3) := by decide +kernel
theorem dX1_remember_32 : decode cX1_remember 32 = .ok (.iconst 1, 1) := by decide +kernel
theorem dX1_remember_33 : decode cX1_remember 33 = .ok (.iadd, 1) := by decide +kernel
theorem dX1_remember_34 : decode cX1_remember 34 = .ok (.putfield 18, 3) := by decide +kernel
theorem dX1_remember_37 : decode cX1_remember 37 = .ok (.goto 16, 3) := by decide +kernel
theorem dX1_remember_40 : decode cX1_remember 40 = .ok (.aload_n 0, 1) := by decide +kernel
theorem dX1_remember_41 : decode cX1_remember 41 = .ok (.aload_n 0, 1) := by decide +kernel
theorem dX1_remember_42 : decode cX1_remember 42 = .ok (.getfield 22, 3) := by decide +kernel
theorem dX1_remember_45 : decode cX1_remember 45 = .ok (.iconst 1, 1) := by decide +kernel
theorem dX1_remember_46 : decode cX1_remember 46 = .ok (.iadd, 1) := by decide +kernel
theorem dX1_remember_47 : decode cX1_remember 47 = .ok (.bipush 14, 2) := by decide +kernel
theorem dX1_remember_49 : decode cX1_remember 49 = .ok (.irem, 1) := by decide +kernel
theorem dX1_remember_50 : decode cX1_remember 50 = .ok (.putfield 22, 3) := by decide +kernel
theorem dX1_remember_53 : decode cX1_remember 53 = .ok (.return_, 1) := by decide +kernel
theorem dX1_takeBack_0 : decode cX1_takeBack 0 = .ok (.aload_n 0, 1) := by decide +kernel
theorem dX1_takeBack_1 : decode cX1_takeBack 1 = .ok (.getfield 18, 3) := by decide +kernel
theorem dX1_takeBack_4 : decode cX1_takeBack 4 = .ok (.ifCond .le 31, 3) := by decide +kernel
theorem dX1_takeBack_7 : decode cX1_takeBack 7 = .ok (.aload_n 0, 1) := by decide +kernel
theorem dX1_takeBack_8 : decode cX1_takeBack 8 = .ok (.dup, 1) := by decide +kernel
theorem dX1_takeBack_9 : decode cX1_takeBack 9 = .ok (.getfield 18, 3) := by decide +kernel
theorem dX1_takeBack_12 : decode cX1_takeBack 12 = .ok (.iconst 1, 1) := by decide +kernel
theorem dX1_takeBack_13 : decode cX1_takeBack 13 = .ok (.isub, 1) := by decide +kernel
theorem dX1_takeBack_14 : decode cX1_takeBack 14 = .ok (.putfield 18, 3) := by decide +kernel
theorem dX1_takeBack_17 : decode cX1_takeBack 17 = .ok (.aload_n 0, 1) := by decide +kernel
theorem dX1_takeBack_18 : decode cX1_takeBack 18 = .ok (.aload_n 0, 1) := by decide +kernel
theorem dX1_takeBack_19 : decode cX1_takeBack 19 = .ok (.getfield 18, 3) := by decide +kernel
theorem dX1_takeBack_22 : decode cX1_takeBack 22 = .ok (.invokevirtual 25, 3) := by decide +kernel
theorem dX1_takeBack_25 : decode cX1_takeBack 25 = .ok (.astore_n 2, 1) := by decide +kernel
theorem dX1_takeBack_26 : decode cX1_takeBack 26 = .ok (.aload_n 2, 1) := by decide +kernel
theorem dX1_takeBack_27 : decode cX1_takeBack 27 = .ok (.ifnull 8, 3) := by decide +kernel
theorem dX1_takeBack_30 : decode cX1_takeBack 30 = .ok (.aload_n 1, 1) := by decide +kernel
theorem dX1_takeBack_31 : decode cX1_takeBack 31 = .ok (.aload_n 2, 1) := by decide +kernel
theorem dX1_takeBack_32 : decode cX1_takeBack 32 = .ok (.invokevirtual 29, 3) := by decide +kernel
theorem dX1_takeBack_35 : decode cX1_takeBack 35 = .ok (.aload_n 0, 1) := by decide +kernel
theorem dX1_takeBack_36 : decode cX1_takeBack 36 = .ok (.getfield 18, 3) := by decide +kernel
theorem dX1_takeBack_39 : decode cX1_takeBack 39 = .ok (.ireturn, 1) := by decide +kernel
theorem dX1_stateOf_0 : decode cX1_stateOf 0 = .ok (.aload_n 0, 1) := by decide +kernel
theorem dX1_stateOf_1 : decode cX1_stateOf 1 = .ok (.getfield 22, 3) := by decide +kernel
theorem dX1_stateOf_4 : decode cX1_stateOf 4 = .ok (.iload_n 1, 1) := by decide +kernel
theorem dX1_stateOf_5 : decode cX1_stateOf 5 = .ok (.iadd, 1) := by decide +kernel
theorem dX1_stateOf_6 : decode cX1_stateOf 6 = .ok (.bipush 14, 2) := by decide +kernel
theorem dX1_stateOf_8 : decode cX1_stateOf 8 = .ok (.invokestatic 33, 3) := by decide +kernel
theorem dX1_stateOf_11 : decode cX1_stateOf 11 = .ok (.istore_n 2, 1) := by decide +kernel
theorem dX1_stateOf_12 : decode cX1_stateOf 12 = .ok (.iload_n 2, 1) := by decide +kernel
theorem dX1_stateOf_13 : decode cX1_stateOf 13 = .ok (.aload_n 0, 1) := by decide +kernel
theorem dX1_stateOf_14 : decode cX1_stateOf 14 = .ok (.getfield 11, 3) := by decide +kernel
theorem dX1_stateOf_17 : decode cX1_stateOf 17 = .ok (.arraylength, 1) := by decide +kernel
theorem dX1_stateOf_18 : decode cX1_stateOf 18 = .ok (.if_icmp .ge 12, 3) := by decide +kernel
theorem dX1_stateOf_21 : decode cX1_stateOf 21 = .ok (.aload_n 0, 1) := by decide +kernel
theorem dX1_stateOf_22 : decode cX1_stateOf 22 = .ok (.getfield 11, 3) := by decide +kernel
theorem dX1_stateOf_25 : decode cX1_stateOf 25 = .ok (.iload_n 2, 1) := by decide +kernel
theorem dX1_stateOf_26 : decode cX1_stateOf 26 = .ok (.aaload, 1) := by decide +kernel
theorem dX1_stateOf_27 : decode cX1_stateOf 27 = .ok (.goto 4, 3) := by decide +kernel
theorem dX1_stateOf_30 : decode cX1_stateOf 30 = .ok (.aconst_null, 1) := by decide +kernel
theorem dX1_stateOf_31 : decode cX1_stateOf 31 = .ok (.areturn, 1) := by decide +kernel
theorem dX2_init_0 : decode cX2_init 0 = .ok (.aload_n 0, 1) := by decide +kernel
theorem dX2_init_1 : decode cX2_init 1 = .ok (.invokespecial 3, 3) := by decide +kernel
theorem dX2_init_4 : decode cX2_init 4 = .ok (.aload_n 0, 1) := by decide +kernel
theorem dX2_init_5 : decode cX2_init 5 = .ok (.iconst (-1), 1) := by decide +kernel
theorem dX2_init_6 : decode cX2_init 6 = .ok (.putfield 9, 3) := by decide +kernel
theorem dX2_init_9 : decode cX2_init 9 = .ok (.aload_n 0, 1) := by decide +kernel
theorem dX2_init_10 : decode cX2_init 10 = .ok (.bipush 12, 2) := by decide +kernel
theorem dX2_init_12 : decode cX2_init 12 = .ok (.putfield 15, 3) := by decide +kernel
theorem dX2_init_15 : decode cX2_init 15 = .ok (.aload_n 0, 1) := by decide +kernel
theorem dX2_init_16 : decode cX2_init 16 = .ok (.bipush 12, 2) := by decide +kernel
theorem dX2_init_18 : decode cX2_init 18 = .ok (.putfield 18, 3) := by decide +kernel
theorem dX2_init_21 : decode cX2_init 21 = .ok (.aload_n 0, 1) := by decide +kernel
theorem dX2_init_22 : decode cX2_init 22 = .ok (.bipush 28, 2) := by decide +kernel
theorem dX2_init_24 : decode cX2_init 24 = .ok (.newarray .int, 2) := by decide +kernel
theorem dX2_init_26 : decode cX2_init 26 = .ok (.putfield 21, 3) := by decide +kernel
theorem dX2_init_29 : decode cX2_init 29 = .ok (.aload_n 0, 1) := by decide +kernel
theorem dX2_init_30 : decode cX2_init 30 = .ok (.bipush 28, 2) := by decide +kernel
theorem dX2_init_32 : decode cX2_init 32 = .ok (.newarray .int, 2) := by decide +kernel
theorem dX2_init_34 : decode cX2_init 34 = .ok (.putfield 25, 3) := by decide +kernel
theorem dX2_init_37 : decode cX2_init 37 = .ok (.aload_n 0, 1) := by decide +kernel
theorem dX2_init_38 : decode cX2_init 38 = .ok (.bipush 28, 2) := by decide +kernel
theorem dX2_init_40 : decode cX2_init 40 = .ok (.newarray .int, 2) := by decide +kernel
theorem dX2_init_42 : decode cX2_init 42 = .ok (.putfield 28, 3) := by decide +kernel
theorem dX2_init_45 : decode cX2_init 45 = .ok (.aload_n 0, 1) := by decide +kernel
theorem dX2_init_46 : decode cX2_init 46 = .ok (.bipush 28, 2) := by decide +kernel
theorem dX2_init_48 : decode cX2_init 48 = .ok (.newarray .int, 2) := by decide +kernel
theorem dX2_init_50 : decode cX2_init 50 = .ok (.putfield 31, 3) := by decide +kernel
theorem dX2_init_53 : decode cX2_init 53 = .ok (.aload_n 0, 1) := by decide +kernel
theorem dX2_init_54 : decode cX2_init 54 = .ok (.bipush 28, 2) := by decide +kernel
theorem dX2_init_56 : decode cX2_init 56 = .ok (.newarray .int, 2) := by decide +kernel
theorem dX2_init_58 : decode cX2_init 58 = .ok (.putfield 34, 3) := by decide +kernel
theorem dX2_init_61 : decode cX2_init 61 = .ok (.aload_n 0, 1) := by decide +kernel
theorem dX2_init_62 : decode cX2_init 62 = .ok (.bipush 25, 2) := by decide +kernel
theorem dX2_init_64 : decode cX2_init 64 = .ok (.newarray .int, 2) := by decide +kernel
theorem dX2_init_66 : decode cX2_init 66 = .ok (.putfield 37, 3) := by decide +kernel
theorem dX2_init_69 : decode cX2_init 69 = .ok (.return_, 1) := by decide +kernel
theorem dX2_size_0 : decode cX2_size 0 = .ok (.aload_n 0, 1) := by decide +kernel
theorem dX2_size_1 : decode cX2_size 1 = .ok (.getfield 40, 3) := by decide +kernel
theorem dX2_size_4 : decode cX2_size 4 = .ok (.ireturn, 1) := by decide +kernel
theorem dX2_endOfNow_0 : decode cX2_endOfNow 0 = .ok (.aload_n 0, 1) := by decide +kernel
theorem dX2_endOfNow_1 : decode cX2_endOfNow 1 = .ok (.getfield 9, 3) := by decide +kernel
theorem dX2_endOfNow_4 : decode cX2_endOfNow 4 = .ok (.ireturn, 1) := by decide +kernel
theorem dX2_directionOfNow_0 : decode cX2_directionOfNow 0 = .ok (.aload_n 0, 1) := by decide +kernel
theorem dX2_directionOfNow_1 : decode cX2_directionOfNow 1 = .ok (.getfield 43, 3) := by decide +kernel
theorem dX2_directionOfNow_4 : decode cX2_directionOfNow 4 = .ok (.ireturn, 1) := by decide +kernel
theorem dX2_becomeEmpty_0 : decode cX2_becomeEmpty 0 = .ok (.aload_n 0, 1) := by decide +kernel
theorem dX2_becomeEmpty_1 : decode cX2_becomeEmpty 1 = .ok (.iconst 0, 1) := by decide +kernel
theorem dX2_becomeEmpty_2 : decode cX2_becomeEmpty 2 = .ok (.putfield 40, 3) := by decide +kernel
theorem dX2_becomeEmpty_5 : decode cX2_becomeEmpty 5 = .ok (.aload_n 0, 1) := by decide +kernel
theorem dX2_becomeEmpty_6 : decode cX2_becomeEmpty 6 = .ok (.iconst (-1), 1) := by decide +kernel
theorem dX2_becomeEmpty_7 : decode cX2_becomeEmpty 7 = .ok (.putfield 9, 3) := by decide +kernel
theorem dX2_becomeEmpty_10 : decode cX2_becomeEmpty 10 = .ok (.aload_n 0, 1) := by decide +kernel
theorem dX2_becomeEmpty_11 : decode cX2_becomeEmpty 11 = .ok (.iconst 0, 1) := by decide +kernel
theorem dX2_becomeEmpty_12 : decode cX2_becomeEmpty 12 = .ok (.putfield 43, 3) := by decide +kernel
theorem dX2_becomeEmpty_15 : decode cX2_becomeEmpty 15 = .ok (.aload_n 0, 1) := by decide +kernel
theorem dX2_becomeEmpty_16 : decode cX2_becomeEmpty 16 = .ok (.bipush 12, 2) := by decide +kernel
theorem dX2_becomeEmpty_18 : decode cX2_becomeEmpty 18 = .ok (.putfield 15, 3) := by decide +kernel
theorem dX2_becomeEmpty_21 : decode cX2_becomeEmpty 21 = .ok (.aload_n 0, 1) := by decide +kernel
theorem dX2_becomeEmpty_22 : decode cX2_becomeEmpty 22 = .ok (.bipush 12, 2) := by decide +kernel
theorem dX2_becomeEmpty_24 : decode cX2_becomeEmpty 24 = .ok (.putfield 18, 3) := by decide +kernel
theorem dX2_becomeEmpty_27 : decode cX2_becomeEmpty 27 = .ok (.aload_n 0, 1) := by decide +kernel
theorem dX2_becomeEmpty_28 : decode cX2_becomeEmpty 28 = .ok (.getfield 37, 3) := by decide +kernel
theorem dX2_becomeEmpty_31 : decode cX2_becomeEmpty 31 = .ok (.iconst 0, 1) := by decide +kernel
theorem dX2_becomeEmpty_32 : decode cX2_becomeEmpty 32 = .ok (.invokestatic 46, 3) := by decide +kernel
theorem dX2_becomeEmpty_35 : decode cX2_becomeEmpty 35 = .ok (.return_, 1) := by decide +kernel
theorem dX2_becomeLike_0 : decode cX2_becomeLike 0 = .ok (.aload_n 0, 1) := by decide +kernel
theorem dX2_becomeLike_1 : decode cX2_becomeLike 1 = .ok (.aload_n 1, 1) := by decide +kernel
theorem dX2_becomeLike_2 : decode cX2_becomeLike 2 = .ok (.getfield 40, 3) := by decide +kernel
theorem dX2_becomeLike_5 : decode cX2_becomeLike 5 = .ok (.putfield 40, 3) := by decide +kernel
theorem dX2_becomeLike_8 : decode cX2_becomeLike 8 = .ok (.aload_n 0, 1) := by decide +kernel
theorem dX2_becomeLike_9 : decode cX2_becomeLike 9 = .ok (.aload_n 1, 1) := by decide +kernel
theorem dX2_becomeLike_10 : decode cX2_becomeLike 10 = .ok (.getfield 9, 3) := by decide +kernel
theorem dX2_becomeLike_13 : decode cX2_becomeLike 13 = .ok (.putfield 9, 3) := by decide +kernel
theorem dX2_becomeLike_16 : decode cX2_becomeLike 16 = .ok (.aload_n 0, 1) := by decide +kernel
theorem dX2_becomeLike_17 : decode cX2_becomeLike 17 = .ok (.aload_n 1, 1) := by decide +kernel
theorem dX2_becomeLike_18 : decode cX2_becomeLike 18 = .ok (.getfield 43, 3) := by decide +kernel
theorem dX2_becomeLike_21 : decode cX2_becomeLike 21 = .ok (.putfield 43, 3) := by decide +kernel
theorem dX2_becomeLike_24 : decode cX2_becomeLike 24 = .ok (.aload_n 0, 1) := by decide +kernel
theorem dX2_becomeLike_25 : decode cX2_becomeLike 25 = .ok (.aload_n 1, 1) := by decide +kernel
theorem dX2_becomeLike_26 : decode cX2_becomeLike 26 = .ok (.getfield 15, 3) := by decide +kernel
theorem dX2_becomeLike_29 : decode cX2_becomeLike 29 = .ok (.putfield 15, 3) := by decide +kernel
theorem dX2_becomeLike_32 : decode cX2_becomeLike 32 = .ok (.aload_n 0, 1) := by decide +kernel
theorem dX2_becomeLike_33 : decode cX2_becomeLike 33 = .ok (.aload_n 1, 1) := by decide +kernel
theorem dX2_becomeLike_34 : decode cX2_becomeLike 34 = .ok (.getfield 18, 3) := by decide +kernel
theorem dX2_becomeLike_37 : decode cX2_becomeLike 37 = .ok (.putfield 18, 3) := by decide +kernel
theorem dX2_becomeLike_40 : decode cX2_becomeLike 40 = .ok (.aload_n 1, 1) := by decide +kernel
theorem dX2_becomeLike_41 : decode cX2_becomeLike 41 = .ok (.getfield 21, 3) := by decide +kernel
theorem dX2_becomeLike_44 : decode cX2_becomeLike 44 = .ok (.iconst 0, 1) := by decide +kernel
theorem dX2_becomeLike_45 : decode cX2_becomeLike 45 = .ok (.aload_n 0, 1) := by decide +kernel
theorem dX2_becomeLike_46 : decode cX2_becomeLike 46 = .ok (.getfield 21, 3) := by decide +kernel
theorem dX2_becomeLike_49 : decode cX2_becomeLike 49 = .ok (.iconst 0, 1) := by decide +kernel
theorem dX2_becomeLike_50 : decode cX2_becomeLike 50 = .ok (.bipush 28, 2) := by decide +kernel
theorem dX2_becomeLike_52 : decode cX2_becomeLike 52 = .ok (.invokestatic 52, 3) := by decide +kernel
theorem dX2_becomeLike_55 : decode cX2_becomeLike 55 = .ok (.aload_n 1, 1) := by decide +kernel
theorem dX2_becomeLike_56 : decode cX2_becomeLike 56 = .ok (.getfield 25, 3) := by decide +kernel
theorem dX2_becomeLike_59 : decode cX2_becomeLike 59 = .ok (.iconst 0, 1) := by decide +kernel
theorem dX2_becomeLike_60 : decode cX2_becomeLike 60 = .ok (.aload_n 0, 1) := by decide +kernel
theorem dX2_becomeLike_61 : decode cX2_becomeLike 61 = .ok (.getfield 25, 3) := by decide +kernel
theorem dX2_becomeLike_64 : decode cX2_becomeLike 64 = .ok (.iconst 0, 1) := by decide +kernel
theorem dX2_becomeLike_65 : decode cX2_becomeLike 65 = .ok (.bipush 28, 2) := by decide +kernel
theorem dX2_becomeLike_67 : decode cX2_becomeLike 67 = .ok (.invokestatic 52, 3) := by decide +kernel
theorem dX2_becomeLike_70 : decode cX2_becomeLike 70 = .ok (.aload_n 1, 1) := by decide +kernel
theorem dX2_becomeLike_71 : decode cX2_becomeLike 71 = .ok (.getfield 28, 3) := by decide +kernel
theorem dX2_becomeLike_74 : decode cX2_becomeLike 74 = .ok (.iconst 0, 1) := by decide +kernel
theorem dX2_becomeLike_75 : decode cX2_becomeLike 75 = .ok (.aload_n 0, 1) := by decide +kernel
theorem dX2_becomeLike_76 : decode cX2_becomeLike 76 = .ok (.getfield 28, 3) := by decide +kernel
theorem dX2_becomeLike_79 : decode cX2_becomeLike 79 = .ok (.iconst 0, 1) := by decide +kernel
theorem dX2_becomeLike_80 : decode cX2_becomeLike 80 = .ok (.bipush 28, 2) := by decide +kernel
theorem dX2_becomeLike_82 : decode cX2_becomeLike 82 = .ok (.invokestatic 52, 3) := by decide +kernel
theorem dX2_becomeLike_85 : decode cX2_becomeLike 85 = .ok (.aload_n 1, 1) := by decide +kernel
theorem dX2_becomeLike_86 : decode cX2_becomeLike 86 = .ok (.getfield 31, 3) := by decide +kernel
theorem dX2_becomeLike_89 : decode cX2_becomeLike 89 = .ok (.iconst 0, 1) := by decide +kernel
theorem dX2_becomeLike_90 : decode cX2_becomeLike 90 = .ok (.aload_n 0, 1) := by decide +kernel
theorem dX2_becomeLike_91 : decode cX2_becomeLike 91 = .ok (.getfield 31, 3) := by decide +kernel
theorem dX2_becomeLike_94 : decode cX2_becomeLike 94 = .ok (.iconst 0, 1) := by decide +kernel
theorem dX2_becomeLike_95 : decode cX2_becomeLike 95 = .ok (.bipush 28, 2) := by decide +kernel
theorem dX2_becomeLike_97 : decode cX2_becomeLike 97 = .ok (.invokestatic 52, 3) := by decide +kernel
theorem dX2_becomeLike_100 : decode cX2_becomeLike 100 = .ok (.aload_n 1, 1) := by decide +kernel
theorem dX2_becomeLike_101 : decode cX2_becomeLike 101 = .ok (.getfield 34, 3) := by decide +kernel
theorem dX2_becomeLike_104 : decode cX2_becomeLike 104 = .ok (.iconst 0, 1) := by decide +kernel
theorem dX2_becomeLike_105 : decode cX2_becomeLike 105 = .ok (.aload_n 0, 1) := by decide +kernel
theorem dX2_becomeLike_106 : decode cX2_becomeLike 106 = .ok (.getfield 34, 3) := by decide +kernel
theorem dX2_becomeLike_109 : decode cX2_becomeLike 109 = .ok (.iconst 0, 1) := by decide +kernel
theorem dX2_becomeLike_110 : decode cX2_becomeLike 110 = .ok (.bipush 28, 2) := by decide +kernel
theorem dX2_becomeLike_112 : decode cX2_becomeLike 112 = .ok (.invokestatic 52, 3) := by decide +kernel
theorem dX2_becomeLike_115 : decode cX2_becomeLike 115 = .ok (.aload_n 1, 1) := by decide +kernel
theorem dX2_becomeLike_116 : decode cX2_becomeLike 116 = .ok (.getfield 37, 3) := by decide +kernel
theorem dX2_becomeLike_119 : decode cX2_becomeLike 119 = .ok (.iconst 0, 1) := by decide +kernel
theorem dX2_becomeLike_120 : decode cX2_becomeLike 120 = .ok (.aload_n 0, 1) := by decide +kernel
theorem dX2_becomeLike_121 : decode cX2_becomeLike 121 = .ok (.getfield 37, 3) := by decide +kernel
theorem dX2_becomeLike_124 : decode cX2_becomeLike 124 = .ok (.iconst 0, 1) := by decide +kernel
theorem dX2_becomeLike_125 : decode cX2_becomeLike 125 = .ok (.bipush 25, 2) := by decide +kernel
theorem dX2_becomeLike_127 : decode cX2_becomeLike 127 = .ok (.invokestatic 52, 3) := by decide +kernel
theorem dX2_becomeLike_130 : decode cX2_becomeLike 130 = .ok (.return_, 1) := by decide +kernel
theorem dX2_fits_0 : decode cX2_fits 0 = .ok (.aload_n 0, 1) := by decide +kernel
theorem dX2_fits_1 : decode cX2_fits 1 = .ok (.getfield 40, 3) := by decide +kernel
theorem dX2_fits_4 : decode cX2_fits 4 = .ok (.ifCond .eq 25, 3) := by decide +kernel
theorem dX2_fits_7 : decode cX2_fits 7 = .ok (.iload_n 1, 1) := by decide +kernel
theorem dX2_fits_8 : decode cX2_fits 8 = .ok (.invokestatic 58, 3) := by decide +kernel
theorem dX2_fits_11 : decode cX2_fits 11 = .ok (.aload_n 0, 1) := by decide +kernel
theorem dX2_fits_12 : decode cX2_fits 12 = .ok (.getfield 9, 3) := by decide +kernel
theorem dX2_fits_15 : decode cX2_fits 15 = .ok (.if_icmp .eq 14, 3) := by decide +kernel
theorem dX2_fits_18 : decode cX2_fits 18 = .ok (.iload_n 1, 1) := by decide +kernel
theorem dX2_fits_19 : decode cX2_fits 19 = .ok (.invokestatic 62, 3) := by decide +kernel
theorem dX2_fits_22 : decode cX2_fits 22 = .ok (.aload_n 0, 1) := by decide +kernel
theorem dX2_fits_23 : decode cX2_fits 23 = .ok (.getfield 9, 3) := by decide +kernel
theorem dX2_fits_26 : decode cX2_fits 26 = .ok (.if_icmp .ne 7, 3) := by decide +kernel
theorem dX2_fits_29 : decode cX2_fits 29 = .ok (.iconst 1, 1) := by decide +kernel
theorem dX2_fits_30 : decode cX2_fits 30 = .ok (.goto 4, 3) := by decide +kernel
theorem dX2_fits_33 : decode cX2_fits 33 = .ok (.iconst 0, 1) := by decide +kernel
theorem dX2_fits_34 : decode cX2_fits 34 = .ok (.ireturn, 1) := by decide +kernel
theorem dX2_hasRoom_0 : decode cX2_hasRoom 0 = .ok (.aload_n 0, 1) := by decide +kernel
theorem dX2_hasRoom_1 : decode cX2_hasRoom 1 = .ok (.aload_n 0, 1) := by decide +kernel
theorem dX2_hasRoom_2 : decode cX2_hasRoom 2 = .ok (.getfield 15, 3) := by decide +kernel
theorem dX2_hasRoom_5 : decode cX2_hasRoom 5 = .ok (.aload_n 0, 1) := by decide +kernel
theorem dX2_hasRoom_6 : decode cX2_hasRoom 6 = .ok (.getfield 18, 3) := by decide +kernel
theorem dX2_hasRoom_9 : decode cX2_hasRoom 9 = .ok (.invokevirtual 65, 3) := by decide +kernel
theorem dX2_hasRoom_12 : decode cX2_hasRoom 12 = .ok (.ifCond .eq 38, 3) := by decide +kernel
theorem dX2_hasRoom_15 : decode cX2_hasRoom 15 = .ok (.aload_n 0, 1) := by decide +kernel
theorem dX2_hasRoom_16 : decode cX2_hasRoom 16 = .ok (.aload_n 0, 1) := by decide +kernel
theorem dX2_hasRoom_17 : decode cX2_hasRoom 17 = .ok (.getfield 15, 3) := by decide +kernel
theorem dX2_hasRoom_20 : decode cX2_hasRoom 20 = .ok (.aload_n 0, 1) := by decide +kernel
theorem dX2_hasRoom_21 : decode cX2_hasRoom 21 = .ok (.getfield 43, 3) := by decide +kernel
theorem dX2_hasRoom_24 : decode cX2_hasRoom 24 = .ok (.invokestatic 69, 3) := by decide +kernel
theorem dX2_hasRoom_27 : decode cX2_hasRoom 27 = .ok (.iadd, 1) := by decide +kernel
theorem dX2_hasRoom_28 : decode cX2_hasRoom 28 = .ok (.aload_n 0, 1) := by decide +kernel
theorem dX2_hasRoom_29 : decode cX2_hasRoom 29 = .ok (.getfield 18, 3) := by decide +kernel
theorem dX2_hasRoom_32 : decode cX2_hasRoom 32 = .ok (.aload_n 0, 1) := by decide +kernel
theorem dX2_hasRoom_33 : decode cX2_hasRoom 33 = .ok (.getfield 43, 3) := by decide +kernel
theorem dX2_hasRoom_36 : decode cX2_hasRoom 36 = .ok (.invokestatic 72, 3) := by decide +kernel
theorem dX2_hasRoom_39 : decode cX2_hasRoom 39 = .ok (.iadd, 1) := by decide +kernel
theorem dX2_hasRoom_40 : decode cX2_hasRoom 40 = .ok (.invokevirtual 65, 3) := by decide +kernel
theorem dX2_hasRoom_43 : decode cX2_hasRoom 43 = .ok (.ifCond .eq 7, 3) := by decide +kernel
theorem dX2_hasRoom_46 : decode cX2_hasRoom 46 = .ok (.iconst 1, 1) := by decide +kernel
theorem dX2_hasRoom_47 : decode cX2_hasRoom 47 = .ok (.goto 4, 3) := by decide +kernel
theorem dX2_hasRoom_50 : decode cX2_hasRoom 50 = .ok (.iconst 0, 1) := by decide +kernel
theorem dX2_hasRoom_51 : decode cX2_hasRoom 51 = .ok (.ireturn, 1) := by decide +kernel
theorem dX2_add_0 : decode cX2_add 0 = .ok (.aload_n 0, 1) := by decide +kernel
theorem dX2_add_1 : decode cX2_add 1 = .ok (.getfield 40, 3) := by decide +kernel
theorem dX2_add_4 : decode cX2_add 4 = .ok (.ifCond .lt 12, 3) := by decide +kernel
theorem dX2_add_7 : decode cX2_add 7 = .ok (.aload_n 0, 1) := by decide +kernel
theorem dX2_add_8 : decode cX2_add 8 = .ok (.getfield 40, 3) := by decide +kernel
theorem dX2_add_11 : decode cX2_add 11 = .ok (.bipush 28, 2) := by decide +kernel
theorem dX2_add_13 : decode cX2_add 13 = .ok (.if_icmp .lt 4, 3) := by decide +kernel
theorem dX2_add_16 : decode cX2_add 16 = .ok (.return_, 1) := by decide +kernel
theorem dX2_add_17 : decode cX2_add 17 = .ok (.aload_n 0, 1) := by decide +kernel
theorem dX2_add_18 : decode cX2_add 18 = .ok (.getfield 40, 3) := by decide +kernel
theorem dX2_add_21 : decode cX2_add 21 = .ok (.ifCond .ne 10, 3) := by decide +kernel
theorem dX2_add_24 : decode cX2_add 24 = .ok (.iload_n 1, 1) := by decide +kernel
theorem dX2_add_25 : decode cX2_add 25 = .ok (.invokestatic 58, 3) := by decide +kernel
theorem dX2_add_28 : decode cX2_add 28 = .ok (.goto 7, 3) := by decide +kernel
theorem dX2_add_31 : decode cX2_add 31 = .ok (.aload_n 0, 1) := by decide +kernel
theorem dX2_add_32 : decode cX2_add 32 = .ok (.getfield 9, 3) := by decide +kernel
theorem dX2_add_35 : decode cX2_add 35 = .ok (.istore_n 3, 1) := by decide +kernel
theorem dX2_add_36 : decode cX2_add 36 = .ok (.aload_n 0, 1) := by decide +kernel
theorem dX2_add_37 : decode cX2_add 37 = .ok (.getfield 15, 3) := by decide +kernel
theorem dX2_add_40 : decode cX2_add 40 = .ok (.aload_n 0, 1) := by decide +kernel
theorem dX2_add_41 : decode cX2_add 41 = .ok (.getfield 43, 3) := by decide +kernel
theorem dX2_add_44 : decode cX2_add 44 = .ok (.invokestatic 69, 3) := by decide +kernel
theorem dX2_add_47 : decode cX2_add 47 = .ok (.iadd, 1) := by decide +kernel
theorem dX2_add_48 : decode cX2_add 48 = .ok (.istore 4, 2) := by decide +kernel
theorem dX2_add_50 : decode cX2_add 50 = .ok (.aload_n 0, 1) := by decide +kernel
theorem dX2_add_51 : decode cX2_add 51 = .ok (.getfield 18, 3) := by decide +kernel
theorem dX2_add_54 : decode cX2_add 54 = .ok (.aload_n 0, 1) := by decide +kernel
theorem dX2_add_55 : decode cX2_add 55 = .ok (.getfield 43, 3) := by decide +kernel
theorem dX2_add_58 : decode cX2_add 58 = .ok (.invokestatic 72, 3) := by decide +kernel
theorem dX2_add_61 : decode cX2_add 61 = .ok (.iadd, 1) := by decide +kernel
theorem dX2_add_62 : decode cX2_add 62 = .ok (.istore 5, 2) := by decide +kernel
theorem dX2_add_64 : decode cX2_add 64 = .ok (.aload_n 0, 1) := by decide +kernel
theorem dX2_add_65 : decode cX2_add 65 = .ok (.getfield 21, 3) := by decide +kernel
theorem dX2_add_68 : decode cX2_add 68 = .ok (.aload_n 0, 1) := by decide +kernel
theorem dX2_add_69 : decode cX2_add 69 = .ok (.getfield 40, 3) := by decide +kernel
theorem dX2_add_72 : decode cX2_add 72 = .ok (.iload_n 1, 1) := by decide +kernel
theorem dX2_add_73 : decode cX2_add 73 = .ok (.iastore, 1) := by decide +kernel
theorem dX2_add_74 : decode cX2_add 74 = .ok (.aload_n 0, 1) := by decide +kernel
theorem dX2_add_75 : decode cX2_add 75 = .ok (.getfield 25, 3) := by decide +kernel
theorem dX2_add_78 : decode cX2_add 78 = .ok (.aload_n 0, 1) := by decide +kernel
theorem dX2_add_79 : decode cX2_add 79 = .ok (.getfield 40, 3) := by decide +kernel
theorem dX2_add_82 : decode cX2_add 82 = .ok (.aload_n 0, 1) := by decide +kernel
theorem dX2_add_83 : decode cX2_add 83 = .ok (.getfield 15, 3) := by decide +kernel
theorem dX2_add_86 : decode cX2_add 86 = .ok (.iastore, 1) := by decide +kernel
theorem dX2_add_87 : decode cX2_add 87 = .ok (.aload_n 0, 1) := by decide +kernel
theorem dX2_add_88 : decode cX2_add 88 = .ok (.getfield 28, 3) := by decide +kernel
theorem dX2_add_91 : decode cX2_add 91 = .ok (.aload_n 0, 1) := by decide +kernel
theorem dX2_add_92 : decode cX2_add 92 = .ok (.getfield 40, 3) := by decide +kernel
theorem dX2_add_95 : decode cX2_add 95 = .ok (.aload_n 0, 1) := by decide +kernel
theorem dX2_add_96 : decode cX2_add 96 = .ok (.getfield 18, 3) := by decide +kernel
theorem dX2_add_99 : decode cX2_add 99 = .ok (.iastore, 1) := by decide +kernel
theorem dX2_add_100 : decode cX2_add 100 = .ok (.aload_n 0, 1) := by decide +kernel
theorem dX2_add_101 : decode cX2_add 101 = .ok (.getfield 31, 3) := by decide +kernel
theorem dX2_add_104 : decode cX2_add 104 = .ok (.aload_n 0, 1) := by decide +kernel
theorem dX2_add_105 : decode cX2_add 105 = .ok (.getfield 40, 3) := by decide +kernel
theorem dX2_add_108 : decode cX2_add 108 = .ok (.aload_n 0, 1) := by decide +kernel
theorem dX2_add_109 : decode cX2_add 109 = .ok (.getfield 43, 3) := by decide +kernel
theorem dX2_add_112 : decode cX2_add 112 = .ok (.iastore, 1) := by decide +kernel
theorem dX2_add_113 : decode cX2_add 113 = .ok (.aload_n 0, 1) := by decide +kernel
theorem dX2_add_114 : decode cX2_add 114 = .ok (.getfield 34, 3) := by decide +kernel
theorem dX2_add_117 : decode cX2_add 117 = .ok (.aload_n 0, 1) := by decide +kernel
theorem dX2_add_118 : decode cX2_add 118 = .ok (.getfield 40, 3) := by decide +kernel
theorem dX2_add_121 : decode cX2_add 121 = .ok (.iload_n 3, 1) := by decide +kernel
theorem dX2_add_122 : decode cX2_add 122 = .ok (.iastore, 1) := by decide +kernel
theorem dX2_add_123 : decode cX2_add 123 = .ok (.aload_n 0, 1) := by decide +kernel
theorem dX2_add_124 : decode cX2_add 124 = .ok (.dup, 1) := by decide +kernel
theorem dX2_add_125 : decode cX2_add 125 = .ok (.getfield 40, 3) := by decide +kernel
theorem dX2_add_128 : decode cX2_add 128 = .ok (.iconst 1, 1) := by decide +kernel
theorem dX2_add_129 : decode cX2_add 129 = .ok (.iadd, 1) := by decide +kernel
theorem dX2_add_130 : decode cX2_add 130 = .ok (.putfield 40, 3) := by decide +kernel
theorem dX2_add_133 : decode cX2_add 133 = .ok (.aload_n 0, 1) := by decide +kernel
theorem dX2_add_134 : decode cX2_add 134 = .ok (.aload_n 0, 1) := by decide +kernel
theorem dX2_add_135 : decode cX2_add 135 = .ok (.getfield 15, 3) := by decide +kernel
theorem dX2_add_138 : decode cX2_add 138 = .ok (.aload_n 0, 1) := by decide +kernel
theorem dX2_add_139 : decode cX2_add 139 = .ok (.getfield 18, 3) := by decide +kernel
theorem dX2_add_142 : decode cX2_add 142 = .ok (.invokevirtual 75, 3) := by decide +kernel
theorem dX2_add_145 : decode cX2_add 145 = .ok (.aload_n 0, 1) := by decide +kernel
theorem dX2_add_146 : decode cX2_add 146 = .ok (.iload 4, 2) := by decide +kernel
theorem dX2_add_148 : decode cX2_add 148 = .ok (.iload 5, 2) := by decide +kernel
theorem dX2_add_150 : decode cX2_add 150 = .ok (.invokevirtual 75, 3) := by decide +kernel
theorem dX2_add_153 : decode cX2_add 153 = .ok (.aload_n 0, 1) := by decide +kernel
theorem dX2_add_154 : decode cX2_add 154 = .ok (.iload_n 1, 1) := by decide +kernel
theorem dX2_add_155 : decode cX2_add 155 = .ok (.invokestatic 79, 3) := by decide +kernel
theorem dX2_add_158 : decode cX2_add 158 = .ok (.iload_n 3, 1) := by decide +kernel
theorem dX2_add_159 : decode cX2_add 159 = .ok (.isub, 1) := by decide +kernel
theorem dX2_add_160 : decode cX2_add 160 = .ok (.putfield 9, 3) := by decide +kernel
theorem dX2_add_163 : decode cX2_add 163 = .ok (.iload_n 1, 1) := by decide +kernel
theorem dX2_add_164 : decode cX2_add 164 = .ok (.invokestatic 58, 3) := by decide +kernel
theorem dX2_add_167 : decode cX2_add 167 = .ok (.iload_n 1, 1) := by decide +kernel
theorem dX2_add_168 : decode cX2_add 168 = .ok (.invokestatic 62, 3) := by decide +kernel
theorem dX2_add_171 : decode cX2_add 171 = .ok (.if_icmp .ne 23, 3) := by decide +kernel
theorem dX2_add_174 : decode cX2_add 174 = .ok (.aload_n 0, 1) := by decide +kernel
theorem dX2_add_175 : decode cX2_add 175 = .ok (.aload_n 0, 1) := by decide +kernel
theorem dX2_add_176 : decode cX2_add 176 = .ok (.getfield 43, 3) := by decide +kernel
theorem dX2_add_179 : decode cX2_add 179 = .ok (.iload_n 2, 1) := by decide +kernel
theorem dX2_add_180 : decode cX2_add 180 = .ok (.ifCond .eq 7, 3) := by decide +kernel
theorem dX2_add_183 : decode cX2_add 183 = .ok (.iconst 3, 1) := by decide +kernel
theorem dX2_add_184 : decode cX2_add 184 = .ok (.goto 4, 3) := by decide +kernel
theorem dX2_add_187 : decode cX2_add 187 = .ok (.iconst 1, 1) := by decide +kernel
theorem dX2_add_188 : decode cX2_add 188 = .ok (.iadd, 1) := by decide +kernel
theorem dX2_add_189 : decode cX2_add 189 = .ok (.iconst 3, 1) := by decide +kernel
theorem dX2_add_190 : decode cX2_add 190 = .ok (.iand, 1) := by decide +kernel
theorem dX2_add_191 : decode cX2_add 191 = .ok (.putfield 43, 3) := by decide +kernel
theorem dX2_add_194 : decode cX2_add 194 = .ok (.aload_n 0, 1) := by decide +kernel
theorem dX2_add_195 : decode cX2_add 195 = .ok (.iload 4, 2) := by decide +kernel
theorem dX2_add_197 : decode cX2_add 197 = .ok (.aload_n 0, 1) := by decide +kernel
theorem dX2_add_198 : decode cX2_add 198 = .ok (.getfield 43, 3) := by decide +kernel
theorem dX2_add_201 : decode cX2_add 201 = .ok (.invokestatic 69, 3) := by decide +kernel
theorem dX2_add_204 : decode cX2_add 204 = .ok (.iadd, 1) := by decide +kernel
theorem dX2_add_205 : decode cX2_add 205 = .ok (.putfield 15, 3) := by decide +kernel
theorem dX2_add_208 : decode cX2_add 208 = .ok (.aload_n 0, 1) := by decide +kernel
theorem dX2_add_209 : decode cX2_add 209 = .ok (.iload 5, 2) := by decide +kernel
theorem dX2_add_211 : decode cX2_add 211 = .ok (.aload_n 0, 1) := by decide +kernel
theorem dX2_add_212 : decode cX2_add 212 = .ok (.getfield 43, 3) := by decide +kernel
theorem dX2_add_215 : decode cX2_add 215 = .ok (.invokestatic 72, 3) := by decide +kernel
theorem dX2_add_218 : decode cX2_add 218 = .ok (.iadd, 1) := by decide +kernel
theorem dX2_add_219 : decode cX2_add 219 = .ok (.putfield 18, 3) := by decide +kernel
theorem dX2_add_222 : decode cX2_add 222 = .ok (.return_, 1) := by decide +kernel
theorem dX2_placeOf_0 : decode cX2_placeOf 0 = .ok (.iconst 0, 1) := by decide +kernel
theorem dX2_placeOf_1 : decode cX2_placeOf 1 = .ok (.istore_n 2, 1) := by decide +kernel
theorem dX2_placeOf_2 : decode cX2_placeOf 2 = .ok (.iload_n 2, 1) := by decide +kernel
theorem dX2_placeOf_3 : decode cX2_placeOf 3 = .ok (.aload_n 0, 1) := by decide +kernel
theorem dX2_placeOf_4 : decode cX2_placeOf 4 = .ok (.getfield 40, 3) := by decide +kernel
theorem dX2_placeOf_7 : decode cX2_placeOf 7 = .ok (.if_icmp .ge 27, 3) := by decide +kernel
theorem dX2_placeOf_10 : decode cX2_placeOf 10 = .ok (.iload_n 2, 1) := by decide +kernel
theorem dX2_placeOf_11 : decode cX2_placeOf 11 = .ok (.bipush 28, 2) := by decide +kernel
theorem dX2_placeOf_13 : decode cX2_placeOf 13 = .ok (.if_icmp .ge 21, 3) := by decide +kernel
theorem dX2_placeOf_16 : decode cX2_placeOf 16 = .ok (.aload_n 0, 1) := by decide +kernel
theorem dX2_placeOf_17 : decode cX2_placeOf 17 = .ok (.getfield 21, 3) := by decide +kernel
theorem dX2_placeOf_20 : decode cX2_placeOf 20 = .ok (.iload_n 2, 1) := by decide +kernel
theorem dX2_placeOf_21 : decode cX2_placeOf 21 = .ok (.iaload, 1) := by decide +kernel
theorem dX2_placeOf_22 : decode cX2_placeOf 22 = .ok (.iload_n 1, 1) := by decide +kernel
theorem dX2_placeOf_23 : decode cX2_placeOf 23 = .ok (.if_icmp .ne 5, 3) := by decide +kernel
theorem dX2_placeOf_26 : decode cX2_placeOf 26 = .ok (.iload_n 2, 1) := by decide +kernel
theorem dX2_placeOf_27 : decode cX2_placeOf 27 = .ok (.ireturn, 1) := by decide +kernel
theorem dX2_placeOf_28 : decode cX2_placeOf 28 = .ok (.iinc 2 1, 3) := by decide +kernel
theorem dX2_placeOf_31 : decode cX2_placeOf 31 = .ok (.goto (-29), 3) := by decide +kernel
theorem dX2_placeOf_34 : decode cX2_placeOf 34 = .ok (.iconst (-1), 1) := by decide +kernel
theorem dX2_placeOf_35 : decode cX2_placeOf 35 = .ok (.ireturn, 1) := by decide +kernel
theorem dX2_numberOfPlace_0 : decode cX2_numberOfPlace 0 = .ok (.iload_n 1, 1) := by decide +kernel
theorem dX2_numberOfPlace_1 : decode cX2_numberOfPlace 1 = .ok (.ifCond .lt 17, 3) := by decide +kernel
theorem dX2_numberOfPlace_4 : decode cX2_numberOfPlace 4 = .ok (.iload_n 1, 1) := by decide +kernel
theorem dX2_numberOfPlace_5 : decode cX2_numberOfPlace 5 = .ok (.aload_n 0, 1) := by decide +kernel
theorem dX2_numberOfPlace_6 : decode cX2_numberOfPlace 6 = .ok (.getfield 40, 3) := by decide +kernel
theorem dX2_numberOfPlace_9 : decode cX2_numberOfPlace 9 = .ok (.if_icmp .ge 9, 3) := by decide +kernel
theorem dX2_numberOfPlace_12 : decode cX2_numberOfPlace 12 = .ok (.iload_n 1, 1) := by decide +kernel
theorem dX2_numberOfPlace_13 : decode cX2_numberOfPlace 13 = .ok (.bipush 28, 2) := by decide +kernel
theorem dX2_numberOfPlace_15 : decode cX2_numberOfPlace 15 = .ok (.if_icmp .lt 5, 3) := by decide +kernel
theorem dX2_numberOfPlace_18 : decode cX2_numberOfPlace 18 = .ok (.iconst (-1), 1) := by decide +kernel
theorem dX2_numberOfPlace_19 : decode cX2_numberOfPlace 19 = .ok (.ireturn, 1) := by decide +kernel
theorem dX2_numberOfPlace_20 : decode cX2_numberOfPlace 20 = .ok (.iload_n 2, 1) := by decide +kernel
theorem dX2_numberOfPlace_21 : decode cX2_numberOfPlace 21 = .ok (.tableswitch 70 0 4 #[35, 42, 49, 56, 63], 35) := by decide +kernel
theorem dX2_numberOfPlace_56 : decode cX2_numberOfPlace 56 = .ok (.aload_n 0, 1) := by decide +kernel
theorem dX2_numberOfPlace_57 : decode cX2_numberOfPlace 57 = .ok (.getfield 21, 3) := by decide +kernel
theorem dX2_numberOfPlace_60 : decode cX2_numberOfPlace 60 = .ok (.iload_n 1, 1) := by decide +kernel
theorem dX2_numberOfPlace_61 : decode cX2_numberOfPlace 61 = .ok (.iaload, 1) := by decide +kernel
theorem dX2_numberOfPlace_62 : decode cX2_numberOfPlace 62 = .ok (.ireturn, 1) := by decide +kernel
theorem dX2_numberOfPlace_63 : decode cX2_numberOfPlace 63 = .ok (.aload_n 0, 1) := by decide +kernel
theorem dX2_numberOfPlace_64 : decode cX2_numberOfPlace 64 = .ok (.getfield 25, 3) := by decide +kernel
theorem dX2_numberOfPlace_67 : decode cX2_numberOfPlace 67 = .ok (.iload_n 1, 1) := by decide +kernel
theorem dX2_numberOfPlace_68 : decode cX2_numberOfPlace 68 = .ok (.iaload, 1) := by decide +kernel
theorem dX2_numberOfPlace_69 : decode cX2_numberOfPlace 69 = .ok (.ireturn, 1) := by decide +kernel
theorem dX2_numberOfPlace_70 : decode cX2_numberOfPlace 70 = .ok (.aload_n 0, 1) := by decide +kernel
theorem dX2_numberOfPlace_71 : decode cX2_numberOfPlace 71 = .ok (.getfield 28, 3) := by decide +kernel
theorem dX2_numberOfPlace_74 : decode cX2_numberOfPlace 74 = .ok (.iload_n 1, 1) := by decide +kernel
theorem dX2_numberOfPlace_75 : decode cX2_numberOfPlace 75 = .ok (.iaload, 1) := by decide +kernel
theorem dX2_numberOfPlace_76 : decode cX2_numberOfPlace 76 = .ok (.ireturn, 1) := by decide +kernel
theorem dX2_numberOfPlace_77 : decode cX2_numberOfPlace 77 = .ok (.aload_n 0, 1) := by decide +kernel
theorem dX2_numberOfPlace_78 : decode cX2_numberOfPlace 78 = .ok (.getfield 31, 3) := by decide +kernel
theorem dX2_numberOfPlace_81 : decode cX2_numberOfPlace 81 = .ok (.iload_n 1, 1) := by decide +kernel
theorem dX2_numberOfPlace_82 : decode cX2_numberOfPlace 82 = .ok (.iaload, 1) := by decide +kernel
theorem dX2_numberOfPlace_83 : decode cX2_numberOfPlace 83 = .ok (.ireturn, 1) := by decide +kernel
theorem dX2_numberOfPlace_84 : decode cX2_numberOfPlace 84 = .ok (.aload_n 0, 1) := by decide +kernel
theorem dX2_numberOfPlace_85 : decode cX2_numberOfPlace 85 = .ok (.getfield 34, 3) := by decide +kernel
theorem dX2_numberOfPlace_88 : decode cX2_numberOfPlace 88 = .ok (.iload_n 1, 1) := by decide +kernel
theorem dX2_numberOfPlace_89 : decode cX2_numberOfPlace 89 = .ok (.iaload, 1) := by decide +kernel
theorem dX2_numberOfPlace_90 : decode cX2_numberOfPlace 90 = .ok (.ireturn, 1) := by decide +kernel
theorem dX2_numberOfPlace_91 : decode cX2_numberOfPlace 91 = .ok (.aload_n 0, 1) := by decide +kernel
theorem dX2_numberOfPlace_92 : decode cX2_numberOfPlace 92 = .ok (.getfield 21, 3) := by decide +kernel
theorem dX2_numberOfPlace_95 : decode cX2_numberOfPlace 95 = .ok (.iload_n 1, 1) := by decide +kernel
theorem dX2_numberOfPlace_96 : decode cX2_numberOfPlace 96 = .ok (.iaload, 1) := by decide +kernel
theorem dX2_numberOfPlace_97 : decode cX2_numberOfPlace 97 = .ok (.invokestatic 79, 3) := by decide +kernel
theorem dX2_numberOfPlace_100 : decode cX2_numberOfPlace 100 = .ok (.aload_n 0, 1) := by decide +kernel
theorem dX2_numberOfPlace_101 : decode cX2_numberOfPlace 101 = .ok (.getfield 34, 3) := by decide +kernel
theorem dX2_numberOfPlace_104 : decode cX2_numberOfPlace 104 = .ok (.iload_n 1, 1) := by decide +kernel
theorem dX2_numberOfPlace_105 : decode cX2_numberOfPlace 105 = .ok (.iaload, 1) := by decide +kernel
theorem dX2_numberOfPlace_106 : decode cX2_numberOfPlace 106 = .ok (.isub, 1) := by decide +kernel
theorem dX2_numberOfPlace_107 : decode cX2_numberOfPlace 107 = .ok (.ireturn, 1) := by decide +kernel
theorem dX2_pips_0 : decode cX2_pips 0 = .ok (.iconst 0, 1) := by decide +kernel
theorem dX2_pips_1 : decode cX2_pips 1 = .ok (.istore_n 1, 1) := by decide +kernel
theorem dX2_pips_2 : decode cX2_pips 2 = .ok (.iconst 0, 1) := by decide +kernel
theorem dX2_pips_3 : decode cX2_pips 3 = .ok (.istore_n 2, 1) := by decide +kernel
theorem dX2_pips_4 : decode cX2_pips 4 = .ok (.iload_n 2, 1) := by decide +kernel
theorem dX2_pips_5 : decode cX2_pips 5 = .ok (.aload_n 0, 1) := by decide +kernel
theorem dX2_pips_6 : decode cX2_pips 6 = .ok (.getfield 40, 3) := by decide +kernel
theorem dX2_pips_9 : decode cX2_pips 9 = .ok (.if_icmp .ge 27, 3) := by decide +kernel
theorem dX2_pips_12 : decode cX2_pips 12 = .ok (.iload_n 2, 1) := by decide +kernel
theorem dX2_pips_13 : decode cX2_pips 13 = .ok (.bipush 28, 2) := by decide +kernel
theorem dX2_pips_15 : decode cX2_pips 15 = .ok (.if_icmp .ge 21, 3) := by decide +kernel
theorem dX2_pips_18 : decode cX2_pips 18 = .ok (.iload_n 1, 1) := by decide +kernel
theorem dX2_pips_19 : decode cX2_pips 19 = .ok (.aload_n 0, 1) := by decide +kernel
theorem dX2_pips_20 : decode cX2_pips 20 = .ok (.getfield 21, 3) := by decide +kernel
theorem dX2_pips_23 : decode cX2_pips 23 = .ok (.iload_n 2, 1) := by decide +kernel
theorem dX2_pips_24 : decode cX2_pips 24 = .ok (.iaload, 1) := by decide +kernel
theorem dX2_pips_25 : decode cX2_pips 25 = .ok (.invokestatic 79, 3) := by decide +kernel
theorem dX2_pips_28 : decode cX2_pips 28 = .ok (.iadd, 1) := by decide +kernel
theorem dX2_pips_29 : decode cX2_pips 29 = .ok (.istore_n 1, 1) := by decide +kernel
theorem dX2_pips_30 : decode cX2_pips 30 = .ok (.iinc 2 1, 3) := by decide +kernel
theorem dX2_pips_33 : decode cX2_pips 33 = .ok (.goto (-29), 3) := by decide +kernel
theorem dX2_pips_36 : decode cX2_pips 36 = .ok (.iload_n 1, 1) := by decide +kernel
theorem dX2_pips_37 : decode cX2_pips 37 = .ok (.ireturn, 1) := by decide +kernel
theorem dX2_pipsAt_0 : decode cX2_pipsAt 0 = .ok (.iconst 0, 1) := by decide +kernel
theorem dX2_pipsAt_1 : decode cX2_pipsAt 1 = .ok (.istore_n 3, 1) := by decide +kernel
theorem dX2_pipsAt_2 : decode cX2_pipsAt 2 = .ok (.iload_n 3, 1) := by decide +kernel
theorem dX2_pipsAt_3 : decode cX2_pipsAt 3 = .ok (.aload_n 0, 1) := by decide +kernel
theorem dX2_pipsAt_4 : decode cX2_pipsAt 4 = .ok (.getfield 40, 3) := by decide +kernel
theorem dX2_pipsAt_7 : decode cX2_pipsAt 7 = .ok (.if_icmp .ge 99, 3) := by decide +kernel
theorem dX2_pipsAt_10 : decode cX2_pipsAt 10 = .ok (.iload_n 3, 1) := by decide +kernel
theorem dX2_pipsAt_11 : decode cX2_pipsAt 11 = .ok (.bipush 28, 2) := by decide +kernel
theorem dX2_pipsAt_13 : decode cX2_pipsAt 13 = .ok (.if_icmp .ge 93, 3) := by decide +kernel
theorem dX2_pipsAt_16 : decode cX2_pipsAt 16 = .ok (.aload_n 0, 1) := by decide +kernel
theorem dX2_pipsAt_17 : decode cX2_pipsAt 17 = .ok (.getfield 25, 3) := by decide +kernel
theorem dX2_pipsAt_20 : decode cX2_pipsAt 20 = .ok (.iload_n 3, 1) := by decide +kernel
theorem dX2_pipsAt_21 : decode cX2_pipsAt 21 = .ok (.iaload, 1) := by decide +kernel
theorem dX2_pipsAt_22 : decode cX2_pipsAt 22 = .ok (.iload_n 1, 1) := by decide +kernel
theorem dX2_pipsAt_23 : decode cX2_pipsAt 23 = .ok (.if_icmp .ne 20, 3) := by decide +kernel
theorem dX2_pipsAt_26 : decode cX2_pipsAt 26 = .ok (.aload_n 0, 1) := by decide +kernel
theorem dX2_pipsAt_27 : decode cX2_pipsAt 27 = .ok (.getfield 28, 3) := by decide +kernel
theorem dX2_pipsAt_30 : decode cX2_pipsAt 30 = .ok (.iload_n 3, 1) := by decide +kernel
theorem dX2_pipsAt_31 : decode cX2_pipsAt 31 = .ok (.iaload, 1) := by decide +kernel
theorem dX2_pipsAt_32 : decode cX2_pipsAt 32 = .ok (.iload_n 2, 1) := by decide +kernel
theorem dX2_pipsAt_33 : decode cX2_pipsAt 33 = .ok (.if_icmp .ne 10, 3) := by decide +kernel
theorem dX2_pipsAt_36 : decode cX2_pipsAt 36 = .ok (.aload_n 0, 1) := by decide +kernel
theorem dX2_pipsAt_37 : decode cX2_pipsAt 37 = .ok (.getfield 34, 3) := by decide +kernel
theorem dX2_pipsAt_40 : decode cX2_pipsAt 40 = .ok (.iload_n 3, 1) := by decide +kernel
theorem dX2_pipsAt_41 : decode cX2_pipsAt 41 = .ok (.iaload, 1) := by decide +kernel
theorem dX2_pipsAt_42 : decode cX2_pipsAt 42 = .ok (.ireturn, 1) := by decide +kernel
theorem dX2_pipsAt_43 : decode cX2_pipsAt 43 = .ok (.aload_n 0, 1) := by decide +kernel
theorem dX2_pipsAt_44 : decode cX2_pipsAt 44 = .ok (.getfield 25, 3) := by decide +kernel
theorem dX2_pipsAt_47 : decode cX2_pipsAt 47 = .ok (.iload_n 3, 1) := by decide +kernel
theorem dX2_pipsAt_48 : decode cX2_pipsAt 48 = .ok (.iaload, 1) := by decide +kernel
theorem dX2_pipsAt_49 : decode cX2_pipsAt 49 = .ok (.aload_n 0, 1) := by decide +kernel
theorem dX2_pipsAt_50 : decode cX2_pipsAt 50 = .ok (.getfield 31, 3) := by decide +kernel
theorem dX2_pipsAt_53 : decode cX2_pipsAt 53 = .ok (.iload_n 3, 1) := by decide +kernel
theorem dX2_pipsAt_54 : decode cX2_pipsAt 54 = .ok (.iaload, 1) := by decide +kernel
theorem dX2_pipsAt_55 : decode cX2_pipsAt 55 = .ok (.invokestatic 69, 3) := by decide +kernel
theorem dX2_pipsAt_58 : decode cX2_pipsAt 58 = .ok (.iadd, 1) := by decide +kernel
theorem dX2_pipsAt_59 : decode cX2_pipsAt 59 = .ok (.iload_n 1, 1) := by decide +kernel
theorem dX2_pipsAt_60 : decode cX2_pipsAt 60 = .ok (.if_icmp .ne 40, 3) := by decide +kernel
theorem dX2_pipsAt_63 : decode cX2_pipsAt 63 = .ok (.aload_n 0, 1) := by decide +kernel
theorem dX2_pipsAt_64 : decode cX2_pipsAt 64 = .ok (.getfield 28, 3) := by decide +kernel
theorem dX2_pipsAt_67 : decode cX2_pipsAt 67 = .ok (.iload_n 3, 1) := by decide +kernel
theorem dX2_pipsAt_68 : decode cX2_pipsAt 68 = .ok (.iaload, 1) := by decide +kernel
theorem dX2_pipsAt_69 : decode cX2_pipsAt 69 = .ok (.aload_n 0, 1) := by decide +kernel
theorem dX2_pipsAt_70 : decode cX2_pipsAt 70 = .ok (.getfield 31, 3) := by decide +kernel
theorem dX2_pipsAt_73 : decode cX2_pipsAt 73 = .ok (.iload_n 3, 1) := by decide +kernel
theorem dX2_pipsAt_74 : decode cX2_pipsAt 74 = .ok (.iaload, 1) := by decide +kernel
theorem dX2_pipsAt_75 : decode cX2_pipsAt 75 = .ok (.invokestatic 72, 3) := by decide +kernel
theorem dX2_pipsAt_78 : decode cX2_pipsAt 78 = .ok (.iadd, 1) := by decide +kernel
theorem dX2_pipsAt_79 : decode cX2_pipsAt 79 = .ok (.iload_n 2, 1) := by decide +kernel
theorem dX2_pipsAt_80 : decode cX2_pipsAt 80 = .ok (.if_icmp .ne 20, 3) := by decide +kernel
theorem dX2_pipsAt_83 : decode cX2_pipsAt 83 = .ok (.aload_n 0, 1) := by decide +kernel
theorem dX2_pipsAt_84 : decode cX2_pipsAt 84 = .ok (.getfield 21, 3) := by decide +kernel
theorem dX2_pipsAt_87 : decode cX2_pipsAt 87 = .ok (.iload_n 3, 1) := by decide +kernel
theorem dX2_pipsAt_88 : decode cX2_pipsAt 88 = .ok (.iaload, 1) := by decide +kernel
theorem dX2_pipsAt_89 : decode cX2_pipsAt 89 = .ok (.invokestatic 79, 3) := by decide +kernel
theorem dX2_pipsAt_92 : decode cX2_pipsAt 92 = .ok (.aload_n 0, 1) := by decide +kernel
theorem dX2_pipsAt_93 : decode cX2_pipsAt 93 = .ok (.getfield 34, 3) := by decide +kernel
theorem dX2_pipsAt_96 : decode cX2_pipsAt 96 = .ok (.iload_n 3, 1) := by decide +kernel
theorem dX2_pipsAt_97 : decode cX2_pipsAt 97 = .ok (.iaload, 1) := by decide +kernel
theorem dX2_pipsAt_98 : decode cX2_pipsAt 98 = .ok (.isub, 1) := by decide +kernel
theorem dX2_pipsAt_99 : decode cX2_pipsAt 99 = .ok (.ireturn, 1) := by decide +kernel
theorem dX2_pipsAt_100 : decode cX2_pipsAt 100 = .ok (.iinc 3 1, 3) := by decide +kernel
theorem dX2_pipsAt_103 : decode cX2_pipsAt 103 = .ok (.goto (-101), 3) := by decide +kernel
theorem dX2_pipsAt_106 : decode cX2_pipsAt 106 = .ok (.iconst (-1), 1) := by decide +kernel
theorem dX2_pipsAt_107 : decode cX2_pipsAt 107 = .ok (.ireturn, 1) := by decide +kernel
theorem dX2_freeByCells_0 : decode cX2_freeByCells 0 = .ok (.iconst 0, 1) := by decide +kernel
theorem dX2_freeByCells_1 : decode cX2_freeByCells 1 = .ok (.istore_n 1, 1) := by decide +kernel
theorem dX2_freeByCells_2 : decode cX2_freeByCells 2 = .ok (.iconst 0, 1) := by decide +kernel
theorem dX2_freeByCells_3 : decode cX2_freeByCells 3 = .ok (.istore_n 2, 1) := by decide +kernel
theorem dX2_freeByCells_4 : decode cX2_freeByCells 4 = .ok (.iload_n 2, 1) := by decide +kernel
theorem dX2_freeByCells_5 : decode cX2_freeByCells 5 = .ok (.bipush 25, 2) := by decide +kernel
theorem dX2_freeByCells_7 : decode cX2_freeByCells 7 = .ok (.if_icmp .ge 35, 3) := by decide +kernel
theorem dX2_freeByCells_10 : decode cX2_freeByCells 10 = .ok (.iconst 0, 1) := by decide +kernel
theorem dX2_freeByCells_11 : decode cX2_freeByCells 11 = .ok (.istore_n 3, 1) := by decide +kernel
theorem dX2_freeByCells_12 : decode cX2_freeByCells 12 = .ok (.iload_n 3, 1) := by decide +kernel
theorem dX2_freeByCells_13 : decode cX2_freeByCells 13 = .ok (.bipush 25, 2) := by decide +kernel
theorem dX2_freeByCells_15 : decode cX2_freeByCells 15 = .ok (.if_icmp .ge 21, 3) := by decide +kernel
theorem dX2_freeByCells_18 : decode cX2_freeByCells 18 = .ok (.aload_n 0, 1) := by decide +kernel
theorem dX2_freeByCells_19 : decode cX2_freeByCells 19 = .ok (.iload_n 3, 1) := by decide +kernel
theorem dX2_freeByCells_20 : decode cX2_freeByCells 20 = .ok (.iload_n 2, 1) := by decide +kernel
theorem dX2_freeByCells_21 : decode cX2_freeByCells 21 = .ok (.invokevirtual 65, 3) := by decide +kernel
theorem dX2_freeByCells_24 : decode cX2_freeByCells 24 = .ok (.ifCond .eq 6, 3) := by decide +kernel
theorem dX2_freeByCells_27 : decode cX2_freeByCells 27 = .ok (.iinc 1 1, 3) := by decide +kernel
theorem dX2_freeByCells_30 : decode cX2_freeByCells 30 = .ok (.iinc 3 1, 3) := by decide +kernel
theorem dX2_freeByCells_33 : decode cX2_freeByCells 33 = .ok (.goto (-21), 3) := by decide +kernel
theorem dX2_freeByCells_36 : decode cX2_freeByCells 36 = .ok (.iinc 2 1, 3) := by decide +kernel
theorem dX2_freeByCells_39 : decode cX2_freeByCells 39 = .ok (.goto (-35), 3) := by decide +kernel
theorem dX2_freeByCells_42 : decode cX2_freeByCells 42 = .ok (.iload_n 1, 1) := by decide +kernel
theorem dX2_freeByCells_43 : decode cX2_freeByCells 43 = .ok (.ireturn, 1) := by decide +kernel
theorem dX2_freeByTiles_0 : decode cX2_freeByTiles 0 = .ok (.sipush 625, 3) := by decide +kernel
theorem dX2_freeByTiles_3 : decode cX2_freeByTiles 3 = .ok (.iconst 2, 1) := by decide +kernel
theorem dX2_freeByTiles_4 : decode cX2_freeByTiles 4 = .ok (.aload_n 0, 1) := by decide +kernel
theorem dX2_freeByTiles_5 : decode cX2_freeByTiles 5 = .ok (.getfield 40, 3) := by decide +kernel
theorem dX2_freeByTiles_8 : decode cX2_freeByTiles 8 = .ok (.imul, 1) := by decide +kernel
theorem dX2_freeByTiles_9 : decode cX2_freeByTiles 9 = .ok (.isub, 1) := by decide +kernel
theorem dX2_freeByTiles_10 : decode cX2_freeByTiles 10 = .ok (.ireturn, 1) := by decide +kernel
theorem dX2_numberOfReach_0 : decode cX2_numberOfReach 0 = .ok (.iload_n 1, 1) := by decide +kernel
theorem dX2_numberOfReach_1 : decode cX2_numberOfReach 1 = .ok (.tableswitch 65 0 4 #[35, 41, 47, 53, 59], 35) := by decide +kernel
theorem dX2_numberOfReach_36 : decode cX2_numberOfReach 36 = .ok (.aload_n 0, 1) := by decide +kernel
theorem dX2_numberOfReach_37 : decode cX2_numberOfReach 37 = .ok (.iconst 1, 1) := by decide +kernel
theorem dX2_numberOfReach_38 : decode cX2_numberOfReach 38 = .ok (.invokevirtual 82, 3) := by decide +kernel
theorem dX2_numberOfReach_41 : decode cX2_numberOfReach 41 = .ok (.ireturn, 1) := by decide +kernel
theorem dX2_numberOfReach_42 : decode cX2_numberOfReach 42 = .ok (.aload_n 0, 1) := by decide +kernel
theorem dX2_numberOfReach_43 : decode cX2_numberOfReach 43 = .ok (.iconst 1, 1) := by decide +kernel
theorem dX2_numberOfReach_44 : decode cX2_numberOfReach 44 = .ok (.invokevirtual 86, 3) := by decide +kernel
theorem dX2_numberOfReach_47 : decode cX2_numberOfReach 47 = .ok (.ireturn, 1) := by decide +kernel
theorem dX2_numberOfReach_48 : decode cX2_numberOfReach 48 = .ok (.aload_n 0, 1) := by decide +kernel
theorem dX2_numberOfReach_49 : decode cX2_numberOfReach 49 = .ok (.iconst 0, 1) := by decide +kernel
theorem dX2_numberOfReach_50 : decode cX2_numberOfReach 50 = .ok (.invokevirtual 82, 3) := by decide +kernel
theorem dX2_numberOfReach_53 : decode cX2_numberOfReach 53 = .ok (.ireturn, 1) := by decide +kernel
theorem dX2_numberOfReach_54 : decode cX2_numberOfReach 54 = .ok (.aload_n 0, 1) := by decide +kernel
theorem dX2_numberOfReach_55 : decode cX2_numberOfReach 55 = .ok (.iconst 0, 1) := by decide +kernel
theorem dX2_numberOfReach_56 : decode cX2_numberOfReach 56 = .ok (.invokevirtual 86, 3) := by decide +kernel
theorem dX2_numberOfReach_59 : decode cX2_numberOfReach 59 = .ok (.ireturn, 1) := by decide +kernel
theorem dX2_numberOfReach_60 : decode cX2_numberOfReach 60 = .ok (.aload_n 0, 1) := by decide +kernel
theorem dX2_numberOfReach_61 : decode cX2_numberOfReach 61 = .ok (.iconst 1, 1) := by decide +kernel
theorem dX2_numberOfReach_62 : decode cX2_numberOfReach 62 = .ok (.invokevirtual 89, 3) := by decide +kernel
theorem dX2_numberOfReach_65 : decode cX2_numberOfReach 65 = .ok (.ireturn, 1) := by decide +kernel
theorem dX2_numberOfReach_66 : decode cX2_numberOfReach 66 = .ok (.aload_n 0, 1) := by decide +kernel
theorem dX2_numberOfReach_67 : decode cX2_numberOfReach 67 = .ok (.iconst 3, 1) := by decide +kernel
theorem dX2_numberOfReach_68 : decode cX2_numberOfReach 68 = .ok (.invokevirtual 89, 3) := by decide +kernel
theorem dX2_numberOfReach_71 : decode cX2_numberOfReach 71 = .ok (.ireturn, 1) := by decide +kernel
theorem dX2_least_0 : decode cX2_least 0 = .ok (.iconst (-1), 1) := by decide +kernel
theorem dX2_least_1 : decode cX2_least 1 = .ok (.istore_n 2, 1) := by decide +kernel
theorem dX2_least_2 : decode cX2_least 2 = .ok (.iconst 0, 1) := by decide +kernel
theorem dX2_least_3 : decode cX2_least 3 = .ok (.istore_n 3, 1) := by decide +kernel
theorem dX2_least_4 : decode cX2_least 4 = .ok (.iload_n 3, 1) := by decide +kernel
theorem dX2_least_5 : decode cX2_least 5 = .ok (.aload_n 0, 1) := by decide +kernel
theorem dX2_least_6 : decode cX2_least 6 = .ok (.getfield 40, 3) := by decide +kernel
theorem dX2_least_9 : decode cX2_least 9 = .ok (.if_icmp .ge 63, 3) := by decide +kernel
theorem dX2_least_12 : decode cX2_least 12 = .ok (.iload_n 3, 1) := by decide +kernel
theorem dX2_least_13 : decode cX2_least 13 = .ok (.bipush 28, 2) := by decide +kernel
theorem dX2_least_15 : decode cX2_least 15 = .ok (.if_icmp .ge 57, 3) := by decide +kernel
theorem dX2_least_18 : decode cX2_least 18 = .ok (.iconst 0, 1) := by decide +kernel
theorem dX2_least_19 : decode cX2_least 19 = .ok (.aload_n 0, 1) := by decide +kernel
theorem dX2_least_20 : decode cX2_least 20 = .ok (.iload_n 3, 1) := by decide +kernel
theorem dX2_least_21 : decode cX2_least 21 = .ok (.iload_n 1, 1) := by decide +kernel
theorem dX2_least_22 : decode cX2_least 22 = .ok (.invokevirtual 92, 3) := by decide +kernel
theorem dX2_least_25 : decode cX2_least 25 = .ok (.invokestatic 96, 3) := by decide +kernel
theorem dX2_least_28 : decode cX2_least 28 = .ok (.iload_n 1, 1) := by decide +kernel
theorem dX2_least_29 : decode cX2_least 29 = .ok (.ifCond .eq 12, 3) := by decide +kernel
theorem dX2_least_32 : decode cX2_least 32 = .ok (.aload_n 0, 1) := by decide +kernel
theorem dX2_least_33 : decode cX2_least 33 = .ok (.getfield 25, 3) := by decide +kernel
theorem dX2_least_36 : decode cX2_least 36 = .ok (.iload_n 3, 1) := by decide +kernel
theorem dX2_least_37 : decode cX2_least 37 = .ok (.iaload, 1) := by decide +kernel
theorem dX2_least_38 : decode cX2_least 38 = .ok (.goto 9, 3) := by decide +kernel
theorem dX2_least_41 : decode cX2_least 41 = .ok (.aload_n 0, 1) := by decide +kernel
theorem dX2_least_42 : decode cX2_least 42 = .ok (.getfield 28, 3) := by decide +kernel
theorem dX2_least_45 : decode cX2_least 45 = .ok (.iload_n 3, 1) := by decide +kernel
theorem dX2_least_46 : decode cX2_least 46 = .ok (.iaload, 1) := by decide +kernel
theorem dX2_least_47 : decode cX2_least 47 = .ok (.iadd, 1) := by decide +kernel
theorem dX2_least_48 : decode cX2_least 48 = .ok (.istore 4, 2) := by decide +kernel
theorem dX2_least_50 : decode cX2_least 50 = .ok (.iload_n 3, 1) := by decide +kernel
theorem dX2_least_51 : decode cX2_least 51 = .ok (.ifCond .ne 8, 3) := by decide +kernel
theorem dX2_least_54 : decode cX2_least 54 = .ok (.iload 4, 2) := by decide +kernel
theorem dX2_least_56 : decode cX2_least 56 = .ok (.goto 9, 3) := by decide +kernel
theorem dX2_least_59 : decode cX2_least 59 = .ok (.iload_n 2, 1) := by decide +kernel
theorem dX2_least_60 : decode cX2_least 60 = .ok (.iload 4, 2) := by decide +kernel
theorem dX2_least_62 : decode cX2_least 62 = .ok (.invokestatic 96, 3) := by decide +kernel
theorem dX2_least_65 : decode cX2_least 65 = .ok (.istore_n 2, 1) := by decide +kernel
theorem dX2_least_66 : decode cX2_least 66 = .ok (.iinc 3 1, 3) := by decide +kernel
theorem dX2_least_69 : decode cX2_least 69 = .ok (.goto (-65), 3) := by decide +kernel
theorem dX2_least_72 : decode cX2_least 72 = .ok (.iload_n 2, 1) := by decide +kernel
theorem dX2_least_73 : decode cX2_least 73 = .ok (.ireturn, 1) := by decide +kernel
theorem dX2_greatest_0 : decode cX2_greatest 0 = .ok (.iconst (-1), 1) := by decide +kernel
theorem dX2_greatest_1 : decode cX2_greatest 1 = .ok (.istore_n 2, 1) := by decide +kernel
theorem dX2_greatest_2 : decode cX2_greatest 2 = .ok (.iconst 0, 1) := by decide +kernel
theorem dX2_greatest_3 : decode cX2_greatest 3 = .ok (.istore_n 3, 1) := by decide +kernel
theorem dX2_greatest_4 : decode cX2_greatest 4 = .ok (.iload_n 3, 1) := by decide +kernel
theorem dX2_greatest_5 : decode cX2_greatest 5 = .ok (.aload_n 0, 1) := by decide +kernel
theorem dX2_greatest_6 : decode cX2_greatest 6 = .ok (.getfield 40, 3) := by decide +kernel
theorem dX2_greatest_9 : decode cX2_greatest 9 = .ok (.if_icmp .ge 63, 3) := by decide +kernel
theorem dX2_greatest_12 : decode cX2_greatest 12 = .ok (.iload_n 3, 1) := by decide +kernel
theorem dX2_greatest_13 : decode cX2_greatest 13 = .ok (.bipush 28, 2) := by decide +kernel
theorem dX2_greatest_15 : decode cX2_greatest 15 = .ok (.if_icmp .ge 57, 3) := by decide +kernel
theorem dX2_greatest_18 : decode cX2_greatest 18 = .ok (.iconst 0, 1) := by decide +kernel
theorem dX2_greatest_19 : decode cX2_greatest 19 = .ok (.aload_n 0, 1) := by decide +kernel
theorem dX2_greatest_20 : decode cX2_greatest 20 = .ok (.iload_n 3, 1) := by decide +kernel
theorem dX2_greatest_21 : decode cX2_greatest 21 = .ok (.iload_n 1, 1) := by decide +kernel
theorem dX2_greatest_22 : decode cX2_greatest 22 = .ok (.invokevirtual 92, 3) := by decide +kernel
theorem dX2_greatest_25 : decode cX2_greatest 25 = .ok (.invokestatic 102, 3) := by decide +kernel
theorem dX2_greatest_28 : decode cX2_greatest 28 = .ok (.iload_n 1, 1) := by decide +kernel
theorem dX2_greatest_29 : decode cX2_greatest 29 = .ok (.ifCond .eq 12, 3) := by decide +kernel
theorem dX2_greatest_32 : decode cX2_greatest 32 = .ok (.aload_n 0, 1) := by decide +kernel
theorem dX2_greatest_33 : decode cX2_greatest 33 = .ok (.getfield 25, 3) := by decide +kernel
theorem dX2_greatest_36 : decode cX2_greatest 36 = .ok (.iload_n 3, 1) := by decide +kernel
theorem dX2_greatest_37 : decode cX2_greatest 37 = .ok (.iaload, 1) := by decide +kernel
theorem dX2_greatest_38 : decode cX2_greatest 38 = .ok (.goto 9, 3) := by decide +kernel
theorem dX2_greatest_41 : decode cX2_greatest 41 = .ok (.aload_n 0, 1) := by decide +kernel
theorem dX2_greatest_42 : decode cX2_greatest 42 = .ok (.getfield 28, 3) := by decide +kernel
theorem dX2_greatest_45 : decode cX2_greatest 45 = .ok (.iload_n 3, 1) := by decide +kernel
theorem dX2_greatest_46 : decode cX2_greatest 46 = .ok (.iaload, 1) := by decide +kernel
theorem dX2_greatest_47 : decode cX2_greatest 47 = .ok (.iadd, 1) := by decide +kernel
theorem dX2_greatest_48 : decode cX2_greatest 48 = .ok (.istore 4, 2) := by decide +kernel
theorem dX2_greatest_50 : decode cX2_greatest 50 = .ok (.iload_n 3, 1) := by decide +kernel
theorem dX2_greatest_51 : decode cX2_greatest 51 = .ok (.ifCond .ne 8, 3) := by decide +kernel
theorem dX2_greatest_54 : decode cX2_greatest 54 = .ok (.iload 4, 2) := by decide +kernel
theorem dX2_greatest_56 : decode cX2_greatest 56 = .ok (.goto 9, 3) := by decide +kernel
theorem dX2_greatest_59 : decode cX2_greatest 59 = .ok (.iload_n 2, 1) := by decide +kernel
theorem dX2_greatest_60 : decode cX2_greatest 60 = .ok (.iload 4, 2) := by decide +kernel
theorem dX2_greatest_62 : decode cX2_greatest 62 = .ok (.invokestatic 102, 3) := by decide +kernel
theorem dX2_greatest_65 : decode cX2_greatest 65 = .ok (.istore_n 2, 1) := by decide +kernel
theorem dX2_greatest_66 : decode cX2_greatest 66 = .ok (.iinc 3 1, 3) := by decide +kernel
theorem dX2_greatest_69 : decode cX2_greatest 69 = .ok (.goto (-65), 3) := by decide +kernel
theorem dX2_greatest_72 : decode cX2_greatest 72 = .ok (.iload_n 2, 1) := by decide +kernel
theorem dX2_greatest_73 : decode cX2_greatest 73 = .ok (.ireturn, 1) := by decide +kernel
theorem dX2_step_0 : decode cX2_step 0 = .ok (.iload_n 1, 1) := by decide +kernel
theorem dX2_step_1 : decode cX2_step 1 = .ok (.ifCond .lt 9, 3) := by decide +kernel
theorem dX2_step_4 : decode cX2_step 4 = .ok (.iload_n 1, 1) := by decide +kernel
theorem dX2_step_5 : decode cX2_step 5 = .ok (.bipush 28, 2) := by decide +kernel
theorem dX2_step_7 : decode cX2_step 7 = .ok (.if_icmp .lt 5, 3) := by decide +kernel
theorem dX2_step_10 : decode cX2_step 10 = .ok (.iconst 0, 1) := by decide +kernel
theorem dX2_step_11 : decode cX2_step 11 = .ok (.ireturn, 1) := by decide +kernel
theorem dX2_step_12 : decode cX2_step 12 = .ok (.iload_n 2, 1) := by decide +kernel
theorem dX2_step_13 : decode cX2_step 13 = .ok (.ifCond .eq 15, 3) := by decide +kernel
theorem dX2_step_16 : decode cX2_step 16 = .ok (.aload_n 0, 1) := by decide +kernel
theorem dX2_step_17 : decode cX2_step 17 = .ok (.getfield 31, 3) := by decide +kernel
theorem dX2_step_20 : decode cX2_step 20 = .ok (.iload_n 1, 1) := by decide +kernel
theorem dX2_step_21 : decode cX2_step 21 = .ok (.iaload, 1) := by decide +kernel
theorem dX2_step_22 : decode cX2_step 22 = .ok (.invokestatic 69, 3) := by decide +kernel
theorem dX2_step_25 : decode cX2_step 25 = .ok (.goto 12, 3) := by decide +kernel
theorem dX2_step_28 : decode cX2_step 28 = .ok (.aload_n 0, 1) := by decide +kernel
theorem dX2_step_29 : decode cX2_step 29 = .ok (.getfield 31, 3) := by decide +kernel
theorem dX2_step_32 : decode cX2_step 32 = .ok (.iload_n 1, 1) := by decide +kernel
theorem dX2_step_33 : decode cX2_step 33 = .ok (.iaload, 1) := by decide +kernel
theorem dX2_step_34 : decode cX2_step 34 = .ok (.invokestatic 72, 3) := by decide +kernel
theorem dX2_step_37 : decode cX2_step 37 = .ok (.ireturn, 1) := by decide +kernel
theorem dX2_turnsTo_0 : decode cX2_turnsTo 0 = .ok (.iconst 0, 1) := by decide +kernel
theorem dX2_turnsTo_1 : decode cX2_turnsTo 1 = .ok (.istore_n 2, 1) := by decide +kernel
theorem dX2_turnsTo_2 : decode cX2_turnsTo 2 = .ok (.iconst 0, 1) := by decide +kernel
theorem dX2_turnsTo_3 : decode cX2_turnsTo 3 = .ok (.istore_n 3, 1) := by decide +kernel
theorem dX2_turnsTo_4 : decode cX2_turnsTo 4 = .ok (.iload_n 3, 1) := by decide +kernel
theorem dX2_turnsTo_5 : decode cX2_turnsTo 5 = .ok (.aload_n 0, 1) := by decide +kernel
theorem dX2_turnsTo_6 : decode cX2_turnsTo 6 = .ok (.getfield 40, 3) := by decide +kernel
theorem dX2_turnsTo_9 : decode cX2_turnsTo 9 = .ok (.if_icmp .ge 68, 3) := by decide +kernel
theorem dX2_turnsTo_12 : decode cX2_turnsTo 12 = .ok (.iload_n 3, 1) := by decide +kernel
theorem dX2_turnsTo_13 : decode cX2_turnsTo 13 = .ok (.bipush 28, 2) := by decide +kernel
theorem dX2_turnsTo_15 : decode cX2_turnsTo 15 = .ok (.if_icmp .ge 62, 3) := by decide +kernel
theorem dX2_turnsTo_18 : decode cX2_turnsTo 18 = .ok (.iload_n 3, 1) := by decide +kernel
theorem dX2_turnsTo_19 : decode cX2_turnsTo 19 = .ok (.iconst 1, 1) := by decide +kernel
theorem dX2_turnsTo_20 : decode cX2_turnsTo 20 = .ok (.iadd, 1) := by decide +kernel
theorem dX2_turnsTo_21 : decode cX2_turnsTo 21 = .ok (.aload_n 0, 1) := by decide +kernel
theorem dX2_turnsTo_22 : decode cX2_turnsTo 22 = .ok (.getfield 40, 3) := by decide +kernel
theorem dX2_turnsTo_25 : decode cX2_turnsTo 25 = .ok (.if_icmp .ge 22, 3) := by decide +kernel
theorem dX2_turnsTo_28 : decode cX2_turnsTo 28 = .ok (.iload_n 3, 1) := by decide +kernel
theorem dX2_turnsTo_29 : decode cX2_turnsTo 29 = .ok (.iconst 1, 1) := by decide +kernel
theorem dX2_turnsTo_30 : decode cX2_turnsTo 30 = .ok (.iadd, 1) := by decide +kernel
theorem dX2_turnsTo_31 : decode cX2_turnsTo 31 = .ok (.bipush 28, 2) := by decide +kernel
theorem dX2_turnsTo_33 : decode cX2_turnsTo 33 = .ok (.if_icmp .ge 14, 3) := by decide +kernel
theorem dX2_turnsTo_36 : decode cX2_turnsTo 36 = .ok (.aload_n 0, 1) := by decide +kernel
theorem dX2_turnsTo_37 : decode cX2_turnsTo 37 = .ok (.getfield 31, 3) := by decide +kernel
theorem dX2_turnsTo_40 : decode cX2_turnsTo 40 = .ok (.iload_n 3, 1) := by decide +kernel
theorem dX2_turnsTo_41 : decode cX2_turnsTo 41 = .ok (.iconst 1, 1) := by decide +kernel
theorem dX2_turnsTo_42 : decode cX2_turnsTo 42 = .ok (.iadd, 1) := by decide +kernel
theorem dX2_turnsTo_43 : decode cX2_turnsTo 43 = .ok (.iaload, 1) := by decide +kernel
theorem dX2_turnsTo_44 : decode cX2_turnsTo 44 = .ok (.goto 7, 3) := by decide +kernel
theorem dX2_turnsTo_47 : decode cX2_turnsTo 47 = .ok (.aload_n 0, 1) := by decide +kernel
theorem dX2_turnsTo_48 : decode cX2_turnsTo 48 = .ok (.getfield 43, 3) := by decide +kernel
theorem dX2_turnsTo_51 : decode cX2_turnsTo 51 = .ok (.istore 4, 2) := by decide +kernel
theorem dX2_turnsTo_53 : decode cX2_turnsTo 53 = .ok (.iload 4, 2) := by decide +kernel
theorem dX2_turnsTo_55 : decode cX2_turnsTo 55 = .ok (.aload_n 0, 1) := by decide +kernel
theorem dX2_turnsTo_56 : decode cX2_turnsTo 56 = .ok (.getfield 31, 3) := by decide +kernel
theorem dX2_turnsTo_59 : decode cX2_turnsTo 59 = .ok (.iload_n 3, 1) := by decide +kernel
theorem dX2_turnsTo_60 : decode cX2_turnsTo 60 = .ok (.iaload, 1) := by decide +kernel
theorem dX2_turnsTo_61 : decode cX2_turnsTo 61 = .ok (.isub, 1) := by decide +kernel
theorem dX2_turnsTo_62 : decode cX2_turnsTo 62 = .ok (.iconst 3, 1) := by decide +kernel
theorem dX2_turnsTo_63 : decode cX2_turnsTo 63 = .ok (.iand, 1) := by decide +kernel
theorem dX2_turnsTo_64 : decode cX2_turnsTo 64 = .ok (.iload_n 1, 1) := by decide +kernel
theorem dX2_turnsTo_65 : decode cX2_turnsTo 65 = .ok (.if_icmp .ne 6, 3) := by decide +kernel
theorem dX2_turnsTo_68 : decode cX2_turnsTo 68 = .ok (.iinc 2 1, 3) := by decide +kernel
theorem dX2_turnsTo_71 : decode cX2_turnsTo 71 = .ok (.iinc 3 1, 3) := by decide +kernel
theorem dX2_turnsTo_74 : decode cX2_turnsTo 74 = .ok (.goto (-70), 3) := by decide +kernel
theorem dX2_turnsTo_77 : decode cX2_turnsTo 77 = .ok (.iload_n 2, 1) := by decide +kernel
theorem dX2_turnsTo_78 : decode cX2_turnsTo 78 = .ok (.ireturn, 1) := by decide +kernel
theorem dX2_isFree_0 : decode cX2_isFree 0 = .ok (.iload_n 1, 1) := by decide +kernel
theorem dX2_isFree_1 : decode cX2_isFree 1 = .ok (.ifCond .lt 36, 3) := by decide +kernel
theorem dX2_isFree_4 : decode cX2_isFree 4 = .ok (.iload_n 1, 1) := by decide +kernel
theorem dX2_isFree_5 : decode cX2_isFree 5 = .ok (.bipush 25, 2) := by decide +kernel
theorem dX2_isFree_7 : decode cX2_isFree 7 = .ok (.if_icmp .ge 30, 3) := by decide +kernel
theorem dX2_isFree_10 : decode cX2_isFree 10 = .ok (.iload_n 2, 1) := by decide +kernel
theorem dX2_isFree_11 : decode cX2_isFree 11 = .ok (.ifCond .lt 26, 3) := by decide +kernel
theorem dX2_isFree_14 : decode cX2_isFree 14 = .ok (.iload_n 2, 1) := by decide +kernel
theorem dX2_isFree_15 : decode cX2_isFree 15 = .ok (.bipush 25, 2) := by decide +kernel
theorem dX2_isFree_17 : decode cX2_isFree 17 = .ok (.if_icmp .ge 20, 3) := by decide +kernel
theorem dX2_isFree_20 : decode cX2_isFree 20 = .ok (.aload_n 0, 1) := by decide +kernel
theorem dX2_isFree_21 : decode cX2_isFree 21 = .ok (.getfield 37, 3) := by decide +kernel
theorem dX2_isFree_24 : decode cX2_isFree 24 = .ok (.iload_n 2, 1) := by decide +kernel
theorem dX2_isFree_25 : decode cX2_isFree 25 = .ok (.iaload, 1) := by decide +kernel
theorem dX2_isFree_26 : decode cX2_isFree 26 = .ok (.iload_n 1, 1) := by decide +kernel
theorem dX2_isFree_27 : decode cX2_isFree 27 = .ok (.iushr, 1) := by decide +kernel
theorem dX2_isFree_28 : decode cX2_isFree 28 = .ok (.iconst 1, 1) := by decide +kernel
theorem dX2_isFree_29 : decode cX2_isFree 29 = .ok (.iand, 1) := by decide +kernel
theorem dX2_isFree_30 : decode cX2_isFree 30 = .ok (.ifCond .ne 7, 3) := by decide +kernel
theorem dX2_isFree_33 : decode cX2_isFree 33 = .ok (.iconst 1, 1) := by decide +kernel
theorem dX2_isFree_34 : decode cX2_isFree 34 = .ok (.goto 4, 3) := by decide +kernel
theorem dX2_isFree_37 : decode cX2_isFree 37 = .ok (.iconst 0, 1) := by decide +kernel
theorem dX2_isFree_38 : decode cX2_isFree 38 = .ok (.ireturn, 1) := by decide +kernel
theorem dX2_cover_0 : decode cX2_cover 0 = .ok (.iload_n 1, 1) := by decide +kernel
theorem dX2_cover_1 : decode cX2_cover 1 = .ok (.iload_n 2, 1) := by decide +kernel
theorem dX2_cover_2 : decode cX2_cover 2 = .ok (.invokestatic 105, 3) := by decide +kernel
theorem dX2_cover_5 : decode cX2_cover 5 = .ok (.ifCond .eq 15, 3) := by decide +kernel
theorem dX2_cover_8 : decode cX2_cover 8 = .ok (.aload_n 0, 1) := by decide +kernel
theorem dX2_cover_9 : decode cX2_cover 9 = .ok (.getfield 37, 3) := by decide +kernel
theorem dX2_cover_12 : decode cX2_cover 12 = .ok (.iload_n 2, 1) := by decide +kernel
theorem dX2_cover_13 : decode cX2_cover 13 = .ok (.dup2, 1) := by decide +kernel
theorem dX2_cover_14 : decode cX2_cover 14 = .ok (.iaload, 1) := by decide +kernel
theorem dX2_cover_15 : decode cX2_cover 15 = .ok (.iconst 1, 1) := by decide +kernel
theorem dX2_cover_16 : decode cX2_cover 16 = .ok (.iload_n 1, 1) := by decide +kernel
theorem dX2_cover_17 : decode cX2_cover 17 = .ok (.ishl, 1) := by decide +kernel
theorem dX2_cover_18 : decode cX2_cover 18 = .ok (.ior, 1) := by decide +kernel
theorem dX2_cover_19 : decode cX2_cover 19 = .ok (.iastore, 1) := by decide +kernel
theorem dX2_cover_20 : decode cX2_cover 20 = .ok (.return_, 1) := by decide +kernel
theorem dX3_init_0 : decode cX3_init 0 = .ok (.aload_n 0, 1) := by decide +kernel
theorem dX3_init_1 : decode cX3_init 1 = .ok (.invokespecial 1, 3) := by decide +kernel
theorem dX3_init_4 : decode cX3_init 4 = .ok (.aload_n 0, 1) := by decide +kernel
theorem dX3_init_5 : decode cX3_init 5 = .ok (.new 7, 3) := by decide +kernel
theorem dX3_init_8 : decode cX3_init 8 = .ok (.dup, 1) := by decide +kernel
theorem dX3_init_9 : decode cX3_init 9 = .ok (.invokespecial 9, 3) := by decide +kernel
theorem dX3_init_12 : decode cX3_init 12 = .ok (.putfield 10, 3) := by decide +kernel
theorem dX3_init_15 : decode cX3_init 15 = .ok (.return_, 1) := by decide +kernel
theorem dX3_isFull_0 : decode cX3_isFull 0 = .ok (.aload_n 0, 1) := by decide +kernel
theorem dX3_isFull_1 : decode cX3_isFull 1 = .ok (.getfield 16, 3) := by decide +kernel
theorem dX3_isFull_4 : decode cX3_isFull 4 = .ok (.ireturn, 1) := by decide +kernel
theorem dX3_becomeEmpty_0 : decode cX3_becomeEmpty 0 = .ok (.aload_n 0, 1) := by decide +kernel
theorem dX3_becomeEmpty_1 : decode cX3_becomeEmpty 1 = .ok (.iconst 0, 1) := by decide +kernel
theorem dX3_becomeEmpty_2 : decode cX3_becomeEmpty 2 = .ok (.putfield 16, 3) := by decide +kernel
theorem dX3_becomeEmpty_5 : decode cX3_becomeEmpty 5 = .ok (.return_, 1) := by decide +kernel
theorem dX3_keep_0 : decode cX3_keep 0 = .ok (.aload_n 0, 1) := by decide +kernel
theorem dX3_keep_1 : decode cX3_keep 1 = .ok (.getfield 10, 3) := by decide +kernel
theorem dX3_keep_4 : decode cX3_keep 4 = .ok (.aload_n 1, 1) := by decide +kernel
theorem dX3_keep_5 : decode cX3_keep 5 = .ok (.invokevirtual 20, 3) := by decide +kernel
theorem dX3_keep_8 : decode cX3_keep 8 = .ok (.aload_n 0, 1) := by decide +kernel
theorem dX3_keep_9 : decode cX3_keep 9 = .ok (.iconst 1, 1) := by decide +kernel
theorem dX3_keep_10 : decode cX3_keep 10 = .ok (.putfield 16, 3) := by decide +kernel
theorem dX3_keep_13 : decode cX3_keep 13 = .ok (.return_, 1) := by decide +kernel
theorem dX3_giveBack_0 : decode cX3_giveBack 0 = .ok (.aload_n 1, 1) := by decide +kernel
theorem dX3_giveBack_1 : decode cX3_giveBack 1 = .ok (.aload_n 0, 1) := by decide +kernel
theorem dX3_giveBack_2 : decode cX3_giveBack 2 = .ok (.getfield 10, 3) := by decide +kernel
theorem dX3_giveBack_5 : decode cX3_giveBack 5 = .ok (.invokevirtual 20, 3) := by decide +kernel
theorem dX3_giveBack_8 : decode cX3_giveBack 8 = .ok (.return_, 1) := by decide +kernel
theorem dX4_init_0 : decode cX4_init 0 = .ok (.aload_n 0, 1) := by decide +kernel
theorem dX4_init_1 : decode cX4_init 1 = .ok (.invokespecial 3, 3) := by decide +kernel
theorem dX4_init_4 : decode cX4_init 4 = .ok (.aload_n 0, 1) := by decide +kernel
theorem dX4_init_5 : decode cX4_init 5 = .ok (.bipush 120, 2) := by decide +kernel
theorem dX4_init_7 : decode cX4_init 7 = .ok (.newarray .int, 2) := by decide +kernel
theorem dX4_init_9 : decode cX4_init 9 = .ok (.putfield 11, 3) := by decide +kernel
theorem dX4_init_12 : decode cX4_init 12 = .ok (.return_, 1) := by decide +kernel
theorem dX4_isFull_0 : decode cX4_isFull 0 = .ok (.aload_n 0, 1) := by decide +kernel
theorem dX4_isFull_1 : decode cX4_isFull 1 = .ok (.getfield 15, 3) := by decide +kernel
theorem dX4_isFull_4 : decode cX4_isFull 4 = .ok (.bipush 120, 2) := by decide +kernel
theorem dX4_isFull_6 : decode cX4_isFull 6 = .ok (.if_icmp .lt 7, 3) := by decide +kernel
theorem dX4_isFull_9 : decode cX4_isFull 9 = .ok (.iconst 1, 1) := by decide +kernel
theorem dX4_isFull_10 : decode cX4_isFull 10 = .ok (.goto 4, 3) := by decide +kernel
theorem dX4_isFull_13 : decode cX4_isFull 13 = .ok (.iconst 0, 1) := by decide +kernel
theorem dX4_isFull_14 : decode cX4_isFull 14 = .ok (.ireturn, 1) := by decide +kernel
theorem dX4_size_0 : decode cX4_size 0 = .ok (.aload_n 0, 1) := by decide +kernel
theorem dX4_size_1 : decode cX4_size 1 = .ok (.getfield 15, 3) := by decide +kernel
theorem dX4_size_4 : decode cX4_size 4 = .ok (.ireturn, 1) := by decide +kernel
theorem dX4_add_0 : decode cX4_add 0 = .ok (.aload_n 0, 1) := by decide +kernel
theorem dX4_add_1 : decode cX4_add 1 = .ok (.getfield 15, 3) := by decide +kernel
theorem dX4_add_4 : decode cX4_add 4 = .ok (.ifCond .lt 32, 3) := by decide +kernel
theorem dX4_add_7 : decode cX4_add 7 = .ok (.aload_n 0, 1) := by decide +kernel
theorem dX4_add_8 : decode cX4_add 8 = .ok (.getfield 15, 3) := by decide +kernel
theorem dX4_add_11 : decode cX4_add 11 = .ok (.bipush 120, 2) := by decide +kernel
theorem dX4_add_13 : decode cX4_add 13 = .ok (.if_icmp .ge 23, 3) := by decide +kernel
theorem dX4_add_16 : decode cX4_add 16 = .ok (.aload_n 0, 1) := by decide +kernel
theorem dX4_add_17 : decode cX4_add 17 = .ok (.getfield 11, 3) := by decide +kernel
theorem dX4_add_20 : decode cX4_add 20 = .ok (.aload_n 0, 1) := by decide +kernel
theorem dX4_add_21 : decode cX4_add 21 = .ok (.getfield 15, 3) := by decide +kernel
theorem dX4_add_24 : decode cX4_add 24 = .ok (.iload_n 1, 1) := by decide +kernel
theorem dX4_add_25 : decode cX4_add 25 = .ok (.iastore, 1) := by decide +kernel
theorem dX4_add_26 : decode cX4_add 26 = .ok (.aload_n 0, 1) := by decide +kernel
theorem dX4_add_27 : decode cX4_add 27 = .ok (.dup, 1) := by decide +kernel
theorem dX4_add_28 : decode cX4_add 28 = .ok (.getfield 15, 3) := by decide +kernel
theorem dX4_add_31 : decode cX4_add 31 = .ok (.iconst 1, 1) := by decide +kernel
theorem dX4_add_32 : decode cX4_add 32 = .ok (.iadd, 1) := by decide +kernel
theorem dX4_add_33 : decode cX4_add 33 = .ok (.putfield 15, 3) := by decide +kernel
theorem dX4_add_36 : decode cX4_add 36 = .ok (.aload_n 0, 1) := by decide +kernel
theorem dX4_add_37 : decode cX4_add 37 = .ok (.getfield 15, 3) := by decide +kernel
theorem dX4_add_40 : decode cX4_add 40 = .ok (.ireturn, 1) := by decide +kernel
theorem dX4_becomeEmpty_0 : decode cX4_becomeEmpty 0 = .ok (.aload_n 0, 1) := by decide +kernel
theorem dX4_becomeEmpty_1 : decode cX4_becomeEmpty 1 = .ok (.getfield 15, 3) := by decide +kernel
theorem dX4_becomeEmpty_4 : decode cX4_becomeEmpty 4 = .ok (.istore_n 1, 1) := by decide +kernel
theorem dX4_becomeEmpty_5 : decode cX4_becomeEmpty 5 = .ok (.aload_n 0, 1) := by decide +kernel
theorem dX4_becomeEmpty_6 : decode cX4_becomeEmpty 6 = .ok (.iconst 0, 1) := by decide +kernel
theorem dX4_becomeEmpty_7 : decode cX4_becomeEmpty 7 = .ok (.putfield 15, 3) := by decide +kernel
theorem dX4_becomeEmpty_10 : decode cX4_becomeEmpty 10 = .ok (.iload_n 1, 1) := by decide +kernel
theorem dX4_becomeEmpty_11 : decode cX4_becomeEmpty 11 = .ok (.ireturn, 1) := by decide +kernel
theorem dX4_signAt_0 : decode cX4_signAt 0 = .ok (.iload_n 1, 1) := by decide +kernel
theorem dX4_signAt_1 : decode cX4_signAt 1 = .ok (.ifCond .lt 26, 3) := by decide +kernel
theorem dX4_signAt_4 : decode cX4_signAt 4 = .ok (.iload_n 1, 1) := by decide +kernel
theorem dX4_signAt_5 : decode cX4_signAt 5 = .ok (.aload_n 0, 1) := by decide +kernel
theorem dX4_signAt_6 : decode cX4_signAt 6 = .ok (.getfield 15, 3) := by decide +kernel
theorem dX4_signAt_9 : decode cX4_signAt 9 = .ok (.if_icmp .ge 18, 3) := by decide +kernel
theorem dX4_signAt_12 : decode cX4_signAt 12 = .ok (.iload_n 1, 1) := by decide +kernel
theorem dX4_signAt_13 : decode cX4_signAt 13 = .ok (.bipush 120, 2) := by decide +kernel
theorem dX4_signAt_15 : decode cX4_signAt 15 = .ok (.if_icmp .ge 12, 3) := by decide +kernel
theorem dX4_signAt_18 : decode cX4_signAt 18 = .ok (.aload_n 0, 1) := by decide +kernel
theorem dX4_signAt_19 : decode cX4_signAt 19 = .ok (.getfield 11, 3) := by decide +kernel
theorem dX4_signAt_22 : decode cX4_signAt 22 = .ok (.iload_n 1, 1) := by decide +kernel
theorem dX4_signAt_23 : decode cX4_signAt 23 = .ok (.iaload, 1) := by decide +kernel
theorem dX4_signAt_24 : decode cX4_signAt 24 = .ok (.goto 4, 3) := by decide +kernel
theorem dX4_signAt_27 : decode cX4_signAt 27 = .ok (.iconst 0, 1) := by decide +kernel
theorem dX4_signAt_28 : decode cX4_signAt 28 = .ok (.ireturn, 1) := by decide +kernel
theorem dX4_digitAt_0 : decode cX4_digitAt 0 = .ok (.aload_n 0, 1) := by decide +kernel
theorem dX4_digitAt_1 : decode cX4_digitAt 1 = .ok (.iload_n 1, 1) := by decide +kernel
theorem dX4_digitAt_2 : decode cX4_digitAt 2 = .ok (.invokevirtual 19, 3) := by decide +kernel
theorem dX4_digitAt_5 : decode cX4_digitAt 5 = .ok (.bipush 48, 2) := by decide +kernel
theorem dX4_digitAt_7 : decode cX4_digitAt 7 = .ok (.isub, 1) := by decide +kernel
theorem dX4_digitAt_8 : decode cX4_digitAt 8 = .ok (.ireturn, 1) := by decide +kernel
theorem dX4_numberAt_0 : decode cX4_numberAt 0 = .ok (.bipush 10, 2) := by decide +kernel
theorem dX4_numberAt_2 : decode cX4_numberAt 2 = .ok (.aload_n 0, 1) := by decide +kernel
theorem dX4_numberAt_3 : decode cX4_numberAt 3 = .ok (.iload_n 1, 1) := by decide +kernel
theorem dX4_numberAt_4 : decode cX4_numberAt 4 = .ok (.invokevirtual 23, 3) := by decide +kernel
theorem dX4_numberAt_7 : decode cX4_numberAt 7 = .ok (.imul, 1) := by decide +kernel
theorem dX4_numberAt_8 : decode cX4_numberAt 8 = .ok (.aload_n 0, 1) := by decide +kernel
theorem dX4_numberAt_9 : decode cX4_numberAt 9 = .ok (.iload_n 1, 1) := by decide +kernel
theorem dX4_numberAt_10 : decode cX4_numberAt 10 = .ok (.iconst 1, 1) := by decide +kernel
theorem dX4_numberAt_11 : decode cX4_numberAt 11 = .ok (.iadd, 1) := by decide +kernel
theorem dX4_numberAt_12 : decode cX4_numberAt 12 = .ok (.invokevirtual 23, 3) := by decide +kernel
theorem dX4_numberAt_15 : decode cX4_numberAt 15 = .ok (.iadd, 1) := by decide +kernel
theorem dX4_numberAt_16 : decode cX4_numberAt 16 = .ok (.ireturn, 1) := by decide +kernel
theorem dX4_firstError_0 : decode cX4_firstError 0 = .ok (.aload_n 0, 1) := by decide +kernel
theorem dX4_firstError_1 : decode cX4_firstError 1 = .ok (.iconst 0, 1) := by decide +kernel
theorem dX4_firstError_2 : decode cX4_firstError 2 = .ok (.invokevirtual 19, 3) := by decide +kernel
theorem dX4_firstError_5 : decode cX4_firstError 5 = .ok (.bipush 78, 2) := by decide +kernel
theorem dX4_firstError_7 : decode cX4_firstError 7 = .ok (.if_icmp .eq 5, 3) := by decide +kernel
theorem dX4_firstError_10 : decode cX4_firstError 10 = .ok (.iconst 0, 1) := by decide +kernel
theorem dX4_firstError_11 : decode cX4_firstError 11 = .ok (.ireturn, 1) := by decide +kernel
theorem dX4_firstError_12 : decode cX4_firstError 12 = .ok (.iconst 1, 1) := by decide +kernel
theorem dX4_firstError_13 : decode cX4_firstError 13 = .ok (.istore_n 1, 1) := by decide +kernel
theorem dX4_firstError_14 : decode cX4_firstError 14 = .ok (.iconst 1, 1) := by decide +kernel
theorem dX4_firstError_15 : decode cX4_firstError 15 = .ok (.istore_n 2, 1) := by decide +kernel
theorem dX4_firstError_16 : decode cX4_firstError 16 = .ok (.iload_n 2, 1) := by decide +kernel
theorem dX4_firstError_17 : decode cX4_firstError 17 = .ok (.aload_n 0, 1) := by decide +kernel
theorem dX4_firstError_18 : decode cX4_firstError 18 = .ok (.getfield 15, 3) := by decide +kernel
theorem dX4_firstError_21 : decode cX4_firstError 21 = .ok (.if_icmp .ge 33, 3) := by decide +kernel
theorem dX4_firstError_24 : decode cX4_firstError 24 = .ok (.aload_n 0, 1) := by decide +kernel
theorem dX4_firstError_25 : decode cX4_firstError 25 = .ok (.iload_n 1, 1) := by decide +kernel
theorem dX4_firstError_26 : decode cX4_firstError 26 = .ok (.iload_n 2, 1) := by decide +kernel
theorem dX4_firstError_27 : decode cX4_firstError 27 = .ok (.invokevirtual 26, 3) := by decide +kernel
theorem dX4_firstError_30 : decode cX4_firstError 30 = .ok (.ifCond .ne 5, 3) := by decide +kernel
theorem dX4_firstError_33 : decode cX4_firstError 33 = .ok (.iload_n 2, 1) := by decide +kernel
theorem dX4_firstError_34 : decode cX4_firstError 34 = .ok (.ireturn, 1) := by decide +kernel
theorem dX4_firstError_35 : decode cX4_firstError 35 = .ok (.aload_n 0, 1) := by decide +kernel
theorem dX4_firstError_36 : decode cX4_firstError 36 = .ok (.iload_n 1, 1) := by decide +kernel
theorem dX4_firstError_37 : decode cX4_firstError 37 = .ok (.iload_n 2, 1) := by decide +kernel
theorem dX4_firstError_38 : decode cX4_firstError 38 = .ok (.invokevirtual 30, 3) := by decide +kernel
theorem dX4_firstError_41 : decode cX4_firstError 41 = .ok (.ifCond .eq 7, 3) := by decide +kernel
theorem dX4_firstError_44 : decode cX4_firstError 44 = .ok (.iload_n 2, 1) := by decide +kernel
theorem dX4_firstError_45 : decode cX4_firstError 45 = .ok (.iconst 1, 1) := by decide +kernel
theorem dX4_firstError_46 : decode cX4_firstError 46 = .ok (.iadd, 1) := by decide +kernel
theorem dX4_firstError_47 : decode cX4_firstError 47 = .ok (.istore_n 1, 1) := by decide +kernel
theorem dX4_firstError_48 : decode cX4_firstError 48 = .ok (.iinc 2 1, 3) := by decide +kernel
theorem dX4_firstError_51 : decode cX4_firstError 51 = .ok (.goto (-35), 3) := by decide +kernel
theorem dX4_firstError_54 : decode cX4_firstError 54 = .ok (.iload_n 1, 1) := by decide +kernel
theorem dX4_firstError_55 : decode cX4_firstError 55 = .ok (.aload_n 0, 1) := by decide +kernel
theorem dX4_firstError_56 : decode cX4_firstError 56 = .ok (.getfield 15, 3) := by decide +kernel
theorem dX4_firstError_59 : decode cX4_firstError 59 = .ok (.if_icmp .ne 7, 3) := by decide +kernel
theorem dX4_firstError_62 : decode cX4_firstError 62 = .ok (.iconst (-1), 1) := by decide +kernel
theorem dX4_firstError_63 : decode cX4_firstError 63 = .ok (.goto 7, 3) := by decide +kernel
theorem dX4_firstError_66 : decode cX4_firstError 66 = .ok (.aload_n 0, 1) := by decide +kernel
theorem dX4_firstError_67 : decode cX4_firstError 67 = .ok (.getfield 15, 3) := by decide +kernel
theorem dX4_firstError_70 : decode cX4_firstError 70 = .ok (.ireturn, 1) := by decide +kernel
theorem dX4_isEndOfCommand_0 : decode cX4_isEndOfCommand 0 = .ok (.iload_n 2, 1) := by decide +kernel
theorem dX4_isEndOfCommand_1 : decode cX4_isEndOfCommand 1 = .ok (.iload_n 1, 1) := by decide +kernel
theorem dX4_isEndOfCommand_2 : decode cX4_isEndOfCommand 2 = .ok (.isub, 1) := by decide +kernel
theorem dX4_isEndOfCommand_3 : decode cX4_isEndOfCommand 3 = .ok (.iconst 1, 1) := by decide +kernel
theorem dX4_isEndOfCommand_4 : decode cX4_isEndOfCommand 4 = .ok (.iadd, 1) := by decide +kernel
theorem dX4_isEndOfCommand_5 : decode cX4_isEndOfCommand 5 = .ok (.aload_n 0, 1) := by decide +kernel
theorem dX4_isEndOfCommand_6 : decode cX4_isEndOfCommand 6 = .ok (.iload_n 1, 1) := by decide +kernel
theorem dX4_isEndOfCommand_7 : decode cX4_isEndOfCommand 7 = .ok (.invokevirtual 19, 3) := by decide +kernel
theorem dX4_isEndOfCommand_10 : decode cX4_isEndOfCommand 10 = .ok (.invokestatic 33, 3) := by decide +kernel
theorem dX4_isEndOfCommand_13 : decode cX4_isEndOfCommand 13 = .ok (.if_icmp .ne 7, 3) := by decide +kernel
theorem dX4_isEndOfCommand_16 : decode cX4_isEndOfCommand 16 = .ok (.iconst 1, 1) := by decide +kernel
theorem dX4_isEndOfCommand_17 : decode cX4_isEndOfCommand 17 = .ok (.goto 4, 3) := by decide +kernel
theorem dX4_isEndOfCommand_20 : decode cX4_isEndOfCommand 20 = .ok (.iconst 0, 1) := by decide +kernel
theorem dX4_isEndOfCommand_21 : decode cX4_isEndOfCommand 21 = .ok (.ireturn, 1) := by decide +kernel
theorem dX4_lengthOfCommand_0 : decode cX4_lengthOfCommand 0 = .ok (.iload_n 0, 1) := by decide +kernel
theorem dX4_lengthOfCommand_1 : decode cX4_lengthOfCommand 1 = .ok (.lookupswitch 55 #[(98, 53), (100, 51), (112, 51), (115, 53), (119, 53)], 51) := by decide +kernel
theorem dX4_lengthOfCommand_52 : decode cX4_lengthOfCommand 52 = .ok (.iconst 4, 1) := by decide +kernel
theorem dX4_lengthOfCommand_53 : decode cX4_lengthOfCommand 53 = .ok (.ireturn, 1) := by decide +kernel
theorem dX4_lengthOfCommand_54 : decode cX4_lengthOfCommand 54 = .ok (.iconst 1, 1) := by decide +kernel
theorem dX4_lengthOfCommand_55 : decode cX4_lengthOfCommand 55 = .ok (.ireturn, 1) := by decide +kernel
theorem dX4_lengthOfCommand_56 : decode cX4_lengthOfCommand 56 = .ok (.iconst 0, 1) := by decide +kernel
theorem dX4_lengthOfCommand_57 : decode cX4_lengthOfCommand 57 = .ok (.ireturn, 1) := by decide +kernel
theorem dX4_isAllowed_0 : decode cX4_isAllowed 0 = .ok (.iload_n 2, 1) := by decide +kernel
theorem dX4_isAllowed_1 : decode cX4_isAllowed 1 = .ok (.iload_n 1, 1) := by decide +kernel
theorem dX4_isAllowed_2 : decode cX4_isAllowed 2 = .ok (.if_icmp .ne 20, 3) := by decide +kernel
theorem dX4_isAllowed_5 : decode cX4_isAllowed 5 = .ok (.aload_n 0, 1) := by decide +kernel
theorem dX4_isAllowed_6 : decode cX4_isAllowed 6 = .ok (.iload_n 2, 1) := by decide +kernel
theorem dX4_isAllowed_7 : decode cX4_isAllowed 7 = .ok (.invokevirtual 19, 3) := by decide +kernel
theorem dX4_isAllowed_10 : decode cX4_isAllowed 10 = .ok (.invokestatic 33, 3) := by decide +kernel
theorem dX4_isAllowed_13 : decode cX4_isAllowed 13 = .ok (.ifCond .le 7, 3) := by decide +kernel
theorem dX4_isAllowed_16 : decode cX4_isAllowed 16 = .ok (.iconst 1, 1) := by decide +kernel
theorem dX4_isAllowed_17 : decode cX4_isAllowed 17 = .ok (.goto 4, 3) := by decide +kernel
theorem dX4_isAllowed_20 : decode cX4_isAllowed 20 = .ok (.iconst 0, 1) := by decide +kernel
theorem dX4_isAllowed_21 : decode cX4_isAllowed 21 = .ok (.ireturn, 1) := by decide +kernel
theorem dX4_isAllowed_22 : decode cX4_isAllowed 22 = .ok (.aload_n 0, 1) := by decide +kernel
theorem dX4_isAllowed_23 : decode cX4_isAllowed 23 = .ok (.iload_n 1, 1) := by decide +kernel
theorem dX4_isAllowed_24 : decode cX4_isAllowed 24 = .ok (.invokevirtual 19, 3) := by decide +kernel
theorem dX4_isAllowed_27 : decode cX4_isAllowed 27 = .ok (.bipush 100, 2) := by decide +kernel
theorem dX4_isAllowed_29 : decode cX4_isAllowed 29 = .ok (.if_icmp .ne 29, 3) := by decide +kernel
theorem dX4_isAllowed_32 : decode cX4_isAllowed 32 = .ok (.iload_n 2, 1) := by decide +kernel
theorem dX4_isAllowed_33 : decode cX4_isAllowed 33 = .ok (.iload_n 1, 1) := by decide +kernel
theorem dX4_isAllowed_34 : decode cX4_isAllowed 34 = .ok (.iconst 1, 1) := by decide +kernel
theorem dX4_isAllowed_35 : decode cX4_isAllowed 35 = .ok (.iadd, 1) := by decide +kernel
theorem dX4_isAllowed_36 : decode cX4_isAllowed 36 = .ok (.if_icmp .ne 13, 3) := by decide +kernel
theorem dX4_isAllowed_39 : decode cX4_isAllowed 39 = .ok (.aload_n 0, 1) := by decide +kernel
theorem dX4_isAllowed_40 : decode cX4_isAllowed 40 = .ok (.iload_n 2, 1) := by decide +kernel
theorem dX4_isAllowed_41 : decode cX4_isAllowed 41 = .ok (.iconst 2, 1) := by decide +kernel
theorem dX4_isAllowed_42 : decode cX4_isAllowed 42 = .ok (.iconst 4, 1) := by decide +kernel
theorem dX4_isAllowed_43 : decode cX4_isAllowed 43 = .ok (.invokevirtual 36, 3) := by decide +kernel
theorem dX4_isAllowed_46 : decode cX4_isAllowed 46 = .ok (.goto 11, 3) := by decide +kernel
theorem dX4_isAllowed_49 : decode cX4_isAllowed 49 = .ok (.aload_n 0, 1) := by decide +kernel
theorem dX4_isAllowed_50 : decode cX4_isAllowed 50 = .ok (.iload_n 2, 1) := by decide +kernel
theorem dX4_isAllowed_51 : decode cX4_isAllowed 51 = .ok (.iconst 0, 1) := by decide +kernel
theorem dX4_isAllowed_52 : decode cX4_isAllowed 52 = .ok (.bipush 9, 2) := by decide +kernel
theorem dX4_isAllowed_54 : decode cX4_isAllowed 54 = .ok (.invokevirtual 36, 3) := by decide +kernel
theorem dX4_isAllowed_57 : decode cX4_isAllowed 57 = .ok (.ireturn, 1) := by decide +kernel
theorem dX4_isAllowed_58 : decode cX4_isAllowed 58 = .ok (.iload_n 2, 1) := by decide +kernel
theorem dX4_isAllowed_59 : decode cX4_isAllowed 59 = .ok (.iload_n 1, 1) := by decide +kernel
theorem dX4_isAllowed_60 : decode cX4_isAllowed 60 = .ok (.iconst 1, 1) := by decide +kernel
theorem dX4_isAllowed_61 : decode cX4_isAllowed 61 = .ok (.iadd, 1) := by decide +kernel
theorem dX4_isAllowed_62 : decode cX4_isAllowed 62 = .ok (.if_icmp .ne 11, 3) := by decide +kernel
theorem dX4_isAllowed_65 : decode cX4_isAllowed 65 = .ok (.aload_n 0, 1) := by decide +kernel
theorem dX4_isAllowed_66 : decode cX4_isAllowed 66 = .ok (.iload_n 2, 1) := by decide +kernel
theorem dX4_isAllowed_67 : decode cX4_isAllowed 67 = .ok (.iconst 0, 1) := by decide +kernel
theorem dX4_isAllowed_68 : decode cX4_isAllowed 68 = .ok (.iconst 2, 1) := by decide +kernel
theorem dX4_isAllowed_69 : decode cX4_isAllowed 69 = .ok (.invokevirtual 36, 3) := by decide +kernel
theorem dX4_isAllowed_72 : decode cX4_isAllowed 72 = .ok (.ireturn, 1) := by decide +kernel
theorem dX4_isAllowed_73 : decode cX4_isAllowed 73 = .ok (.iload_n 2, 1) := by decide +kernel
theorem dX4_isAllowed_74 : decode cX4_isAllowed 74 = .ok (.iload_n 1, 1) := by decide +kernel
theorem dX4_isAllowed_75 : decode cX4_isAllowed 75 = .ok (.iconst 2, 1) := by decide +kernel
theorem dX4_isAllowed_76 : decode cX4_isAllowed 76 = .ok (.iadd, 1) := by decide +kernel
theorem dX4_isAllowed_77 : decode cX4_isAllowed 77 = .ok (.if_icmp .ne 29, 3) := by decide +kernel
theorem dX4_isAllowed_80 : decode cX4_isAllowed 80 = .ok (.aload_n 0, 1) := by decide +kernel
theorem dX4_isAllowed_81 : decode cX4_isAllowed 81 = .ok (.iload_n 2, 1) := by decide +kernel
theorem dX4_isAllowed_82 : decode cX4_isAllowed 82 = .ok (.iconst 0, 1) := by decide +kernel
theorem dX4_isAllowed_83 : decode cX4_isAllowed 83 = .ok (.aload_n 0, 1) := by decide +kernel
theorem dX4_isAllowed_84 : decode cX4_isAllowed 84 = .ok (.iload_n 1, 1) := by decide +kernel
theorem dX4_isAllowed_85 : decode cX4_isAllowed 85 = .ok (.iconst 1, 1) := by decide +kernel
theorem dX4_isAllowed_86 : decode cX4_isAllowed 86 = .ok (.iadd, 1) := by decide +kernel
theorem dX4_isAllowed_87 : decode cX4_isAllowed 87 = .ok (.invokevirtual 19, 3) := by decide +kernel
theorem dX4_isAllowed_90 : decode cX4_isAllowed 90 = .ok (.bipush 50, 2) := by decide +kernel
theorem dX4_isAllowed_92 : decode cX4_isAllowed 92 = .ok (.if_icmp .ne 8, 3) := by decide +kernel
theorem dX4_isAllowed_95 : decode cX4_isAllowed 95 = .ok (.bipush 7, 2) := by decide +kernel
theorem dX4_isAllowed_97 : decode cX4_isAllowed 97 = .ok (.goto 5, 3) := by decide +kernel
theorem dX4_isAllowed_100 : decode cX4_isAllowed 100 = .ok (.bipush 9, 2) := by decide +kernel
theorem dX4_isAllowed_102 : decode cX4_isAllowed 102 = .ok (.invokevirtual 36, 3) := by decide +kernel
theorem dX4_isAllowed_105 : decode cX4_isAllowed 105 = .ok (.ireturn, 1) := by decide +kernel
theorem dX4_isAllowed_106 : decode cX4_isAllowed 106 = .ok (.aload_n 0, 1) := by decide +kernel
theorem dX4_isAllowed_107 : decode cX4_isAllowed 107 = .ok (.iload_n 2, 1) := by decide +kernel
theorem dX4_isAllowed_108 : decode cX4_isAllowed 108 = .ok (.invokevirtual 19, 3) := by decide +kernel
theorem dX4_isAllowed_111 : decode cX4_isAllowed 111 = .ok (.bipush 114, 2) := by decide +kernel
theorem dX4_isAllowed_113 : decode cX4_isAllowed 113 = .ok (.if_icmp .eq 13, 3) := by decide +kernel
theorem dX4_isAllowed_116 : decode cX4_isAllowed 116 = .ok (.aload_n 0, 1) := by decide +kernel
theorem dX4_isAllowed_117 : decode cX4_isAllowed 117 = .ok (.iload_n 2, 1) := by decide +kernel
theorem dX4_isAllowed_118 : decode cX4_isAllowed 118 = .ok (.invokevirtual 19, 3) := by decide +kernel
theorem dX4_isAllowed_121 : decode cX4_isAllowed 121 = .ok (.bipush 108, 2) := by decide +kernel
theorem dX4_isAllowed_123 : decode cX4_isAllowed 123 = .ok (.if_icmp .ne 7, 3) := by decide +kernel
theorem dX4_isAllowed_126 : decode cX4_isAllowed 126 = .ok (.iconst 1, 1) := by decide +kernel
theorem dX4_isAllowed_127 : decode cX4_isAllowed 127 = .ok (.goto 4, 3) := by decide +kernel
theorem dX4_isAllowed_130 : decode cX4_isAllowed 130 = .ok (.iconst 0, 1) := by decide +kernel
theorem dX4_isAllowed_131 : decode cX4_isAllowed 131 = .ok (.ireturn, 1) := by decide +kernel
theorem dX4_isDigit_0 : decode cX4_isDigit 0 = .ok (.aload_n 0, 1) := by decide +kernel
theorem dX4_isDigit_1 : decode cX4_isDigit 1 = .ok (.iload_n 1, 1) := by decide +kernel
theorem dX4_isDigit_2 : decode cX4_isDigit 2 = .ok (.invokevirtual 23, 3) := by decide +kernel
theorem dX4_isDigit_5 : decode cX4_isDigit 5 = .ok (.iload_n 2, 1) := by decide +kernel
theorem dX4_isDigit_6 : decode cX4_isDigit 6 = .ok (.if_icmp .lt 16, 3) := by decide +kernel
theorem dX4_isDigit_9 : decode cX4_isDigit 9 = .ok (.aload_n 0, 1) := by decide +kernel
theorem dX4_isDigit_10 : decode cX4_isDigit 10 = .ok (.iload_n 1, 1) := by decide +kernel
theorem dX4_isDigit_11 : decode cX4_isDigit 11 = .ok (.invokevirtual 23, 3) := by decide +kernel
theorem dX4_isDigit_14 : decode cX4_isDigit 14 = .ok (.iload_n 3, 1) := by decide +kernel
theorem dX4_isDigit_15 : decode cX4_isDigit 15 = .ok (.if_icmp .gt 7, 3) := by decide +kernel
theorem dX4_isDigit_18 : decode cX4_isDigit 18 = .ok (.iconst 1, 1) := by decide +kernel
theorem dX4_isDigit_19 : decode cX4_isDigit 19 = .ok (.goto 4, 3) := by decide +kernel
theorem dX4_isDigit_22 : decode cX4_isDigit 22 = .ok (.iconst 0, 1) := by decide +kernel
theorem dX4_isDigit_23 : decode cX4_isDigit 23 = .ok (.ireturn, 1) := by decide +kernel
theorem dX5_init_0 : decode cX5_init 0 = .ok (.aload_n 0, 1) := by decide +kernel
theorem dX5_init_1 : decode cX5_init 1 = .ok (.invokespecial 1, 3) := by decide +kernel
theorem dX5_init_4 : decode cX5_init 4 = .ok (.aload_n 0, 1) := by decide +kernel
theorem dX5_init_5 : decode cX5_init 5 = .ok (.new 7, 3) := by decide +kernel
theorem dX5_init_8 : decode cX5_init 8 = .ok (.dup, 1) := by decide +kernel
theorem dX5_init_9 : decode cX5_init 9 = .ok (.invokespecial 9, 3) := by decide +kernel
theorem dX5_init_12 : decode cX5_init 12 = .ok (.putfield 10, 3) := by decide +kernel
theorem dX5_init_15 : decode cX5_init 15 = .ok (.aload_n 0, 1) := by decide +kernel
theorem dX5_init_16 : decode cX5_init 16 = .ok (.new 16, 3) := by decide +kernel
theorem dX5_init_19 : decode cX5_init 19 = .ok (.dup, 1) := by decide +kernel
theorem dX5_init_20 : decode cX5_init 20 = .ok (.invokespecial 18, 3) := by decide +kernel
theorem dX5_init_23 : decode cX5_init 23 = .ok (.putfield 19, 3) := by decide +kernel
theorem dX5_init_26 : decode cX5_init 26 = .ok (.aload_n 0, 1) := by decide +kernel
theorem dX5_init_27 : decode cX5_init 27 = .ok (.new 16, 3) := by decide +kernel
theorem dX5_init_30 : decode cX5_init 30 = .ok (.dup, 1) := by decide +kernel
theorem dX5_init_31 : decode cX5_init 31 = .ok (.invokespecial 18, 3) := by decide +kernel
theorem dX5_init_34 : decode cX5_init 34 = .ok (.putfield 23, 3) := by decide +kernel
theorem dX5_init_37 : decode cX5_init 37 = .ok (.aload_n 0, 1) := by decide +kernel
theorem dX5_init_38 : decode cX5_init 38 = .ok (.new 26, 3) := by decide +kernel
theorem dX5_init_41 : decode cX5_init 41 = .ok (.dup, 1) := by decide +kernel
theorem dX5_init_42 : decode cX5_init 42 = .ok (.invokespecial 28, 3) := by decide +kernel
theorem dX5_init_45 : decode cX5_init 45 = .ok (.putfield 29, 3) := by decide +kernel
theorem dX5_init_48 : decode cX5_init 48 = .ok (.aload_n 0, 1) := by decide +kernel
theorem dX5_init_49 : decode cX5_init 49 = .ok (.new 33, 3) := by decide +kernel
theorem dX5_init_52 : decode cX5_init 52 = .ok (.dup, 1) := by decide +kernel
theorem dX5_init_53 : decode cX5_init 53 = .ok (.invokespecial 35, 3) := by decide +kernel
theorem dX5_init_56 : decode cX5_init 56 = .ok (.putfield 36, 3) := by decide +kernel
theorem dX5_init_59 : decode cX5_init 59 = .ok (.aload_n 0, 1) := by decide +kernel
theorem dX5_init_60 : decode cX5_init 60 = .ok (.new 33, 3) := by decide +kernel
theorem dX5_init_63 : decode cX5_init 63 = .ok (.dup, 1) := by decide +kernel
theorem dX5_init_64 : decode cX5_init 64 = .ok (.invokespecial 35, 3) := by decide +kernel
theorem dX5_init_67 : decode cX5_init 67 = .ok (.putfield 40, 3) := by decide +kernel
theorem dX5_init_70 : decode cX5_init 70 = .ok (.return_, 1) := by decide +kernel
theorem dX5_append_0 : decode cX5_append 0 = .ok (.iload_n 1, 1) := by decide +kernel
theorem dX5_append_1 : decode cX5_append 1 = .ok (.ifCond .lt 10, 3) := by decide +kernel
theorem dX5_append_4 : decode cX5_append 4 = .ok (.iload_n 1, 1) := by decide +kernel
theorem dX5_append_5 : decode cX5_append 5 = .ok (.sipush 255, 3) := by decide +kernel
theorem dX5_append_8 : decode cX5_append 8 = .ok (.if_icmp .le 13, 3) := by decide +kernel
theorem dX5_append_11 : decode cX5_append 11 = .ok (.new 43, 3) := by decide +kernel
theorem dX5_append_14 : decode cX5_append 14 = .ok (.dup, 1) := by decide +kernel
theorem dX5_append_15 : decode cX5_append 15 = .ok (.ldc 45, 2) := by decide +kernel
theorem dX5_append_17 : decode cX5_append 17 = .ok (.invokespecial 47, 3) := by decide +kernel
theorem dX5_append_20 : decode cX5_append 20 = .ok (.athrow, 1) := by decide +kernel
theorem dX5_append_21 : decode cX5_append 21 = .ok (.aload_n 0, 1) := by decide +kernel
theorem dX5_append_22 : decode cX5_append 22 = .ok (.getfield 10, 3) := by decide +kernel
theorem dX5_append_25 : decode cX5_append 25 = .ok (.invokevirtual 50, 3) := by decide +kernel
theorem dX5_append_28 : decode cX5_append 28 = .ok (.ifCond .eq 13, 3) := by decide +kernel
theorem dX5_append_31 : decode cX5_append 31 = .ok (.new 54, 3) := by decide +kernel
theorem dX5_append_34 : decode cX5_append 34 = .ok (.dup, 1) := by decide +kernel
theorem dX5_append_35 : decode cX5_append 35 = .ok (.ldc 56, 2) := by decide +kernel
theorem dX5_append_37 : decode cX5_append 37 = .ok (.invokespecial 58, 3) := by decide +kernel
theorem dX5_append_40 : decode cX5_append 40 = .ok (.athrow, 1) := by decide +kernel
theorem dX5_append_41 : decode cX5_append 41 = .ok (.aload_n 0, 1) := by decide +kernel
theorem dX5_append_42 : decode cX5_append 42 = .ok (.getfield 10, 3) := by decide +kernel
theorem dX5_append_45 : decode cX5_append 45 = .ok (.iload_n 1, 1) := by decide +kernel
theorem dX5_append_46 : decode cX5_append 46 = .ok (.invokevirtual 59, 3) := by decide +kernel
theorem dX5_append_49 : decode cX5_append 49 = .ok (.ireturn, 1) := by decide +kernel
theorem dX5_clearText_0 : decode cX5_clearText 0 = .ok (.aload_n 0, 1) := by decide +kernel
theorem dX5_clearText_1 : decode cX5_clearText 1 = .ok (.getfield 10, 3) := by decide +kernel
theorem dX5_clearText_4 : decode cX5_clearText 4 = .ok (.invokevirtual 63, 3) := by decide +kernel
theorem dX5_clearText_7 : decode cX5_clearText 7 = .ok (.ireturn, 1) := by decide +kernel
theorem dX5_errorPosition_0 : decode cX5_errorPosition 0 = .ok (.aload_n 0, 1) := by decide +kernel
theorem dX5_errorPosition_1 : decode cX5_errorPosition 1 = .ok (.getfield 10, 3) := by decide +kernel
theorem dX5_errorPosition_4 : decode cX5_errorPosition 4 = .ok (.invokevirtual 67, 3) := by decide +kernel
theorem dX5_errorPosition_7 : decode cX5_errorPosition 7 = .ok (.ireturn, 1) := by decide +kernel
theorem dX5_load_0 : decode cX5_load 0 = .ok (.aload_n 0, 1) := by decide +kernel
theorem dX5_load_1 : decode cX5_load 1 = .ok (.getfield 10, 3) := by decide +kernel
theorem dX5_load_4 : decode cX5_load 4 = .ok (.invokevirtual 67, 3) := by decide +kernel
theorem dX5_load_7 : decode cX5_load 7 = .ok (.iconst (-1), 1) := by decide +kernel
theorem dX5_load_8 : decode cX5_load 8 = .ok (.if_icmp .eq 13, 3) := by decide +kernel
theorem dX5_load_11 : decode cX5_load 11 = .ok (.new 54, 3) := by decide +kernel
theorem dX5_load_14 : decode cX5_load 14 = .ok (.dup, 1) := by decide +kernel
theorem dX5_load_15 : decode cX5_load 15 = .ok (.ldc 70, 2) := by decide +kernel
theorem dX5_load_17 : decode cX5_load 17 = .ok (.invokespecial 58, 3) := by decide +kernel
theorem dX5_load_20 : decode cX5_load 20 = .ok (.athrow, 1) := by decide +kernel
theorem dX5_load_21 : decode cX5_load 21 = .ok (.aload_n 0, 1) := by decide +kernel
theorem dX5_load_22 : decode cX5_load 22 = .ok (.getfield 19, 3) := by decide +kernel
theorem dX5_load_25 : decode cX5_load 25 = .ok (.invokevirtual 72, 3) := by decide +kernel
theorem dX5_load_28 : decode cX5_load 28 = .ok (.aload_n 0, 1) := by decide +kernel
theorem dX5_load_29 : decode cX5_load 29 = .ok (.getfield 29, 3) := by decide +kernel
theorem dX5_load_32 : decode cX5_load 32 = .ok (.invokevirtual 75, 3) := by decide +kernel
theorem dX5_load_35 : decode cX5_load 35 = .ok (.aload_n 0, 1) := by decide +kernel
theorem dX5_load_36 : decode cX5_load 36 = .ok (.getfield 36, 3) := by decide +kernel
theorem dX5_load_39 : decode cX5_load 39 = .ok (.invokevirtual 78, 3) := by decide +kernel
theorem dX5_load_42 : decode cX5_load 42 = .ok (.aload_n 0, 1) := by decide +kernel
theorem dX5_load_43 : decode cX5_load 43 = .ok (.getfield 40, 3) := by decide +kernel
theorem dX5_load_46 : decode cX5_load 46 = .ok (.invokevirtual 78, 3) := by decide +kernel
theorem dX5_load_49 : decode cX5_load 49 = .ok (.aload_n 0, 1) := by decide +kernel
theorem dX5_load_50 : decode cX5_load 50 = .ok (.invokevirtual 80, 3) := by decide +kernel
theorem dX5_load_53 : decode cX5_load 53 = .ok (.ireturn, 1) := by decide +kernel
theorem dX5_doCommandsOfText_0 : decode cX5_doCommandsOfText 0 = .ok (.iconst 0, 1) := by decide +kernel
theorem dX5_doCommandsOfText_1 : decode cX5_doCommandsOfText 1 = .ok (.istore_n 1, 1) := by decide +kernel
theorem dX5_doCommandsOfText_2 : decode cX5_doCommandsOfText 2 = .ok (.iconst 1, 1) := by decide +kernel
theorem dX5_doCommandsOfText_3 : decode cX5_doCommandsOfText 3 = .ok (.istore_n 2, 1) := by decide +kernel
theorem dX5_doCommandsOfText_4 : decode cX5_doCommandsOfText 4 = .ok (.iconst 1, 1) := by decide +kernel
theorem dX5_doCommandsOfText_5 : decode cX5_doCommandsOfText 5 = .ok (.istore_n 3, 1) := by decide +kernel
theorem dX5_doCommandsOfText_6 : decode cX5_doCommandsOfText 6 = .ok (.iload_n 3, 1) := by decide +kernel
theorem dX5_doCommandsOfText_7 : decode cX5_doCommandsOfText 7 = .ok (.aload_n 0, 1) := by decide +kernel
theorem dX5_doCommandsOfText_8 : decode cX5_doCommandsOfText 8 = .ok (.getfield 10, 3) := by decide +kernel
theorem dX5_doCommandsOfText_11 : decode cX5_doCommandsOfText 11 = .ok (.invokevirtual 83, 3) := by decide +kernel
theorem dX5_doCommandsOfText_14 : decode cX5_doCommandsOfText 14 = .ok (.if_icmp .ge 36, 3) := by decide +kernel
theorem dX5_doCommandsOfText_17 : decode cX5_doCommandsOfText 17 = .ok (.aload_n 0, 1) := by decide +kernel
theorem dX5_doCommandsOfText_18 : decode cX5_doCommandsOfText 18 = .ok (.getfield 10, 3) := by decide +kernel
theorem dX5_doCommandsOfText_21 : decode cX5_doCommandsOfText 21 = .ok (.iload_n 2, 1) := by decide +kernel
theorem dX5_doCommandsOfText_22 : decode cX5_doCommandsOfText 22 = .ok (.iload_n 3, 1) := by decide +kernel
theorem dX5_doCommandsOfText_23 : decode cX5_doCommandsOfText 23 = .ok (.invokevirtual 86, 3) := by decide +kernel
theorem dX5_doCommandsOfText_26 : decode cX5_doCommandsOfText 26 = .ok (.ifCond .eq 18, 3) := by decide +kernel
theorem dX5_doCommandsOfText_29 : decode cX5_doCommandsOfText 29 = .ok (.aload_n 0, 1) := by decide +kernel
theorem dX5_doCommandsOfText_30 : decode cX5_doCommandsOfText 30 = .ok (.iload_n 2, 1) := by decide +kernel
theorem dX5_doCommandsOfText_31 : decode cX5_doCommandsOfText 31 = .ok (.invokevirtual 90, 3) := by decide +kernel
theorem dX5_doCommandsOfText_34 : decode cX5_doCommandsOfText 34 = .ok (.ifCond .ne 6, 3) := by decide +kernel
theorem dX5_doCommandsOfText_37 : decode cX5_doCommandsOfText 37 = .ok (.iinc 1 1, 3) := by decide +kernel
theorem dX5_doCommandsOfText_40 : decode cX5_doCommandsOfText 40 = .ok (.iload_n 3, 1) := by decide +kernel
theorem dX5_doCommandsOfText_41 : decode cX5_doCommandsOfText 41 = .ok (.iconst 1, 1) := by decide +kernel
theorem dX5_doCommandsOfText_42 : decode cX5_doCommandsOfText 42 = .ok (.iadd, 1) := by decide +kernel
theorem dX5_doCommandsOfText_43 : decode cX5_doCommandsOfText 43 = .ok (.istore_n 2, 1) := by decide +kernel
theorem dX5_doCommandsOfText_44 : decode cX5_doCommandsOfText 44 = .ok (.iinc 3 1, 3) := by decide +kernel
theorem dX5_doCommandsOfText_47 : decode cX5_doCommandsOfText 47 = .ok (.goto (-41), 3) := by decide +kernel
theorem dX5_doCommandsOfText_50 : decode cX5_doCommandsOfText 50 = .ok (.iload_n 1, 1) := by decide +kernel
theorem dX5_doCommandsOfText_51 : decode cX5_doCommandsOfText 51 = .ok (.ireturn, 1) := by decide +kernel
theorem dX5_doCommandAt_0 : decode cX5_doCommandAt 0 = .ok (.aload_n 0, 1) := by decide +kernel
theorem dX5_doCommandAt_1 : decode cX5_doCommandAt 1 = .ok (.getfield 10, 3) := by decide +kernel
theorem dX5_doCommandAt_4 : decode cX5_doCommandAt 4 = .ok (.iload_n 1, 1) := by decide +kernel
theorem dX5_doCommandAt_5 : decode cX5_doCommandAt 5 = .ok (.invokevirtual 94, 3) := by decide +kernel
theorem dX5_doCommandAt_8 : decode cX5_doCommandAt 8 = .ok (.lookupswitch 145 #[(100, 44), (112, 73), (115, 128), (119, 111)], 44) := by decide +kernel
theorem dX5_doCommandAt_52 : decode cX5_doCommandAt 52 = .ok (.aload_n 0, 1) := by decide +kernel
theorem dX5_doCommandAt_53 : decode cX5_doCommandAt 53 = .ok (.getfield 19, 3) := by decide +kernel
theorem dX5_doCommandAt_56 : decode cX5_doCommandAt 56 = .ok (.aload_n 0, 1) := by decide +kernel
theorem dX5_doCommandAt_57 : decode cX5_doCommandAt 57 = .ok (.getfield 10, 3) := by decide +kernel
theorem dX5_doCommandAt_60 : decode cX5_doCommandAt 60 = .ok (.iload_n 1, 1) := by decide +kernel
theorem dX5_doCommandAt_61 : decode cX5_doCommandAt 61 = .ok (.iconst 1, 1) := by decide +kernel
theorem dX5_doCommandAt_62 : decode cX5_doCommandAt 62 = .ok (.iadd, 1) := by decide +kernel
theorem dX5_doCommandAt_63 : decode cX5_doCommandAt 63 = .ok (.invokevirtual 97, 3) := by decide +kernel
theorem dX5_doCommandAt_66 : decode cX5_doCommandAt 66 = .ok (.aload_n 0, 1) := by decide +kernel
theorem dX5_doCommandAt_67 : decode cX5_doCommandAt 67 = .ok (.getfield 10, 3) := by decide +kernel
theorem dX5_doCommandAt_70 : decode cX5_doCommandAt 70 = .ok (.iload_n 1, 1) := by decide +kernel
theorem dX5_doCommandAt_71 : decode cX5_doCommandAt 71 = .ok (.iconst 2, 1) := by decide +kernel
theorem dX5_doCommandAt_72 : decode cX5_doCommandAt 72 = .ok (.iadd, 1) := by decide +kernel
theorem dX5_doCommandAt_73 : decode cX5_doCommandAt 73 = .ok (.invokevirtual 100, 3) := by decide +kernel
theorem dX5_doCommandAt_76 : decode cX5_doCommandAt 76 = .ok (.i2l, 1) := by decide +kernel
theorem dX5_doCommandAt_77 : decode cX5_doCommandAt 77 = .ok (.invokevirtual 103, 3) := by decide +kernel
theorem dX5_doCommandAt_80 : decode cX5_doCommandAt 80 = .ok (.ireturn, 1) := by decide +kernel
theorem dX5_doCommandAt_81 : decode cX5_doCommandAt 81 = .ok (.aload_n 0, 1) := by decide +kernel
theorem dX5_doCommandAt_82 : decode cX5_doCommandAt 82 = .ok (.getfield 19, 3) := by decide +kernel
theorem dX5_doCommandAt_85 : decode cX5_doCommandAt 85 = .ok (.aload_n 0, 1) := by decide +kernel
theorem dX5_doCommandAt_86 : decode cX5_doCommandAt 86 = .ok (.getfield 10, 3) := by decide +kernel
theorem dX5_doCommandAt_89 : decode cX5_doCommandAt 89 = .ok (.iload_n 1, 1) := by decide +kernel
theorem dX5_doCommandAt_90 : decode cX5_doCommandAt 90 = .ok (.iconst 1, 1) := by decide +kernel
theorem dX5_doCommandAt_91 : decode cX5_doCommandAt 91 = .ok (.iadd, 1) := by decide +kernel
theorem dX5_doCommandAt_92 : decode cX5_doCommandAt 92 = .ok (.invokevirtual 100, 3) := by decide +kernel
theorem dX5_doCommandAt_95 : decode cX5_doCommandAt 95 = .ok (.aload_n 0, 1) := by decide +kernel
theorem dX5_doCommandAt_96 : decode cX5_doCommandAt 96 = .ok (.getfield 10, 3) := by decide +kernel
theorem dX5_doCommandAt_99 : decode cX5_doCommandAt 99 = .ok (.iload_n 1, 1) := by decide +kernel
theorem dX5_doCommandAt_100 : decode cX5_doCommandAt 100 = .ok (.iconst 3, 1) := by decide +kernel
theorem dX5_doCommandAt_101 : decode cX5_doCommandAt 101 = .ok (.iadd, 1) := by decide +kernel
theorem dX5_doCommandAt_102 : decode cX5_doCommandAt 102 = .ok (.invokevirtual 94, 3) := by decide +kernel
theorem dX5_doCommandAt_105 : decode cX5_doCommandAt 105 = .ok (.bipush 108, 2) := by decide +kernel
theorem dX5_doCommandAt_107 : decode cX5_doCommandAt 107 = .ok (.if_icmp .ne 7, 3) := by decide +kernel
theorem dX5_doCommandAt_110 : decode cX5_doCommandAt 110 = .ok (.iconst 1, 1) := by decide +kernel
theorem dX5_doCommandAt_111 : decode cX5_doCommandAt 111 = .ok (.goto 4, 3) := by decide +kernel
theorem dX5_doCommandAt_114 : decode cX5_doCommandAt 114 = .ok (.iconst 0, 1) := by decide +kernel
theorem dX5_doCommandAt_115 : decode cX5_doCommandAt 115 = .ok (.invokevirtual 107, 3) := by decide +kernel
theorem dX5_doCommandAt_118 : decode cX5_doCommandAt 118 = .ok (.ireturn, 1) := by decide +kernel
theorem dX5_doCommandAt_119 : decode cX5_doCommandAt 119 = .ok (.aload_n 0, 1) := by decide +kernel
theorem dX5_doCommandAt_120 : decode cX5_doCommandAt 120 = .ok (.getfield 19, 3) := by decide +kernel
theorem dX5_doCommandAt_123 : decode cX5_doCommandAt 123 = .ok (.invokevirtual 111, 3) := by decide +kernel
theorem dX5_doCommandAt_126 : decode cX5_doCommandAt 126 = .ok (.iconst (-1), 1) := by decide +kernel
theorem dX5_doCommandAt_127 : decode cX5_doCommandAt 127 = .ok (.if_icmp .eq 7, 3) := by decide +kernel
theorem dX5_doCommandAt_130 : decode cX5_doCommandAt 130 = .ok (.iconst 1, 1) := by decide +kernel
theorem dX5_doCommandAt_131 : decode cX5_doCommandAt 131 = .ok (.goto 4, 3) := by decide +kernel
theorem dX5_doCommandAt_134 : decode cX5_doCommandAt 134 = .ok (.iconst 0, 1) := by decide +kernel
theorem dX5_doCommandAt_135 : decode cX5_doCommandAt 135 = .ok (.ireturn, 1) := by decide +kernel
theorem dX5_doCommandAt_136 : decode cX5_doCommandAt 136 = .ok (.aload_n 0, 1) := by decide +kernel
theorem dX5_doCommandAt_137 : decode cX5_doCommandAt 137 = .ok (.getfield 19, 3) := by decide +kernel
theorem dX5_doCommandAt_140 : decode cX5_doCommandAt 140 = .ok (.invokevirtual 114, 3) := by decide +kernel
theorem dX5_doCommandAt_143 : decode cX5_doCommandAt 143 = .ok (.iconst (-1), 1) := by decide +kernel
theorem dX5_doCommandAt_144 : decode cX5_doCommandAt 144 = .ok (.if_icmp .eq 7, 3) := by decide +kernel
theorem dX5_doCommandAt_147 : decode cX5_doCommandAt 147 = .ok (.iconst 1, 1) := by decide +kernel
theorem dX5_doCommandAt_148 : decode cX5_doCommandAt 148 = .ok (.goto 4, 3) := by decide +kernel
theorem dX5_doCommandAt_151 : decode cX5_doCommandAt 151 = .ok (.iconst 0, 1) := by decide +kernel
theorem dX5_doCommandAt_152 : decode cX5_doCommandAt 152 = .ok (.ireturn, 1) := by decide +kernel
theorem dX5_doCommandAt_153 : decode cX5_doCommandAt 153 = .ok (.aload_n 0, 1) := by decide +kernel
theorem dX5_doCommandAt_154 : decode cX5_doCommandAt 154 = .ok (.getfield 19, 3) := by decide +kernel
theorem dX5_doCommandAt_157 : decode cX5_doCommandAt 157 = .ok (.aload_n 0, 1) := by decide +kernel
theorem dX5_doCommandAt_158 : decode cX5_doCommandAt 158 = .ok (.getfield 19, 3) := by decide +kernel
theorem dX5_doCommandAt_161 : decode cX5_doCommandAt 161 = .ok (.invokevirtual 117, 3) := by decide +kernel
theorem dX5_doCommandAt_164 : decode cX5_doCommandAt 164 = .ok (.iconst 0, 1) := by decide +kernel
theorem dX5_doCommandAt_165 : decode cX5_doCommandAt 165 = .ok (.invokevirtual 107, 3) := by decide +kernel
theorem dX5_doCommandAt_168 : decode cX5_doCommandAt 168 = .ok (.pop, 1) := by decide +kernel
theorem dX5_doCommandAt_169 : decode cX5_doCommandAt 169 = .ok (.iconst 1, 1) := by decide +kernel
theorem dX5_doCommandAt_170 : decode cX5_doCommandAt 170 = .ok (.ireturn, 1) := by decide +kernel
theorem dX5_about_0 : decode cX5_about 0 = .ok (.iload_n 1, 1) := by decide +kernel
theorem dX5_about_1 : decode cX5_about 1 = .ok (.ifCond .lt 9, 3) := by decide +kernel
theorem dX5_about_4 : decode cX5_about 4 = .ok (.iload_n 1, 1) := by decide +kernel
theorem dX5_about_5 : decode cX5_about 5 = .ok (.bipush 11, 2) := by decide +kernel
theorem dX5_about_7 : decode cX5_about 7 = .ok (.if_icmp .le 13, 3) := by decide +kernel
theorem dX5_about_10 : decode cX5_about 10 = .ok (.new 43, 3) := by decide +kernel
theorem dX5_about_13 : decode cX5_about 13 = .ok (.dup, 1) := by decide +kernel
theorem dX5_about_14 : decode cX5_about 14 = .ok (.ldc 120, 2) := by decide +kernel
theorem dX5_about_16 : decode cX5_about 16 = .ok (.invokespecial 47, 3) := by decide +kernel
theorem dX5_about_19 : decode cX5_about 19 = .ok (.athrow, 1) := by decide +kernel
theorem dX5_about_20 : decode cX5_about 20 = .ok (.aload_n 0, 1) := by decide +kernel
theorem dX5_about_21 : decode cX5_about 21 = .ok (.getfield 19, 3) := by decide +kernel
theorem dX5_about_24 : decode cX5_about 24 = .ok (.iload_n 1, 1) := by decide +kernel
theorem dX5_about_25 : decode cX5_about 25 = .ok (.invokevirtual 122, 3) := by decide +kernel
theorem dX5_about_28 : decode cX5_about 28 = .ok (.ireturn, 1) := by decide +kernel
theorem dX5_tileOf_0 : decode cX5_tileOf 0 = .ok (.iload_n 1, 1) := by decide +kernel
theorem dX5_tileOf_1 : decode cX5_tileOf 1 = .ok (.invokestatic 125, 3) := by decide +kernel
theorem dX5_tileOf_4 : decode cX5_tileOf 4 = .ok (.ifCond .ne 13, 3) := by decide +kernel
theorem dX5_tileOf_7 : decode cX5_tileOf 7 = .ok (.new 128, 3) := by decide +kernel
theorem dX5_tileOf_10 : decode cX5_tileOf 10 = .ok (.dup, 1) := by decide +kernel
theorem dX5_tileOf_11 : decode cX5_tileOf 11 = .ok (.ldc 130, 2) := by decide +kernel
theorem dX5_tileOf_13 : decode cX5_tileOf 13 = .ok (.invokespecial 132, 3) := by decide +kernel
theorem dX5_tileOf_16 : decode cX5_tileOf 16 = .ok (.athrow, 1) := by decide +kernel
theorem dX5_tileOf_17 : decode cX5_tileOf 17 = .ok (.iload_n 2, 1) := by decide +kernel
theorem dX5_tileOf_18 : decode cX5_tileOf 18 = .ok (.ifCond .lt 8, 3) := by decide +kernel
theorem dX5_tileOf_21 : decode cX5_tileOf 21 = .ok (.iload_n 2, 1) := by decide +kernel
theorem dX5_tileOf_22 : decode cX5_tileOf 22 = .ok (.iconst 4, 1) := by decide +kernel
theorem dX5_tileOf_23 : decode cX5_tileOf 23 = .ok (.if_icmp .le 13, 3) := by decide +kernel
theorem dX5_tileOf_26 : decode cX5_tileOf 26 = .ok (.new 43, 3) := by decide +kernel
theorem dX5_tileOf_29 : decode cX5_tileOf 29 = .ok (.dup, 1) := by decide +kernel
theorem dX5_tileOf_30 : decode cX5_tileOf 30 = .ok (.ldc 120, 2) := by decide +kernel
theorem dX5_tileOf_32 : decode cX5_tileOf 32 = .ok (.invokespecial 47, 3) := by decide +kernel
theorem dX5_tileOf_35 : decode cX5_tileOf 35 = .ok (.athrow, 1) := by decide +kernel
theorem dX5_tileOf_36 : decode cX5_tileOf 36 = .ok (.aload_n 0, 1) := by decide +kernel
theorem dX5_tileOf_37 : decode cX5_tileOf 37 = .ok (.getfield 19, 3) := by decide +kernel
theorem dX5_tileOf_40 : decode cX5_tileOf 40 = .ok (.iload_n 1, 1) := by decide +kernel
theorem dX5_tileOf_41 : decode cX5_tileOf 41 = .ok (.iload_n 2, 1) := by decide +kernel
theorem dX5_tileOf_42 : decode cX5_tileOf 42 = .ok (.invokevirtual 133, 3) := by decide +kernel
theorem dX5_tileOf_45 : decode cX5_tileOf 45 = .ok (.ireturn, 1) := by decide +kernel
theorem dX5_laid_0 : decode cX5_laid 0 = .ok (.iload_n 1, 1) := by decide +kernel
theorem dX5_laid_1 : decode cX5_laid 1 = .ok (.ifCond .lt 17, 3) := by decide +kernel
theorem dX5_laid_4 : decode cX5_laid 4 = .ok (.iload_n 1, 1) := by decide +kernel
theorem dX5_laid_5 : decode cX5_laid 5 = .ok (.aload_n 0, 1) := by decide +kernel
theorem dX5_laid_6 : decode cX5_laid 6 = .ok (.getfield 19, 3) := by decide +kernel
theorem dX5_laid_9 : decode cX5_laid 9 = .ok (.invokevirtual 137, 3) := by decide +kernel
theorem dX5_laid_12 : decode cX5_laid 12 = .ok (.invokevirtual 141, 3) := by decide +kernel
theorem dX5_laid_15 : decode cX5_laid 15 = .ok (.if_icmp .lt 13, 3) := by decide +kernel
theorem dX5_laid_18 : decode cX5_laid 18 = .ok (.new 128, 3) := by decide +kernel
theorem dX5_laid_21 : decode cX5_laid 21 = .ok (.dup, 1) := by decide +kernel
theorem dX5_laid_22 : decode cX5_laid 22 = .ok (.ldc 144, 2) := by decide +kernel
theorem dX5_laid_24 : decode cX5_laid 24 = .ok (.invokespecial 132, 3) := by decide +kernel
theorem dX5_laid_27 : decode cX5_laid 27 = .ok (.athrow, 1) := by decide +kernel
theorem dX5_laid_28 : decode cX5_laid 28 = .ok (.iload_n 2, 1) := by decide +kernel
theorem dX5_laid_29 : decode cX5_laid 29 = .ok (.ifCond .lt 8, 3) := by decide +kernel
theorem dX5_laid_32 : decode cX5_laid 32 = .ok (.iload_n 2, 1) := by decide +kernel
theorem dX5_laid_33 : decode cX5_laid 33 = .ok (.iconst 5, 1) := by decide +kernel
theorem dX5_laid_34 : decode cX5_laid 34 = .ok (.if_icmp .le 13, 3) := by decide +kernel
theorem dX5_laid_37 : decode cX5_laid 37 = .ok (.new 43, 3) := by decide +kernel
theorem dX5_laid_40 : decode cX5_laid 40 = .ok (.dup, 1) := by decide +kernel
theorem dX5_laid_41 : decode cX5_laid 41 = .ok (.ldc 120, 2) := by decide +kernel
theorem dX5_laid_43 : decode cX5_laid 43 = .ok (.invokespecial 47, 3) := by decide +kernel
theorem dX5_laid_46 : decode cX5_laid 46 = .ok (.athrow, 1) := by decide +kernel
theorem dX5_laid_47 : decode cX5_laid 47 = .ok (.aload_n 0, 1) := by decide +kernel
theorem dX5_laid_48 : decode cX5_laid 48 = .ok (.getfield 19, 3) := by decide +kernel
theorem dX5_laid_51 : decode cX5_laid 51 = .ok (.invokevirtual 137, 3) := by decide +kernel
theorem dX5_laid_54 : decode cX5_laid 54 = .ok (.iload_n 1, 1) := by decide +kernel
theorem dX5_laid_55 : decode cX5_laid 55 = .ok (.iload_n 2, 1) := by decide +kernel
theorem dX5_laid_56 : decode cX5_laid 56 = .ok (.invokevirtual 146, 3) := by decide +kernel
theorem dX5_laid_59 : decode cX5_laid 59 = .ok (.ireturn, 1) := by decide +kernel
theorem dX5_playerOf_0 : decode cX5_playerOf 0 = .ok (.iload_n 1, 1) := by decide +kernel
theorem dX5_playerOf_1 : decode cX5_playerOf 1 = .ok (.invokestatic 149, 3) := by decide +kernel
theorem dX5_playerOf_4 : decode cX5_playerOf 4 = .ok (.ifCond .ne 13, 3) := by decide +kernel
theorem dX5_playerOf_7 : decode cX5_playerOf 7 = .ok (.new 128, 3) := by decide +kernel
theorem dX5_playerOf_10 : decode cX5_playerOf 10 = .ok (.dup, 1) := by decide +kernel
theorem dX5_playerOf_11 : decode cX5_playerOf 11 = .ok (.ldc 152, 2) := by decide +kernel
theorem dX5_playerOf_13 : decode cX5_playerOf 13 = .ok (.invokespecial 132, 3) := by decide +kernel
theorem dX5_playerOf_16 : decode cX5_playerOf 16 = .ok (.athrow, 1) := by decide +kernel
theorem dX5_playerOf_17 : decode cX5_playerOf 17 = .ok (.iload_n 2, 1) := by decide +kernel
theorem dX5_playerOf_18 : decode cX5_playerOf 18 = .ok (.ifCond .lt 8, 3) := by decide +kernel
theorem dX5_playerOf_21 : decode cX5_playerOf 21 = .ok (.iload_n 2, 1) := by decide +kernel
theorem dX5_playerOf_22 : decode cX5_playerOf 22 = .ok (.iconst 3, 1) := by decide +kernel
theorem dX5_playerOf_23 : decode cX5_playerOf 23 = .ok (.if_icmp .le 13, 3) := by decide +kernel
theorem dX5_playerOf_26 : decode cX5_playerOf 26 = .ok (.new 43, 3) := by decide +kernel
theorem dX5_playerOf_29 : decode cX5_playerOf 29 = .ok (.dup, 1) := by decide +kernel
theorem dX5_playerOf_30 : decode cX5_playerOf 30 = .ok (.ldc 120, 2) := by decide +kernel
theorem dX5_playerOf_32 : decode cX5_playerOf 32 = .ok (.invokespecial 47, 3) := by decide +kernel
theorem dX5_playerOf_35 : decode cX5_playerOf 35 = .ok (.athrow, 1) := by decide +kernel
theorem dX5_playerOf_36 : decode cX5_playerOf 36 = .ok (.aload_n 0, 1) := by decide +kernel
theorem dX5_playerOf_37 : decode cX5_playerOf 37 = .ok (.getfield 19, 3) := by decide +kernel
theorem dX5_playerOf_40 : decode cX5_playerOf 40 = .ok (.iload_n 1, 1) := by decide +kernel
theorem dX5_playerOf_41 : decode cX5_playerOf 41 = .ok (.iload_n 2, 1) := by decide +kernel
theorem dX5_playerOf_42 : decode cX5_playerOf 42 = .ok (.invokevirtual 154, 3) := by decide +kernel
theorem dX5_playerOf_45 : decode cX5_playerOf 45 = .ok (.ireturn, 1) := by decide +kernel
theorem dX5_at_0 : decode cX5_at 0 = .ok (.iload_n 1, 1) := by decide +kernel
theorem dX5_at_1 : decode cX5_at 1 = .ok (.iload_n 2, 1) := by decide +kernel
theorem dX5_at_2 : decode cX5_at 2 = .ok (.invokestatic 157, 3) := by decide +kernel
theorem dX5_at_5 : decode cX5_at 5 = .ok (.ifCond .ne 13, 3) := by decide +kernel
theorem dX5_at_8 : decode cX5_at 8 = .ok (.new 128, 3) := by decide +kernel
theorem dX5_at_11 : decode cX5_at 11 = .ok (.dup, 1) := by decide +kernel
theorem dX5_at_12 : decode cX5_at 12 = .ok (.ldc 160, 2) := by decide +kernel
theorem dX5_at_14 : decode cX5_at 14 = .ok (.invokespecial 132, 3) := by decide +kernel
theorem dX5_at_17 : decode cX5_at 17 = .ok (.athrow, 1) := by decide +kernel
theorem dX5_at_18 : decode cX5_at 18 = .ok (.aload_n 0, 1) := by decide +kernel
theorem dX5_at_19 : decode cX5_at 19 = .ok (.getfield 19, 3) := by decide +kernel
theorem dX5_at_22 : decode cX5_at 22 = .ok (.invokevirtual 137, 3) := by decide +kernel
theorem dX5_at_25 : decode cX5_at 25 = .ok (.iload_n 1, 1) := by decide +kernel
theorem dX5_at_26 : decode cX5_at 26 = .ok (.iload_n 2, 1) := by decide +kernel
theorem dX5_at_27 : decode cX5_at 27 = .ok (.invokevirtual 162, 3) := by decide +kernel
theorem dX5_at_30 : decode cX5_at 30 = .ok (.ireturn, 1) := by decide +kernel
theorem dX5_free_0 : decode cX5_free 0 = .ok (.iload_n 1, 1) := by decide +kernel
theorem dX5_free_1 : decode cX5_free 1 = .ok (.ifCond .eq 18, 3) := by decide +kernel
theorem dX5_free_4 : decode cX5_free 4 = .ok (.iload_n 1, 1) := by decide +kernel
theorem dX5_free_5 : decode cX5_free 5 = .ok (.iconst 1, 1) := by decide +kernel
theorem dX5_free_6 : decode cX5_free 6 = .ok (.if_icmp .eq 13, 3) := by decide +kernel
theorem dX5_free_9 : decode cX5_free 9 = .ok (.new 43, 3) := by decide +kernel
theorem dX5_free_12 : decode cX5_free 12 = .ok (.dup, 1) := by decide +kernel
theorem dX5_free_13 : decode cX5_free 13 = .ok (.ldc 165, 2) := by decide +kernel
theorem dX5_free_15 : decode cX5_free 15 = .ok (.invokespecial 47, 3) := by decide +kernel
theorem dX5_free_18 : decode cX5_free 18 = .ok (.athrow, 1) := by decide +kernel
theorem dX5_free_19 : decode cX5_free 19 = .ok (.iload_n 1, 1) := by decide +kernel
theorem dX5_free_20 : decode cX5_free 20 = .ok (.ifCond .ne 16, 3) := by decide +kernel
theorem dX5_free_23 : decode cX5_free 23 = .ok (.aload_n 0, 1) := by decide +kernel
theorem dX5_free_24 : decode cX5_free 24 = .ok (.getfield 19, 3) := by decide +kernel
theorem dX5_free_27 : decode cX5_free 27 = .ok (.invokevirtual 137, 3) := by decide +kernel
theorem dX5_free_30 : decode cX5_free 30 = .ok (.invokevirtual 167, 3) := by decide +kernel
theorem dX5_free_33 : decode cX5_free 33 = .ok (.goto 13, 3) := by decide +kernel
theorem dX5_free_36 : decode cX5_free 36 = .ok (.aload_n 0, 1) := by decide +kernel
theorem dX5_free_37 : decode cX5_free 37 = .ok (.getfield 19, 3) := by decide +kernel
theorem dX5_free_40 : decode cX5_free 40 = .ok (.invokevirtual 137, 3) := by decide +kernel
theorem dX5_free_43 : decode cX5_free 43 = .ok (.invokevirtual 170, 3) := by decide +kernel
theorem dX5_free_46 : decode cX5_free 46 = .ok (.ireturn, 1) := by decide +kernel
theorem dX5_deal_0 : decode cX5_deal 0 = .ok (.iload_n 1, 1) := by decide +kernel
theorem dX5_deal_1 : decode cX5_deal 1 = .ok (.invokestatic 173, 3) := by decide +kernel
theorem dX5_deal_4 : decode cX5_deal 4 = .ok (.ifCond .ne 13, 3) := by decide +kernel
theorem dX5_deal_7 : decode cX5_deal 7 = .ok (.new 43, 3) := by decide +kernel
theorem dX5_deal_10 : decode cX5_deal 10 = .ok (.dup, 1) := by decide +kernel
theorem dX5_deal_11 : decode cX5_deal 11 = .ok (.ldc 176, 2) := by decide +kernel
theorem dX5_deal_13 : decode cX5_deal 13 = .ok (.invokespecial 47, 3) := by decide +kernel
theorem dX5_deal_16 : decode cX5_deal 16 = .ok (.athrow, 1) := by decide +kernel
theorem dX5_deal_17 : decode cX5_deal 17 = .ok (.aload_n 0, 1) := by decide +kernel
theorem dX5_deal_18 : decode cX5_deal 18 = .ok (.getfield 29, 3) := by decide +kernel
theorem dX5_deal_21 : decode cX5_deal 21 = .ok (.aload_n 0, 1) := by decide +kernel
theorem dX5_deal_22 : decode cX5_deal 22 = .ok (.getfield 19, 3) := by decide +kernel
theorem dX5_deal_25 : decode cX5_deal 25 = .ok (.invokevirtual 178, 3) := by decide +kernel
theorem dX5_deal_28 : decode cX5_deal 28 = .ok (.aload_n 0, 1) := by decide +kernel
theorem dX5_deal_29 : decode cX5_deal 29 = .ok (.getfield 19, 3) := by decide +kernel
theorem dX5_deal_32 : decode cX5_deal 32 = .ok (.iload_n 1, 1) := by decide +kernel
theorem dX5_deal_33 : decode cX5_deal 33 = .ok (.lload_n 2, 1) := by decide +kernel
theorem dX5_deal_34 : decode cX5_deal 34 = .ok (.invokevirtual 103, 3) := by decide +kernel
theorem dX5_deal_37 : decode cX5_deal 37 = .ok (.pop, 1) := by decide +kernel
theorem dX5_deal_38 : decode cX5_deal 38 = .ok (.aload_n 0, 1) := by decide +kernel
theorem dX5_deal_39 : decode cX5_deal 39 = .ok (.getfield 19, 3) := by decide +kernel
theorem dX5_deal_42 : decode cX5_deal 42 = .ok (.invokevirtual 182, 3) := by decide +kernel
theorem dX5_deal_45 : decode cX5_deal 45 = .ok (.ireturn, 1) := by decide +kernel
theorem dX5_play_0 : decode cX5_play 0 = .ok (.iload_n 1, 1) := by decide +kernel
theorem dX5_play_1 : decode cX5_play 1 = .ok (.invokestatic 125, 3) := by decide +kernel
theorem dX5_play_4 : decode cX5_play 4 = .ok (.ifCond .ne 13, 3) := by decide +kernel
theorem dX5_play_7 : decode cX5_play 7 = .ok (.new 128, 3) := by decide +kernel
theorem dX5_play_10 : decode cX5_play 10 = .ok (.dup, 1) := by decide +kernel
theorem dX5_play_11 : decode cX5_play 11 = .ok (.ldc 130, 2) := by decide +kernel
theorem dX5_play_13 : decode cX5_play 13 = .ok (.invokespecial 132, 3) := by decide +kernel
theorem dX5_play_16 : decode cX5_play 16 = .ok (.athrow, 1) := by decide +kernel
theorem dX5_play_17 : decode cX5_play 17 = .ok (.aload_n 0, 1) := by decide +kernel
theorem dX5_play_18 : decode cX5_play 18 = .ok (.getfield 19, 3) := by decide +kernel
theorem dX5_play_21 : decode cX5_play 21 = .ok (.invokevirtual 185, 3) := by decide +kernel
theorem dX5_play_24 : decode cX5_play 24 = .ok (.ifCond .ne 13, 3) := by decide +kernel
theorem dX5_play_27 : decode cX5_play 27 = .ok (.new 54, 3) := by decide +kernel
theorem dX5_play_30 : decode cX5_play 30 = .ok (.dup, 1) := by decide +kernel
theorem dX5_play_31 : decode cX5_play 31 = .ok (.ldc 188, 2) := by decide +kernel
theorem dX5_play_33 : decode cX5_play 33 = .ok (.invokespecial 58, 3) := by decide +kernel
theorem dX5_play_36 : decode cX5_play 36 = .ok (.athrow, 1) := by decide +kernel
theorem dX5_play_37 : decode cX5_play 37 = .ok (.aload_n 0, 1) := by decide +kernel
theorem dX5_play_38 : decode cX5_play 38 = .ok (.getfield 29, 3) := by decide +kernel
theorem dX5_play_41 : decode cX5_play 41 = .ok (.aload_n 0, 1) := by decide +kernel
theorem dX5_play_42 : decode cX5_play 42 = .ok (.getfield 19, 3) := by decide +kernel
theorem dX5_play_45 : decode cX5_play 45 = .ok (.invokevirtual 178, 3) := by decide +kernel
theorem dX5_play_48 : decode cX5_play 48 = .ok (.aload_n 0, 1) := by decide +kernel
theorem dX5_play_49 : decode cX5_play 49 = .ok (.getfield 19, 3) := by decide +kernel
theorem dX5_play_52 : decode cX5_play 52 = .ok (.iload_n 1, 1) := by decide +kernel
theorem dX5_play_53 : decode cX5_play 53 = .ok (.iload_n 2, 1) := by decide +kernel
theorem dX5_play_54 : decode cX5_play 54 = .ok (.invokevirtual 190, 3) := by decide +kernel
theorem dX5_play_57 : decode cX5_play 57 = .ok (.ireturn, 1) := by decide +kernel
theorem dX5_draw_0 : decode cX5_draw 0 = .ok (.aload_n 0, 1) := by decide +kernel
theorem dX5_draw_1 : decode cX5_draw 1 = .ok (.getfield 19, 3) := by decide +kernel
theorem dX5_draw_4 : decode cX5_draw 4 = .ok (.invokevirtual 194, 3) := by decide +kernel
theorem dX5_draw_7 : decode cX5_draw 7 = .ok (.ifCond .ne 13, 3) := by decide +kernel
theorem dX5_draw_10 : decode cX5_draw 10 = .ok (.new 54, 3) := by decide +kernel
theorem dX5_draw_13 : decode cX5_draw 13 = .ok (.dup, 1) := by decide +kernel
theorem dX5_draw_14 : decode cX5_draw 14 = .ok (.ldc 197, 2) := by decide +kernel
theorem dX5_draw_16 : decode cX5_draw 16 = .ok (.invokespecial 58, 3) := by decide +kernel
theorem dX5_draw_19 : decode cX5_draw 19 = .ok (.athrow, 1) := by decide +kernel
theorem dX5_draw_20 : decode cX5_draw 20 = .ok (.aload_n 0, 1) := by decide +kernel
theorem dX5_draw_21 : decode cX5_draw 21 = .ok (.getfield 29, 3) := by decide +kernel
theorem dX5_draw_24 : decode cX5_draw 24 = .ok (.aload_n 0, 1) := by decide +kernel
theorem dX5_draw_25 : decode cX5_draw 25 = .ok (.getfield 19, 3) := by decide +kernel
theorem dX5_draw_28 : decode cX5_draw 28 = .ok (.invokevirtual 178, 3) := by decide +kernel
theorem dX5_draw_31 : decode cX5_draw 31 = .ok (.aload_n 0, 1) := by decide +kernel
theorem dX5_draw_32 : decode cX5_draw 32 = .ok (.getfield 19, 3) := by decide +kernel
theorem dX5_draw_35 : decode cX5_draw 35 = .ok (.invokevirtual 111, 3) := by decide +kernel
theorem dX5_draw_38 : decode cX5_draw 38 = .ok (.ireturn, 1) := by decide +kernel
theorem dX5_pass_0 : decode cX5_pass 0 = .ok (.aload_n 0, 1) := by decide +kernel
theorem dX5_pass_1 : decode cX5_pass 1 = .ok (.getfield 19, 3) := by decide +kernel
theorem dX5_pass_4 : decode cX5_pass 4 = .ok (.invokevirtual 199, 3) := by decide +kernel
theorem dX5_pass_7 : decode cX5_pass 7 = .ok (.ifCond .ne 13, 3) := by decide +kernel
theorem dX5_pass_10 : decode cX5_pass 10 = .ok (.new 54, 3) := by decide +kernel
theorem dX5_pass_13 : decode cX5_pass 13 = .ok (.dup, 1) := by decide +kernel
theorem dX5_pass_14 : decode cX5_pass 14 = .ok (.ldc 202, 2) := by decide +kernel
theorem dX5_pass_16 : decode cX5_pass 16 = .ok (.invokespecial 58, 3) := by decide +kernel
theorem dX5_pass_19 : decode cX5_pass 19 = .ok (.athrow, 1) := by decide +kernel
theorem dX5_pass_20 : decode cX5_pass 20 = .ok (.aload_n 0, 1) := by decide +kernel
theorem dX5_pass_21 : decode cX5_pass 21 = .ok (.getfield 29, 3) := by decide +kernel
theorem dX5_pass_24 : decode cX5_pass 24 = .ok (.aload_n 0, 1) := by decide +kernel
theorem dX5_pass_25 : decode cX5_pass 25 = .ok (.getfield 19, 3) := by decide +kernel
theorem dX5_pass_28 : decode cX5_pass 28 = .ok (.invokevirtual 178, 3) := by decide +kernel
theorem dX5_pass_31 : decode cX5_pass 31 = .ok (.aload_n 0, 1) := by decide +kernel
theorem dX5_pass_32 : decode cX5_pass 32 = .ok (.getfield 19, 3) := by decide +kernel
theorem dX5_pass_35 : decode cX5_pass 35 = .ok (.invokevirtual 114, 3) := by decide +kernel
theorem dX5_pass_38 : decode cX5_pass 38 = .ok (.ireturn, 1) := by decide +kernel
theorem dX5_undo_0 : decode cX5_undo 0 = .ok (.aload_n 0, 1) := by decide +kernel
theorem dX5_undo_1 : decode cX5_undo 1 = .ok (.getfield 29, 3) := by decide +kernel
theorem dX5_undo_4 : decode cX5_undo 4 = .ok (.invokevirtual 204, 3) := by decide +kernel
theorem dX5_undo_7 : decode cX5_undo 7 = .ok (.ifCond .ne 13, 3) := by decide +kernel
theorem dX5_undo_10 : decode cX5_undo 10 = .ok (.new 54, 3) := by decide +kernel
theorem dX5_undo_13 : decode cX5_undo 13 = .ok (.dup, 1) := by decide +kernel
theorem dX5_undo_14 : decode cX5_undo 14 = .ok (.ldc 205, 2) := by decide +kernel
theorem dX5_undo_16 : decode cX5_undo 16 = .ok (.invokespecial 58, 3) := by decide +kernel
theorem dX5_undo_19 : decode cX5_undo 19 = .ok (.athrow, 1) := by decide +kernel
theorem dX5_undo_20 : decode cX5_undo 20 = .ok (.aload_n 0, 1) := by decide +kernel
theorem dX5_undo_21 : decode cX5_undo 21 = .ok (.getfield 29, 3) := by decide +kernel
theorem dX5_undo_24 : decode cX5_undo 24 = .ok (.aload_n 0, 1) := by decide +kernel
theorem dX5_undo_25 : decode cX5_undo 25 = .ok (.getfield 19, 3) := by decide +kernel
theorem dX5_undo_28 : decode cX5_undo 28 = .ok (.invokevirtual 207, 3) := by decide +kernel
theorem dX5_undo_31 : decode cX5_undo 31 = .ok (.ireturn, 1) := by decide +kernel
theorem dX5_why_0 : decode cX5_why 0 = .ok (.iload_n 1, 1) := by decide +kernel
theorem dX5_why_1 : decode cX5_why 1 = .ok (.invokestatic 125, 3) := by decide +kernel
theorem dX5_why_4 : decode cX5_why 4 = .ok (.ifCond .ne 13, 3) := by decide +kernel
theorem dX5_why_7 : decode cX5_why 7 = .ok (.new 128, 3) := by decide +kernel
theorem dX5_why_10 : decode cX5_why 10 = .ok (.dup, 1) := by decide +kernel
theorem dX5_why_11 : decode cX5_why 11 = .ok (.ldc 130, 2) := by decide +kernel
theorem dX5_why_13 : decode cX5_why 13 = .ok (.invokespecial 132, 3) := by decide +kernel
theorem dX5_why_16 : decode cX5_why 16 = .ok (.athrow, 1) := by decide +kernel
theorem dX5_why_17 : decode cX5_why 17 = .ok (.aload_n 0, 1) := by decide +kernel
theorem dX5_why_18 : decode cX5_why 18 = .ok (.getfield 19, 3) := by decide +kernel
theorem dX5_why_21 : decode cX5_why 21 = .ok (.iload_n 1, 1) := by decide +kernel
theorem dX5_why_22 : decode cX5_why 22 = .ok (.invokevirtual 211, 3) := by decide +kernel
theorem dX5_why_25 : decode cX5_why 25 = .ok (.ireturn, 1) := by decide +kernel
theorem dX5_legal_0 : decode cX5_legal 0 = .ok (.aload_n 0, 1) := by decide +kernel
theorem dX5_legal_1 : decode cX5_legal 1 = .ok (.getfield 19, 3) := by decide +kernel
theorem dX5_legal_4 : decode cX5_legal 4 = .ok (.invokevirtual 214, 3) := by decide +kernel
theorem dX5_legal_7 : decode cX5_legal 7 = .ok (.ireturn, 1) := by decide +kernel
theorem dX5_best_0 : decode cX5_best 0 = .ok (.aload_n 0, 1) := by decide +kernel
theorem dX5_best_1 : decode cX5_best 1 = .ok (.getfield 19, 3) := by decide +kernel
theorem dX5_best_4 : decode cX5_best 4 = .ok (.invokevirtual 117, 3) := by decide +kernel
theorem dX5_best_7 : decode cX5_best 7 = .ok (.ireturn, 1) := by decide +kernel
theorem dX5_chain_0 : decode cX5_chain 0 = .ok (.iload_n 1, 1) := by decide +kernel
theorem dX5_chain_1 : decode cX5_chain 1 = .ok (.invokestatic 149, 3) := by decide +kernel
theorem dX5_chain_4 : decode cX5_chain 4 = .ok (.ifCond .ne 13, 3) := by decide +kernel
theorem dX5_chain_7 : decode cX5_chain 7 = .ok (.new 128, 3) := by decide +kernel
theorem dX5_chain_10 : decode cX5_chain 10 = .ok (.dup, 1) := by decide +kernel
theorem dX5_chain_11 : decode cX5_chain 11 = .ok (.ldc 152, 2) := by decide +kernel
theorem dX5_chain_13 : decode cX5_chain 13 = .ok (.invokespecial 132, 3) := by decide +kernel
theorem dX5_chain_16 : decode cX5_chain 16 = .ok (.athrow, 1) := by decide +kernel
theorem dX5_chain_17 : decode cX5_chain 17 = .ok (.iload_n 2, 1) := by decide +kernel
theorem dX5_chain_18 : decode cX5_chain 18 = .ok (.iconst 1, 1) := by decide +kernel
theorem dX5_chain_19 : decode cX5_chain 19 = .ok (.if_icmp .lt 9, 3) := by decide +kernel
theorem dX5_chain_22 : decode cX5_chain 22 = .ok (.iload_n 2, 1) := by decide +kernel
theorem dX5_chain_23 : decode cX5_chain 23 = .ok (.bipush 6, 2) := by decide +kernel
theorem dX5_chain_25 : decode cX5_chain 25 = .ok (.if_icmp .le 13, 3) := by decide +kernel
theorem dX5_chain_28 : decode cX5_chain 28 = .ok (.new 43, 3) := by decide +kernel
theorem dX5_chain_31 : decode cX5_chain 31 = .ok (.dup, 1) := by decide +kernel
theorem dX5_chain_32 : decode cX5_chain 32 = .ok (.ldc 217, 2) := by decide +kernel
theorem dX5_chain_34 : decode cX5_chain 34 = .ok (.invokespecial 47, 3) := by decide +kernel
theorem dX5_chain_37 : decode cX5_chain 37 = .ok (.athrow, 1) := by decide +kernel
theorem dX5_chain_38 : decode cX5_chain 38 = .ok (.aload_n 0, 1) := by decide +kernel
theorem dX5_chain_39 : decode cX5_chain 39 = .ok (.getfield 19, 3) := by decide +kernel
theorem dX5_chain_42 : decode cX5_chain 42 = .ok (.iload_n 1, 1) := by decide +kernel
theorem dX5_chain_43 : decode cX5_chain 43 = .ok (.iload_n 2, 1) := by decide +kernel
theorem dX5_chain_44 : decode cX5_chain 44 = .ok (.invokevirtual 219, 3) := by decide +kernel
theorem dX5_chain_47 : decode cX5_chain 47 = .ok (.ireturn, 1) := by decide +kernel
theorem dX5_reach_0 : decode cX5_reach 0 = .ok (.iload_n 1, 1) := by decide +kernel
theorem dX5_reach_1 : decode cX5_reach 1 = .ok (.ifCond .lt 8, 3) := by decide +kernel
theorem dX5_reach_4 : decode cX5_reach 4 = .ok (.iload_n 1, 1) := by decide +kernel
theorem dX5_reach_5 : decode cX5_reach 5 = .ok (.iconst 5, 1) := by decide +kernel
theorem dX5_reach_6 : decode cX5_reach 6 = .ok (.if_icmp .le 13, 3) := by decide +kernel
theorem dX5_reach_9 : decode cX5_reach 9 = .ok (.new 43, 3) := by decide +kernel
theorem dX5_reach_12 : decode cX5_reach 12 = .ok (.dup, 1) := by decide +kernel
theorem dX5_reach_13 : decode cX5_reach 13 = .ok (.ldc 120, 2) := by decide +kernel
theorem dX5_reach_15 : decode cX5_reach 15 = .ok (.invokespecial 47, 3) := by decide +kernel
theorem dX5_reach_18 : decode cX5_reach 18 = .ok (.athrow, 1) := by decide +kernel
theorem dX5_reach_19 : decode cX5_reach 19 = .ok (.aload_n 0, 1) := by decide +kernel
theorem dX5_reach_20 : decode cX5_reach 20 = .ok (.getfield 19, 3) := by decide +kernel
theorem dX5_reach_23 : decode cX5_reach 23 = .ok (.invokevirtual 137, 3) := by decide +kernel
theorem dX5_reach_26 : decode cX5_reach 26 = .ok (.iload_n 1, 1) := by decide +kernel
theorem dX5_reach_27 : decode cX5_reach 27 = .ok (.invokevirtual 222, 3) := by decide +kernel
theorem dX5_reach_30 : decode cX5_reach 30 = .ok (.ireturn, 1) := by decide +kernel
theorem dX5_runScript_0 : decode cX5_runScript 0 = .ok (.iload_n 1, 1) := by decide +kernel
theorem dX5_runScript_1 : decode cX5_runScript 1 = .ok (.iconst 1, 1) := by decide +kernel
theorem dX5_runScript_2 : decode cX5_runScript 2 = .ok (.if_icmp .lt 8, 3) := by decide +kernel
theorem dX5_runScript_5 : decode cX5_runScript 5 = .ok (.iload_n 1, 1) := by decide +kernel
theorem dX5_runScript_6 : decode cX5_runScript 6 = .ok (.iconst 4, 1) := by decide +kernel
theorem dX5_runScript_7 : decode cX5_runScript 7 = .ok (.if_icmp .le 13, 3) := by decide +kernel
theorem dX5_runScript_10 : decode cX5_runScript 10 = .ok (.new 43, 3) := by decide +kernel
theorem dX5_runScript_13 : decode cX5_runScript 13 = .ok (.dup, 1) := by decide +kernel
theorem dX5_runScript_14 : decode cX5_runScript 14 = .ok (.ldc 225, 2) := by decide +kernel
theorem dX5_runScript_16 : decode cX5_runScript 16 = .ok (.invokespecial 47, 3) := by decide +kernel
theorem dX5_runScript_19 : decode cX5_runScript 19 = .ok (.athrow, 1) := by decide +kernel
theorem dX5_runScript_20 : decode cX5_runScript 20 = .ok (.lload_n 2, 1) := by decide +kernel
theorem dX5_runScript_21 : decode cX5_runScript 21 = .ok (.lconst 0, 1) := by decide +kernel
theorem dX5_runScript_22 : decode cX5_runScript 22 = .ok (.lcmp, 1) := by decide +kernel
theorem dX5_runScript_23 : decode cX5_runScript 23 = .ok (.ifCond .lt 13, 3) := by decide +kernel
theorem dX5_runScript_26 : decode cX5_runScript 26 = .ok (.lload_n 2, 1) := by decide +kernel
theorem dX5_runScript_27 : decode cX5_runScript 27 = .ok (.iload_n 1, 1) := by decide +kernel
theorem dX5_runScript_28 : decode cX5_runScript 28 = .ok (.invokestatic 227, 3) := by decide +kernel
theorem dX5_runScript_31 : decode cX5_runScript 31 = .ok (.lconst 0, 1) := by decide +kernel
theorem dX5_runScript_32 : decode cX5_runScript 32 = .ok (.lcmp, 1) := by decide +kernel
theorem dX5_runScript_33 : decode cX5_runScript 33 = .ok (.ifCond .le 13, 3) := by decide +kernel
theorem dX5_runScript_36 : decode cX5_runScript 36 = .ok (.new 43, 3) := by decide +kernel
theorem dX5_runScript_39 : decode cX5_runScript 39 = .ok (.dup, 1) := by decide +kernel
theorem dX5_runScript_40 : decode cX5_runScript 40 = .ok (.ldc 231, 2) := by decide +kernel
theorem dX5_runScript_42 : decode cX5_runScript 42 = .ok (.invokespecial 47, 3) := by decide +kernel
theorem dX5_runScript_45 : decode cX5_runScript 45 = .ok (.athrow, 1) := by decide +kernel
theorem dX5_runScript_46 : decode cX5_runScript 46 = .ok (.aload_n 0, 1) := by decide +kernel
theorem dX5_runScript_47 : decode cX5_runScript 47 = .ok (.getfield 23, 3) := by decide +kernel
theorem dX5_runScript_50 : decode cX5_runScript 50 = .ok (.aload_n 0, 1) := by decide +kernel
theorem dX5_runScript_51 : decode cX5_runScript 51 = .ok (.getfield 19, 3) := by decide +kernel
theorem dX5_runScript_54 : decode cX5_runScript 54 = .ok (.invokevirtual 233, 3) := by decide +kernel
theorem dX5_runScript_57 : decode cX5_runScript 57 = .ok (.iconst 0, 1) := by decide +kernel
theorem dX5_runScript_58 : decode cX5_runScript 58 = .ok (.istore 4, 2) := by decide +kernel
theorem dX5_runScript_60 : decode cX5_runScript 60 = .ok (.iload 4, 2) := by decide +kernel
theorem dX5_runScript_62 : decode cX5_runScript 62 = .ok (.iload_n 1, 1) := by decide +kernel
theorem dX5_runScript_63 : decode cX5_runScript 63 = .ok (.if_icmp .ge 34, 3) := by decide +kernel
theorem dX5_runScript_66 : decode cX5_runScript 66 = .ok (.aload_n 0, 1) := by decide +kernel
theorem dX5_runScript_67 : decode cX5_runScript 67 = .ok (.lload_n 2, 1) := by decide +kernel
theorem dX5_runScript_68 : decode cX5_runScript 68 = .ok (.iload_n 1, 1) := by decide +kernel
theorem dX5_runScript_69 : decode cX5_runScript 69 = .ok (.iconst 1, 1) := by decide +kernel
theorem dX5_runScript_70 : decode cX5_runScript 70 = .ok (.isub, 1) := by decide +kernel
theorem dX5_runScript_71 : decode cX5_runScript 71 = .ok (.iload 4, 2) := by decide +kernel
theorem dX5_runScript_73 : decode cX5_runScript 73 = .ok (.isub, 1) := by decide +kernel
theorem dX5_runScript_74 : decode cX5_runScript 74 = .ok (.invokestatic 227, 3) := by decide +kernel
theorem dX5_runScript_77 : decode cX5_runScript 77 = .ok (.ldc2_w 236, 3) := by decide +kernel
theorem dX5_runScript_80 : decode cX5_runScript 80 = .ok (.lrem, 1) := by decide +kernel
theorem dX5_runScript_81 : decode cX5_runScript 81 = .ok (.l2i, 1) := by decide +kernel
theorem dX5_runScript_82 : decode cX5_runScript 82 = .ok (.invokevirtual 238, 3) := by decide +kernel
theorem dX5_runScript_85 : decode cX5_runScript 85 = .ok (.ifCond .ne 6, 3) := by decide +kernel
theorem dX5_runScript_88 : decode cX5_runScript 88 = .ok (.iload 4, 2) := by decide +kernel
theorem dX5_runScript_90 : decode cX5_runScript 90 = .ok (.ireturn, 1) := by decide +kernel
theorem dX5_runScript_91 : decode cX5_runScript 91 = .ok (.iinc 4 1, 3) := by decide +kernel
theorem dX5_runScript_94 : decode cX5_runScript 94 = .ok (.goto (-34), 3) := by decide +kernel
theorem dX5_runScript_97 : decode cX5_runScript 97 = .ok (.iconst (-1), 1) := by decide +kernel
theorem dX5_runScript_98 : decode cX5_runScript 98 = .ok (.ireturn, 1) := by decide +kernel
theorem dX5_withoutGroups_0 : decode cX5_withoutGroups 0 = .ok (.lload_n 0, 1) := by decide +kernel
theorem dX5_withoutGroups_1 : decode cX5_withoutGroups 1 = .ok (.lstore_n 3, 1) := by decide +kernel
theorem dX5_withoutGroups_2 : decode cX5_withoutGroups 2 = .ok (.iconst 0, 1) := by decide +kernel
theorem dX5_withoutGroups_3 : decode cX5_withoutGroups 3 = .ok (.istore 5, 2) := by decide +kernel
theorem dX5_withoutGroups_5 : decode cX5_withoutGroups 5 = .ok (.iload 5, 2) := by decide +kernel
theorem dX5_withoutGroups_7 : decode cX5_withoutGroups 7 = .ok (.iload_n 2, 1) := by decide +kernel
theorem dX5_withoutGroups_8 : decode cX5_withoutGroups 8 = .ok (.if_icmp .ge 15, 3) := by decide +kernel
theorem dX5_withoutGroups_11 : decode cX5_withoutGroups 11 = .ok (.lload_n 3, 1) := by decide +kernel
theorem dX5_withoutGroups_12 : decode cX5_withoutGroups 12 = .ok (.ldc2_w 236, 3) := by decide +kernel
theorem dX5_withoutGroups_15 : decode cX5_withoutGroups 15 = .ok (.ldiv, 1) := by decide +kernel
theorem dX5_withoutGroups_16 : decode cX5_withoutGroups 16 = .ok (.lstore_n 3, 1) := by decide +kernel
theorem dX5_withoutGroups_17 : decode cX5_withoutGroups 17 = .ok (.iinc 5 1, 3) := by decide +kernel
theorem dX5_withoutGroups_20 : decode cX5_withoutGroups 20 = .ok (.goto (-15), 3) := by decide +kernel
theorem dX5_withoutGroups_23 : decode cX5_withoutGroups 23 = .ok (.lload_n 3, 1) := by decide +kernel
theorem dX5_withoutGroups_24 : decode cX5_withoutGroups 24 = .ok (.lreturn, 1) := by decide +kernel
theorem dX5_succeeds_0 : decode cX5_succeeds 0 = .ok (.iload_n 1, 1) := by decide +kernel
theorem dX5_succeeds_1 : decode cX5_succeeds 1 = .ok (.bipush 100, 2) := by decide +kernel
theorem dX5_succeeds_3 : decode cX5_succeeds 3 = .ok (.idiv, 1) := by decide +kernel
theorem dX5_succeeds_4 : decode cX5_succeeds 4 = .ok (.bipush 10, 2) := by decide +kernel
theorem dX5_succeeds_6 : decode cX5_succeeds 6 = .ok (.irem, 1) := by decide +kernel
theorem dX5_succeeds_7 : decode cX5_succeeds 7 = .ok (.istore_n 2, 1) := by decide +kernel
theorem dX5_succeeds_8 : decode cX5_succeeds 8 = .ok (.iload_n 1, 1) := by decide +kernel
theorem dX5_succeeds_9 : decode cX5_succeeds 9 = .ok (.bipush 100, 2) := by decide +kernel
theorem dX5_succeeds_11 : decode cX5_succeeds 11 = .ok (.irem, 1) := by decide +kernel
theorem dX5_succeeds_12 : decode cX5_succeeds 12 = .ok (.istore_n 3, 1) := by decide +kernel
theorem dX5_succeeds_13 : decode cX5_succeeds 13 = .ok (.iload_n 1, 1) := by decide +kernel
theorem dX5_succeeds_14 : decode cX5_succeeds 14 = .ok (.sipush 1000, 3) := by decide +kernel
theorem dX5_succeeds_17 : decode cX5_succeeds 17 = .ok (.idiv, 1) := by decide +kernel
theorem dX5_succeeds_18 : decode cX5_succeeds 18 = .ok (.tableswitch 262 1 9 #[50, 61, 93, 117, 141, 168, 189, 214, 238], 50) := by decide +kernel
theorem dX5_succeeds_68 : decode cX5_succeeds 68 = .ok (.aload_n 0, 1) := by decide +kernel
theorem dX5_succeeds_69 : decode cX5_succeeds 69 = .ok (.getfield 23, 3) := by decide +kernel
theorem dX5_succeeds_72 : decode cX5_succeeds 72 = .ok (.iload_n 2, 1) := by decide +kernel
theorem dX5_succeeds_73 : decode cX5_succeeds 73 = .ok (.iload_n 3, 1) := by decide +kernel
theorem dX5_succeeds_74 : decode cX5_succeeds 74 = .ok (.i2l, 1) := by decide +kernel
theorem dX5_succeeds_75 : decode cX5_succeeds 75 = .ok (.invokevirtual 103, 3) := by decide +kernel
theorem dX5_succeeds_78 : decode cX5_succeeds 78 = .ok (.ireturn, 1) := by decide +kernel
theorem dX5_succeeds_79 : decode cX5_succeeds 79 = .ok (.iload_n 2, 1) := by decide +kernel
theorem dX5_succeeds_80 : decode cX5_succeeds 80 = .ok (.iconst 1, 1) := by decide +kernel
theorem dX5_succeeds_81 : decode cX5_succeeds 81 = .ok (.if_icmp .gt 28, 3) := by decide +kernel
theorem dX5_succeeds_84 : decode cX5_succeeds 84 = .ok (.aload_n 0, 1) := by decide +kernel
theorem dX5_succeeds_85 : decode cX5_succeeds 85 = .ok (.getfield 23, 3) := by decide +kernel
theorem dX5_succeeds_88 : decode cX5_succeeds 88 = .ok (.iload_n 3, 1) := by decide +kernel
theorem dX5_succeeds_89 : decode cX5_succeeds 89 = .ok (.iload_n 2, 1) := by decide +kernel
theorem dX5_succeeds_90 : decode cX5_succeeds 90 = .ok (.iconst 1, 1) := by decide +kernel
theorem dX5_succeeds_91 : decode cX5_succeeds 91 = .ok (.if_icmp .ne 7, 3) := by decide +kernel
theorem dX5_succeeds_94 : decode cX5_succeeds 94 = .ok (.iconst 1, 1) := by decide +kernel
theorem dX5_succeeds_95 : decode cX5_succeeds 95 = .ok (.goto 4, 3) := by decide +kernel
theorem dX5_succeeds_98 : decode cX5_succeeds 98 = .ok (.iconst 0, 1) := by decide +kernel
theorem dX5_succeeds_99 : decode cX5_succeeds 99 = .ok (.invokevirtual 107, 3) := by decide +kernel
theorem dX5_succeeds_102 : decode cX5_succeeds 102 = .ok (.ifCond .eq 7, 3) := by decide +kernel
theorem dX5_succeeds_105 : decode cX5_succeeds 105 = .ok (.iconst 1, 1) := by decide +kernel
theorem dX5_succeeds_106 : decode cX5_succeeds 106 = .ok (.goto 4, 3) := by decide +kernel
theorem dX5_succeeds_109 : decode cX5_succeeds 109 = .ok (.iconst 0, 1) := by decide +kernel
theorem dX5_succeeds_110 : decode cX5_succeeds 110 = .ok (.ireturn, 1) := by decide +kernel
theorem dX5_succeeds_111 : decode cX5_succeeds 111 = .ok (.iload_n 1, 1) := by decide +kernel
theorem dX5_succeeds_112 : decode cX5_succeeds 112 = .ok (.sipush 3000, 3) := by decide +kernel
theorem dX5_succeeds_115 : decode cX5_succeeds 115 = .ok (.if_icmp .ne 18, 3) := by decide +kernel
theorem dX5_succeeds_118 : decode cX5_succeeds 118 = .ok (.aload_n 0, 1) := by decide +kernel
theorem dX5_succeeds_119 : decode cX5_succeeds 119 = .ok (.getfield 23, 3) := by decide +kernel
theorem dX5_succeeds_122 : decode cX5_succeeds 122 = .ok (.invokevirtual 111, 3) := by decide +kernel
theorem dX5_succeeds_125 : decode cX5_succeeds 125 = .ok (.iconst (-1), 1) := by decide +kernel
theorem dX5_succeeds_126 : decode cX5_succeeds 126 = .ok (.if_icmp .eq 7, 3) := by decide +kernel
theorem dX5_succeeds_129 : decode cX5_succeeds 129 = .ok (.iconst 1, 1) := by decide +kernel
theorem dX5_succeeds_130 : decode cX5_succeeds 130 = .ok (.goto 4, 3) := by decide +kernel
theorem dX5_succeeds_133 : decode cX5_succeeds 133 = .ok (.iconst 0, 1) := by decide +kernel
theorem dX5_succeeds_134 : decode cX5_succeeds 134 = .ok (.ireturn, 1) := by decide +kernel
theorem dX5_succeeds_135 : decode cX5_succeeds 135 = .ok (.iload_n 1, 1) := by decide +kernel
theorem dX5_succeeds_136 : decode cX5_succeeds 136 = .ok (.sipush 4000, 3) := by decide +kernel
theorem dX5_succeeds_139 : decode cX5_succeeds 139 = .ok (.if_icmp .ne 18, 3) := by decide +kernel
theorem dX5_succeeds_142 : decode cX5_succeeds 142 = .ok (.aload_n 0, 1) := by decide +kernel
theorem dX5_succeeds_143 : decode cX5_succeeds 143 = .ok (.getfield 23, 3) := by decide +kernel
theorem dX5_succeeds_146 : decode cX5_succeeds 146 = .ok (.invokevirtual 114, 3) := by decide +kernel
theorem dX5_succeeds_149 : decode cX5_succeeds 149 = .ok (.iconst (-1), 1) := by decide +kernel
theorem dX5_succeeds_150 : decode cX5_succeeds 150 = .ok (.if_icmp .eq 7, 3) := by decide +kernel
theorem dX5_succeeds_153 : decode cX5_succeeds 153 = .ok (.iconst 1, 1) := by decide +kernel
theorem dX5_succeeds_154 : decode cX5_succeeds 154 = .ok (.goto 4, 3) := by decide +kernel
theorem dX5_succeeds_157 : decode cX5_succeeds 157 = .ok (.iconst 0, 1) := by decide +kernel
theorem dX5_succeeds_158 : decode cX5_succeeds 158 = .ok (.ireturn, 1) := by decide +kernel
theorem dX5_succeeds_159 : decode cX5_succeeds 159 = .ok (.iload_n 2, 1) := by decide +kernel
theorem dX5_succeeds_160 : decode cX5_succeeds 160 = .ok (.ifCond .ne 24, 3) := by decide +kernel
theorem dX5_succeeds_163 : decode cX5_succeeds 163 = .ok (.iload_n 3, 1) := by decide +kernel
theorem dX5_succeeds_164 : decode cX5_succeeds 164 = .ok (.bipush 9, 2) := by decide +kernel
theorem dX5_succeeds_166 : decode cX5_succeeds 166 = .ok (.if_icmp .gt 18, 3) := by decide +kernel
theorem dX5_succeeds_169 : decode cX5_succeeds 169 = .ok (.aload_n 0, 1) := by decide +kernel
theorem dX5_succeeds_170 : decode cX5_succeeds 170 = .ok (.getfield 23, 3) := by decide +kernel
theorem dX5_succeeds_173 : decode cX5_succeeds 173 = .ok (.iload_n 3, 1) := by decide +kernel
theorem dX5_succeeds_174 : decode cX5_succeeds 174 = .ok (.invokevirtual 241, 3) := by decide +kernel
theorem dX5_succeeds_177 : decode cX5_succeeds 177 = .ok (.ifCond .eq 7, 3) := by decide +kernel
theorem dX5_succeeds_180 : decode cX5_succeeds 180 = .ok (.iconst 1, 1) := by decide +kernel
theorem dX5_succeeds_181 : decode cX5_succeeds 181 = .ok (.goto 4, 3) := by decide +kernel
theorem dX5_succeeds_184 : decode cX5_succeeds 184 = .ok (.iconst 0, 1) := by decide +kernel
theorem dX5_succeeds_185 : decode cX5_succeeds 185 = .ok (.ireturn, 1) := by decide +kernel
theorem dX5_succeeds_186 : decode cX5_succeeds 186 = .ok (.iload_n 2, 1) := by decide +kernel
theorem dX5_succeeds_187 : decode cX5_succeeds 187 = .ok (.ifCond .ne 18, 3) := by decide +kernel
theorem dX5_succeeds_190 : decode cX5_succeeds 190 = .ok (.aload_n 0, 1) := by decide +kernel
theorem dX5_succeeds_191 : decode cX5_succeeds 191 = .ok (.getfield 23, 3) := by decide +kernel
theorem dX5_succeeds_194 : decode cX5_succeeds 194 = .ok (.invokevirtual 244, 3) := by decide +kernel
theorem dX5_succeeds_197 : decode cX5_succeeds 197 = .ok (.iload_n 3, 1) := by decide +kernel
theorem dX5_succeeds_198 : decode cX5_succeeds 198 = .ok (.if_icmp .ne 7, 3) := by decide +kernel
theorem dX5_succeeds_201 : decode cX5_succeeds 201 = .ok (.iconst 1, 1) := by decide +kernel
theorem dX5_succeeds_202 : decode cX5_succeeds 202 = .ok (.goto 4, 3) := by decide +kernel
theorem dX5_succeeds_205 : decode cX5_succeeds 205 = .ok (.iconst 0, 1) := by decide +kernel
theorem dX5_succeeds_206 : decode cX5_succeeds 206 = .ok (.ireturn, 1) := by decide +kernel
theorem dX5_succeeds_207 : decode cX5_succeeds 207 = .ok (.iload_n 2, 1) := by decide +kernel
theorem dX5_succeeds_208 : decode cX5_succeeds 208 = .ok (.invokestatic 149, 3) := by decide +kernel
theorem dX5_succeeds_211 : decode cX5_succeeds 211 = .ok (.ifCond .eq 19, 3) := by decide +kernel
theorem dX5_succeeds_214 : decode cX5_succeeds 214 = .ok (.aload_n 0, 1) := by decide +kernel
theorem dX5_succeeds_215 : decode cX5_succeeds 215 = .ok (.getfield 23, 3) := by decide +kernel
theorem dX5_succeeds_218 : decode cX5_succeeds 218 = .ok (.iload_n 2, 1) := by decide +kernel
theorem dX5_succeeds_219 : decode cX5_succeeds 219 = .ok (.invokevirtual 247, 3) := by decide +kernel
theorem dX5_succeeds_222 : decode cX5_succeeds 222 = .ok (.iload_n 3, 1) := by decide +kernel
theorem dX5_succeeds_223 : decode cX5_succeeds 223 = .ok (.if_icmp .gt 7, 3) := by decide +kernel
theorem dX5_succeeds_226 : decode cX5_succeeds 226 = .ok (.iconst 1, 1) := by decide +kernel
theorem dX5_succeeds_227 : decode cX5_succeeds 227 = .ok (.goto 4, 3) := by decide +kernel
theorem dX5_succeeds_230 : decode cX5_succeeds 230 = .ok (.iconst 0, 1) := by decide +kernel
theorem dX5_succeeds_231 : decode cX5_succeeds 231 = .ok (.ireturn, 1) := by decide +kernel
theorem dX5_succeeds_232 : decode cX5_succeeds 232 = .ok (.iload_n 2, 1) := by decide +kernel
theorem dX5_succeeds_233 : decode cX5_succeeds 233 = .ok (.ifCond .ne 21, 3) := by decide +kernel
theorem dX5_succeeds_236 : decode cX5_succeeds 236 = .ok (.aload_n 0, 1) := by decide +kernel
theorem dX5_succeeds_237 : decode cX5_succeeds 237 = .ok (.getfield 23, 3) := by decide +kernel
theorem dX5_succeeds_240 : decode cX5_succeeds 240 = .ok (.invokevirtual 137, 3) := by decide +kernel
theorem dX5_succeeds_243 : decode cX5_succeeds 243 = .ok (.invokevirtual 250, 3) := by decide +kernel
theorem dX5_succeeds_246 : decode cX5_succeeds 246 = .ok (.iload_n 3, 1) := by decide +kernel
theorem dX5_succeeds_247 : decode cX5_succeeds 247 = .ok (.if_icmp .ne 7, 3) := by decide +kernel
theorem dX5_succeeds_250 : decode cX5_succeeds 250 = .ok (.iconst 1, 1) := by decide +kernel
theorem dX5_succeeds_251 : decode cX5_succeeds 251 = .ok (.goto 4, 3) := by decide +kernel
theorem dX5_succeeds_254 : decode cX5_succeeds 254 = .ok (.iconst 0, 1) := by decide +kernel
theorem dX5_succeeds_255 : decode cX5_succeeds 255 = .ok (.ireturn, 1) := by decide +kernel
theorem dX5_succeeds_256 : decode cX5_succeeds 256 = .ok (.iload_n 2, 1) := by decide +kernel
theorem dX5_succeeds_257 : decode cX5_succeeds 257 = .ok (.ifCond .ne 21, 3) := by decide +kernel
theorem dX5_succeeds_260 : decode cX5_succeeds 260 = .ok (.aload_n 0, 1) := by decide +kernel
theorem dX5_succeeds_261 : decode cX5_succeeds 261 = .ok (.getfield 23, 3) := by decide +kernel
theorem dX5_succeeds_264 : decode cX5_succeeds 264 = .ok (.invokevirtual 137, 3) := by decide +kernel
theorem dX5_succeeds_267 : decode cX5_succeeds 267 = .ok (.invokevirtual 141, 3) := by decide +kernel
theorem dX5_succeeds_270 : decode cX5_succeeds 270 = .ok (.iload_n 3, 1) := by decide +kernel
theorem dX5_succeeds_271 : decode cX5_succeeds 271 = .ok (.if_icmp .lt 7, 3) := by decide +kernel
theorem dX5_succeeds_274 : decode cX5_succeeds 274 = .ok (.iconst 1, 1) := by decide +kernel
theorem dX5_succeeds_275 : decode cX5_succeeds 275 = .ok (.goto 4, 3) := by decide +kernel
theorem dX5_succeeds_278 : decode cX5_succeeds 278 = .ok (.iconst 0, 1) := by decide +kernel
theorem dX5_succeeds_279 : decode cX5_succeeds 279 = .ok (.ireturn, 1) := by decide +kernel
theorem dX5_succeeds_280 : decode cX5_succeeds 280 = .ok (.iconst 0, 1) := by decide +kernel
theorem dX5_succeeds_281 : decode cX5_succeeds 281 = .ok (.ireturn, 1) := by decide +kernel
theorem dX5_simulate_0 : decode cX5_simulate 0 = .ok (.iload_n 3, 1) := by decide +kernel
theorem dX5_simulate_1 : decode cX5_simulate 1 = .ok (.iconst 1, 1) := by decide +kernel
theorem dX5_simulate_2 : decode cX5_simulate 2 = .ok (.if_icmp .lt 10, 3) := by decide +kernel
theorem dX5_simulate_5 : decode cX5_simulate 5 = .ok (.iload_n 3, 1) := by decide +kernel
theorem dX5_simulate_6 : decode cX5_simulate 6 = .ok (.sipush 200, 3) := by decide +kernel
theorem dX5_simulate_9 : decode cX5_simulate 9 = .ok (.if_icmp .le 13, 3) := by decide +kernel
theorem dX5_simulate_12 : decode cX5_simulate 12 = .ok (.new 43, 3) := by decide +kernel
theorem dX5_simulate_15 : decode cX5_simulate 15 = .ok (.dup, 1) := by decide +kernel
theorem dX5_simulate_16 : decode cX5_simulate 16 = .ok (.ldc 253, 2) := by decide +kernel
theorem dX5_simulate_18 : decode cX5_simulate 18 = .ok (.invokespecial 47, 3) := by decide +kernel
theorem dX5_simulate_21 : decode cX5_simulate 21 = .ok (.athrow, 1) := by decide +kernel
theorem dX5_simulate_22 : decode cX5_simulate 22 = .ok (.aload_n 0, 1) := by decide +kernel
theorem dX5_simulate_23 : decode cX5_simulate 23 = .ok (.getfield 23, 3) := by decide +kernel
theorem dX5_simulate_26 : decode cX5_simulate 26 = .ok (.aload_n 0, 1) := by decide +kernel
theorem dX5_simulate_27 : decode cX5_simulate 27 = .ok (.getfield 19, 3) := by decide +kernel
theorem dX5_simulate_30 : decode cX5_simulate 30 = .ok (.invokevirtual 233, 3) := by decide +kernel
theorem dX5_simulate_33 : decode cX5_simulate 33 = .ok (.lload_n 1, 1) := by decide +kernel
theorem dX5_simulate_34 : decode cX5_simulate 34 = .ok (.lstore 4, 2) := by decide +kernel
theorem dX5_simulate_36 : decode cX5_simulate 36 = .ok (.iconst 0, 1) := by decide +kernel
theorem dX5_simulate_37 : decode cX5_simulate 37 = .ok (.istore 6, 2) := by decide +kernel
theorem dX5_simulate_39 : decode cX5_simulate 39 = .ok (.iload 6, 2) := by decide +kernel
theorem dX5_simulate_41 : decode cX5_simulate 41 = .ok (.iload_n 3, 1) := by decide +kernel
theorem dX5_simulate_42 : decode cX5_simulate 42 = .ok (.if_icmp .ge 31, 3) := by decide +kernel
theorem dX5_simulate_45 : decode cX5_simulate 45 = .ok (.lload 4, 2) := by decide +kernel
theorem dX5_simulate_47 : decode cX5_simulate 47 = .ok (.ldc2_w 255, 3) := by decide +kernel
theorem dX5_simulate_50 : decode cX5_simulate 50 = .ok (.lmul, 1) := by decide +kernel
theorem dX5_simulate_51 : decode cX5_simulate 51 = .ok (.ldc2_w 257, 3) := by decide +kernel
theorem dX5_simulate_54 : decode cX5_simulate 54 = .ok (.ladd, 1) := by decide +kernel
theorem dX5_simulate_55 : decode cX5_simulate 55 = .ok (.lstore 4, 2) := by decide +kernel
theorem dX5_simulate_57 : decode cX5_simulate 57 = .ok (.aload_n 0, 1) := by decide +kernel
theorem dX5_simulate_58 : decode cX5_simulate 58 = .ok (.lload 4, 2) := by decide +kernel
theorem dX5_simulate_60 : decode cX5_simulate 60 = .ok (.bipush 33, 2) := by decide +kernel
theorem dX5_simulate_62 : decode cX5_simulate 62 = .ok (.lushr, 1) := by decide +kernel
theorem dX5_simulate_63 : decode cX5_simulate 63 = .ok (.l2i, 1) := by decide +kernel
theorem dX5_simulate_64 : decode cX5_simulate 64 = .ok (.invokevirtual 259, 3) := by decide +kernel
theorem dX5_simulate_67 : decode cX5_simulate 67 = .ok (.iinc 6 1, 3) := by decide +kernel
theorem dX5_simulate_70 : decode cX5_simulate 70 = .ok (.goto (-31), 3) := by decide +kernel
theorem dX5_simulate_73 : decode cX5_simulate 73 = .ok (.aload_n 0, 1) := by decide +kernel
theorem dX5_simulate_74 : decode cX5_simulate 74 = .ok (.getfield 23, 3) := by decide +kernel
theorem dX5_simulate_77 : decode cX5_simulate 77 = .ok (.invokevirtual 182, 3) := by decide +kernel
theorem dX5_simulate_80 : decode cX5_simulate 80 = .ok (.aload_n 0, 1) := by decide +kernel
theorem dX5_simulate_81 : decode cX5_simulate 81 = .ok (.getfield 19, 3) := by decide +kernel
theorem dX5_simulate_84 : decode cX5_simulate 84 = .ok (.invokevirtual 182, 3) := by decide +kernel
theorem dX5_simulate_87 : decode cX5_simulate 87 = .ok (.isub, 1) := by decide +kernel
theorem dX5_simulate_88 : decode cX5_simulate 88 = .ok (.istore 6, 2) := by decide +kernel
theorem dX5_simulate_90 : decode cX5_simulate 90 = .ok (.sipush 10000, 3) := by decide +kernel
theorem dX5_simulate_93 : decode cX5_simulate 93 = .ok (.iload 6, 2) := by decide +kernel
theorem dX5_simulate_95 : decode cX5_simulate 95 = .ok (.imul, 1) := by decide +kernel
theorem dX5_simulate_96 : decode cX5_simulate 96 = .ok (.bipush 100, 2) := by decide +kernel
theorem dX5_simulate_98 : decode cX5_simulate 98 = .ok (.aload_n 0, 1) := by decide +kernel
theorem dX5_simulate_99 : decode cX5_simulate 99 = .ok (.getfield 23, 3) := by decide +kernel
theorem dX5_simulate_102 : decode cX5_simulate 102 = .ok (.invokevirtual 137, 3) := by decide +kernel
theorem dX5_simulate_105 : decode cX5_simulate 105 = .ok (.invokevirtual 141, 3) := by decide +kernel
theorem dX5_simulate_108 : decode cX5_simulate 108 = .ok (.imul, 1) := by decide +kernel
theorem dX5_simulate_109 : decode cX5_simulate 109 = .ok (.iadd, 1) := by decide +kernel
theorem dX5_simulate_110 : decode cX5_simulate 110 = .ok (.aload_n 0, 1) := by decide +kernel
theorem dX5_simulate_111 : decode cX5_simulate 111 = .ok (.getfield 23, 3) := by decide +kernel
theorem dX5_simulate_114 : decode cX5_simulate 114 = .ok (.invokevirtual 263, 3) := by decide +kernel
theorem dX5_simulate_117 : decode cX5_simulate 117 = .ok (.iadd, 1) := by decide +kernel
theorem dX5_simulate_118 : decode cX5_simulate 118 = .ok (.ireturn, 1) := by decide +kernel
theorem dX5_simulateTurn_0 : decode cX5_simulateTurn 0 = .ok (.iload_n 1, 1) := by decide +kernel
theorem dX5_simulateTurn_1 : decode cX5_simulateTurn 1 = .ok (.bipush 16, 2) := by decide +kernel
theorem dX5_simulateTurn_3 : decode cX5_simulateTurn 3 = .ok (.idiv, 1) := by decide +kernel
theorem dX5_simulateTurn_4 : decode cX5_simulateTurn 4 = .ok (.istore_n 2, 1) := by decide +kernel
theorem dX5_simulateTurn_5 : decode cX5_simulateTurn 5 = .ok (.aload_n 0, 1) := by decide +kernel
theorem dX5_simulateTurn_6 : decode cX5_simulateTurn 6 = .ok (.getfield 23, 3) := by decide +kernel
theorem dX5_simulateTurn_9 : decode cX5_simulateTurn 9 = .ok (.invokevirtual 185, 3) := by decide +kernel
theorem dX5_simulateTurn_12 : decode cX5_simulateTurn 12 = .ok (.ifCond .ne 19, 3) := by decide +kernel
theorem dX5_simulateTurn_15 : decode cX5_simulateTurn 15 = .ok (.aload_n 0, 1) := by decide +kernel
theorem dX5_simulateTurn_16 : decode cX5_simulateTurn 16 = .ok (.getfield 23, 3) := by decide +kernel
theorem dX5_simulateTurn_19 : decode cX5_simulateTurn 19 = .ok (.iconst 2, 1) := by decide +kernel
theorem dX5_simulateTurn_20 : decode cX5_simulateTurn 20 = .ok (.iload_n 2, 1) := by decide +kernel
theorem dX5_simulateTurn_21 : decode cX5_simulateTurn 21 = .ok (.iconst 3, 1) := by decide +kernel
theorem dX5_simulateTurn_22 : decode cX5_simulateTurn 22 = .ok (.irem, 1) := by decide +kernel
theorem dX5_simulateTurn_23 : decode cX5_simulateTurn 23 = .ok (.iadd, 1) := by decide +kernel
theorem dX5_simulateTurn_24 : decode cX5_simulateTurn 24 = .ok (.iload_n 2, 1) := by decide +kernel
theorem dX5_simulateTurn_25 : decode cX5_simulateTurn 25 = .ok (.i2l, 1) := by decide +kernel
theorem dX5_simulateTurn_26 : decode cX5_simulateTurn 26 = .ok (.invokevirtual 103, 3) := by decide +kernel
theorem dX5_simulateTurn_29 : decode cX5_simulateTurn 29 = .ok (.pop, 1) := by decide +kernel
theorem dX5_simulateTurn_30 : decode cX5_simulateTurn 30 = .ok (.return_, 1) := by decide +kernel
theorem dX5_simulateTurn_31 : decode cX5_simulateTurn 31 = .ok (.aload_n 0, 1) := by decide +kernel
theorem dX5_simulateTurn_32 : decode cX5_simulateTurn 32 = .ok (.getfield 23, 3) := by decide +kernel
theorem dX5_simulateTurn_35 : decode cX5_simulateTurn 35 = .ok (.invokevirtual 214, 3) := by decide +kernel
theorem dX5_simulateTurn_38 : decode cX5_simulateTurn 38 = .ok (.istore_n 3, 1) := by decide +kernel
theorem dX5_simulateTurn_39 : decode cX5_simulateTurn 39 = .ok (.iload_n 3, 1) := by decide +kernel
theorem dX5_simulateTurn_40 : decode cX5_simulateTurn 40 = .ok (.invokestatic 266, 3) := by decide +kernel
theorem dX5_simulateTurn_43 : decode cX5_simulateTurn 43 = .ok (.istore 4, 2) := by decide +kernel
theorem dX5_simulateTurn_45 : decode cX5_simulateTurn 45 = .ok (.iload 4, 2) := by decide +kernel
theorem dX5_simulateTurn_47 : decode cX5_simulateTurn 47 = .ok (.ifCond .le 37, 3) := by decide +kernel
theorem dX5_simulateTurn_50 : decode cX5_simulateTurn 50 = .ok (.aload_n 0, 1) := by decide +kernel
theorem dX5_simulateTurn_51 : decode cX5_simulateTurn 51 = .ok (.getfield 23, 3) := by decide +kernel
theorem dX5_simulateTurn_54 : decode cX5_simulateTurn 54 = .ok (.iload_n 3, 1) := by decide +kernel
theorem dX5_simulateTurn_55 : decode cX5_simulateTurn 55 = .ok (.iload_n 1, 1) := by decide +kernel
theorem dX5_simulateTurn_56 : decode cX5_simulateTurn 56 = .ok (.bipush 16, 2) := by decide +kernel
theorem dX5_simulateTurn_58 : decode cX5_simulateTurn 58 = .ok (.irem, 1) := by decide +kernel
theorem dX5_simulateTurn_59 : decode cX5_simulateTurn 59 = .ok (.iload 4, 2) := by decide +kernel
theorem dX5_simulateTurn_61 : decode cX5_simulateTurn 61 = .ok (.irem, 1) := by decide +kernel
theorem dX5_simulateTurn_62 : decode cX5_simulateTurn 62 = .ok (.invokestatic 271, 3) := by decide +kernel
theorem dX5_simulateTurn_65 : decode cX5_simulateTurn 65 = .ok (.iload_n 2, 1) := by decide +kernel
theorem dX5_simulateTurn_66 : decode cX5_simulateTurn 66 = .ok (.iconst 2, 1) := by decide +kernel
theorem dX5_simulateTurn_67 : decode cX5_simulateTurn 67 = .ok (.irem, 1) := by decide +kernel
theorem dX5_simulateTurn_68 : decode cX5_simulateTurn 68 = .ok (.iconst 1, 1) := by decide +kernel
theorem dX5_simulateTurn_69 : decode cX5_simulateTurn 69 = .ok (.if_icmp .ne 7, 3) := by decide +kernel
theorem dX5_simulateTurn_72 : decode cX5_simulateTurn 72 = .ok (.iconst 1, 1) := by decide +kernel
theorem dX5_simulateTurn_73 : decode cX5_simulateTurn 73 = .ok (.goto 4, 3) := by decide +kernel
theorem dX5_simulateTurn_76 : decode cX5_simulateTurn 76 = .ok (.iconst 0, 1) := by decide +kernel
theorem dX5_simulateTurn_77 : decode cX5_simulateTurn 77 = .ok (.invokevirtual 107, 3) := by decide +kernel
theorem dX5_simulateTurn_80 : decode cX5_simulateTurn 80 = .ok (.pop, 1) := by decide +kernel
theorem dX5_simulateTurn_81 : decode cX5_simulateTurn 81 = .ok (.goto 32, 3) := by decide +kernel
theorem dX5_simulateTurn_84 : decode cX5_simulateTurn 84 = .ok (.aload_n 0, 1) := by decide +kernel
theorem dX5_simulateTurn_85 : decode cX5_simulateTurn 85 = .ok (.getfield 23, 3) := by decide +kernel
theorem dX5_simulateTurn_88 : decode cX5_simulateTurn 88 = .ok (.invokevirtual 194, 3) := by decide +kernel
theorem dX5_simulateTurn_91 : decode cX5_simulateTurn 91 = .ok (.ifCond .eq 14, 3) := by decide +kernel
theorem dX5_simulateTurn_94 : decode cX5_simulateTurn 94 = .ok (.aload_n 0, 1) := by decide +kernel
theorem dX5_simulateTurn_95 : decode cX5_simulateTurn 95 = .ok (.getfield 23, 3) := by decide +kernel
theorem dX5_simulateTurn_98 : decode cX5_simulateTurn 98 = .ok (.invokevirtual 111, 3) := by decide +kernel
theorem dX5_simulateTurn_101 : decode cX5_simulateTurn 101 = .ok (.pop, 1) := by decide +kernel
theorem dX5_simulateTurn_102 : decode cX5_simulateTurn 102 = .ok (.goto 11, 3) := by decide +kernel
theorem dX5_simulateTurn_105 : decode cX5_simulateTurn 105 = .ok (.aload_n 0, 1) := by decide +kernel
theorem dX5_simulateTurn_106 : decode cX5_simulateTurn 106 = .ok (.getfield 23, 3) := by decide +kernel
theorem dX5_simulateTurn_109 : decode cX5_simulateTurn 109 = .ok (.invokevirtual 114, 3) := by decide +kernel
theorem dX5_simulateTurn_112 : decode cX5_simulateTurn 112 = .ok (.pop, 1) := by decide +kernel
theorem dX5_simulateTurn_113 : decode cX5_simulateTurn 113 = .ok (.return_, 1) := by decide +kernel
theorem dX5_memberOf_0 : decode cX5_memberOf 0 = .ok (.iload_n 1, 1) := by decide +kernel
theorem dX5_memberOf_1 : decode cX5_memberOf 1 = .ok (.istore_n 2, 1) := by decide +kernel
theorem dX5_memberOf_2 : decode cX5_memberOf 2 = .ok (.iconst 0, 1) := by decide +kernel
theorem dX5_memberOf_3 : decode cX5_memberOf 3 = .ok (.istore_n 3, 1) := by decide +kernel
theorem dX5_memberOf_4 : decode cX5_memberOf 4 = .ok (.iload_n 3, 1) := by decide +kernel
theorem dX5_memberOf_5 : decode cX5_memberOf 5 = .ok (.bipush 28, 2) := by decide +kernel
theorem dX5_memberOf_7 : decode cX5_memberOf 7 = .ok (.if_icmp .ge 26, 3) := by decide +kernel
theorem dX5_memberOf_10 : decode cX5_memberOf 10 = .ok (.iload_n 0, 1) := by decide +kernel
theorem dX5_memberOf_11 : decode cX5_memberOf 11 = .ok (.iload_n 3, 1) := by decide +kernel
theorem dX5_memberOf_12 : decode cX5_memberOf 12 = .ok (.iushr, 1) := by decide +kernel
theorem dX5_memberOf_13 : decode cX5_memberOf 13 = .ok (.iconst 1, 1) := by decide +kernel
theorem dX5_memberOf_14 : decode cX5_memberOf 14 = .ok (.iand, 1) := by decide +kernel
theorem dX5_memberOf_15 : decode cX5_memberOf 15 = .ok (.ifCond .eq 12, 3) := by decide +kernel
theorem dX5_memberOf_18 : decode cX5_memberOf 18 = .ok (.iload_n 2, 1) := by decide +kernel
theorem dX5_memberOf_19 : decode cX5_memberOf 19 = .ok (.ifCond .ne 5, 3) := by decide +kernel
theorem dX5_memberOf_22 : decode cX5_memberOf 22 = .ok (.iload_n 3, 1) := by decide +kernel
theorem dX5_memberOf_23 : decode cX5_memberOf 23 = .ok (.ireturn, 1) := by decide +kernel
theorem dX5_memberOf_24 : decode cX5_memberOf 24 = .ok (.iinc 2 (-1), 3) := by decide +kernel
theorem dX5_memberOf_27 : decode cX5_memberOf 27 = .ok (.iinc 3 1, 3) := by decide +kernel
theorem dX5_memberOf_30 : decode cX5_memberOf 30 = .ok (.goto (-26), 3) := by decide +kernel
theorem dX5_memberOf_33 : decode cX5_memberOf 33 = .ok (.iconst (-1), 1) := by decide +kernel
theorem dX5_memberOf_34 : decode cX5_memberOf 34 = .ok (.ireturn, 1) := by decide +kernel
theorem dX5_save_0 : decode cX5_save 0 = .ok (.iload_n 1, 1) := by decide +kernel
theorem dX5_save_1 : decode cX5_save 1 = .ok (.ifCond .lt 8, 3) := by decide +kernel
theorem dX5_save_4 : decode cX5_save 4 = .ok (.iload_n 1, 1) := by decide +kernel
theorem dX5_save_5 : decode cX5_save 5 = .ok (.iconst 2, 1) := by decide +kernel
theorem dX5_save_6 : decode cX5_save 6 = .ok (.if_icmp .lt 14, 3) := by decide +kernel
theorem dX5_save_9 : decode cX5_save 9 = .ok (.new 128, 3) := by decide +kernel
theorem dX5_save_12 : decode cX5_save 12 = .ok (.dup, 1) := by decide +kernel
theorem dX5_save_13 : decode cX5_save 13 = .ok (.ldc_w 274, 3) := by decide +kernel
theorem dX5_save_16 : decode cX5_save 16 = .ok (.invokespecial 132, 3) := by decide +kernel
theorem dX5_save_19 : decode cX5_save 19 = .ok (.athrow, 1) := by decide +kernel
theorem dX5_save_20 : decode cX5_save 20 = .ok (.aload_n 0, 1) := by decide +kernel
theorem dX5_save_21 : decode cX5_save 21 = .ok (.iload_n 1, 1) := by decide +kernel
theorem dX5_save_22 : decode cX5_save 22 = .ok (.invokevirtual 276, 3) := by decide +kernel
theorem dX5_save_25 : decode cX5_save 25 = .ok (.aload_n 0, 1) := by decide +kernel
theorem dX5_save_26 : decode cX5_save 26 = .ok (.getfield 19, 3) := by decide +kernel
theorem dX5_save_29 : decode cX5_save 29 = .ok (.invokevirtual 280, 3) := by decide +kernel
theorem dX5_save_32 : decode cX5_save 32 = .ok (.aload_n 0, 1) := by decide +kernel
theorem dX5_save_33 : decode cX5_save 33 = .ok (.getfield 19, 3) := by decide +kernel
theorem dX5_save_36 : decode cX5_save 36 = .ok (.invokevirtual 182, 3) := by decide +kernel
theorem dX5_save_39 : decode cX5_save 39 = .ok (.ireturn, 1) := by decide +kernel
theorem dX5_restore_0 : decode cX5_restore 0 = .ok (.iload_n 1, 1) := by decide +kernel
theorem dX5_restore_1 : decode cX5_restore 1 = .ok (.ifCond .lt 8, 3) := by decide +kernel
theorem dX5_restore_4 : decode cX5_restore 4 = .ok (.iload_n 1, 1) := by decide +kernel
theorem dX5_restore_5 : decode cX5_restore 5 = .ok (.iconst 2, 1) := by decide +kernel
theorem dX5_restore_6 : decode cX5_restore 6 = .ok (.if_icmp .lt 14, 3) := by decide +kernel
theorem dX5_restore_9 : decode cX5_restore 9 = .ok (.new 128, 3) := by decide +kernel
theorem dX5_restore_12 : decode cX5_restore 12 = .ok (.dup, 1) := by decide +kernel
theorem dX5_restore_13 : decode cX5_restore 13 = .ok (.ldc_w 274, 3) := by decide +kernel
theorem dX5_restore_16 : decode cX5_restore 16 = .ok (.invokespecial 132, 3) := by decide +kernel
theorem dX5_restore_19 : decode cX5_restore 19 = .ok (.athrow, 1) := by decide +kernel
theorem dX5_restore_20 : decode cX5_restore 20 = .ok (.aload_n 0, 1) := by decide +kernel
theorem dX5_restore_21 : decode cX5_restore 21 = .ok (.iload_n 1, 1) := by decide +kernel
theorem dX5_restore_22 : decode cX5_restore 22 = .ok (.invokevirtual 276, 3) := by decide +kernel
theorem dX5_restore_25 : decode cX5_restore 25 = .ok (.invokevirtual 283, 3) := by decide +kernel
theorem dX5_restore_28 : decode cX5_restore 28 = .ok (.ifCond .ne 14, 3) := by decide +kernel
theorem dX5_restore_31 : decode cX5_restore 31 = .ok (.new 54, 3) := by decide +kernel
theorem dX5_restore_34 : decode cX5_restore 34 = .ok (.dup, 1) := by decide +kernel
theorem dX5_restore_35 : decode cX5_restore 35 = .ok (.ldc_w 284, 3) := by decide +kernel
theorem dX5_restore_38 : decode cX5_restore 38 = .ok (.invokespecial 58, 3) := by decide +kernel
theorem dX5_restore_41 : decode cX5_restore 41 = .ok (.athrow, 1) := by decide +kernel
theorem dX5_restore_42 : decode cX5_restore 42 = .ok (.aload_n 0, 1) := by decide +kernel
theorem dX5_restore_43 : decode cX5_restore 43 = .ok (.iload_n 1, 1) := by decide +kernel
theorem dX5_restore_44 : decode cX5_restore 44 = .ok (.invokevirtual 276, 3) := by decide +kernel
theorem dX5_restore_47 : decode cX5_restore 47 = .ok (.aload_n 0, 1) := by decide +kernel
theorem dX5_restore_48 : decode cX5_restore 48 = .ok (.getfield 19, 3) := by decide +kernel
theorem dX5_restore_51 : decode cX5_restore 51 = .ok (.invokevirtual 286, 3) := by decide +kernel
theorem dX5_restore_54 : decode cX5_restore 54 = .ok (.aload_n 0, 1) := by decide +kernel
theorem dX5_restore_55 : decode cX5_restore 55 = .ok (.getfield 29, 3) := by decide +kernel
theorem dX5_restore_58 : decode cX5_restore 58 = .ok (.invokevirtual 75, 3) := by decide +kernel
theorem dX5_restore_61 : decode cX5_restore 61 = .ok (.aload_n 0, 1) := by decide +kernel
theorem dX5_restore_62 : decode cX5_restore 62 = .ok (.getfield 19, 3) := by decide +kernel
theorem dX5_restore_65 : decode cX5_restore 65 = .ok (.invokevirtual 182, 3) := by decide +kernel
theorem dX5_restore_68 : decode cX5_restore 68 = .ok (.ireturn, 1) := by decide +kernel
theorem dX5_slotOf_0 : decode cX5_slotOf 0 = .ok (.iload_n 1, 1) := by decide +kernel
theorem dX5_slotOf_1 : decode cX5_slotOf 1 = .ok (.ifCond .ne 10, 3) := by decide +kernel
theorem dX5_slotOf_4 : decode cX5_slotOf 4 = .ok (.aload_n 0, 1) := by decide +kernel
theorem dX5_slotOf_5 : decode cX5_slotOf 5 = .ok (.getfield 36, 3) := by decide +kernel
theorem dX5_slotOf_8 : decode cX5_slotOf 8 = .ok (.goto 7, 3) := by decide +kernel
theorem dX5_slotOf_11 : decode cX5_slotOf 11 = .ok (.aload_n 0, 1) := by decide +kernel
theorem dX5_slotOf_12 : decode cX5_slotOf 12 = .ok (.getfield 40, 3) := by decide +kernel
theorem dX5_slotOf_15 : decode cX5_slotOf 15 = .ok (.areturn, 1) := by decide +kernel
theorem dX5_isTile_0 : decode cX5_isTile 0 = .ok (.iload_n 0, 1) := by decide +kernel
theorem dX5_isTile_1 : decode cX5_isTile 1 = .ok (.ifCond .lt 13, 3) := by decide +kernel
theorem dX5_isTile_4 : decode cX5_isTile 4 = .ok (.iload_n 0, 1) := by decide +kernel
theorem dX5_isTile_5 : decode cX5_isTile 5 = .ok (.bipush 28, 2) := by decide +kernel
theorem dX5_isTile_7 : decode cX5_isTile 7 = .ok (.if_icmp .ge 7, 3) := by decide +kernel
theorem dX5_isTile_10 : decode cX5_isTile 10 = .ok (.iconst 1, 1) := by decide +kernel
theorem dX5_isTile_11 : decode cX5_isTile 11 = .ok (.goto 4, 3) := by decide +kernel
theorem dX5_isTile_14 : decode cX5_isTile 14 = .ok (.iconst 0, 1) := by decide +kernel
theorem dX5_isTile_15 : decode cX5_isTile 15 = .ok (.ireturn, 1) := by decide +kernel
theorem dX5_isPlayer_0 : decode cX5_isPlayer 0 = .ok (.iload_n 0, 1) := by decide +kernel
theorem dX5_isPlayer_1 : decode cX5_isPlayer 1 = .ok (.ifCond .lt 12, 3) := by decide +kernel
theorem dX5_isPlayer_4 : decode cX5_isPlayer 4 = .ok (.iload_n 0, 1) := by decide +kernel
theorem dX5_isPlayer_5 : decode cX5_isPlayer 5 = .ok (.iconst 4, 1) := by decide +kernel
theorem dX5_isPlayer_6 : decode cX5_isPlayer 6 = .ok (.if_icmp .ge 7, 3) := by decide +kernel
theorem dX5_isPlayer_9 : decode cX5_isPlayer 9 = .ok (.iconst 1, 1) := by decide +kernel
theorem dX5_isPlayer_10 : decode cX5_isPlayer 10 = .ok (.goto 4, 3) := by decide +kernel
theorem dX5_isPlayer_13 : decode cX5_isPlayer 13 = .ok (.iconst 0, 1) := by decide +kernel
theorem dX5_isPlayer_14 : decode cX5_isPlayer 14 = .ok (.ireturn, 1) := by decide +kernel
theorem dX5_isNumberOfPlayers_0 : decode cX5_isNumberOfPlayers 0 = .ok (.iload_n 0, 1) := by decide +kernel
theorem dX5_isNumberOfPlayers_1 : decode cX5_isNumberOfPlayers 1 = .ok (.iconst 2, 1) := by decide +kernel
theorem dX5_isNumberOfPlayers_2 : decode cX5_isNumberOfPlayers 2 = .ok (.if_icmp .lt 12, 3) := by decide +kernel
theorem dX5_isNumberOfPlayers_5 : decode cX5_isNumberOfPlayers 5 = .ok (.iload_n 0, 1) := by decide +kernel
theorem dX5_isNumberOfPlayers_6 : decode cX5_isNumberOfPlayers 6 = .ok (.iconst 4, 1) := by decide +kernel
theorem dX5_isNumberOfPlayers_7 : decode cX5_isNumberOfPlayers 7 = .ok (.if_icmp .gt 7, 3) := by decide +kernel
theorem dX5_isNumberOfPlayers_10 : decode cX5_isNumberOfPlayers 10 = .ok (.iconst 1, 1) := by decide +kernel
theorem dX5_isNumberOfPlayers_11 : decode cX5_isNumberOfPlayers 11 = .ok (.goto 4, 3) := by decide +kernel
theorem dX5_isNumberOfPlayers_14 : decode cX5_isNumberOfPlayers 14 = .ok (.iconst 0, 1) := by decide +kernel
theorem dX5_isNumberOfPlayers_15 : decode cX5_isNumberOfPlayers 15 = .ok (.ireturn, 1) := by decide +kernel
theorem dX5_isCell_0 : decode cX5_isCell 0 = .ok (.iload_n 0, 1) := by decide +kernel
theorem dX5_isCell_1 : decode cX5_isCell 1 = .ok (.ifCond .lt 23, 3) := by decide +kernel
theorem dX5_isCell_4 : decode cX5_isCell 4 = .ok (.iload_n 0, 1) := by decide +kernel
theorem dX5_isCell_5 : decode cX5_isCell 5 = .ok (.bipush 25, 2) := by decide +kernel
theorem dX5_isCell_7 : decode cX5_isCell 7 = .ok (.if_icmp .ge 17, 3) := by decide +kernel
theorem dX5_isCell_10 : decode cX5_isCell 10 = .ok (.iload_n 1, 1) := by decide +kernel
theorem dX5_isCell_11 : decode cX5_isCell 11 = .ok (.ifCond .lt 13, 3) := by decide +kernel
theorem dX5_isCell_14 : decode cX5_isCell 14 = .ok (.iload_n 1, 1) := by decide +kernel
theorem dX5_isCell_15 : decode cX5_isCell 15 = .ok (.bipush 25, 2) := by decide +kernel
theorem dX5_isCell_17 : decode cX5_isCell 17 = .ok (.if_icmp .ge 7, 3) := by decide +kernel
theorem dX5_isCell_20 : decode cX5_isCell 20 = .ok (.iconst 1, 1) := by decide +kernel
theorem dX5_isCell_21 : decode cX5_isCell 21 = .ok (.goto 4, 3) := by decide +kernel
theorem dX5_isCell_24 : decode cX5_isCell 24 = .ok (.iconst 0, 1) := by decide +kernel
theorem dX5_isCell_25 : decode cX5_isCell 25 = .ok (.ireturn, 1) := by decide +kernel
theorem dX5_lowOf_0 : decode cX5_lowOf 0 = .ok (.iload_n 0, 1) := by decide +kernel
theorem dX5_lowOf_1 : decode cX5_lowOf 1 = .ok (.ifCond .lt 17, 3) := by decide +kernel
theorem dX5_lowOf_4 : decode cX5_lowOf 4 = .ok (.iload_n 0, 1) := by decide +kernel
theorem dX5_lowOf_5 : decode cX5_lowOf 5 = .ok (.bipush 28, 2) := by decide +kernel
theorem dX5_lowOf_7 : decode cX5_lowOf 7 = .ok (.if_icmp .ge 11, 3) := by decide +kernel
theorem dX5_lowOf_10 : decode cX5_lowOf 10 = .ok (.getstatic 289, 3) := by decide +kernel
theorem dX5_lowOf_13 : decode cX5_lowOf 13 = .ok (.iload_n 0, 1) := by decide +kernel
theorem dX5_lowOf_14 : decode cX5_lowOf 14 = .ok (.iaload, 1) := by decide +kernel
theorem dX5_lowOf_15 : decode cX5_lowOf 15 = .ok (.goto 4, 3) := by decide +kernel
theorem dX5_lowOf_18 : decode cX5_lowOf 18 = .ok (.iconst 0, 1) := by decide +kernel
theorem dX5_lowOf_19 : decode cX5_lowOf 19 = .ok (.ireturn, 1) := by decide +kernel
theorem dX5_highOf_0 : decode cX5_highOf 0 = .ok (.iload_n 0, 1) := by decide +kernel
theorem dX5_highOf_1 : decode cX5_highOf 1 = .ok (.ifCond .lt 17, 3) := by decide +kernel
theorem dX5_highOf_4 : decode cX5_highOf 4 = .ok (.iload_n 0, 1) := by decide +kernel
theorem dX5_highOf_5 : decode cX5_highOf 5 = .ok (.bipush 28, 2) := by decide +kernel
theorem dX5_highOf_7 : decode cX5_highOf 7 = .ok (.if_icmp .ge 11, 3) := by decide +kernel
theorem dX5_highOf_10 : decode cX5_highOf 10 = .ok (.getstatic 293, 3) := by decide +kernel
theorem dX5_highOf_13 : decode cX5_highOf 13 = .ok (.iload_n 0, 1) := by decide +kernel
theorem dX5_highOf_14 : decode cX5_highOf 14 = .ok (.iaload, 1) := by decide +kernel
theorem dX5_highOf_15 : decode cX5_highOf 15 = .ok (.goto 4, 3) := by decide +kernel
theorem dX5_highOf_18 : decode cX5_highOf 18 = .ok (.iconst 0, 1) := by decide +kernel
theorem dX5_highOf_19 : decode cX5_highOf 19 = .ok (.ireturn, 1) := by decide +kernel
theorem dX5_pipsOn_0 : decode cX5_pipsOn 0 = .ok (.iload_n 0, 1) := by decide +kernel
theorem dX5_pipsOn_1 : decode cX5_pipsOn 1 = .ok (.ifCond .lt 23, 3) := by decide +kernel
theorem dX5_pipsOn_4 : decode cX5_pipsOn 4 = .ok (.iload_n 0, 1) := by decide +kernel
theorem dX5_pipsOn_5 : decode cX5_pipsOn 5 = .ok (.bipush 28, 2) := by decide +kernel
theorem dX5_pipsOn_7 : decode cX5_pipsOn 7 = .ok (.if_icmp .ge 17, 3) := by decide +kernel
theorem dX5_pipsOn_10 : decode cX5_pipsOn 10 = .ok (.getstatic 289, 3) := by decide +kernel
theorem dX5_pipsOn_13 : decode cX5_pipsOn 13 = .ok (.iload_n 0, 1) := by decide +kernel
theorem dX5_pipsOn_14 : decode cX5_pipsOn 14 = .ok (.iaload, 1) := by decide +kernel
theorem dX5_pipsOn_15 : decode cX5_pipsOn 15 = .ok (.getstatic 293, 3) := by decide +kernel
theorem dX5_pipsOn_18 : decode cX5_pipsOn 18 = .ok (.iload_n 0, 1) := by decide +kernel
theorem dX5_pipsOn_19 : decode cX5_pipsOn 19 = .ok (.iaload, 1) := by decide +kernel
theorem dX5_pipsOn_20 : decode cX5_pipsOn 20 = .ok (.iadd, 1) := by decide +kernel
theorem dX5_pipsOn_21 : decode cX5_pipsOn 21 = .ok (.goto 4, 3) := by decide +kernel
theorem dX5_pipsOn_24 : decode cX5_pipsOn 24 = .ok (.iconst 0, 1) := by decide +kernel
theorem dX5_pipsOn_25 : decode cX5_pipsOn 25 = .ok (.ireturn, 1) := by decide +kernel
theorem dX5_tileWith_0 : decode cX5_tileWith 0 = .ok (.iload_n 0, 1) := by decide +kernel
theorem dX5_tileWith_1 : decode cX5_tileWith 1 = .ok (.iload_n 1, 1) := by decide +kernel
theorem dX5_tileWith_2 : decode cX5_tileWith 2 = .ok (.invokestatic 296, 3) := by decide +kernel
theorem dX5_tileWith_5 : decode cX5_tileWith 5 = .ok (.istore_n 2, 1) := by decide +kernel
theorem dX5_tileWith_6 : decode cX5_tileWith 6 = .ok (.iload_n 2, 1) := by decide +kernel
theorem dX5_tileWith_7 : decode cX5_tileWith 7 = .ok (.bipush 15, 2) := by decide +kernel
theorem dX5_tileWith_9 : decode cX5_tileWith 9 = .ok (.iload_n 2, 1) := by decide +kernel
theorem dX5_tileWith_10 : decode cX5_tileWith 10 = .ok (.isub, 1) := by decide +kernel
theorem dX5_tileWith_11 : decode cX5_tileWith 11 = .ok (.imul, 1) := by decide +kernel
theorem dX5_tileWith_12 : decode cX5_tileWith 12 = .ok (.iconst 2, 1) := by decide +kernel
theorem dX5_tileWith_13 : decode cX5_tileWith 13 = .ok (.idiv, 1) := by decide +kernel
theorem dX5_tileWith_14 : decode cX5_tileWith 14 = .ok (.iload_n 0, 1) := by decide +kernel
theorem dX5_tileWith_15 : decode cX5_tileWith 15 = .ok (.iload_n 1, 1) := by decide +kernel
theorem dX5_tileWith_16 : decode cX5_tileWith 16 = .ok (.invokestatic 301, 3) := by decide +kernel
theorem dX5_tileWith_19 : decode cX5_tileWith 19 = .ok (.iadd, 1) := by decide +kernel
theorem dX5_tileWith_20 : decode cX5_tileWith 20 = .ok (.iload_n 2, 1) := by decide +kernel
theorem dX5_tileWith_21 : decode cX5_tileWith 21 = .ok (.isub, 1) := by decide +kernel
theorem dX5_tileWith_22 : decode cX5_tileWith 22 = .ok (.ireturn, 1) := by decide +kernel
theorem dX5_stepX_0 : decode cX5_stepX 0 = .ok (.iload_n 0, 1) := by decide +kernel
theorem dX5_stepX_1 : decode cX5_stepX 1 = .ok (.ifCond .ne 7, 3) := by decide +kernel
theorem dX5_stepX_4 : decode cX5_stepX 4 = .ok (.iconst 1, 1) := by decide +kernel
theorem dX5_stepX_5 : decode cX5_stepX 5 = .ok (.goto 13, 3) := by decide +kernel
theorem dX5_stepX_8 : decode cX5_stepX 8 = .ok (.iload_n 0, 1) := by decide +kernel
theorem dX5_stepX_9 : decode cX5_stepX 9 = .ok (.iconst 2, 1) := by decide +kernel
theorem dX5_stepX_10 : decode cX5_stepX 10 = .ok (.if_icmp .ne 7, 3) := by decide +kernel
theorem dX5_stepX_13 : decode cX5_stepX 13 = .ok (.iconst (-1), 1) := by decide +kernel
theorem dX5_stepX_14 : decode cX5_stepX 14 = .ok (.goto 4, 3) := by decide +kernel
theorem dX5_stepX_17 : decode cX5_stepX 17 = .ok (.iconst 0, 1) := by decide +kernel
theorem dX5_stepX_18 : decode cX5_stepX 18 = .ok (.ireturn, 1) := by decide +kernel
theorem dX5_stepY_0 : decode cX5_stepY 0 = .ok (.iload_n 0, 1) := by decide +kernel
theorem dX5_stepY_1 : decode cX5_stepY 1 = .ok (.iconst 1, 1) := by decide +kernel
theorem dX5_stepY_2 : decode cX5_stepY 2 = .ok (.if_icmp .ne 7, 3) := by decide +kernel
theorem dX5_stepY_5 : decode cX5_stepY 5 = .ok (.iconst 1, 1) := by decide +kernel
theorem dX5_stepY_6 : decode cX5_stepY 6 = .ok (.goto 13, 3) := by decide +kernel
theorem dX5_stepY_9 : decode cX5_stepY 9 = .ok (.iload_n 0, 1) := by decide +kernel
theorem dX5_stepY_10 : decode cX5_stepY 10 = .ok (.iconst 3, 1) := by decide +kernel
theorem dX5_stepY_11 : decode cX5_stepY 11 = .ok (.if_icmp .ne 7, 3) := by decide +kernel
theorem dX5_stepY_14 : decode cX5_stepY 14 = .ok (.iconst (-1), 1) := by decide +kernel
theorem dX5_stepY_15 : decode cX5_stepY 15 = .ok (.goto 4, 3) := by decide +kernel
theorem dX5_stepY_18 : decode cX5_stepY 18 = .ok (.iconst 0, 1) := by decide +kernel
theorem dX5_stepY_19 : decode cX5_stepY 19 = .ok (.ireturn, 1) := by decide +kernel
theorem dJ6_bitCount_0f7a4_0 : decode cJ6_bitCount_0f7a4 0 = .ok (.iload_n 0, 1) := by decide +kernel
theorem dJ6_bitCount_0f7a4_1 : decode cJ6_bitCount_0f7a4 1 = .ok (.iload_n 0, 1) := by decide +kernel
theorem dJ6_bitCount_0f7a4_2 : decode cJ6_bitCount_0f7a4 2 = .ok (.iconst 1, 1) := by decide +kernel
theorem dJ6_bitCount_0f7a4_3 : decode cJ6_bitCount_0f7a4 3 = .ok (.iushr, 1) := by decide +kernel
theorem dJ6_bitCount_0f7a4_4 : decode cJ6_bitCount_0f7a4 4 = .ok (.ldc_w 265, 3) := by decide +kernel
theorem dJ6_bitCount_0f7a4_7 : decode cJ6_bitCount_0f7a4 7 = .ok (.iand, 1) := by decide +kernel
theorem dJ6_bitCount_0f7a4_8 : decode cJ6_bitCount_0f7a4 8 = .ok (.isub, 1) := by decide +kernel
theorem dJ6_bitCount_0f7a4_9 : decode cJ6_bitCount_0f7a4 9 = .ok (.istore_n 0, 1) := by decide +kernel
theorem dJ6_bitCount_0f7a4_10 : decode cJ6_bitCount_0f7a4 10 = .ok (.iload_n 0, 1) := by decide +kernel
theorem dJ6_bitCount_0f7a4_11 : decode cJ6_bitCount_0f7a4 11 = .ok (.ldc_w 266, 3) := by decide +kernel
theorem dJ6_bitCount_0f7a4_14 : decode cJ6_bitCount_0f7a4 14 = .ok (.iand, 1) := by decide +kernel
theorem dJ6_bitCount_0f7a4_15 : decode cJ6_bitCount_0f7a4 15 = .ok (.iload_n 0, 1) := by decide +kernel
theorem dJ6_bitCount_0f7a4_16 : decode cJ6_bitCount_0f7a4 16 = .ok (.iconst 2, 1) := by decide +kernel
theorem dJ6_bitCount_0f7a4_17 : decode cJ6_bitCount_0f7a4 17 = .ok (.iushr, 1) := by decide +kernel
theorem dJ6_bitCount_0f7a4_18 : decode cJ6_bitCount_0f7a4 18 = .ok (.ldc_w 266, 3) := by decide +kernel
theorem dJ6_bitCount_0f7a4_21 : decode cJ6_bitCount_0f7a4 21 = .ok (.iand, 1) := by decide +kernel
theorem dJ6_bitCount_0f7a4_22 : decode cJ6_bitCount_0f7a4 22 = .ok (.iadd, 1) := by decide +kernel
theorem dJ6_bitCount_0f7a4_23 : decode cJ6_bitCount_0f7a4 23 = .ok (.istore_n 0, 1) := by decide +kernel
theorem dJ6_bitCount_0f7a4_24 : decode cJ6_bitCount_0f7a4 24 = .ok (.iload_n 0, 1) := by decide +kernel
theorem dJ6_bitCount_0f7a4_25 : decode cJ6_bitCount_0f7a4 25 = .ok (.iload_n 0, 1) := by decide +kernel
theorem dJ6_bitCount_0f7a4_26 : decode cJ6_bitCount_0f7a4 26 = .ok (.iconst 4, 1) := by decide +kernel
theorem dJ6_bitCount_0f7a4_27 : decode cJ6_bitCount_0f7a4 27 = .ok (.iushr, 1) := by decide +kernel
theorem dJ6_bitCount_0f7a4_28 : decode cJ6_bitCount_0f7a4 28 = .ok (.iadd, 1) := by decide +kernel
theorem dJ6_bitCount_0f7a4_29 : decode cJ6_bitCount_0f7a4 29 = .ok (.ldc_w 267, 3) := by decide +kernel
theorem dJ6_bitCount_0f7a4_32 : decode cJ6_bitCount_0f7a4 32 = .ok (.iand, 1) := by decide +kernel
theorem dJ6_bitCount_0f7a4_33 : decode cJ6_bitCount_0f7a4 33 = .ok (.istore_n 0, 1) := by decide +kernel
theorem dJ6_bitCount_0f7a4_34 : decode cJ6_bitCount_0f7a4 34 = .ok (.iload_n 0, 1) := by decide +kernel
theorem dJ6_bitCount_0f7a4_35 : decode cJ6_bitCount_0f7a4 35 = .ok (.iload_n 0, 1) := by decide +kernel
theorem dJ6_bitCount_0f7a4_36 : decode cJ6_bitCount_0f7a4 36 = .ok (.bipush 8, 2) := by decide +kernel
theorem dJ6_bitCount_0f7a4_38 : decode cJ6_bitCount_0f7a4 38 = .ok (.iushr, 1) := by decide +kernel
theorem dJ6_bitCount_0f7a4_39 : decode cJ6_bitCount_0f7a4 39 = .ok (.iadd, 1) := by decide +kernel
theorem dJ6_bitCount_0f7a4_40 : decode cJ6_bitCount_0f7a4 40 = .ok (.istore_n 0, 1) := by decide +kernel
theorem dJ6_bitCount_0f7a4_41 : decode cJ6_bitCount_0f7a4 41 = .ok (.iload_n 0, 1) := by decide +kernel
theorem dJ6_bitCount_0f7a4_42 : decode cJ6_bitCount_0f7a4 42 = .ok (.iload_n 0, 1) := by decide +kernel
theorem dJ6_bitCount_0f7a4_43 : decode cJ6_bitCount_0f7a4 43 = .ok (.bipush 16, 2) := by decide +kernel
theorem dJ6_bitCount_0f7a4_45 : decode cJ6_bitCount_0f7a4 45 = .ok (.iushr, 1) := by decide +kernel
theorem dJ6_bitCount_0f7a4_46 : decode cJ6_bitCount_0f7a4 46 = .ok (.iadd, 1) := by decide +kernel
theorem dJ6_bitCount_0f7a4_47 : decode cJ6_bitCount_0f7a4 47 = .ok (.istore_n 0, 1) := by decide +kernel
theorem dJ6_bitCount_0f7a4_48 : decode cJ6_bitCount_0f7a4 48 = .ok (.iload_n 0, 1) := by decide +kernel
theorem dJ6_bitCount_0f7a4_49 : decode cJ6_bitCount_0f7a4 49 = .ok (.bipush 63, 2) := by decide +kernel
theorem dJ6_bitCount_0f7a4_51 : decode cJ6_bitCount_0f7a4 51 = .ok (.iand, 1) := by decide +kernel
theorem dJ6_bitCount_0f7a4_52 : decode cJ6_bitCount_0f7a4 52 = .ok (.ireturn, 1) := by decide +kernel
theorem dJ9_floorMod_7cf53_0 : decode cJ9_floorMod_7cf53 0 = .ok (.iload_n 0, 1) := by decide +kernel
theorem dJ9_floorMod_7cf53_1 : decode cJ9_floorMod_7cf53 1 = .ok (.iload_n 1, 1) := by decide +kernel
theorem dJ9_floorMod_7cf53_2 : decode cJ9_floorMod_7cf53 2 = .ok (.irem, 1) := by decide +kernel
theorem dJ9_floorMod_7cf53_3 : decode cJ9_floorMod_7cf53 3 = .ok (.istore_n 2, 1) := by decide +kernel
theorem dJ9_floorMod_7cf53_4 : decode cJ9_floorMod_7cf53 4 = .ok (.iload_n 0, 1) := by decide +kernel
theorem dJ9_floorMod_7cf53_5 : decode cJ9_floorMod_7cf53 5 = .ok (.iload_n 1, 1) := by decide +kernel
theorem dJ9_floorMod_7cf53_6 : decode cJ9_floorMod_7cf53 6 = .ok (.ixor, 1) := by decide +kernel
theorem dJ9_floorMod_7cf53_7 : decode cJ9_floorMod_7cf53 7 = .ok (.ifCond .ge 11, 3) := by decide +kernel
theorem dJ9_floorMod_7cf53_10 : decode cJ9_floorMod_7cf53 10 = .ok (.iload_n 2, 1) := by decide +kernel
theorem dJ9_floorMod_7cf53_11 : decode cJ9_floorMod_7cf53 11 = .ok (.ifCond .eq 7, 3) := by decide +kernel
theorem dJ9_floorMod_7cf53_14 : decode cJ9_floorMod_7cf53 14 = .ok (.iload_n 2, 1) := by decide +kernel
theorem dJ9_floorMod_7cf53_15 : decode cJ9_floorMod_7cf53 15 = .ok (.iload_n 1, 1) := by decide +kernel
theorem dJ9_floorMod_7cf53_16 : decode cJ9_floorMod_7cf53 16 = .ok (.iadd, 1) := by decide +kernel
theorem dJ9_floorMod_7cf53_17 : decode cJ9_floorMod_7cf53 17 = .ok (.ireturn, 1) := by decide +kernel
theorem dJ9_floorMod_7cf53_18 : decode cJ9_floorMod_7cf53 18 = .ok (.iload_n 2, 1) := by decide +kernel
theorem dJ9_floorMod_7cf53_19 : decode cJ9_floorMod_7cf53 19 = .ok (.ireturn, 1) := by decide +kernel
theorem dJ9_max_7cf53_0 : decode cJ9_max_7cf53 0 = .ok (.iload_n 0, 1) := by decide +kernel
theorem dJ9_max_7cf53_1 : decode cJ9_max_7cf53 1 = .ok (.iload_n 1, 1) := by decide +kernel
theorem dJ9_max_7cf53_2 : decode cJ9_max_7cf53 2 = .ok (.if_icmp .lt 7, 3) := by decide +kernel
theorem dJ9_max_7cf53_5 : decode cJ9_max_7cf53 5 = .ok (.iload_n 0, 1) := by decide +kernel
theorem dJ9_max_7cf53_6 : decode cJ9_max_7cf53 6 = .ok (.goto 4, 3) := by decide +kernel
theorem dJ9_max_7cf53_9 : decode cJ9_max_7cf53 9 = .ok (.iload_n 1, 1) := by decide +kernel
theorem dJ9_max_7cf53_10 : decode cJ9_max_7cf53 10 = .ok (.ireturn, 1) := by decide +kernel
theorem dJ9_min_7cf53_0 : decode cJ9_min_7cf53 0 = .ok (.iload_n 0, 1) := by decide +kernel
theorem dJ9_min_7cf53_1 : decode cJ9_min_7cf53 1 = .ok (.iload_n 1, 1) := by decide +kernel
theorem dJ9_min_7cf53_2 : decode cJ9_min_7cf53 2 = .ok (.if_icmp .gt 7, 3) := by decide +kernel
theorem dJ9_min_7cf53_5 : decode cJ9_min_7cf53 5 = .ok (.iload_n 0, 1) := by decide +kernel
theorem dJ9_min_7cf53_6 : decode cJ9_min_7cf53 6 = .ok (.goto 4, 3) := by decide +kernel
theorem dJ9_min_7cf53_9 : decode cJ9_min_7cf53 9 = .ok (.iload_n 1, 1) := by decide +kernel
theorem dJ9_min_7cf53_10 : decode cJ9_min_7cf53 10 = .ok (.ireturn, 1) := by decide +kernel
theorem dJ7_fill_53178_0 : decode cJ7_fill_53178 0 = .ok (.iconst 0, 1) := by decide +kernel
theorem dJ7_fill_53178_1 : decode cJ7_fill_53178 1 = .ok (.istore_n 2, 1) := by decide +kernel
theorem dJ7_fill_53178_2 : decode cJ7_fill_53178 2 = .ok (.aload_n 0, 1) := by decide +kernel
theorem dJ7_fill_53178_3 : decode cJ7_fill_53178 3 = .ok (.arraylength, 1) := by decide +kernel
theorem dJ7_fill_53178_4 : decode cJ7_fill_53178 4 = .ok (.istore_n 3, 1) := by decide +kernel
theorem dJ7_fill_53178_5 : decode cJ7_fill_53178 5 = .ok (.iload_n 2, 1) := by decide +kernel
theorem dJ7_fill_53178_6 : decode cJ7_fill_53178 6 = .ok (.iload_n 3, 1) := by decide +kernel
theorem dJ7_fill_53178_7 : decode cJ7_fill_53178 7 = .ok (.if_icmp .ge 13, 3) := by decide +kernel
theorem dJ7_fill_53178_10 : decode cJ7_fill_53178 10 = .ok (.aload_n 0, 1) := by decide +kernel
theorem dJ7_fill_53178_11 : decode cJ7_fill_53178 11 = .ok (.iload_n 2, 1) := by decide +kernel
theorem dJ7_fill_53178_12 : decode cJ7_fill_53178 12 = .ok (.iload_n 1, 1) := by decide +kernel
theorem dJ7_fill_53178_13 : decode cJ7_fill_53178 13 = .ok (.iastore, 1) := by decide +kernel
theorem dJ7_fill_53178_14 : decode cJ7_fill_53178 14 = .ok (.iinc 2 1, 3) := by decide +kernel
theorem dJ7_fill_53178_17 : decode cJ7_fill_53178 17 = .ok (.goto (-12), 3) := by decide +kernel
theorem dJ7_fill_53178_20 : decode cJ7_fill_53178 20 = .ok (.return_, 1) := by decide +kernel
end
section
theorem dX6_init_0 : decode cX6_init 0 = .ok (.aload_n 0, 1) := by decide +kernel
theorem dX6_init_1 : decode cX6_init 1 = .ok (.invokespecial 1, 3) := by decide +kernel
theorem dX6_init_4 : decode cX6_init 4 = .ok (.aload_n 0, 1) := by decide +kernel
theorem dX6_init_5 : decode cX6_init 5 = .ok (.bipush 120, 2) := by decide +kernel
theorem dX6_init_7 : decode cX6_init 7 = .ok (.newarray .int, 2) := by decide +kernel
theorem dX6_init_9 : decode cX6_init 9 = .ok (.putfield 7, 3) := by decide +kernel
theorem dX6_init_12 : decode cX6_init 12 = .ok (.aload_n 0, 1) := by decide +kernel
theorem dX6_init_13 : decode cX6_init 13 = .ok (.sipush 217, 3) := by decide +kernel
theorem dX6_init_16 : decode cX6_init 16 = .ok (.newarray .int, 2) := by decide +kernel
theorem dX6_init_18 : decode cX6_init 18 = .ok (.putfield 13, 3) := by decide +kernel
theorem dX6_init_21 : decode cX6_init 21 = .ok (.aload_n 0, 1) := by decide +kernel
theorem dX6_init_22 : decode cX6_init 22 = .ok (.sipush 217, 3) := by decide +kernel
theorem dX6_init_25 : decode cX6_init 25 = .ok (.newarray .int, 2) := by decide +kernel
theorem dX6_init_27 : decode cX6_init 27 = .ok (.putfield 16, 3) := by decide +kernel
theorem dX6_init_30 : decode cX6_init 30 = .ok (.aload_n 0, 1) := by decide +kernel
theorem dX6_init_31 : decode cX6_init 31 = .ok (.sipush 3038, 3) := by decide +kernel
theorem dX6_init_34 : decode cX6_init 34 = .ok (.newarray .int, 2) := by decide +kernel
theorem dX6_init_36 : decode cX6_init 36 = .ok (.putfield 19, 3) := by decide +kernel
theorem dX6_init_39 : decode cX6_init 39 = .ok (.aload_n 0, 1) := by decide +kernel
theorem dX6_init_40 : decode cX6_init 40 = .ok (.sipush 434, 3) := by decide +kernel
theorem dX6_init_43 : decode cX6_init 43 = .ok (.newarray .int, 2) := by decide +kernel
theorem dX6_init_45 : decode cX6_init 45 = .ok (.putfield 22, 3) := by decide +kernel
theorem dX6_init_48 : decode cX6_init 48 = .ok (.aload_n 0, 1) := by decide +kernel
theorem dX6_init_49 : decode cX6_init 49 = .ok (.iconst 2, 1) := by decide +kernel
theorem dX6_init_50 : decode cX6_init 50 = .ok (.newarray .boolean, 2) := by decide +kernel
theorem dX6_init_52 : decode cX6_init 52 = .ok (.putfield 25, 3) := by decide +kernel
theorem dX6_init_55 : decode cX6_init 55 = .ok (.aload_n 0, 1) := by decide +kernel
theorem dX6_init_56 : decode cX6_init 56 = .ok (.bipush 28, 2) := by decide +kernel
theorem dX6_init_58 : decode cX6_init 58 = .ok (.newarray .int, 2) := by decide +kernel
theorem dX6_init_60 : decode cX6_init 60 = .ok (.putfield 29, 3) := by decide +kernel
theorem dX6_init_63 : decode cX6_init 63 = .ok (.aload_n 0, 1) := by decide +kernel
theorem dX6_init_64 : decode cX6_init 64 = .ok (.bipush 7, 2) := by decide +kernel
theorem dX6_init_66 : decode cX6_init 66 = .ok (.newarray .int, 2) := by decide +kernel
theorem dX6_init_68 : decode cX6_init 68 = .ok (.putfield 32, 3) := by decide +kernel
theorem dX6_init_71 : decode cX6_init 71 = .ok (.aload_n 0, 1) := by decide +kernel
theorem dX6_init_72 : decode cX6_init 72 = .ok (.bipush 7, 2) := by decide +kernel
theorem dX6_init_74 : decode cX6_init 74 = .ok (.newarray .int, 2) := by decide +kernel
theorem dX6_init_76 : decode cX6_init 76 = .ok (.putfield 35, 3) := by decide +kernel
theorem dX6_init_79 : decode cX6_init 79 = .ok (.aload_n 0, 1) := by decide +kernel
theorem dX6_init_80 : decode cX6_init 80 = .ok (.getfield 13, 3) := by decide +kernel
theorem dX6_init_83 : decode cX6_init 83 = .ok (.invokestatic 38, 3) := by decide +kernel
theorem dX6_init_86 : decode cX6_init 86 = .ok (.return_, 1) := by decide +kernel
theorem dX6_thrown_0 : decode cX6_thrown 0 = .ok (.aload_n 0, 1) := by decide +kernel
theorem dX6_thrown_1 : decode cX6_thrown 1 = .ok (.getfield 42, 3) := by decide +kernel
theorem dX6_thrown_4 : decode cX6_thrown 4 = .ok (.ireturn, 1) := by decide +kernel
theorem dX6_refused_0 : decode cX6_refused 0 = .ok (.aload_n 0, 1) := by decide +kernel
theorem dX6_refused_1 : decode cX6_refused 1 = .ok (.iload_n 1, 1) := by decide +kernel
theorem dX6_refused_2 : decode cX6_refused 2 = .ok (.putfield 42, 3) := by decide +kernel
theorem dX6_refused_5 : decode cX6_refused 5 = .ok (.iload_n 1, 1) := by decide +kernel
theorem dX6_refused_6 : decode cX6_refused 6 = .ok (.ifCond .le 7, 3) := by decide +kernel
theorem dX6_refused_9 : decode cX6_refused 9 = .ok (.iconst 1, 1) := by decide +kernel
theorem dX6_refused_10 : decode cX6_refused 10 = .ok (.goto 4, 3) := by decide +kernel
theorem dX6_refused_13 : decode cX6_refused 13 = .ok (.iconst 0, 1) := by decide +kernel
theorem dX6_refused_14 : decode cX6_refused 14 = .ok (.ireturn, 1) := by decide +kernel
theorem dX6_in_0 : decode cX6_in 0 = .ok (.lload_n 0, 1) := by decide +kernel
theorem dX6_in_1 : decode cX6_in 1 = .ok (.lload_n 2, 1) := by decide +kernel
theorem dX6_in_2 : decode cX6_in 2 = .ok (.lcmp, 1) := by decide +kernel
theorem dX6_in_3 : decode cX6_in 3 = .ok (.ifCond .lt 14, 3) := by decide +kernel
theorem dX6_in_6 : decode cX6_in 6 = .ok (.lload_n 0, 1) := by decide +kernel
theorem dX6_in_7 : decode cX6_in 7 = .ok (.lload 4, 2) := by decide +kernel
theorem dX6_in_9 : decode cX6_in 9 = .ok (.lcmp, 1) := by decide +kernel
theorem dX6_in_10 : decode cX6_in 10 = .ok (.ifCond .gt 7, 3) := by decide +kernel
theorem dX6_in_13 : decode cX6_in 13 = .ok (.iconst 1, 1) := by decide +kernel
theorem dX6_in_14 : decode cX6_in 14 = .ok (.goto 4, 3) := by decide +kernel
theorem dX6_in_17 : decode cX6_in 17 = .ok (.iconst 0, 1) := by decide +kernel
theorem dX6_in_18 : decode cX6_in 18 = .ok (.ireturn, 1) := by decide +kernel
theorem dX6_copyState_0 : decode cX6_copyState 0 = .ok (.iconst 0, 1) := by decide +kernel
theorem dX6_copyState_1 : decode cX6_copyState 1 = .ok (.istore 4, 2) := by decide +kernel
theorem dX6_copyState_3 : decode cX6_copyState 3 = .ok (.iload 4, 2) := by decide +kernel
theorem dX6_copyState_5 : decode cX6_copyState 5 = .ok (.sipush 217, 3) := by decide +kernel
theorem dX6_copyState_8 : decode cX6_copyState 8 = .ok (.if_icmp .ge 21, 3) := by decide +kernel
theorem dX6_copyState_11 : decode cX6_copyState 11 = .ok (.aload_n 2, 1) := by decide +kernel
theorem dX6_copyState_12 : decode cX6_copyState 12 = .ok (.iload_n 3, 1) := by decide +kernel
theorem dX6_copyState_13 : decode cX6_copyState 13 = .ok (.iload 4, 2) := by decide +kernel
theorem dX6_copyState_15 : decode cX6_copyState 15 = .ok (.iadd, 1) := by decide +kernel
theorem dX6_copyState_16 : decode cX6_copyState 16 = .ok (.aload_n 0, 1) := by decide +kernel
theorem dX6_copyState_17 : decode cX6_copyState 17 = .ok (.iload_n 1, 1) := by decide +kernel
theorem dX6_copyState_18 : decode cX6_copyState 18 = .ok (.iload 4, 2) := by decide +kernel
theorem dX6_copyState_20 : decode cX6_copyState 20 = .ok (.iadd, 1) := by decide +kernel
theorem dX6_copyState_21 : decode cX6_copyState 21 = .ok (.iaload, 1) := by decide +kernel
theorem dX6_copyState_22 : decode cX6_copyState 22 = .ok (.iastore, 1) := by decide +kernel
theorem dX6_copyState_23 : decode cX6_copyState 23 = .ok (.iinc 4 1, 3) := by decide +kernel
theorem dX6_copyState_26 : decode cX6_copyState 26 = .ok (.goto (-23), 3) := by decide +kernel
theorem dX6_copyState_29 : decode cX6_copyState 29 = .ok (.return_, 1) := by decide +kernel
theorem dX6_clear_0 : decode cX6_clear 0 = .ok (.iconst 0, 1) := by decide +kernel
theorem dX6_clear_1 : decode cX6_clear 1 = .ok (.istore_n 1, 1) := by decide +kernel
theorem dX6_clear_2 : decode cX6_clear 2 = .ok (.iload_n 1, 1) := by decide +kernel
theorem dX6_clear_3 : decode cX6_clear 3 = .ok (.sipush 217, 3) := by decide +kernel
theorem dX6_clear_6 : decode cX6_clear 6 = .ok (.if_icmp .ge 13, 3) := by decide +kernel
theorem dX6_clear_9 : decode cX6_clear 9 = .ok (.aload_n 0, 1) := by decide +kernel
theorem dX6_clear_10 : decode cX6_clear 10 = .ok (.iload_n 1, 1) := by decide +kernel
theorem dX6_clear_11 : decode cX6_clear 11 = .ok (.iconst 0, 1) := by decide +kernel
theorem dX6_clear_12 : decode cX6_clear 12 = .ok (.iastore, 1) := by decide +kernel
theorem dX6_clear_13 : decode cX6_clear 13 = .ok (.iinc 1 1, 3) := by decide +kernel
theorem dX6_clear_16 : decode cX6_clear 16 = .ok (.goto (-14), 3) := by decide +kernel
theorem dX6_clear_19 : decode cX6_clear 19 = .ok (.aload_n 0, 1) := by decide +kernel
theorem dX6_clear_20 : decode cX6_clear 20 = .ok (.bipush 6, 2) := by decide +kernel
theorem dX6_clear_22 : decode cX6_clear 22 = .ok (.iconst (-1), 1) := by decide +kernel
theorem dX6_clear_23 : decode cX6_clear 23 = .ok (.iastore, 1) := by decide +kernel
theorem dX6_clear_24 : decode cX6_clear 24 = .ok (.iconst 0, 1) := by decide +kernel
theorem dX6_clear_25 : decode cX6_clear 25 = .ok (.istore_n 1, 1) := by decide +kernel
theorem dX6_clear_26 : decode cX6_clear 26 = .ok (.iload_n 1, 1) := by decide +kernel
theorem dX6_clear_27 : decode cX6_clear 27 = .ok (.bipush 28, 2) := by decide +kernel
theorem dX6_clear_29 : decode cX6_clear 29 = .ok (.if_icmp .ge 16, 3) := by decide +kernel
theorem dX6_clear_32 : decode cX6_clear 32 = .ok (.aload_n 0, 1) := by decide +kernel
theorem dX6_clear_33 : decode cX6_clear 33 = .ok (.bipush 21, 2) := by decide +kernel
theorem dX6_clear_35 : decode cX6_clear 35 = .ok (.iload_n 1, 1) := by decide +kernel
theorem dX6_clear_36 : decode cX6_clear 36 = .ok (.iadd, 1) := by decide +kernel
theorem dX6_clear_37 : decode cX6_clear 37 = .ok (.iconst (-1), 1) := by decide +kernel
theorem dX6_clear_38 : decode cX6_clear 38 = .ok (.iastore, 1) := by decide +kernel
theorem dX6_clear_39 : decode cX6_clear 39 = .ok (.iinc 1 1, 3) := by decide +kernel
theorem dX6_clear_42 : decode cX6_clear 42 = .ok (.goto (-16), 3) := by decide +kernel
theorem dX6_clear_45 : decode cX6_clear 45 = .ok (.return_, 1) := by decide +kernel
theorem dX6_lesser_0 : decode cX6_lesser 0 = .ok (.iconst 0, 1) := by decide +kernel
theorem dX6_lesser_1 : decode cX6_lesser 1 = .ok (.istore_n 1, 1) := by decide +kernel
theorem dX6_lesser_2 : decode cX6_lesser 2 = .ok (.iload_n 0, 1) := by decide +kernel
theorem dX6_lesser_3 : decode cX6_lesser 3 = .ok (.istore_n 2, 1) := by decide +kernel
theorem dX6_lesser_4 : decode cX6_lesser 4 = .ok (.iload_n 2, 1) := by decide +kernel
theorem dX6_lesser_5 : decode cX6_lesser 5 = .ok (.bipush 7, 2) := by decide +kernel
theorem dX6_lesser_7 : decode cX6_lesser 7 = .ok (.iload_n 1, 1) := by decide +kernel
theorem dX6_lesser_8 : decode cX6_lesser 8 = .ok (.isub, 1) := by decide +kernel
theorem dX6_lesser_9 : decode cX6_lesser 9 = .ok (.if_icmp .lt 16, 3) := by decide +kernel
theorem dX6_lesser_12 : decode cX6_lesser 12 = .ok (.iload_n 2, 1) := by decide +kernel
theorem dX6_lesser_13 : decode cX6_lesser 13 = .ok (.bipush 7, 2) := by decide +kernel
theorem dX6_lesser_15 : decode cX6_lesser 15 = .ok (.iload_n 1, 1) := by decide +kernel
theorem dX6_lesser_16 : decode cX6_lesser 16 = .ok (.isub, 1) := by decide +kernel
theorem dX6_lesser_17 : decode cX6_lesser 17 = .ok (.isub, 1) := by decide +kernel
theorem dX6_lesser_18 : decode cX6_lesser 18 = .ok (.istore_n 2, 1) := by decide +kernel
theorem dX6_lesser_19 : decode cX6_lesser 19 = .ok (.iinc 1 1, 3) := by decide +kernel
theorem dX6_lesser_22 : decode cX6_lesser 22 = .ok (.goto (-18), 3) := by decide +kernel
theorem dX6_lesser_25 : decode cX6_lesser 25 = .ok (.iload_n 1, 1) := by decide +kernel
theorem dX6_lesser_26 : decode cX6_lesser 26 = .ok (.ireturn, 1) := by decide +kernel
theorem dX6_greater_0 : decode cX6_greater 0 = .ok (.iload_n 0, 1) := by decide +kernel
theorem dX6_greater_1 : decode cX6_greater 1 = .ok (.invokestatic 46, 3) := by decide +kernel
theorem dX6_greater_4 : decode cX6_greater 4 = .ok (.istore_n 1, 1) := by decide +kernel
theorem dX6_greater_5 : decode cX6_greater 5 = .ok (.bipush 7, 2) := by decide +kernel
theorem dX6_greater_7 : decode cX6_greater 7 = .ok (.iload_n 1, 1) := by decide +kernel
theorem dX6_greater_8 : decode cX6_greater 8 = .ok (.imul, 1) := by decide +kernel
theorem dX6_greater_9 : decode cX6_greater 9 = .ok (.iload_n 1, 1) := by decide +kernel
theorem dX6_greater_10 : decode cX6_greater 10 = .ok (.iload_n 1, 1) := by decide +kernel
theorem dX6_greater_11 : decode cX6_greater 11 = .ok (.iconst 1, 1) := by decide +kernel
theorem dX6_greater_12 : decode cX6_greater 12 = .ok (.isub, 1) := by decide +kernel
theorem dX6_greater_13 : decode cX6_greater 13 = .ok (.imul, 1) := by decide +kernel
theorem dX6_greater_14 : decode cX6_greater 14 = .ok (.iconst 2, 1) := by decide +kernel
theorem dX6_greater_15 : decode cX6_greater 15 = .ok (.idiv, 1) := by decide +kernel
theorem dX6_greater_16 : decode cX6_greater 16 = .ok (.isub, 1) := by decide +kernel
theorem dX6_greater_17 : decode cX6_greater 17 = .ok (.istore_n 2, 1) := by decide +kernel
theorem dX6_greater_18 : decode cX6_greater 18 = .ok (.iload_n 1, 1) := by decide +kernel
theorem dX6_greater_19 : decode cX6_greater 19 = .ok (.iload_n 0, 1) := by decide +kernel
theorem dX6_greater_20 : decode cX6_greater 20 = .ok (.iadd, 1) := by decide +kernel
theorem dX6_greater_21 : decode cX6_greater 21 = .ok (.iload_n 2, 1) := by decide +kernel
theorem dX6_greater_22 : decode cX6_greater 22 = .ok (.isub, 1) := by decide +kernel
theorem dX6_greater_23 : decode cX6_greater 23 = .ok (.ireturn, 1) := by decide +kernel
theorem dX6_pips_0 : decode cX6_pips 0 = .ok (.iload_n 0, 1) := by decide +kernel
theorem dX6_pips_1 : decode cX6_pips 1 = .ok (.invokestatic 46, 3) := by decide +kernel
theorem dX6_pips_4 : decode cX6_pips 4 = .ok (.iload_n 0, 1) := by decide +kernel
theorem dX6_pips_5 : decode cX6_pips 5 = .ok (.invokestatic 50, 3) := by decide +kernel
theorem dX6_pips_8 : decode cX6_pips 8 = .ok (.iadd, 1) := by decide +kernel
theorem dX6_pips_9 : decode cX6_pips 9 = .ok (.ireturn, 1) := by decide +kernel
theorem dX6_isTile_0 : decode cX6_isTile 0 = .ok (.iload_n 0, 1) := by decide +kernel
theorem dX6_isTile_1 : decode cX6_isTile 1 = .ok (.i2l, 1) := by decide +kernel
theorem dX6_isTile_2 : decode cX6_isTile 2 = .ok (.lconst 0, 1) := by decide +kernel
theorem dX6_isTile_3 : decode cX6_isTile 3 = .ok (.ldc2_w 53, 3) := by decide +kernel
theorem dX6_isTile_6 : decode cX6_isTile 6 = .ok (.invokestatic 55, 3) := by decide +kernel
theorem dX6_isTile_9 : decode cX6_isTile 9 = .ok (.ireturn, 1) := by decide +kernel
theorem dX6_handMany_0 : decode cX6_handMany 0 = .ok (.iconst 0, 1) := by decide +kernel
theorem dX6_handMany_1 : decode cX6_handMany 1 = .ok (.istore_n 2, 1) := by decide +kernel
theorem dX6_handMany_2 : decode cX6_handMany 2 = .ok (.iconst 0, 1) := by decide +kernel
theorem dX6_handMany_3 : decode cX6_handMany 3 = .ok (.istore_n 3, 1) := by decide +kernel
theorem dX6_handMany_4 : decode cX6_handMany 4 = .ok (.iload_n 3, 1) := by decide +kernel
theorem dX6_handMany_5 : decode cX6_handMany 5 = .ok (.bipush 28, 2) := by decide +kernel
theorem dX6_handMany_7 : decode cX6_handMany 7 = .ok (.if_icmp .ge 27, 3) := by decide +kernel
theorem dX6_handMany_10 : decode cX6_handMany 10 = .ok (.iload_n 2, 1) := by decide +kernel
theorem dX6_handMany_11 : decode cX6_handMany 11 = .ok (.aload_n 0, 1) := by decide +kernel
theorem dX6_handMany_12 : decode cX6_handMany 12 = .ok (.bipush 21, 2) := by decide +kernel
theorem dX6_handMany_14 : decode cX6_handMany 14 = .ok (.iload_n 3, 1) := by decide +kernel
theorem dX6_handMany_15 : decode cX6_handMany 15 = .ok (.iadd, 1) := by decide +kernel
theorem dX6_handMany_16 : decode cX6_handMany 16 = .ok (.iaload, 1) := by decide +kernel
theorem dX6_handMany_17 : decode cX6_handMany 17 = .ok (.iload_n 1, 1) := by decide +kernel
theorem dX6_handMany_18 : decode cX6_handMany 18 = .ok (.if_icmp .ne 7, 3) := by decide +kernel
theorem dX6_handMany_21 : decode cX6_handMany 21 = .ok (.iconst 1, 1) := by decide +kernel
theorem dX6_handMany_22 : decode cX6_handMany 22 = .ok (.goto 4, 3) := by decide +kernel
theorem dX6_handMany_25 : decode cX6_handMany 25 = .ok (.iconst 0, 1) := by decide +kernel
theorem dX6_handMany_26 : decode cX6_handMany 26 = .ok (.iadd, 1) := by decide +kernel
theorem dX6_handMany_27 : decode cX6_handMany 27 = .ok (.istore_n 2, 1) := by decide +kernel
theorem dX6_handMany_28 : decode cX6_handMany 28 = .ok (.iinc 3 1, 3) := by decide +kernel
theorem dX6_handMany_31 : decode cX6_handMany 31 = .ok (.goto (-27), 3) := by decide +kernel
theorem dX6_handMany_34 : decode cX6_handMany 34 = .ok (.iload_n 2, 1) := by decide +kernel
theorem dX6_handMany_35 : decode cX6_handMany 35 = .ok (.ireturn, 1) := by decide +kernel
theorem dX6_handPips_0 : decode cX6_handPips 0 = .ok (.iconst 0, 1) := by decide +kernel
theorem dX6_handPips_1 : decode cX6_handPips 1 = .ok (.istore_n 2, 1) := by decide +kernel
theorem dX6_handPips_2 : decode cX6_handPips 2 = .ok (.iconst 0, 1) := by decide +kernel
theorem dX6_handPips_3 : decode cX6_handPips 3 = .ok (.istore_n 3, 1) := by decide +kernel
theorem dX6_handPips_4 : decode cX6_handPips 4 = .ok (.iload_n 3, 1) := by decide +kernel
theorem dX6_handPips_5 : decode cX6_handPips 5 = .ok (.bipush 28, 2) := by decide +kernel
theorem dX6_handPips_7 : decode cX6_handPips 7 = .ok (.if_icmp .ge 30, 3) := by decide +kernel
theorem dX6_handPips_10 : decode cX6_handPips 10 = .ok (.iload_n 2, 1) := by decide +kernel
theorem dX6_handPips_11 : decode cX6_handPips 11 = .ok (.aload_n 0, 1) := by decide +kernel
theorem dX6_handPips_12 : decode cX6_handPips 12 = .ok (.bipush 21, 2) := by decide +kernel
theorem dX6_handPips_14 : decode cX6_handPips 14 = .ok (.iload_n 3, 1) := by decide +kernel
theorem dX6_handPips_15 : decode cX6_handPips 15 = .ok (.iadd, 1) := by decide +kernel
theorem dX6_handPips_16 : decode cX6_handPips 16 = .ok (.iaload, 1) := by decide +kernel
theorem dX6_handPips_17 : decode cX6_handPips 17 = .ok (.iload_n 1, 1) := by decide +kernel
theorem dX6_handPips_18 : decode cX6_handPips 18 = .ok (.if_icmp .ne 10, 3) := by decide +kernel
theorem dX6_handPips_21 : decode cX6_handPips 21 = .ok (.iload_n 3, 1) := by decide +kernel
theorem dX6_handPips_22 : decode cX6_handPips 22 = .ok (.invokestatic 59, 3) := by decide +kernel
theorem dX6_handPips_25 : decode cX6_handPips 25 = .ok (.goto 4, 3) := by decide +kernel
theorem dX6_handPips_28 : decode cX6_handPips 28 = .ok (.iconst 0, 1) := by decide +kernel
theorem dX6_handPips_29 : decode cX6_handPips 29 = .ok (.iadd, 1) := by decide +kernel
theorem dX6_handPips_30 : decode cX6_handPips 30 = .ok (.istore_n 2, 1) := by decide +kernel
theorem dX6_handPips_31 : decode cX6_handPips 31 = .ok (.iinc 3 1, 3) := by decide +kernel
theorem dX6_handPips_34 : decode cX6_handPips 34 = .ok (.goto (-30), 3) := by decide +kernel
theorem dX6_handPips_37 : decode cX6_handPips 37 = .ok (.iload_n 2, 1) := by decide +kernel
theorem dX6_handPips_38 : decode cX6_handPips 38 = .ok (.ireturn, 1) := by decide +kernel
theorem dX6_dx_0 : decode cX6_dx 0 = .ok (.iload_n 0, 1) := by decide +kernel
theorem dX6_dx_1 : decode cX6_dx 1 = .ok (.ifCond .ne 7, 3) := by decide +kernel
theorem dX6_dx_4 : decode cX6_dx 4 = .ok (.iconst 1, 1) := by decide +kernel
theorem dX6_dx_5 : decode cX6_dx 5 = .ok (.goto 13, 3) := by decide +kernel
theorem dX6_dx_8 : decode cX6_dx 8 = .ok (.iload_n 0, 1) := by decide +kernel
theorem dX6_dx_9 : decode cX6_dx 9 = .ok (.iconst 2, 1) := by decide +kernel
theorem dX6_dx_10 : decode cX6_dx 10 = .ok (.if_icmp .ne 7, 3) := by decide +kernel
theorem dX6_dx_13 : decode cX6_dx 13 = .ok (.iconst (-1), 1) := by decide +kernel
theorem dX6_dx_14 : decode cX6_dx 14 = .ok (.goto 4, 3) := by decide +kernel
theorem dX6_dx_17 : decode cX6_dx 17 = .ok (.iconst 0, 1) := by decide +kernel
theorem dX6_dx_18 : decode cX6_dx 18 = .ok (.ireturn, 1) := by decide +kernel
theorem dX6_dy_0 : decode cX6_dy 0 = .ok (.iload_n 0, 1) := by decide +kernel
theorem dX6_dy_1 : decode cX6_dy 1 = .ok (.iconst 1, 1) := by decide +kernel
theorem dX6_dy_2 : decode cX6_dy 2 = .ok (.if_icmp .ne 7, 3) := by decide +kernel
theorem dX6_dy_5 : decode cX6_dy 5 = .ok (.iconst 1, 1) := by decide +kernel
theorem dX6_dy_6 : decode cX6_dy 6 = .ok (.goto 13, 3) := by decide +kernel
theorem dX6_dy_9 : decode cX6_dy 9 = .ok (.iload_n 0, 1) := by decide +kernel
theorem dX6_dy_10 : decode cX6_dy 10 = .ok (.iconst 3, 1) := by decide +kernel
theorem dX6_dy_11 : decode cX6_dy 11 = .ok (.if_icmp .ne 7, 3) := by decide +kernel
theorem dX6_dy_14 : decode cX6_dy 14 = .ok (.iconst (-1), 1) := by decide +kernel
theorem dX6_dy_15 : decode cX6_dy 15 = .ok (.goto 4, 3) := by decide +kernel
theorem dX6_dy_18 : decode cX6_dy 18 = .ok (.iconst 0, 1) := by decide +kernel
theorem dX6_dy_19 : decode cX6_dy 19 = .ok (.ireturn, 1) := by decide +kernel
theorem dX6_onTable_0 : decode cX6_onTable 0 = .ok (.aload_n 0, 1) := by decide +kernel
theorem dX6_onTable_1 : decode cX6_onTable 1 = .ok (.bipush 77, 2) := by decide +kernel
theorem dX6_onTable_3 : decode cX6_onTable 3 = .ok (.iconst 5, 1) := by decide +kernel
theorem dX6_onTable_4 : decode cX6_onTable 4 = .ok (.iload_n 1, 1) := by decide +kernel
theorem dX6_onTable_5 : decode cX6_onTable 5 = .ok (.imul, 1) := by decide +kernel
theorem dX6_onTable_6 : decode cX6_onTable 6 = .ok (.iadd, 1) := by decide +kernel
theorem dX6_onTable_7 : decode cX6_onTable 7 = .ok (.iload_n 2, 1) := by decide +kernel
theorem dX6_onTable_8 : decode cX6_onTable 8 = .ok (.iadd, 1) := by decide +kernel
theorem dX6_onTable_9 : decode cX6_onTable 9 = .ok (.iaload, 1) := by decide +kernel
theorem dX6_onTable_10 : decode cX6_onTable 10 = .ok (.ireturn, 1) := by decide +kernel
theorem dX6_otherPips_0 : decode cX6_otherPips 0 = .ok (.aload_n 0, 1) := by decide +kernel
theorem dX6_otherPips_1 : decode cX6_otherPips 1 = .ok (.iload_n 1, 1) := by decide +kernel
theorem dX6_otherPips_2 : decode cX6_otherPips 2 = .ok (.iconst 0, 1) := by decide +kernel
theorem dX6_otherPips_3 : decode cX6_otherPips 3 = .ok (.invokestatic 62, 3) := by decide +kernel
theorem dX6_otherPips_6 : decode cX6_otherPips 6 = .ok (.invokestatic 59, 3) := by decide +kernel
theorem dX6_otherPips_9 : decode cX6_otherPips 9 = .ok (.aload_n 0, 1) := by decide +kernel
theorem dX6_otherPips_10 : decode cX6_otherPips 10 = .ok (.iload_n 1, 1) := by decide +kernel
theorem dX6_otherPips_11 : decode cX6_otherPips 11 = .ok (.iconst 4, 1) := by decide +kernel
theorem dX6_otherPips_12 : decode cX6_otherPips 12 = .ok (.invokestatic 62, 3) := by decide +kernel
theorem dX6_otherPips_15 : decode cX6_otherPips 15 = .ok (.isub, 1) := by decide +kernel
theorem dX6_otherPips_16 : decode cX6_otherPips 16 = .ok (.ireturn, 1) := by decide +kernel
theorem dX6_xOf_0 : decode cX6_xOf 0 = .ok (.aload_n 0, 1) := by decide +kernel
theorem dX6_xOf_1 : decode cX6_xOf 1 = .ok (.iload_n 1, 1) := by decide +kernel
theorem dX6_xOf_2 : decode cX6_xOf 2 = .ok (.iconst 1, 1) := by decide +kernel
theorem dX6_xOf_3 : decode cX6_xOf 3 = .ok (.invokestatic 62, 3) := by decide +kernel
theorem dX6_xOf_6 : decode cX6_xOf 6 = .ok (.iload_n 2, 1) := by decide +kernel
theorem dX6_xOf_7 : decode cX6_xOf 7 = .ok (.aload_n 0, 1) := by decide +kernel
theorem dX6_xOf_8 : decode cX6_xOf 8 = .ok (.iload_n 1, 1) := by decide +kernel
theorem dX6_xOf_9 : decode cX6_xOf 9 = .ok (.iconst 3, 1) := by decide +kernel
theorem dX6_xOf_10 : decode cX6_xOf 10 = .ok (.invokestatic 62, 3) := by decide +kernel
theorem dX6_xOf_13 : decode cX6_xOf 13 = .ok (.invokestatic 66, 3) := by decide +kernel
theorem dX6_xOf_16 : decode cX6_xOf 16 = .ok (.imul, 1) := by decide +kernel
theorem dX6_xOf_17 : decode cX6_xOf 17 = .ok (.iadd, 1) := by decide +kernel
theorem dX6_xOf_18 : decode cX6_xOf 18 = .ok (.ireturn, 1) := by decide +kernel
theorem dX6_yOf_0 : decode cX6_yOf 0 = .ok (.aload_n 0, 1) := by decide +kernel
theorem dX6_yOf_1 : decode cX6_yOf 1 = .ok (.iload_n 1, 1) := by decide +kernel
theorem dX6_yOf_2 : decode cX6_yOf 2 = .ok (.iconst 2, 1) := by decide +kernel
theorem dX6_yOf_3 : decode cX6_yOf 3 = .ok (.invokestatic 62, 3) := by decide +kernel
theorem dX6_yOf_6 : decode cX6_yOf 6 = .ok (.iload_n 2, 1) := by decide +kernel
theorem dX6_yOf_7 : decode cX6_yOf 7 = .ok (.aload_n 0, 1) := by decide +kernel
theorem dX6_yOf_8 : decode cX6_yOf 8 = .ok (.iload_n 1, 1) := by decide +kernel
theorem dX6_yOf_9 : decode cX6_yOf 9 = .ok (.iconst 3, 1) := by decide +kernel
theorem dX6_yOf_10 : decode cX6_yOf 10 = .ok (.invokestatic 62, 3) := by decide +kernel
theorem dX6_yOf_13 : decode cX6_yOf 13 = .ok (.invokestatic 69, 3) := by decide +kernel
theorem dX6_yOf_16 : decode cX6_yOf 16 = .ok (.imul, 1) := by decide +kernel
theorem dX6_yOf_17 : decode cX6_yOf 17 = .ok (.iadd, 1) := by decide +kernel
theorem dX6_yOf_18 : decode cX6_yOf 18 = .ok (.ireturn, 1) := by decide +kernel
theorem dX6_cellAt_0 : decode cX6_cellAt 0 = .ok (.iconst 0, 1) := by decide +kernel
theorem dX6_cellAt_1 : decode cX6_cellAt 1 = .ok (.istore_n 3, 1) := by decide +kernel
theorem dX6_cellAt_2 : decode cX6_cellAt 2 = .ok (.iload_n 3, 1) := by decide +kernel
theorem dX6_cellAt_3 : decode cX6_cellAt 3 = .ok (.aload_n 0, 1) := by decide +kernel
theorem dX6_cellAt_4 : decode cX6_cellAt 4 = .ok (.iconst 5, 1) := by decide +kernel
theorem dX6_cellAt_5 : decode cX6_cellAt 5 = .ok (.iaload, 1) := by decide +kernel
theorem dX6_cellAt_6 : decode cX6_cellAt 6 = .ok (.if_icmp .ge 62, 3) := by decide +kernel
theorem dX6_cellAt_9 : decode cX6_cellAt 9 = .ok (.aload_n 0, 1) := by decide +kernel
theorem dX6_cellAt_10 : decode cX6_cellAt 10 = .ok (.iload_n 3, 1) := by decide +kernel
theorem dX6_cellAt_11 : decode cX6_cellAt 11 = .ok (.iconst 0, 1) := by decide +kernel
theorem dX6_cellAt_12 : decode cX6_cellAt 12 = .ok (.invokestatic 72, 3) := by decide +kernel
theorem dX6_cellAt_15 : decode cX6_cellAt 15 = .ok (.iload_n 1, 1) := by decide +kernel
theorem dX6_cellAt_16 : decode cX6_cellAt 16 = .ok (.if_icmp .ne 20, 3) := by decide +kernel
theorem dX6_cellAt_19 : decode cX6_cellAt 19 = .ok (.aload_n 0, 1) := by decide +kernel
theorem dX6_cellAt_20 : decode cX6_cellAt 20 = .ok (.iload_n 3, 1) := by decide +kernel
theorem dX6_cellAt_21 : decode cX6_cellAt 21 = .ok (.iconst 0, 1) := by decide +kernel
theorem dX6_cellAt_22 : decode cX6_cellAt 22 = .ok (.invokestatic 75, 3) := by decide +kernel
theorem dX6_cellAt_25 : decode cX6_cellAt 25 = .ok (.iload_n 2, 1) := by decide +kernel
theorem dX6_cellAt_26 : decode cX6_cellAt 26 = .ok (.if_icmp .ne 10, 3) := by decide +kernel
theorem dX6_cellAt_29 : decode cX6_cellAt 29 = .ok (.aload_n 0, 1) := by decide +kernel
theorem dX6_cellAt_30 : decode cX6_cellAt 30 = .ok (.iload_n 3, 1) := by decide +kernel
theorem dX6_cellAt_31 : decode cX6_cellAt 31 = .ok (.iconst 4, 1) := by decide +kernel
theorem dX6_cellAt_32 : decode cX6_cellAt 32 = .ok (.invokestatic 62, 3) := by decide +kernel
theorem dX6_cellAt_35 : decode cX6_cellAt 35 = .ok (.ireturn, 1) := by decide +kernel
theorem dX6_cellAt_36 : decode cX6_cellAt 36 = .ok (.aload_n 0, 1) := by decide +kernel
theorem dX6_cellAt_37 : decode cX6_cellAt 37 = .ok (.iload_n 3, 1) := by decide +kernel
theorem dX6_cellAt_38 : decode cX6_cellAt 38 = .ok (.iconst 1, 1) := by decide +kernel
theorem dX6_cellAt_39 : decode cX6_cellAt 39 = .ok (.invokestatic 72, 3) := by decide +kernel
theorem dX6_cellAt_42 : decode cX6_cellAt 42 = .ok (.iload_n 1, 1) := by decide +kernel
theorem dX6_cellAt_43 : decode cX6_cellAt 43 = .ok (.if_icmp .ne 19, 3) := by decide +kernel
theorem dX6_cellAt_46 : decode cX6_cellAt 46 = .ok (.aload_n 0, 1) := by decide +kernel
theorem dX6_cellAt_47 : decode cX6_cellAt 47 = .ok (.iload_n 3, 1) := by decide +kernel
theorem dX6_cellAt_48 : decode cX6_cellAt 48 = .ok (.iconst 1, 1) := by decide +kernel
theorem dX6_cellAt_49 : decode cX6_cellAt 49 = .ok (.invokestatic 75, 3) := by decide +kernel
theorem dX6_cellAt_52 : decode cX6_cellAt 52 = .ok (.iload_n 2, 1) := by decide +kernel
theorem dX6_cellAt_53 : decode cX6_cellAt 53 = .ok (.if_icmp .ne 9, 3) := by decide +kernel
theorem dX6_cellAt_56 : decode cX6_cellAt 56 = .ok (.aload_n 0, 1) := by decide +kernel
theorem dX6_cellAt_57 : decode cX6_cellAt 57 = .ok (.iload_n 3, 1) := by decide +kernel
theorem dX6_cellAt_58 : decode cX6_cellAt 58 = .ok (.invokestatic 78, 3) := by decide +kernel
theorem dX6_cellAt_61 : decode cX6_cellAt 61 = .ok (.ireturn, 1) := by decide +kernel
theorem dX6_cellAt_62 : decode cX6_cellAt 62 = .ok (.iinc 3 1, 3) := by decide +kernel
theorem dX6_cellAt_65 : decode cX6_cellAt 65 = .ok (.goto (-63), 3) := by decide +kernel
theorem dX6_cellAt_68 : decode cX6_cellAt 68 = .ok (.iconst (-1), 1) := by decide +kernel
theorem dX6_cellAt_69 : decode cX6_cellAt 69 = .ok (.ireturn, 1) := by decide +kernel
theorem dX6_isFree_0 : decode cX6_isFree 0 = .ok (.iload_n 1, 1) := by decide +kernel
theorem dX6_isFree_1 : decode cX6_isFree 1 = .ok (.i2l, 1) := by decide +kernel
theorem dX6_isFree_2 : decode cX6_isFree 2 = .ok (.lconst 0, 1) := by decide +kernel
theorem dX6_isFree_3 : decode cX6_isFree 3 = .ok (.ldc2_w 82, 3) := by decide +kernel
theorem dX6_isFree_6 : decode cX6_isFree 6 = .ok (.invokestatic 55, 3) := by decide +kernel
theorem dX6_isFree_9 : decode cX6_isFree 9 = .ok (.ifCond .eq 29, 3) := by decide +kernel
theorem dX6_isFree_12 : decode cX6_isFree 12 = .ok (.iload_n 2, 1) := by decide +kernel
theorem dX6_isFree_13 : decode cX6_isFree 13 = .ok (.i2l, 1) := by decide +kernel
theorem dX6_isFree_14 : decode cX6_isFree 14 = .ok (.lconst 0, 1) := by decide +kernel
theorem dX6_isFree_15 : decode cX6_isFree 15 = .ok (.ldc2_w 82, 3) := by decide +kernel
theorem dX6_isFree_18 : decode cX6_isFree 18 = .ok (.invokestatic 55, 3) := by decide +kernel
theorem dX6_isFree_21 : decode cX6_isFree 21 = .ok (.ifCond .eq 17, 3) := by decide +kernel
theorem dX6_isFree_24 : decode cX6_isFree 24 = .ok (.aload_n 0, 1) := by decide +kernel
theorem dX6_isFree_25 : decode cX6_isFree 25 = .ok (.iload_n 1, 1) := by decide +kernel
theorem dX6_isFree_26 : decode cX6_isFree 26 = .ok (.iload_n 2, 1) := by decide +kernel
theorem dX6_isFree_27 : decode cX6_isFree 27 = .ok (.invokestatic 84, 3) := by decide +kernel
theorem dX6_isFree_30 : decode cX6_isFree 30 = .ok (.iconst (-1), 1) := by decide +kernel
theorem dX6_isFree_31 : decode cX6_isFree 31 = .ok (.if_icmp .ne 7, 3) := by decide +kernel
theorem dX6_isFree_34 : decode cX6_isFree 34 = .ok (.iconst 1, 1) := by decide +kernel
theorem dX6_isFree_35 : decode cX6_isFree 35 = .ok (.goto 4, 3) := by decide +kernel
theorem dX6_isFree_38 : decode cX6_isFree 38 = .ok (.iconst 0, 1) := by decide +kernel
theorem dX6_isFree_39 : decode cX6_isFree 39 = .ok (.ireturn, 1) := by decide +kernel
theorem dX6_nextX_0 : decode cX6_nextX 0 = .ok (.aload_n 0, 1) := by decide +kernel
theorem dX6_nextX_1 : decode cX6_nextX 1 = .ok (.iconst 5, 1) := by decide +kernel
theorem dX6_nextX_2 : decode cX6_nextX 2 = .ok (.iaload, 1) := by decide +kernel
theorem dX6_nextX_3 : decode cX6_nextX 3 = .ok (.ifCond .ne 8, 3) := by decide +kernel
theorem dX6_nextX_6 : decode cX6_nextX 6 = .ok (.bipush 12, 2) := by decide +kernel
theorem dX6_nextX_8 : decode cX6_nextX 8 = .ok (.goto 21, 3) := by decide +kernel
theorem dX6_nextX_11 : decode cX6_nextX 11 = .ok (.aload_n 0, 1) := by decide +kernel
theorem dX6_nextX_12 : decode cX6_nextX 12 = .ok (.aload_n 0, 1) := by decide +kernel
theorem dX6_nextX_13 : decode cX6_nextX 13 = .ok (.iconst 5, 1) := by decide +kernel
theorem dX6_nextX_14 : decode cX6_nextX 14 = .ok (.iaload, 1) := by decide +kernel
theorem dX6_nextX_15 : decode cX6_nextX 15 = .ok (.iconst 1, 1) := by decide +kernel
theorem dX6_nextX_16 : decode cX6_nextX 16 = .ok (.isub, 1) := by decide +kernel
theorem dX6_nextX_17 : decode cX6_nextX 17 = .ok (.iconst 1, 1) := by decide +kernel
theorem dX6_nextX_18 : decode cX6_nextX 18 = .ok (.invokestatic 72, 3) := by decide +kernel
theorem dX6_nextX_21 : decode cX6_nextX 21 = .ok (.aload_n 0, 1) := by decide +kernel
theorem dX6_nextX_22 : decode cX6_nextX 22 = .ok (.bipush 7, 2) := by decide +kernel
theorem dX6_nextX_24 : decode cX6_nextX 24 = .ok (.iaload, 1) := by decide +kernel
theorem dX6_nextX_25 : decode cX6_nextX 25 = .ok (.invokestatic 66, 3) := by decide +kernel
theorem dX6_nextX_28 : decode cX6_nextX 28 = .ok (.iadd, 1) := by decide +kernel
theorem dX6_nextX_29 : decode cX6_nextX 29 = .ok (.ireturn, 1) := by decide +kernel
theorem dX6_nextY_0 : decode cX6_nextY 0 = .ok (.aload_n 0, 1) := by decide +kernel
theorem dX6_nextY_1 : decode cX6_nextY 1 = .ok (.iconst 5, 1) := by decide +kernel
theorem dX6_nextY_2 : decode cX6_nextY 2 = .ok (.iaload, 1) := by decide +kernel
theorem dX6_nextY_3 : decode cX6_nextY 3 = .ok (.ifCond .ne 8, 3) := by decide +kernel
theorem dX6_nextY_6 : decode cX6_nextY 6 = .ok (.bipush 12, 2) := by decide +kernel
theorem dX6_nextY_8 : decode cX6_nextY 8 = .ok (.goto 21, 3) := by decide +kernel
theorem dX6_nextY_11 : decode cX6_nextY 11 = .ok (.aload_n 0, 1) := by decide +kernel
theorem dX6_nextY_12 : decode cX6_nextY 12 = .ok (.aload_n 0, 1) := by decide +kernel
theorem dX6_nextY_13 : decode cX6_nextY 13 = .ok (.iconst 5, 1) := by decide +kernel
theorem dX6_nextY_14 : decode cX6_nextY 14 = .ok (.iaload, 1) := by decide +kernel
theorem dX6_nextY_15 : decode cX6_nextY 15 = .ok (.iconst 1, 1) := by decide +kernel
theorem dX6_nextY_16 : decode cX6_nextY 16 = .ok (.isub, 1) := by decide +kernel
theorem dX6_nextY_17 : decode cX6_nextY 17 = .ok (.iconst 1, 1) := by decide +kernel
theorem dX6_nextY_18 : decode cX6_nextY 18 = .ok (.invokestatic 75, 3) := by decide +kernel
theorem dX6_nextY_21 : decode cX6_nextY 21 = .ok (.aload_n 0, 1) := by decide +kernel
theorem dX6_nextY_22 : decode cX6_nextY 22 = .ok (.bipush 7, 2) := by decide +kernel
theorem dX6_nextY_24 : decode cX6_nextY 24 = .ok (.iaload, 1) := by decide +kernel
theorem dX6_nextY_25 : decode cX6_nextY 25 = .ok (.invokestatic 69, 3) := by decide +kernel
theorem dX6_nextY_28 : decode cX6_nextY 28 = .ok (.iadd, 1) := by decide +kernel
theorem dX6_nextY_29 : decode cX6_nextY 29 = .ok (.ireturn, 1) := by decide +kernel
theorem dX6_fitsTo_0 : decode cX6_fitsTo 0 = .ok (.iload_n 1, 1) := by decide +kernel
theorem dX6_fitsTo_1 : decode cX6_fitsTo 1 = .ok (.iconst (-1), 1) := by decide +kernel
theorem dX6_fitsTo_2 : decode cX6_fitsTo 2 = .ok (.if_icmp .eq 19, 3) := by decide +kernel
theorem dX6_fitsTo_5 : decode cX6_fitsTo 5 = .ok (.iload_n 0, 1) := by decide +kernel
theorem dX6_fitsTo_6 : decode cX6_fitsTo 6 = .ok (.invokestatic 46, 3) := by decide +kernel
theorem dX6_fitsTo_9 : decode cX6_fitsTo 9 = .ok (.iload_n 1, 1) := by decide +kernel
theorem dX6_fitsTo_10 : decode cX6_fitsTo 10 = .ok (.if_icmp .eq 11, 3) := by decide +kernel
theorem dX6_fitsTo_13 : decode cX6_fitsTo 13 = .ok (.iload_n 0, 1) := by decide +kernel
theorem dX6_fitsTo_14 : decode cX6_fitsTo 14 = .ok (.invokestatic 50, 3) := by decide +kernel
theorem dX6_fitsTo_17 : decode cX6_fitsTo 17 = .ok (.iload_n 1, 1) := by decide +kernel
theorem dX6_fitsTo_18 : decode cX6_fitsTo 18 = .ok (.if_icmp .ne 7, 3) := by decide +kernel
theorem dX6_fitsTo_21 : decode cX6_fitsTo 21 = .ok (.iconst 1, 1) := by decide +kernel
theorem dX6_fitsTo_22 : decode cX6_fitsTo 22 = .ok (.goto 4, 3) := by decide +kernel
theorem dX6_fitsTo_25 : decode cX6_fitsTo 25 = .ok (.iconst 0, 1) := by decide +kernel
theorem dX6_fitsTo_26 : decode cX6_fitsTo 26 = .ok (.ireturn, 1) := by decide +kernel
theorem dX6_endBehind_0 : decode cX6_endBehind 0 = .ok (.iload_n 1, 1) := by decide +kernel
theorem dX6_endBehind_1 : decode cX6_endBehind 1 = .ok (.iconst (-1), 1) := by decide +kernel
theorem dX6_endBehind_2 : decode cX6_endBehind 2 = .ok (.if_icmp .ne 10, 3) := by decide +kernel
theorem dX6_endBehind_5 : decode cX6_endBehind 5 = .ok (.iload_n 0, 1) := by decide +kernel
theorem dX6_endBehind_6 : decode cX6_endBehind 6 = .ok (.invokestatic 50, 3) := by decide +kernel
theorem dX6_endBehind_9 : decode cX6_endBehind 9 = .ok (.goto 9, 3) := by decide +kernel
theorem dX6_endBehind_12 : decode cX6_endBehind 12 = .ok (.iload_n 0, 1) := by decide +kernel
theorem dX6_endBehind_13 : decode cX6_endBehind 13 = .ok (.invokestatic 59, 3) := by decide +kernel
theorem dX6_endBehind_16 : decode cX6_endBehind 16 = .ok (.iload_n 1, 1) := by decide +kernel
theorem dX6_endBehind_17 : decode cX6_endBehind 17 = .ok (.isub, 1) := by decide +kernel
theorem dX6_endBehind_18 : decode cX6_endBehind 18 = .ok (.ireturn, 1) := by decide +kernel
theorem dX6_reason_0 : decode cX6_reason 0 = .ok (.aload_n 0, 1) := by decide +kernel
theorem dX6_reason_1 : decode cX6_reason 1 = .ok (.bipush 21, 2) := by decide +kernel
theorem dX6_reason_3 : decode cX6_reason 3 = .ok (.iload_n 1, 1) := by decide +kernel
theorem dX6_reason_4 : decode cX6_reason 4 = .ok (.iadd, 1) := by decide +kernel
theorem dX6_reason_5 : decode cX6_reason 5 = .ok (.iaload, 1) := by decide +kernel
theorem dX6_reason_6 : decode cX6_reason 6 = .ok (.aload_n 0, 1) := by decide +kernel
theorem dX6_reason_7 : decode cX6_reason 7 = .ok (.iconst 3, 1) := by decide +kernel
theorem dX6_reason_8 : decode cX6_reason 8 = .ok (.iaload, 1) := by decide +kernel
theorem dX6_reason_9 : decode cX6_reason 9 = .ok (.if_icmp .eq 5, 3) := by decide +kernel
theorem dX6_reason_12 : decode cX6_reason 12 = .ok (.iconst 1, 1) := by decide +kernel
theorem dX6_reason_13 : decode cX6_reason 13 = .ok (.ireturn, 1) := by decide +kernel
theorem dX6_reason_14 : decode cX6_reason 14 = .ok (.iload_n 1, 1) := by decide +kernel
theorem dX6_reason_15 : decode cX6_reason 15 = .ok (.aload_n 0, 1) := by decide +kernel
theorem dX6_reason_16 : decode cX6_reason 16 = .ok (.bipush 6, 2) := by decide +kernel
theorem dX6_reason_18 : decode cX6_reason 18 = .ok (.iaload, 1) := by decide +kernel
theorem dX6_reason_19 : decode cX6_reason 19 = .ok (.invokestatic 87, 3) := by decide +kernel
theorem dX6_reason_22 : decode cX6_reason 22 = .ok (.ifCond .ne 5, 3) := by decide +kernel
theorem dX6_reason_25 : decode cX6_reason 25 = .ok (.iconst 2, 1) := by decide +kernel
theorem dX6_reason_26 : decode cX6_reason 26 = .ok (.ireturn, 1) := by decide +kernel
theorem dX6_reason_27 : decode cX6_reason 27 = .ok (.aload_n 0, 1) := by decide +kernel
theorem dX6_reason_28 : decode cX6_reason 28 = .ok (.invokestatic 91, 3) := by decide +kernel
theorem dX6_reason_31 : decode cX6_reason 31 = .ok (.istore_n 2, 1) := by decide +kernel
theorem dX6_reason_32 : decode cX6_reason 32 = .ok (.aload_n 0, 1) := by decide +kernel
theorem dX6_reason_33 : decode cX6_reason 33 = .ok (.invokestatic 95, 3) := by decide +kernel
theorem dX6_reason_36 : decode cX6_reason 36 = .ok (.istore_n 3, 1) := by decide +kernel
theorem dX6_reason_37 : decode cX6_reason 37 = .ok (.aload_n 0, 1) := by decide +kernel
theorem dX6_reason_38 : decode cX6_reason 38 = .ok (.iload_n 2, 1) := by decide +kernel
theorem dX6_reason_39 : decode cX6_reason 39 = .ok (.iload_n 3, 1) := by decide +kernel
theorem dX6_reason_40 : decode cX6_reason 40 = .ok (.invokestatic 98, 3) := by decide +kernel
theorem dX6_reason_43 : decode cX6_reason 43 = .ok (.ifCond .eq 32, 3) := by decide +kernel
theorem dX6_reason_46 : decode cX6_reason 46 = .ok (.aload_n 0, 1) := by decide +kernel
theorem dX6_reason_47 : decode cX6_reason 47 = .ok (.iload_n 2, 1) := by decide +kernel
theorem dX6_reason_48 : decode cX6_reason 48 = .ok (.aload_n 0, 1) := by decide +kernel
theorem dX6_reason_49 : decode cX6_reason 49 = .ok (.bipush 7, 2) := by decide +kernel
theorem dX6_reason_51 : decode cX6_reason 51 = .ok (.iaload, 1) := by decide +kernel
theorem dX6_reason_52 : decode cX6_reason 52 = .ok (.invokestatic 66, 3) := by decide +kernel
theorem dX6_reason_55 : decode cX6_reason 55 = .ok (.iadd, 1) := by decide +kernel
theorem dX6_reason_56 : decode cX6_reason 56 = .ok (.iload_n 3, 1) := by decide +kernel
theorem dX6_reason_57 : decode cX6_reason 57 = .ok (.aload_n 0, 1) := by decide +kernel
theorem dX6_reason_58 : decode cX6_reason 58 = .ok (.bipush 7, 2) := by decide +kernel
theorem dX6_reason_60 : decode cX6_reason 60 = .ok (.iaload, 1) := by decide +kernel
theorem dX6_reason_61 : decode cX6_reason 61 = .ok (.invokestatic 69, 3) := by decide +kernel
theorem dX6_reason_64 : decode cX6_reason 64 = .ok (.iadd, 1) := by decide +kernel
theorem dX6_reason_65 : decode cX6_reason 65 = .ok (.invokestatic 98, 3) := by decide +kernel
theorem dX6_reason_68 : decode cX6_reason 68 = .ok (.ifCond .eq 7, 3) := by decide +kernel
theorem dX6_reason_71 : decode cX6_reason 71 = .ok (.iconst 0, 1) := by decide +kernel
theorem dX6_reason_72 : decode cX6_reason 72 = .ok (.goto 4, 3) := by decide +kernel
theorem dX6_reason_75 : decode cX6_reason 75 = .ok (.iconst 3, 1) := by decide +kernel
theorem dX6_reason_76 : decode cX6_reason 76 = .ok (.ireturn, 1) := by decide +kernel
theorem dX6_legalMany_0 : decode cX6_legalMany 0 = .ok (.iconst 0, 1) := by decide +kernel
theorem dX6_legalMany_1 : decode cX6_legalMany 1 = .ok (.istore_n 1, 1) := by decide +kernel
theorem dX6_legalMany_2 : decode cX6_legalMany 2 = .ok (.iconst 0, 1) := by decide +kernel
theorem dX6_legalMany_3 : decode cX6_legalMany 3 = .ok (.istore_n 2, 1) := by decide +kernel
theorem dX6_legalMany_4 : decode cX6_legalMany 4 = .ok (.iload_n 2, 1) := by decide +kernel
theorem dX6_legalMany_5 : decode cX6_legalMany 5 = .ok (.bipush 28, 2) := by decide +kernel
theorem dX6_legalMany_7 : decode cX6_legalMany 7 = .ok (.if_icmp .ge 25, 3) := by decide +kernel
theorem dX6_legalMany_10 : decode cX6_legalMany 10 = .ok (.iload_n 1, 1) := by decide +kernel
theorem dX6_legalMany_11 : decode cX6_legalMany 11 = .ok (.aload_n 0, 1) := by decide +kernel
theorem dX6_legalMany_12 : decode cX6_legalMany 12 = .ok (.iload_n 2, 1) := by decide +kernel
theorem dX6_legalMany_13 : decode cX6_legalMany 13 = .ok (.invokestatic 102, 3) := by decide +kernel
theorem dX6_legalMany_16 : decode cX6_legalMany 16 = .ok (.ifCond .ne 7, 3) := by decide +kernel
theorem dX6_legalMany_19 : decode cX6_legalMany 19 = .ok (.iconst 1, 1) := by decide +kernel
theorem dX6_legalMany_20 : decode cX6_legalMany 20 = .ok (.goto 4, 3) := by decide +kernel
theorem dX6_legalMany_23 : decode cX6_legalMany 23 = .ok (.iconst 0, 1) := by decide +kernel
theorem dX6_legalMany_24 : decode cX6_legalMany 24 = .ok (.iadd, 1) := by decide +kernel
theorem dX6_legalMany_25 : decode cX6_legalMany 25 = .ok (.istore_n 1, 1) := by decide +kernel
theorem dX6_legalMany_26 : decode cX6_legalMany 26 = .ok (.iinc 2 1, 3) := by decide +kernel
theorem dX6_legalMany_29 : decode cX6_legalMany 29 = .ok (.goto (-25), 3) := by decide +kernel
theorem dX6_legalMany_32 : decode cX6_legalMany 32 = .ok (.iload_n 1, 1) := by decide +kernel
theorem dX6_legalMany_33 : decode cX6_legalMany 33 = .ok (.ireturn, 1) := by decide +kernel
theorem dX6_legalAt_0 : decode cX6_legalAt 0 = .ok (.iload_n 1, 1) := by decide +kernel
theorem dX6_legalAt_1 : decode cX6_legalAt 1 = .ok (.istore_n 2, 1) := by decide +kernel
theorem dX6_legalAt_2 : decode cX6_legalAt 2 = .ok (.iconst 0, 1) := by decide +kernel
theorem dX6_legalAt_3 : decode cX6_legalAt 3 = .ok (.istore_n 3, 1) := by decide +kernel
theorem dX6_legalAt_4 : decode cX6_legalAt 4 = .ok (.iload_n 3, 1) := by decide +kernel
theorem dX6_legalAt_5 : decode cX6_legalAt 5 = .ok (.bipush 28, 2) := by decide +kernel
theorem dX6_legalAt_7 : decode cX6_legalAt 7 = .ok (.if_icmp .ge 26, 3) := by decide +kernel
theorem dX6_legalAt_10 : decode cX6_legalAt 10 = .ok (.aload_n 0, 1) := by decide +kernel
theorem dX6_legalAt_11 : decode cX6_legalAt 11 = .ok (.iload_n 3, 1) := by decide +kernel
theorem dX6_legalAt_12 : decode cX6_legalAt 12 = .ok (.invokestatic 102, 3) := by decide +kernel
theorem dX6_legalAt_15 : decode cX6_legalAt 15 = .ok (.ifCond .ne 12, 3) := by decide +kernel
theorem dX6_legalAt_18 : decode cX6_legalAt 18 = .ok (.iload_n 2, 1) := by decide +kernel
theorem dX6_legalAt_19 : decode cX6_legalAt 19 = .ok (.ifCond .ne 5, 3) := by decide +kernel
theorem dX6_legalAt_22 : decode cX6_legalAt 22 = .ok (.iload_n 3, 1) := by decide +kernel
theorem dX6_legalAt_23 : decode cX6_legalAt 23 = .ok (.ireturn, 1) := by decide +kernel
theorem dX6_legalAt_24 : decode cX6_legalAt 24 = .ok (.iinc 2 (-1), 3) := by decide +kernel
theorem dX6_legalAt_27 : decode cX6_legalAt 27 = .ok (.iinc 3 1, 3) := by decide +kernel
theorem dX6_legalAt_30 : decode cX6_legalAt 30 = .ok (.goto (-26), 3) := by decide +kernel
theorem dX6_legalAt_33 : decode cX6_legalAt 33 = .ok (.iconst (-1), 1) := by decide +kernel
theorem dX6_legalAt_34 : decode cX6_legalAt 34 = .ok (.ireturn, 1) := by decide +kernel
theorem dX6_bestOf_0 : decode cX6_bestOf 0 = .ok (.iconst (-1), 1) := by decide +kernel
theorem dX6_bestOf_1 : decode cX6_bestOf 1 = .ok (.istore_n 1, 1) := by decide +kernel
theorem dX6_bestOf_2 : decode cX6_bestOf 2 = .ok (.iconst 0, 1) := by decide +kernel
theorem dX6_bestOf_3 : decode cX6_bestOf 3 = .ok (.istore_n 2, 1) := by decide +kernel
theorem dX6_bestOf_4 : decode cX6_bestOf 4 = .ok (.iload_n 2, 1) := by decide +kernel
theorem dX6_bestOf_5 : decode cX6_bestOf 5 = .ok (.bipush 28, 2) := by decide +kernel
theorem dX6_bestOf_7 : decode cX6_bestOf 7 = .ok (.if_icmp .ge 46, 3) := by decide +kernel
theorem dX6_bestOf_10 : decode cX6_bestOf 10 = .ok (.aload_n 0, 1) := by decide +kernel
theorem dX6_bestOf_11 : decode cX6_bestOf 11 = .ok (.iconst 1, 1) := by decide +kernel
theorem dX6_bestOf_12 : decode cX6_bestOf 12 = .ok (.iaload, 1) := by decide +kernel
theorem dX6_bestOf_13 : decode cX6_bestOf 13 = .ok (.iconst 1, 1) := by decide +kernel
theorem dX6_bestOf_14 : decode cX6_bestOf 14 = .ok (.if_icmp .ne 39, 3) := by decide +kernel
theorem dX6_bestOf_17 : decode cX6_bestOf 17 = .ok (.aload_n 0, 1) := by decide +kernel
theorem dX6_bestOf_18 : decode cX6_bestOf 18 = .ok (.iload_n 2, 1) := by decide +kernel
theorem dX6_bestOf_19 : decode cX6_bestOf 19 = .ok (.invokestatic 102, 3) := by decide +kernel
theorem dX6_bestOf_22 : decode cX6_bestOf 22 = .ok (.ifCond .ne 23, 3) := by decide +kernel
theorem dX6_bestOf_25 : decode cX6_bestOf 25 = .ok (.iload_n 1, 1) := by decide +kernel
theorem dX6_bestOf_26 : decode cX6_bestOf 26 = .ok (.iconst (-1), 1) := by decide +kernel
theorem dX6_bestOf_27 : decode cX6_bestOf 27 = .ok (.if_icmp .eq 14, 3) := by decide +kernel
theorem dX6_bestOf_30 : decode cX6_bestOf 30 = .ok (.iload_n 2, 1) := by decide +kernel
theorem dX6_bestOf_31 : decode cX6_bestOf 31 = .ok (.invokestatic 59, 3) := by decide +kernel
theorem dX6_bestOf_34 : decode cX6_bestOf 34 = .ok (.iload_n 1, 1) := by decide +kernel
theorem dX6_bestOf_35 : decode cX6_bestOf 35 = .ok (.invokestatic 59, 3) := by decide +kernel
theorem dX6_bestOf_38 : decode cX6_bestOf 38 = .ok (.if_icmp .le 7, 3) := by decide +kernel
theorem dX6_bestOf_41 : decode cX6_bestOf 41 = .ok (.iload_n 2, 1) := by decide +kernel
theorem dX6_bestOf_42 : decode cX6_bestOf 42 = .ok (.goto 4, 3) := by decide +kernel
theorem dX6_bestOf_45 : decode cX6_bestOf 45 = .ok (.iload_n 1, 1) := by decide +kernel
theorem dX6_bestOf_46 : decode cX6_bestOf 46 = .ok (.istore_n 1, 1) := by decide +kernel
theorem dX6_bestOf_47 : decode cX6_bestOf 47 = .ok (.iinc 2 1, 3) := by decide +kernel
theorem dX6_bestOf_50 : decode cX6_bestOf 50 = .ok (.goto (-46), 3) := by decide +kernel
theorem dX6_bestOf_53 : decode cX6_bestOf 53 = .ok (.iload_n 1, 1) := by decide +kernel
theorem dX6_bestOf_54 : decode cX6_bestOf 54 = .ok (.ireturn, 1) := by decide +kernel
theorem dX6_dealOn_0 : decode cX6_dealOn 0 = .ok (.iconst 0, 1) := by decide +kernel
theorem dX6_dealOn_1 : decode cX6_dealOn 1 = .ok (.istore 5, 2) := by decide +kernel
theorem dX6_dealOn_3 : decode cX6_dealOn 3 = .ok (.iload 5, 2) := by decide +kernel
theorem dX6_dealOn_5 : decode cX6_dealOn 5 = .ok (.bipush 28, 2) := by decide +kernel
theorem dX6_dealOn_7 : decode cX6_dealOn 7 = .ok (.if_icmp .ge 18, 3) := by decide +kernel
theorem dX6_dealOn_10 : decode cX6_dealOn 10 = .ok (.aload_n 0, 1) := by decide +kernel
theorem dX6_dealOn_11 : decode cX6_dealOn 11 = .ok (.getfield 29, 3) := by decide +kernel
theorem dX6_dealOn_14 : decode cX6_dealOn 14 = .ok (.iload 5, 2) := by decide +kernel
theorem dX6_dealOn_16 : decode cX6_dealOn 16 = .ok (.iload 5, 2) := by decide +kernel
theorem dX6_dealOn_18 : decode cX6_dealOn 18 = .ok (.iastore, 1) := by decide +kernel
theorem dX6_dealOn_19 : decode cX6_dealOn 19 = .ok (.iinc 5 1, 3) := by decide +kernel
theorem dX6_dealOn_22 : decode cX6_dealOn 22 = .ok (.goto (-19), 3) := by decide +kernel
theorem dX6_dealOn_25 : decode cX6_dealOn 25 = .ok (.lload_n 3, 1) := by decide +kernel
theorem dX6_dealOn_26 : decode cX6_dealOn 26 = .ok (.lstore 5, 2) := by decide +kernel
theorem dX6_dealOn_28 : decode cX6_dealOn 28 = .ok (.bipush 27, 2) := by decide +kernel
theorem dX6_dealOn_30 : decode cX6_dealOn 30 = .ok (.istore 7, 2) := by decide +kernel
theorem dX6_dealOn_32 : decode cX6_dealOn 32 = .ok (.iload 7, 2) := by decide +kernel
theorem dX6_dealOn_34 : decode cX6_dealOn 34 = .ok (.ifCond .le 66, 3) := by decide +kernel
theorem dX6_dealOn_37 : decode cX6_dealOn 37 = .ok (.lload 5, 2) := by decide +kernel
theorem dX6_dealOn_39 : decode cX6_dealOn 39 = .ok (.ldc2_w 105, 3) := by decide +kernel
theorem dX6_dealOn_42 : decode cX6_dealOn 42 = .ok (.lmul, 1) := by decide +kernel
theorem dX6_dealOn_43 : decode cX6_dealOn 43 = .ok (.ldc2_w 107, 3) := by decide +kernel
theorem dX6_dealOn_46 : decode cX6_dealOn 46 = .ok (.ladd, 1) := by decide +kernel
theorem dX6_dealOn_47 : decode cX6_dealOn 47 = .ok (.lstore 5, 2) := by decide +kernel
theorem dX6_dealOn_49 : decode cX6_dealOn 49 = .ok (.lload 5, 2) := by decide +kernel
theorem dX6_dealOn_51 : decode cX6_dealOn 51 = .ok (.bipush 33, 2) := by decide +kernel
theorem dX6_dealOn_53 : decode cX6_dealOn 53 = .ok (.lushr, 1) := by decide +kernel
theorem dX6_dealOn_54 : decode cX6_dealOn 54 = .ok (.l2i, 1) := by decide +kernel
theorem dX6_dealOn_55 : decode cX6_dealOn 55 = .ok (.iload 7, 2) := by decide +kernel
theorem dX6_dealOn_57 : decode cX6_dealOn 57 = .ok (.iconst 1, 1) := by decide +kernel
theorem dX6_dealOn_58 : decode cX6_dealOn 58 = .ok (.iadd, 1) := by decide +kernel
theorem dX6_dealOn_59 : decode cX6_dealOn 59 = .ok (.irem, 1) := by decide +kernel
theorem dX6_dealOn_60 : decode cX6_dealOn 60 = .ok (.istore 8, 2) := by decide +kernel
theorem dX6_dealOn_62 : decode cX6_dealOn 62 = .ok (.aload_n 0, 1) := by decide +kernel
theorem dX6_dealOn_63 : decode cX6_dealOn 63 = .ok (.getfield 29, 3) := by decide +kernel
theorem dX6_dealOn_66 : decode cX6_dealOn 66 = .ok (.iload 7, 2) := by decide +kernel
theorem dX6_dealOn_68 : decode cX6_dealOn 68 = .ok (.iaload, 1) := by decide +kernel
theorem dX6_dealOn_69 : decode cX6_dealOn 69 = .ok (.istore 9, 2) := by decide +kernel
theorem dX6_dealOn_71 : decode cX6_dealOn 71 = .ok (.aload_n 0, 1) := by decide +kernel
theorem dX6_dealOn_72 : decode cX6_dealOn 72 = .ok (.getfield 29, 3) := by decide +kernel
theorem dX6_dealOn_75 : decode cX6_dealOn 75 = .ok (.iload 7, 2) := by decide +kernel
theorem dX6_dealOn_77 : decode cX6_dealOn 77 = .ok (.aload_n 0, 1) := by decide +kernel
theorem dX6_dealOn_78 : decode cX6_dealOn 78 = .ok (.getfield 29, 3) := by decide +kernel
theorem dX6_dealOn_81 : decode cX6_dealOn 81 = .ok (.iload 8, 2) := by decide +kernel
theorem dX6_dealOn_83 : decode cX6_dealOn 83 = .ok (.iaload, 1) := by decide +kernel
theorem dX6_dealOn_84 : decode cX6_dealOn 84 = .ok (.iastore, 1) := by decide +kernel
theorem dX6_dealOn_85 : decode cX6_dealOn 85 = .ok (.aload_n 0, 1) := by decide +kernel
theorem dX6_dealOn_86 : decode cX6_dealOn 86 = .ok (.getfield 29, 3) := by decide +kernel
theorem dX6_dealOn_89 : decode cX6_dealOn 89 = .ok (.iload 8, 2) := by decide +kernel
theorem dX6_dealOn_91 : decode cX6_dealOn 91 = .ok (.iload 9, 2) := by decide +kernel
theorem dX6_dealOn_93 : decode cX6_dealOn 93 = .ok (.iastore, 1) := by decide +kernel
theorem dX6_dealOn_94 : decode cX6_dealOn 94 = .ok (.iinc 7 (-1), 3) := by decide +kernel
theorem dX6_dealOn_97 : decode cX6_dealOn 97 = .ok (.goto (-65), 3) := by decide +kernel
theorem dX6_dealOn_100 : decode cX6_dealOn 100 = .ok (.aload_n 1, 1) := by decide +kernel
theorem dX6_dealOn_101 : decode cX6_dealOn 101 = .ok (.iconst 4, 1) := by decide +kernel
theorem dX6_dealOn_102 : decode cX6_dealOn 102 = .ok (.bipush 28, 2) := by decide +kernel
theorem dX6_dealOn_104 : decode cX6_dealOn 104 = .ok (.iconst 5, 1) := by decide +kernel
theorem dX6_dealOn_105 : decode cX6_dealOn 105 = .ok (.iload_n 2, 1) := by decide +kernel
theorem dX6_dealOn_106 : decode cX6_dealOn 106 = .ok (.imul, 1) := by decide +kernel
theorem dX6_dealOn_107 : decode cX6_dealOn 107 = .ok (.isub, 1) := by decide +kernel
theorem dX6_dealOn_108 : decode cX6_dealOn 108 = .ok (.iastore, 1) := by decide +kernel
theorem dX6_dealOn_109 : decode cX6_dealOn 109 = .ok (.iconst 0, 1) := by decide +kernel
theorem dX6_dealOn_110 : decode cX6_dealOn 110 = .ok (.istore 7, 2) := by decide +kernel
theorem dX6_dealOn_112 : decode cX6_dealOn 112 = .ok (.iload 7, 2) := by decide +kernel
theorem dX6_dealOn_114 : decode cX6_dealOn 114 = .ok (.bipush 28, 2) := by decide +kernel
theorem dX6_dealOn_116 : decode cX6_dealOn 116 = .ok (.if_icmp .ge 47, 3) := by decide +kernel
theorem dX6_dealOn_119 : decode cX6_dealOn 119 = .ok (.iload 7, 2) := by decide +kernel
theorem dX6_dealOn_121 : decode cX6_dealOn 121 = .ok (.iconst 5, 1) := by decide +kernel
theorem dX6_dealOn_122 : decode cX6_dealOn 122 = .ok (.idiv, 1) := by decide +kernel
theorem dX6_dealOn_123 : decode cX6_dealOn 123 = .ok (.istore 8, 2) := by decide +kernel
theorem dX6_dealOn_125 : decode cX6_dealOn 125 = .ok (.aload_n 1, 1) := by decide +kernel
theorem dX6_dealOn_126 : decode cX6_dealOn 126 = .ok (.bipush 21, 2) := by decide +kernel
theorem dX6_dealOn_128 : decode cX6_dealOn 128 = .ok (.aload_n 0, 1) := by decide +kernel
theorem dX6_dealOn_129 : decode cX6_dealOn 129 = .ok (.getfield 29, 3) := by decide +kernel
theorem dX6_dealOn_132 : decode cX6_dealOn 132 = .ok (.iload 7, 2) := by decide +kernel
theorem dX6_dealOn_134 : decode cX6_dealOn 134 = .ok (.iaload, 1) := by decide +kernel
theorem dX6_dealOn_135 : decode cX6_dealOn 135 = .ok (.iadd, 1) := by decide +kernel
theorem dX6_dealOn_136 : decode cX6_dealOn 136 = .ok (.iload 8, 2) := by decide +kernel
theorem dX6_dealOn_138 : decode cX6_dealOn 138 = .ok (.iload_n 2, 1) := by decide +kernel
theorem dX6_dealOn_139 : decode cX6_dealOn 139 = .ok (.if_icmp .ge 8, 3) := by decide +kernel
theorem dX6_dealOn_142 : decode cX6_dealOn 142 = .ok (.iload 8, 2) := by decide +kernel
theorem dX6_dealOn_144 : decode cX6_dealOn 144 = .ok (.goto 4, 3) := by decide +kernel
theorem dX6_dealOn_147 : decode cX6_dealOn 147 = .ok (.iconst (-1), 1) := by decide +kernel
theorem dX6_dealOn_148 : decode cX6_dealOn 148 = .ok (.iastore, 1) := by decide +kernel
theorem dX6_dealOn_149 : decode cX6_dealOn 149 = .ok (.aload_n 1, 1) := by decide +kernel
theorem dX6_dealOn_150 : decode cX6_dealOn 150 = .ok (.bipush 49, 2) := by decide +kernel
theorem dX6_dealOn_152 : decode cX6_dealOn 152 = .ok (.iload 7, 2) := by decide +kernel
theorem dX6_dealOn_154 : decode cX6_dealOn 154 = .ok (.iadd, 1) := by decide +kernel
theorem dX6_dealOn_155 : decode cX6_dealOn 155 = .ok (.iconst 0, 1) := by decide +kernel
theorem dX6_dealOn_156 : decode cX6_dealOn 156 = .ok (.iastore, 1) := by decide +kernel
theorem dX6_dealOn_157 : decode cX6_dealOn 157 = .ok (.iinc 7 1, 3) := by decide +kernel
theorem dX6_dealOn_160 : decode cX6_dealOn 160 = .ok (.goto (-48), 3) := by decide +kernel
theorem dX6_dealOn_163 : decode cX6_dealOn 163 = .ok (.iconst 0, 1) := by decide +kernel
theorem dX6_dealOn_164 : decode cX6_dealOn 164 = .ok (.istore 7, 2) := by decide +kernel
theorem dX6_dealOn_166 : decode cX6_dealOn 166 = .ok (.iload 7, 2) := by decide +kernel
theorem dX6_dealOn_168 : decode cX6_dealOn 168 = .ok (.aload_n 1, 1) := by decide +kernel
theorem dX6_dealOn_169 : decode cX6_dealOn 169 = .ok (.iconst 4, 1) := by decide +kernel
theorem dX6_dealOn_170 : decode cX6_dealOn 170 = .ok (.iaload, 1) := by decide +kernel
theorem dX6_dealOn_171 : decode cX6_dealOn 171 = .ok (.if_icmp .ge 27, 3) := by decide +kernel
theorem dX6_dealOn_174 : decode cX6_dealOn 174 = .ok (.aload_n 1, 1) := by decide +kernel
theorem dX6_dealOn_175 : decode cX6_dealOn 175 = .ok (.bipush 49, 2) := by decide +kernel
theorem dX6_dealOn_177 : decode cX6_dealOn 177 = .ok (.iload 7, 2) := by decide +kernel
theorem dX6_dealOn_179 : decode cX6_dealOn 179 = .ok (.iadd, 1) := by decide +kernel
theorem dX6_dealOn_180 : decode cX6_dealOn 180 = .ok (.aload_n 0, 1) := by decide +kernel
theorem dX6_dealOn_181 : decode cX6_dealOn 181 = .ok (.getfield 29, 3) := by decide +kernel
theorem dX6_dealOn_184 : decode cX6_dealOn 184 = .ok (.iconst 5, 1) := by decide +kernel
theorem dX6_dealOn_185 : decode cX6_dealOn 185 = .ok (.iload_n 2, 1) := by decide +kernel
theorem dX6_dealOn_186 : decode cX6_dealOn 186 = .ok (.imul, 1) := by decide +kernel
theorem dX6_dealOn_187 : decode cX6_dealOn 187 = .ok (.iload 7, 2) := by decide +kernel
theorem dX6_dealOn_189 : decode cX6_dealOn 189 = .ok (.iadd, 1) := by decide +kernel
theorem dX6_dealOn_190 : decode cX6_dealOn 190 = .ok (.iaload, 1) := by decide +kernel
theorem dX6_dealOn_191 : decode cX6_dealOn 191 = .ok (.iastore, 1) := by decide +kernel
theorem dX6_dealOn_192 : decode cX6_dealOn 192 = .ok (.iinc 7 1, 3) := by decide +kernel
theorem dX6_dealOn_195 : decode cX6_dealOn 195 = .ok (.goto (-29), 3) := by decide +kernel
theorem dX6_dealOn_198 : decode cX6_dealOn 198 = .ok (.aload_n 1, 1) := by decide +kernel
theorem dX6_dealOn_199 : decode cX6_dealOn 199 = .ok (.iconst 1, 1) := by decide +kernel
theorem dX6_dealOn_200 : decode cX6_dealOn 200 = .ok (.iconst 1, 1) := by decide +kernel
theorem dX6_dealOn_201 : decode cX6_dealOn 201 = .ok (.iastore, 1) := by decide +kernel
theorem dX6_dealOn_202 : decode cX6_dealOn 202 = .ok (.aload_n 1, 1) := by decide +kernel
theorem dX6_dealOn_203 : decode cX6_dealOn 203 = .ok (.iconst 2, 1) := by decide +kernel
theorem dX6_dealOn_204 : decode cX6_dealOn 204 = .ok (.iload_n 2, 1) := by decide +kernel
theorem dX6_dealOn_205 : decode cX6_dealOn 205 = .ok (.iastore, 1) := by decide +kernel
theorem dX6_dealOn_206 : decode cX6_dealOn 206 = .ok (.aload_n 1, 1) := by decide +kernel
theorem dX6_dealOn_207 : decode cX6_dealOn 207 = .ok (.iconst 3, 1) := by decide +kernel
theorem dX6_dealOn_208 : decode cX6_dealOn 208 = .ok (.aload_n 1, 1) := by decide +kernel
theorem dX6_dealOn_209 : decode cX6_dealOn 209 = .ok (.iconst 0, 1) := by decide +kernel
theorem dX6_dealOn_210 : decode cX6_dealOn 210 = .ok (.iaload, 1) := by decide +kernel
theorem dX6_dealOn_211 : decode cX6_dealOn 211 = .ok (.iload_n 2, 1) := by decide +kernel
theorem dX6_dealOn_212 : decode cX6_dealOn 212 = .ok (.irem, 1) := by decide +kernel
theorem dX6_dealOn_213 : decode cX6_dealOn 213 = .ok (.iastore, 1) := by decide +kernel
theorem dX6_dealOn_214 : decode cX6_dealOn 214 = .ok (.aload_n 1, 1) := by decide +kernel
theorem dX6_dealOn_215 : decode cX6_dealOn 215 = .ok (.iconst 0, 1) := by decide +kernel
theorem dX6_dealOn_216 : decode cX6_dealOn 216 = .ok (.dup2, 1) := by decide +kernel
theorem dX6_dealOn_217 : decode cX6_dealOn 217 = .ok (.iaload, 1) := by decide +kernel
theorem dX6_dealOn_218 : decode cX6_dealOn 218 = .ok (.iconst 1, 1) := by decide +kernel
theorem dX6_dealOn_219 : decode cX6_dealOn 219 = .ok (.iadd, 1) := by decide +kernel
theorem dX6_dealOn_220 : decode cX6_dealOn 220 = .ok (.iastore, 1) := by decide +kernel
theorem dX6_dealOn_221 : decode cX6_dealOn 221 = .ok (.aload_n 1, 1) := by decide +kernel
theorem dX6_dealOn_222 : decode cX6_dealOn 222 = .ok (.iconst 5, 1) := by decide +kernel
theorem dX6_dealOn_223 : decode cX6_dealOn 223 = .ok (.iconst 0, 1) := by decide +kernel
theorem dX6_dealOn_224 : decode cX6_dealOn 224 = .ok (.iastore, 1) := by decide +kernel
theorem dX6_dealOn_225 : decode cX6_dealOn 225 = .ok (.aload_n 1, 1) := by decide +kernel
theorem dX6_dealOn_226 : decode cX6_dealOn 226 = .ok (.bipush 6, 2) := by decide +kernel
theorem dX6_dealOn_228 : decode cX6_dealOn 228 = .ok (.iconst (-1), 1) := by decide +kernel
theorem dX6_dealOn_229 : decode cX6_dealOn 229 = .ok (.iastore, 1) := by decide +kernel
theorem dX6_dealOn_230 : decode cX6_dealOn 230 = .ok (.aload_n 1, 1) := by decide +kernel
theorem dX6_dealOn_231 : decode cX6_dealOn 231 = .ok (.bipush 7, 2) := by decide +kernel
theorem dX6_dealOn_233 : decode cX6_dealOn 233 = .ok (.iconst 0, 1) := by decide +kernel
theorem dX6_dealOn_234 : decode cX6_dealOn 234 = .ok (.iastore, 1) := by decide +kernel
theorem dX6_dealOn_235 : decode cX6_dealOn 235 = .ok (.aload_n 1, 1) := by decide +kernel
theorem dX6_dealOn_236 : decode cX6_dealOn 236 = .ok (.bipush 8, 2) := by decide +kernel
theorem dX6_dealOn_238 : decode cX6_dealOn 238 = .ok (.iconst 0, 1) := by decide +kernel
theorem dX6_dealOn_239 : decode cX6_dealOn 239 = .ok (.iastore, 1) := by decide +kernel
theorem dX6_dealOn_240 : decode cX6_dealOn 240 = .ok (.aload_n 1, 1) := by decide +kernel
theorem dX6_dealOn_241 : decode cX6_dealOn 241 = .ok (.bipush 11, 2) := by decide +kernel
theorem dX6_dealOn_243 : decode cX6_dealOn 243 = .ok (.iconst 0, 1) := by decide +kernel
theorem dX6_dealOn_244 : decode cX6_dealOn 244 = .ok (.iastore, 1) := by decide +kernel
theorem dX6_dealOn_245 : decode cX6_dealOn 245 = .ok (.aload_n 1, 1) := by decide +kernel
theorem dX6_dealOn_246 : decode cX6_dealOn 246 = .ok (.bipush 12, 2) := by decide +kernel
theorem dX6_dealOn_248 : decode cX6_dealOn 248 = .ok (.iconst 0, 1) := by decide +kernel
theorem dX6_dealOn_249 : decode cX6_dealOn 249 = .ok (.iastore, 1) := by decide +kernel
theorem dX6_dealOn_250 : decode cX6_dealOn 250 = .ok (.aload_n 1, 1) := by decide +kernel
theorem dX6_dealOn_251 : decode cX6_dealOn 251 = .ok (.iconst 0, 1) := by decide +kernel
theorem dX6_dealOn_252 : decode cX6_dealOn 252 = .ok (.iaload, 1) := by decide +kernel
theorem dX6_dealOn_253 : decode cX6_dealOn 253 = .ok (.ireturn, 1) := by decide +kernel
theorem dX6_allPips_0 : decode cX6_allPips 0 = .ok (.iconst 0, 1) := by decide +kernel
theorem dX6_allPips_1 : decode cX6_allPips 1 = .ok (.istore_n 1, 1) := by decide +kernel
theorem dX6_allPips_2 : decode cX6_allPips 2 = .ok (.iconst 0, 1) := by decide +kernel
theorem dX6_allPips_3 : decode cX6_allPips 3 = .ok (.istore_n 2, 1) := by decide +kernel
theorem dX6_allPips_4 : decode cX6_allPips 4 = .ok (.iload_n 2, 1) := by decide +kernel
theorem dX6_allPips_5 : decode cX6_allPips 5 = .ok (.aload_n 0, 1) := by decide +kernel
theorem dX6_allPips_6 : decode cX6_allPips 6 = .ok (.iconst 2, 1) := by decide +kernel
theorem dX6_allPips_7 : decode cX6_allPips 7 = .ok (.iaload, 1) := by decide +kernel
theorem dX6_allPips_8 : decode cX6_allPips 8 = .ok (.if_icmp .ge 17, 3) := by decide +kernel
theorem dX6_allPips_11 : decode cX6_allPips 11 = .ok (.iload_n 1, 1) := by decide +kernel
theorem dX6_allPips_12 : decode cX6_allPips 12 = .ok (.aload_n 0, 1) := by decide +kernel
theorem dX6_allPips_13 : decode cX6_allPips 13 = .ok (.iload_n 2, 1) := by decide +kernel
theorem dX6_allPips_14 : decode cX6_allPips 14 = .ok (.invokestatic 109, 3) := by decide +kernel
theorem dX6_allPips_17 : decode cX6_allPips 17 = .ok (.iadd, 1) := by decide +kernel
theorem dX6_allPips_18 : decode cX6_allPips 18 = .ok (.istore_n 1, 1) := by decide +kernel
theorem dX6_allPips_19 : decode cX6_allPips 19 = .ok (.iinc 2 1, 3) := by decide +kernel
theorem dX6_allPips_22 : decode cX6_allPips 22 = .ok (.goto (-18), 3) := by decide +kernel
theorem dX6_allPips_25 : decode cX6_allPips 25 = .ok (.iload_n 1, 1) := by decide +kernel
theorem dX6_allPips_26 : decode cX6_allPips 26 = .ok (.ireturn, 1) := by decide +kernel
theorem dX6_wins_0 : decode cX6_wins 0 = .ok (.aload_n 0, 1) := by decide +kernel
theorem dX6_wins_1 : decode cX6_wins 1 = .ok (.bipush 13, 2) := by decide +kernel
theorem dX6_wins_3 : decode cX6_wins 3 = .ok (.iload_n 1, 1) := by decide +kernel
theorem dX6_wins_4 : decode cX6_wins 4 = .ok (.iadd, 1) := by decide +kernel
theorem dX6_wins_5 : decode cX6_wins 5 = .ok (.dup2, 1) := by decide +kernel
theorem dX6_wins_6 : decode cX6_wins 6 = .ok (.iaload, 1) := by decide +kernel
theorem dX6_wins_7 : decode cX6_wins 7 = .ok (.aload_n 0, 1) := by decide +kernel
theorem dX6_wins_8 : decode cX6_wins 8 = .ok (.invokestatic 112, 3) := by decide +kernel
theorem dX6_wins_11 : decode cX6_wins 11 = .ok (.iconst 2, 1) := by decide +kernel
theorem dX6_wins_12 : decode cX6_wins 12 = .ok (.aload_n 0, 1) := by decide +kernel
theorem dX6_wins_13 : decode cX6_wins 13 = .ok (.iload_n 1, 1) := by decide +kernel
theorem dX6_wins_14 : decode cX6_wins 14 = .ok (.invokestatic 109, 3) := by decide +kernel
theorem dX6_wins_17 : decode cX6_wins 17 = .ok (.imul, 1) := by decide +kernel
theorem dX6_wins_18 : decode cX6_wins 18 = .ok (.isub, 1) := by decide +kernel
theorem dX6_wins_19 : decode cX6_wins 19 = .ok (.iadd, 1) := by decide +kernel
theorem dX6_wins_20 : decode cX6_wins 20 = .ok (.iastore, 1) := by decide +kernel
theorem dX6_wins_21 : decode cX6_wins 21 = .ok (.aload_n 0, 1) := by decide +kernel
theorem dX6_wins_22 : decode cX6_wins 22 = .ok (.bipush 17, 2) := by decide +kernel
theorem dX6_wins_24 : decode cX6_wins 24 = .ok (.iload_n 1, 1) := by decide +kernel
theorem dX6_wins_25 : decode cX6_wins 25 = .ok (.iadd, 1) := by decide +kernel
theorem dX6_wins_26 : decode cX6_wins 26 = .ok (.dup2, 1) := by decide +kernel
theorem dX6_wins_27 : decode cX6_wins 27 = .ok (.iaload, 1) := by decide +kernel
theorem dX6_wins_28 : decode cX6_wins 28 = .ok (.iconst 1, 1) := by decide +kernel
theorem dX6_wins_29 : decode cX6_wins 29 = .ok (.iadd, 1) := by decide +kernel
theorem dX6_wins_30 : decode cX6_wins 30 = .ok (.iastore, 1) := by decide +kernel
theorem dX6_wins_31 : decode cX6_wins 31 = .ok (.aload_n 0, 1) := by decide +kernel
theorem dX6_wins_32 : decode cX6_wins 32 = .ok (.iconst 1, 1) := by decide +kernel
theorem dX6_wins_33 : decode cX6_wins 33 = .ok (.iconst 2, 1) := by decide +kernel
theorem dX6_wins_34 : decode cX6_wins 34 = .ok (.iastore, 1) := by decide +kernel
theorem dX6_wins_35 : decode cX6_wins 35 = .ok (.return_, 1) := by decide +kernel
theorem dX6_nextTurn_0 : decode cX6_nextTurn 0 = .ok (.aload_n 0, 1) := by decide +kernel
theorem dX6_nextTurn_1 : decode cX6_nextTurn 1 = .ok (.iconst 3, 1) := by decide +kernel
theorem dX6_nextTurn_2 : decode cX6_nextTurn 2 = .ok (.aload_n 0, 1) := by decide +kernel
theorem dX6_nextTurn_3 : decode cX6_nextTurn 3 = .ok (.iconst 3, 1) := by decide +kernel
theorem dX6_nextTurn_4 : decode cX6_nextTurn 4 = .ok (.iaload, 1) := by decide +kernel
theorem dX6_nextTurn_5 : decode cX6_nextTurn 5 = .ok (.iconst 1, 1) := by decide +kernel
theorem dX6_nextTurn_6 : decode cX6_nextTurn 6 = .ok (.iadd, 1) := by decide +kernel
theorem dX6_nextTurn_7 : decode cX6_nextTurn 7 = .ok (.aload_n 0, 1) := by decide +kernel
theorem dX6_nextTurn_8 : decode cX6_nextTurn 8 = .ok (.iconst 2, 1) := by decide +kernel
theorem dX6_nextTurn_9 : decode cX6_nextTurn 9 = .ok (.iaload, 1) := by decide +kernel
theorem dX6_nextTurn_10 : decode cX6_nextTurn 10 = .ok (.irem, 1) := by decide +kernel
theorem dX6_nextTurn_11 : decode cX6_nextTurn 11 = .ok (.iastore, 1) := by decide +kernel
theorem dX6_nextTurn_12 : decode cX6_nextTurn 12 = .ok (.return_, 1) := by decide +kernel
theorem dX6_put_0 : decode cX6_put 0 = .ok (.aload_n 0, 1) := by decide +kernel
theorem dX6_put_1 : decode cX6_put 1 = .ok (.iconst 3, 1) := by decide +kernel
theorem dX6_put_2 : decode cX6_put 2 = .ok (.iaload, 1) := by decide +kernel
theorem dX6_put_3 : decode cX6_put 3 = .ok (.istore_n 3, 1) := by decide +kernel
theorem dX6_put_4 : decode cX6_put 4 = .ok (.bipush 77, 2) := by decide +kernel
theorem dX6_put_6 : decode cX6_put 6 = .ok (.iconst 5, 1) := by decide +kernel
theorem dX6_put_7 : decode cX6_put 7 = .ok (.aload_n 0, 1) := by decide +kernel
theorem dX6_put_8 : decode cX6_put 8 = .ok (.iconst 5, 1) := by decide +kernel
theorem dX6_put_9 : decode cX6_put 9 = .ok (.iaload, 1) := by decide +kernel
theorem dX6_put_10 : decode cX6_put 10 = .ok (.imul, 1) := by decide +kernel
theorem dX6_put_11 : decode cX6_put 11 = .ok (.iadd, 1) := by decide +kernel
theorem dX6_put_12 : decode cX6_put 12 = .ok (.istore 4, 2) := by decide +kernel
theorem dX6_put_14 : decode cX6_put 14 = .ok (.aload_n 0, 1) := by decide +kernel
theorem dX6_put_15 : decode cX6_put 15 = .ok (.invokestatic 91, 3) := by decide +kernel
theorem dX6_put_18 : decode cX6_put 18 = .ok (.istore 5, 2) := by decide +kernel
theorem dX6_put_20 : decode cX6_put 20 = .ok (.aload_n 0, 1) := by decide +kernel
theorem dX6_put_21 : decode cX6_put 21 = .ok (.invokestatic 95, 3) := by decide +kernel
theorem dX6_put_24 : decode cX6_put 24 = .ok (.istore 6, 2) := by decide +kernel
theorem dX6_put_26 : decode cX6_put 26 = .ok (.aload_n 0, 1) := by decide +kernel
theorem dX6_put_27 : decode cX6_put 27 = .ok (.iload 4, 2) := by decide +kernel
theorem dX6_put_29 : decode cX6_put 29 = .ok (.iload_n 1, 1) := by decide +kernel
theorem dX6_put_30 : decode cX6_put 30 = .ok (.iastore, 1) := by decide +kernel
theorem dX6_put_31 : decode cX6_put 31 = .ok (.aload_n 0, 1) := by decide +kernel
theorem dX6_put_32 : decode cX6_put 32 = .ok (.iload 4, 2) := by decide +kernel
theorem dX6_put_34 : decode cX6_put 34 = .ok (.iconst 1, 1) := by decide +kernel
theorem dX6_put_35 : decode cX6_put 35 = .ok (.iadd, 1) := by decide +kernel
theorem dX6_put_36 : decode cX6_put 36 = .ok (.iload 5, 2) := by decide +kernel
theorem dX6_put_38 : decode cX6_put 38 = .ok (.iastore, 1) := by decide +kernel
theorem dX6_put_39 : decode cX6_put 39 = .ok (.aload_n 0, 1) := by decide +kernel
theorem dX6_put_40 : decode cX6_put 40 = .ok (.iload 4, 2) := by decide +kernel
theorem dX6_put_42 : decode cX6_put 42 = .ok (.iconst 2, 1) := by decide +kernel
theorem dX6_put_43 : decode cX6_put 43 = .ok (.iadd, 1) := by decide +kernel
theorem dX6_put_44 : decode cX6_put 44 = .ok (.iload 6, 2) := by decide +kernel
theorem dX6_put_46 : decode cX6_put 46 = .ok (.iastore, 1) := by decide +kernel
theorem dX6_put_47 : decode cX6_put 47 = .ok (.aload_n 0, 1) := by decide +kernel
theorem dX6_put_48 : decode cX6_put 48 = .ok (.iload 4, 2) := by decide +kernel
theorem dX6_put_50 : decode cX6_put 50 = .ok (.iconst 3, 1) := by decide +kernel
theorem dX6_put_51 : decode cX6_put 51 = .ok (.iadd, 1) := by decide +kernel
theorem dX6_put_52 : decode cX6_put 52 = .ok (.aload_n 0, 1) := by decide +kernel
theorem dX6_put_53 : decode cX6_put 53 = .ok (.bipush 7, 2) := by decide +kernel
theorem dX6_put_55 : decode cX6_put 55 = .ok (.iaload, 1) := by decide +kernel
theorem dX6_put_56 : decode cX6_put 56 = .ok (.iastore, 1) := by decide +kernel
theorem dX6_put_57 : decode cX6_put 57 = .ok (.aload_n 0, 1) := by decide +kernel
theorem dX6_put_58 : decode cX6_put 58 = .ok (.iload 4, 2) := by decide +kernel
theorem dX6_put_60 : decode cX6_put 60 = .ok (.iconst 4, 1) := by decide +kernel
theorem dX6_put_61 : decode cX6_put 61 = .ok (.iadd, 1) := by decide +kernel
theorem dX6_put_62 : decode cX6_put 62 = .ok (.aload_n 0, 1) := by decide +kernel
theorem dX6_put_63 : decode cX6_put 63 = .ok (.bipush 6, 2) := by decide +kernel
theorem dX6_put_65 : decode cX6_put 65 = .ok (.iaload, 1) := by decide +kernel
theorem dX6_put_66 : decode cX6_put 66 = .ok (.iconst (-1), 1) := by decide +kernel
theorem dX6_put_67 : decode cX6_put 67 = .ok (.if_icmp .ne 10, 3) := by decide +kernel
theorem dX6_put_70 : decode cX6_put 70 = .ok (.iload_n 1, 1) := by decide +kernel
theorem dX6_put_71 : decode cX6_put 71 = .ok (.invokestatic 46, 3) := by decide +kernel
theorem dX6_put_74 : decode cX6_put 74 = .ok (.goto 7, 3) := by decide +kernel
theorem dX6_put_77 : decode cX6_put 77 = .ok (.aload_n 0, 1) := by decide +kernel
theorem dX6_put_78 : decode cX6_put 78 = .ok (.bipush 6, 2) := by decide +kernel
theorem dX6_put_80 : decode cX6_put 80 = .ok (.iaload, 1) := by decide +kernel
theorem dX6_put_81 : decode cX6_put 81 = .ok (.iastore, 1) := by decide +kernel
theorem dX6_put_82 : decode cX6_put 82 = .ok (.aload_n 0, 1) := by decide +kernel
theorem dX6_put_83 : decode cX6_put 83 = .ok (.iconst 5, 1) := by decide +kernel
theorem dX6_put_84 : decode cX6_put 84 = .ok (.dup2, 1) := by decide +kernel
theorem dX6_put_85 : decode cX6_put 85 = .ok (.iaload, 1) := by decide +kernel
theorem dX6_put_86 : decode cX6_put 86 = .ok (.iconst 1, 1) := by decide +kernel
theorem dX6_put_87 : decode cX6_put 87 = .ok (.iadd, 1) := by decide +kernel
theorem dX6_put_88 : decode cX6_put 88 = .ok (.iastore, 1) := by decide +kernel
theorem dX6_put_89 : decode cX6_put 89 = .ok (.aload_n 0, 1) := by decide +kernel
theorem dX6_put_90 : decode cX6_put 90 = .ok (.bipush 10, 2) := by decide +kernel
theorem dX6_put_92 : decode cX6_put 92 = .ok (.dup2, 1) := by decide +kernel
theorem dX6_put_93 : decode cX6_put 93 = .ok (.iaload, 1) := by decide +kernel
theorem dX6_put_94 : decode cX6_put 94 = .ok (.iconst 1, 1) := by decide +kernel
theorem dX6_put_95 : decode cX6_put 95 = .ok (.iadd, 1) := by decide +kernel
theorem dX6_put_96 : decode cX6_put 96 = .ok (.iastore, 1) := by decide +kernel
theorem dX6_put_97 : decode cX6_put 97 = .ok (.aload_n 0, 1) := by decide +kernel
theorem dX6_put_98 : decode cX6_put 98 = .ok (.bipush 6, 2) := by decide +kernel
theorem dX6_put_100 : decode cX6_put 100 = .ok (.iload_n 1, 1) := by decide +kernel
theorem dX6_put_101 : decode cX6_put 101 = .ok (.aload_n 0, 1) := by decide +kernel
theorem dX6_put_102 : decode cX6_put 102 = .ok (.bipush 6, 2) := by decide +kernel
theorem dX6_put_104 : decode cX6_put 104 = .ok (.iaload, 1) := by decide +kernel
theorem dX6_put_105 : decode cX6_put 105 = .ok (.invokestatic 115, 3) := by decide +kernel
theorem dX6_put_108 : decode cX6_put 108 = .ok (.iastore, 1) := by decide +kernel
theorem dX6_put_109 : decode cX6_put 109 = .ok (.aload_n 0, 1) := by decide +kernel
theorem dX6_put_110 : decode cX6_put 110 = .ok (.bipush 21, 2) := by decide +kernel
theorem dX6_put_112 : decode cX6_put 112 = .ok (.iload_n 1, 1) := by decide +kernel
theorem dX6_put_113 : decode cX6_put 113 = .ok (.iadd, 1) := by decide +kernel
theorem dX6_put_114 : decode cX6_put 114 = .ok (.iconst (-1), 1) := by decide +kernel
theorem dX6_put_115 : decode cX6_put 115 = .ok (.iastore, 1) := by decide +kernel
theorem dX6_put_116 : decode cX6_put 116 = .ok (.aload_n 0, 1) := by decide +kernel
theorem dX6_put_117 : decode cX6_put 117 = .ok (.bipush 8, 2) := by decide +kernel
theorem dX6_put_119 : decode cX6_put 119 = .ok (.iconst 0, 1) := by decide +kernel
theorem dX6_put_120 : decode cX6_put 120 = .ok (.iastore, 1) := by decide +kernel
theorem dX6_put_121 : decode cX6_put 121 = .ok (.iload_n 1, 1) := by decide +kernel
theorem dX6_put_122 : decode cX6_put 122 = .ok (.invokestatic 46, 3) := by decide +kernel
theorem dX6_put_125 : decode cX6_put 125 = .ok (.iload_n 1, 1) := by decide +kernel
theorem dX6_put_126 : decode cX6_put 126 = .ok (.invokestatic 50, 3) := by decide +kernel
theorem dX6_put_129 : decode cX6_put 129 = .ok (.if_icmp .ne 40, 3) := by decide +kernel
theorem dX6_put_132 : decode cX6_put 132 = .ok (.aload_n 0, 1) := by decide +kernel
theorem dX6_put_133 : decode cX6_put 133 = .ok (.bipush 7, 2) := by decide +kernel
theorem dX6_put_135 : decode cX6_put 135 = .ok (.aload_n 0, 1) := by decide +kernel
theorem dX6_put_136 : decode cX6_put 136 = .ok (.bipush 7, 2) := by decide +kernel
theorem dX6_put_138 : decode cX6_put 138 = .ok (.iaload, 1) := by decide +kernel
theorem dX6_put_139 : decode cX6_put 139 = .ok (.iload_n 2, 1) := by decide +kernel
theorem dX6_put_140 : decode cX6_put 140 = .ok (.ifCond .eq 7, 3) := by decide +kernel
theorem dX6_put_143 : decode cX6_put 143 = .ok (.iconst 3, 1) := by decide +kernel
theorem dX6_put_144 : decode cX6_put 144 = .ok (.goto 4, 3) := by decide +kernel
theorem dX6_put_147 : decode cX6_put 147 = .ok (.iconst 1, 1) := by decide +kernel
theorem dX6_put_148 : decode cX6_put 148 = .ok (.iadd, 1) := by decide +kernel
theorem dX6_put_149 : decode cX6_put 149 = .ok (.iconst 4, 1) := by decide +kernel
theorem dX6_put_150 : decode cX6_put 150 = .ok (.irem, 1) := by decide +kernel
theorem dX6_put_151 : decode cX6_put 151 = .ok (.iastore, 1) := by decide +kernel
theorem dX6_put_152 : decode cX6_put 152 = .ok (.aload_n 0, 1) := by decide +kernel
theorem dX6_put_153 : decode cX6_put 153 = .ok (.iload_n 2, 1) := by decide +kernel
theorem dX6_put_154 : decode cX6_put 154 = .ok (.ifCond .eq 8, 3) := by decide +kernel
theorem dX6_put_157 : decode cX6_put 157 = .ok (.bipush 12, 2) := by decide +kernel
theorem dX6_put_159 : decode cX6_put 159 = .ok (.goto 5, 3) := by decide +kernel
theorem dX6_put_162 : decode cX6_put 162 = .ok (.bipush 11, 2) := by decide +kernel
theorem dX6_put_164 : decode cX6_put 164 = .ok (.dup2, 1) := by decide +kernel
theorem dX6_put_165 : decode cX6_put 165 = .ok (.iaload, 1) := by decide +kernel
theorem dX6_put_166 : decode cX6_put 166 = .ok (.iconst 1, 1) := by decide +kernel
theorem dX6_put_167 : decode cX6_put 167 = .ok (.iadd, 1) := by decide +kernel
theorem dX6_put_168 : decode cX6_put 168 = .ok (.iastore, 1) := by decide +kernel
theorem dX6_put_169 : decode cX6_put 169 = .ok (.aload_n 0, 1) := by decide +kernel
theorem dX6_put_170 : decode cX6_put 170 = .ok (.iload_n 3, 1) := by decide +kernel
theorem dX6_put_171 : decode cX6_put 171 = .ok (.invokestatic 119, 3) := by decide +kernel
theorem dX6_put_174 : decode cX6_put 174 = .ok (.ifCond .ne 11, 3) := by decide +kernel
theorem dX6_put_177 : decode cX6_put 177 = .ok (.aload_n 0, 1) := by decide +kernel
theorem dX6_put_178 : decode cX6_put 178 = .ok (.iload_n 3, 1) := by decide +kernel
theorem dX6_put_179 : decode cX6_put 179 = .ok (.invokestatic 122, 3) := by decide +kernel
theorem dX6_put_182 : decode cX6_put 182 = .ok (.goto 7, 3) := by decide +kernel
theorem dX6_put_185 : decode cX6_put 185 = .ok (.aload_n 0, 1) := by decide +kernel
theorem dX6_put_186 : decode cX6_put 186 = .ok (.invokestatic 126, 3) := by decide +kernel
theorem dX6_put_189 : decode cX6_put 189 = .ok (.return_, 1) := by decide +kernel
theorem dX6_playOn_0 : decode cX6_playOn 0 = .ok (.aload_n 0, 1) := by decide +kernel
theorem dX6_playOn_1 : decode cX6_playOn 1 = .ok (.iload_n 1, 1) := by decide +kernel
theorem dX6_playOn_2 : decode cX6_playOn 2 = .ok (.invokestatic 102, 3) := by decide +kernel
theorem dX6_playOn_5 : decode cX6_playOn 5 = .ok (.istore_n 3, 1) := by decide +kernel
theorem dX6_playOn_6 : decode cX6_playOn 6 = .ok (.iload_n 3, 1) := by decide +kernel
theorem dX6_playOn_7 : decode cX6_playOn 7 = .ok (.ifCond .ne 12, 3) := by decide +kernel
theorem dX6_playOn_10 : decode cX6_playOn 10 = .ok (.aload_n 0, 1) := by decide +kernel
theorem dX6_playOn_11 : decode cX6_playOn 11 = .ok (.iload_n 1, 1) := by decide +kernel
theorem dX6_playOn_12 : decode cX6_playOn 12 = .ok (.iload_n 2, 1) := by decide +kernel
theorem dX6_playOn_13 : decode cX6_playOn 13 = .ok (.invokestatic 129, 3) := by decide +kernel
theorem dX6_playOn_16 : decode cX6_playOn 16 = .ok (.goto 11, 3) := by decide +kernel
theorem dX6_playOn_19 : decode cX6_playOn 19 = .ok (.aload_n 0, 1) := by decide +kernel
theorem dX6_playOn_20 : decode cX6_playOn 20 = .ok (.bipush 9, 2) := by decide +kernel
theorem dX6_playOn_22 : decode cX6_playOn 22 = .ok (.dup2, 1) := by decide +kernel
theorem dX6_playOn_23 : decode cX6_playOn 23 = .ok (.iaload, 1) := by decide +kernel
theorem dX6_playOn_24 : decode cX6_playOn 24 = .ok (.iconst 1, 1) := by decide +kernel
theorem dX6_playOn_25 : decode cX6_playOn 25 = .ok (.iadd, 1) := by decide +kernel
theorem dX6_playOn_26 : decode cX6_playOn 26 = .ok (.iastore, 1) := by decide +kernel
theorem dX6_playOn_27 : decode cX6_playOn 27 = .ok (.iload_n 3, 1) := by decide +kernel
theorem dX6_playOn_28 : decode cX6_playOn 28 = .ok (.ireturn, 1) := by decide +kernel
theorem dX6_canDraw_0 : decode cX6_canDraw 0 = .ok (.aload_n 0, 1) := by decide +kernel
theorem dX6_canDraw_1 : decode cX6_canDraw 1 = .ok (.iconst 1, 1) := by decide +kernel
theorem dX6_canDraw_2 : decode cX6_canDraw 2 = .ok (.iaload, 1) := by decide +kernel
theorem dX6_canDraw_3 : decode cX6_canDraw 3 = .ok (.iconst 1, 1) := by decide +kernel
theorem dX6_canDraw_4 : decode cX6_canDraw 4 = .ok (.if_icmp .ne 13, 3) := by decide +kernel
theorem dX6_canDraw_7 : decode cX6_canDraw 7 = .ok (.aload_n 0, 1) := by decide +kernel
theorem dX6_canDraw_8 : decode cX6_canDraw 8 = .ok (.iconst 4, 1) := by decide +kernel
theorem dX6_canDraw_9 : decode cX6_canDraw 9 = .ok (.iaload, 1) := by decide +kernel
theorem dX6_canDraw_10 : decode cX6_canDraw 10 = .ok (.ifCond .le 7, 3) := by decide +kernel
theorem dX6_canDraw_13 : decode cX6_canDraw 13 = .ok (.iconst 1, 1) := by decide +kernel
theorem dX6_canDraw_14 : decode cX6_canDraw 14 = .ok (.goto 4, 3) := by decide +kernel
theorem dX6_canDraw_17 : decode cX6_canDraw 17 = .ok (.iconst 0, 1) := by decide +kernel
theorem dX6_canDraw_18 : decode cX6_canDraw 18 = .ok (.ireturn, 1) := by decide +kernel
theorem dX6_canPass_0 : decode cX6_canPass 0 = .ok (.aload_n 0, 1) := by decide +kernel
theorem dX6_canPass_1 : decode cX6_canPass 1 = .ok (.iconst 1, 1) := by decide +kernel
theorem dX6_canPass_2 : decode cX6_canPass 2 = .ok (.iaload, 1) := by decide +kernel
theorem dX6_canPass_3 : decode cX6_canPass 3 = .ok (.iconst 1, 1) := by decide +kernel
theorem dX6_canPass_4 : decode cX6_canPass 4 = .ok (.if_icmp .ne 13, 3) := by decide +kernel
theorem dX6_canPass_7 : decode cX6_canPass 7 = .ok (.aload_n 0, 1) := by decide +kernel
theorem dX6_canPass_8 : decode cX6_canPass 8 = .ok (.iconst 4, 1) := by decide +kernel
theorem dX6_canPass_9 : decode cX6_canPass 9 = .ok (.iaload, 1) := by decide +kernel
theorem dX6_canPass_10 : decode cX6_canPass 10 = .ok (.ifCond .ne 7, 3) := by decide +kernel
theorem dX6_canPass_13 : decode cX6_canPass 13 = .ok (.iconst 1, 1) := by decide +kernel
theorem dX6_canPass_14 : decode cX6_canPass 14 = .ok (.goto 4, 3) := by decide +kernel
theorem dX6_canPass_17 : decode cX6_canPass 17 = .ok (.iconst 0, 1) := by decide +kernel
theorem dX6_canPass_18 : decode cX6_canPass 18 = .ok (.ireturn, 1) := by decide +kernel
theorem dX6_drawOn_0 : decode cX6_drawOn 0 = .ok (.aload_n 0, 1) := by decide +kernel
theorem dX6_drawOn_1 : decode cX6_drawOn 1 = .ok (.bipush 49, 2) := by decide +kernel
theorem dX6_drawOn_3 : decode cX6_drawOn 3 = .ok (.iaload, 1) := by decide +kernel
theorem dX6_drawOn_4 : decode cX6_drawOn 4 = .ok (.istore_n 1, 1) := by decide +kernel
theorem dX6_drawOn_5 : decode cX6_drawOn 5 = .ok (.iconst 0, 1) := by decide +kernel
theorem dX6_drawOn_6 : decode cX6_drawOn 6 = .ok (.istore_n 2, 1) := by decide +kernel
theorem dX6_drawOn_7 : decode cX6_drawOn 7 = .ok (.iload_n 2, 1) := by decide +kernel
theorem dX6_drawOn_8 : decode cX6_drawOn 8 = .ok (.aload_n 0, 1) := by decide +kernel
theorem dX6_drawOn_9 : decode cX6_drawOn 9 = .ok (.iconst 4, 1) := by decide +kernel
theorem dX6_drawOn_10 : decode cX6_drawOn 10 = .ok (.iaload, 1) := by decide +kernel
theorem dX6_drawOn_11 : decode cX6_drawOn 11 = .ok (.iconst 1, 1) := by decide +kernel
theorem dX6_drawOn_12 : decode cX6_drawOn 12 = .ok (.isub, 1) := by decide +kernel
theorem dX6_drawOn_13 : decode cX6_drawOn 13 = .ok (.if_icmp .ge 23, 3) := by decide +kernel
theorem dX6_drawOn_16 : decode cX6_drawOn 16 = .ok (.aload_n 0, 1) := by decide +kernel
theorem dX6_drawOn_17 : decode cX6_drawOn 17 = .ok (.bipush 49, 2) := by decide +kernel
theorem dX6_drawOn_19 : decode cX6_drawOn 19 = .ok (.iload_n 2, 1) := by decide +kernel
theorem dX6_drawOn_20 : decode cX6_drawOn 20 = .ok (.iadd, 1) := by decide +kernel
theorem dX6_drawOn_21 : decode cX6_drawOn 21 = .ok (.aload_n 0, 1) := by decide +kernel
theorem dX6_drawOn_22 : decode cX6_drawOn 22 = .ok (.bipush 49, 2) := by decide +kernel
theorem dX6_drawOn_24 : decode cX6_drawOn 24 = .ok (.iload_n 2, 1) := by decide +kernel
theorem dX6_drawOn_25 : decode cX6_drawOn 25 = .ok (.iadd, 1) := by decide +kernel
theorem dX6_drawOn_26 : decode cX6_drawOn 26 = .ok (.iconst 1, 1) := by decide +kernel
theorem dX6_drawOn_27 : decode cX6_drawOn 27 = .ok (.iadd, 1) := by decide +kernel
theorem dX6_drawOn_28 : decode cX6_drawOn 28 = .ok (.iaload, 1) := by decide +kernel
theorem dX6_drawOn_29 : decode cX6_drawOn 29 = .ok (.iastore, 1) := by decide +kernel
theorem dX6_drawOn_30 : decode cX6_drawOn 30 = .ok (.iinc 2 1, 3) := by decide +kernel
theorem dX6_drawOn_33 : decode cX6_drawOn 33 = .ok (.goto (-26), 3) := by decide +kernel
theorem dX6_drawOn_36 : decode cX6_drawOn 36 = .ok (.aload_n 0, 1) := by decide +kernel
theorem dX6_drawOn_37 : decode cX6_drawOn 37 = .ok (.iconst 4, 1) := by decide +kernel
theorem dX6_drawOn_38 : decode cX6_drawOn 38 = .ok (.dup2, 1) := by decide +kernel
theorem dX6_drawOn_39 : decode cX6_drawOn 39 = .ok (.iaload, 1) := by decide +kernel
theorem dX6_drawOn_40 : decode cX6_drawOn 40 = .ok (.iconst 1, 1) := by decide +kernel
theorem dX6_drawOn_41 : decode cX6_drawOn 41 = .ok (.isub, 1) := by decide +kernel
theorem dX6_drawOn_42 : decode cX6_drawOn 42 = .ok (.iastore, 1) := by decide +kernel
theorem dX6_drawOn_43 : decode cX6_drawOn 43 = .ok (.aload_n 0, 1) := by decide +kernel
theorem dX6_drawOn_44 : decode cX6_drawOn 44 = .ok (.bipush 21, 2) := by decide +kernel
theorem dX6_drawOn_46 : decode cX6_drawOn 46 = .ok (.iload_n 1, 1) := by decide +kernel
theorem dX6_drawOn_47 : decode cX6_drawOn 47 = .ok (.iadd, 1) := by decide +kernel
theorem dX6_drawOn_48 : decode cX6_drawOn 48 = .ok (.aload_n 0, 1) := by decide +kernel
theorem dX6_drawOn_49 : decode cX6_drawOn 49 = .ok (.iconst 3, 1) := by decide +kernel
theorem dX6_drawOn_50 : decode cX6_drawOn 50 = .ok (.iaload, 1) := by decide +kernel
theorem dX6_drawOn_51 : decode cX6_drawOn 51 = .ok (.iastore, 1) := by decide +kernel
theorem dX6_drawOn_52 : decode cX6_drawOn 52 = .ok (.aload_n 0, 1) := by decide +kernel
theorem dX6_drawOn_53 : decode cX6_drawOn 53 = .ok (.bipush 8, 2) := by decide +kernel
theorem dX6_drawOn_55 : decode cX6_drawOn 55 = .ok (.iconst 0, 1) := by decide +kernel
theorem dX6_drawOn_56 : decode cX6_drawOn 56 = .ok (.iastore, 1) := by decide +kernel
theorem dX6_drawOn_57 : decode cX6_drawOn 57 = .ok (.iload_n 1, 1) := by decide +kernel
theorem dX6_drawOn_58 : decode cX6_drawOn 58 = .ok (.ireturn, 1) := by decide +kernel
theorem dX6_passOn_0 : decode cX6_passOn 0 = .ok (.aload_n 0, 1) := by decide +kernel
theorem dX6_passOn_1 : decode cX6_passOn 1 = .ok (.bipush 8, 2) := by decide +kernel
theorem dX6_passOn_3 : decode cX6_passOn 3 = .ok (.dup2, 1) := by decide +kernel
theorem dX6_passOn_4 : decode cX6_passOn 4 = .ok (.iaload, 1) := by decide +kernel
theorem dX6_passOn_5 : decode cX6_passOn 5 = .ok (.iconst 1, 1) := by decide +kernel
theorem dX6_passOn_6 : decode cX6_passOn 6 = .ok (.iadd, 1) := by decide +kernel
theorem dX6_passOn_7 : decode cX6_passOn 7 = .ok (.iastore, 1) := by decide +kernel
theorem dX6_passOn_8 : decode cX6_passOn 8 = .ok (.aload_n 0, 1) := by decide +kernel
theorem dX6_passOn_9 : decode cX6_passOn 9 = .ok (.bipush 8, 2) := by decide +kernel
theorem dX6_passOn_11 : decode cX6_passOn 11 = .ok (.iaload, 1) := by decide +kernel
theorem dX6_passOn_12 : decode cX6_passOn 12 = .ok (.aload_n 0, 1) := by decide +kernel
theorem dX6_passOn_13 : decode cX6_passOn 13 = .ok (.iconst 2, 1) := by decide +kernel
theorem dX6_passOn_14 : decode cX6_passOn 14 = .ok (.iaload, 1) := by decide +kernel
theorem dX6_passOn_15 : decode cX6_passOn 15 = .ok (.if_icmp .ne 47, 3) := by decide +kernel
theorem dX6_passOn_18 : decode cX6_passOn 18 = .ok (.iconst 0, 1) := by decide +kernel
theorem dX6_passOn_19 : decode cX6_passOn 19 = .ok (.istore_n 1, 1) := by decide +kernel
theorem dX6_passOn_20 : decode cX6_passOn 20 = .ok (.iconst 1, 1) := by decide +kernel
theorem dX6_passOn_21 : decode cX6_passOn 21 = .ok (.istore_n 2, 1) := by decide +kernel
theorem dX6_passOn_22 : decode cX6_passOn 22 = .ok (.iload_n 2, 1) := by decide +kernel
theorem dX6_passOn_23 : decode cX6_passOn 23 = .ok (.aload_n 0, 1) := by decide +kernel
theorem dX6_passOn_24 : decode cX6_passOn 24 = .ok (.iconst 2, 1) := by decide +kernel
theorem dX6_passOn_25 : decode cX6_passOn 25 = .ok (.iaload, 1) := by decide +kernel
theorem dX6_passOn_26 : decode cX6_passOn 26 = .ok (.if_icmp .ge 28, 3) := by decide +kernel
theorem dX6_passOn_29 : decode cX6_passOn 29 = .ok (.aload_n 0, 1) := by decide +kernel
theorem dX6_passOn_30 : decode cX6_passOn 30 = .ok (.iload_n 2, 1) := by decide +kernel
theorem dX6_passOn_31 : decode cX6_passOn 31 = .ok (.invokestatic 109, 3) := by decide +kernel
theorem dX6_passOn_34 : decode cX6_passOn 34 = .ok (.aload_n 0, 1) := by decide +kernel
theorem dX6_passOn_35 : decode cX6_passOn 35 = .ok (.iload_n 1, 1) := by decide +kernel
theorem dX6_passOn_36 : decode cX6_passOn 36 = .ok (.invokestatic 109, 3) := by decide +kernel
theorem dX6_passOn_39 : decode cX6_passOn 39 = .ok (.if_icmp .ge 7, 3) := by decide +kernel
theorem dX6_passOn_42 : decode cX6_passOn 42 = .ok (.iload_n 2, 1) := by decide +kernel
theorem dX6_passOn_43 : decode cX6_passOn 43 = .ok (.goto 4, 3) := by decide +kernel
theorem dX6_passOn_46 : decode cX6_passOn 46 = .ok (.iload_n 1, 1) := by decide +kernel
theorem dX6_passOn_47 : decode cX6_passOn 47 = .ok (.istore_n 1, 1) := by decide +kernel
theorem dX6_passOn_48 : decode cX6_passOn 48 = .ok (.iinc 2 1, 3) := by decide +kernel
theorem dX6_passOn_51 : decode cX6_passOn 51 = .ok (.goto (-29), 3) := by decide +kernel
theorem dX6_passOn_54 : decode cX6_passOn 54 = .ok (.aload_n 0, 1) := by decide +kernel
theorem dX6_passOn_55 : decode cX6_passOn 55 = .ok (.iload_n 1, 1) := by decide +kernel
theorem dX6_passOn_56 : decode cX6_passOn 56 = .ok (.invokestatic 122, 3) := by decide +kernel
theorem dX6_passOn_59 : decode cX6_passOn 59 = .ok (.goto 7, 3) := by decide +kernel
theorem dX6_passOn_62 : decode cX6_passOn 62 = .ok (.aload_n 0, 1) := by decide +kernel
theorem dX6_passOn_63 : decode cX6_passOn 63 = .ok (.invokestatic 126, 3) := by decide +kernel
theorem dX6_passOn_66 : decode cX6_passOn 66 = .ok (.aload_n 0, 1) := by decide +kernel
theorem dX6_passOn_67 : decode cX6_passOn 67 = .ok (.iconst 1, 1) := by decide +kernel
theorem dX6_passOn_68 : decode cX6_passOn 68 = .ok (.iaload, 1) := by decide +kernel
theorem dX6_passOn_69 : decode cX6_passOn 69 = .ok (.ireturn, 1) := by decide +kernel
theorem dX6_playBest_0 : decode cX6_playBest 0 = .ok (.aload_n 0, 1) := by decide +kernel
theorem dX6_playBest_1 : decode cX6_playBest 1 = .ok (.invokestatic 133, 3) := by decide +kernel
theorem dX6_playBest_4 : decode cX6_playBest 4 = .ok (.istore_n 1, 1) := by decide +kernel
theorem dX6_playBest_5 : decode cX6_playBest 5 = .ok (.iload_n 1, 1) := by decide +kernel
theorem dX6_playBest_6 : decode cX6_playBest 6 = .ok (.iconst (-1), 1) := by decide +kernel
theorem dX6_playBest_7 : decode cX6_playBest 7 = .ok (.if_icmp .eq 9, 3) := by decide +kernel
theorem dX6_playBest_10 : decode cX6_playBest 10 = .ok (.aload_n 0, 1) := by decide +kernel
theorem dX6_playBest_11 : decode cX6_playBest 11 = .ok (.iload_n 1, 1) := by decide +kernel
theorem dX6_playBest_12 : decode cX6_playBest 12 = .ok (.iconst 0, 1) := by decide +kernel
theorem dX6_playBest_13 : decode cX6_playBest 13 = .ok (.invokestatic 129, 3) := by decide +kernel
theorem dX6_playBest_16 : decode cX6_playBest 16 = .ok (.iload_n 1, 1) := by decide +kernel
theorem dX6_playBest_17 : decode cX6_playBest 17 = .ok (.iconst (-1), 1) := by decide +kernel
theorem dX6_playBest_18 : decode cX6_playBest 18 = .ok (.if_icmp .eq 7, 3) := by decide +kernel
theorem dX6_playBest_21 : decode cX6_playBest 21 = .ok (.iconst 1, 1) := by decide +kernel
theorem dX6_playBest_22 : decode cX6_playBest 22 = .ok (.goto 4, 3) := by decide +kernel
theorem dX6_playBest_25 : decode cX6_playBest 25 = .ok (.iconst 0, 1) := by decide +kernel
theorem dX6_playBest_26 : decode cX6_playBest 26 = .ok (.ireturn, 1) := by decide +kernel
theorem dX6_append_0 : decode cX6_append 0 = .ok (.aload_n 0, 1) := by decide +kernel
theorem dX6_append_1 : decode cX6_append 1 = .ok (.iload_n 1, 1) := by decide +kernel
theorem dX6_append_2 : decode cX6_append 2 = .ok (.i2l, 1) := by decide +kernel
theorem dX6_append_3 : decode cX6_append 3 = .ok (.lconst 0, 1) := by decide +kernel
theorem dX6_append_4 : decode cX6_append 4 = .ok (.ldc2_w 136, 3) := by decide +kernel
theorem dX6_append_7 : decode cX6_append 7 = .ok (.invokestatic 55, 3) := by decide +kernel
theorem dX6_append_10 : decode cX6_append 10 = .ok (.ifCond .ne 7, 3) := by decide +kernel
theorem dX6_append_13 : decode cX6_append 13 = .ok (.iconst 1, 1) := by decide +kernel
theorem dX6_append_14 : decode cX6_append 14 = .ok (.goto 17, 3) := by decide +kernel
theorem dX6_append_17 : decode cX6_append 17 = .ok (.aload_n 0, 1) := by decide +kernel
theorem dX6_append_18 : decode cX6_append 18 = .ok (.getfield 138, 3) := by decide +kernel
theorem dX6_append_21 : decode cX6_append 21 = .ok (.bipush 120, 2) := by decide +kernel
theorem dX6_append_23 : decode cX6_append 23 = .ok (.if_icmp .ne 7, 3) := by decide +kernel
theorem dX6_append_26 : decode cX6_append 26 = .ok (.iconst 2, 1) := by decide +kernel
theorem dX6_append_27 : decode cX6_append 27 = .ok (.goto 4, 3) := by decide +kernel
theorem dX6_append_30 : decode cX6_append 30 = .ok (.iconst 0, 1) := by decide +kernel
theorem dX6_append_31 : decode cX6_append 31 = .ok (.invokevirtual 141, 3) := by decide +kernel
theorem dX6_append_34 : decode cX6_append 34 = .ok (.ifCond .eq 5, 3) := by decide +kernel
theorem dX6_append_37 : decode cX6_append 37 = .ok (.iconst 0, 1) := by decide +kernel
theorem dX6_append_38 : decode cX6_append 38 = .ok (.ireturn, 1) := by decide +kernel
theorem dX6_append_39 : decode cX6_append 39 = .ok (.aload_n 0, 1) := by decide +kernel
theorem dX6_append_40 : decode cX6_append 40 = .ok (.getfield 7, 3) := by decide +kernel
theorem dX6_append_43 : decode cX6_append 43 = .ok (.aload_n 0, 1) := by decide +kernel
theorem dX6_append_44 : decode cX6_append 44 = .ok (.getfield 138, 3) := by decide +kernel
theorem dX6_append_47 : decode cX6_append 47 = .ok (.iload_n 1, 1) := by decide +kernel
theorem dX6_append_48 : decode cX6_append 48 = .ok (.iastore, 1) := by decide +kernel
theorem dX6_append_49 : decode cX6_append 49 = .ok (.aload_n 0, 1) := by decide +kernel
theorem dX6_append_50 : decode cX6_append 50 = .ok (.dup, 1) := by decide +kernel
theorem dX6_append_51 : decode cX6_append 51 = .ok (.getfield 138, 3) := by decide +kernel
theorem dX6_append_54 : decode cX6_append 54 = .ok (.iconst 1, 1) := by decide +kernel
theorem dX6_append_55 : decode cX6_append 55 = .ok (.iadd, 1) := by decide +kernel
theorem dX6_append_56 : decode cX6_append 56 = .ok (.putfield 138, 3) := by decide +kernel
theorem dX6_append_59 : decode cX6_append 59 = .ok (.aload_n 0, 1) := by decide +kernel
theorem dX6_append_60 : decode cX6_append 60 = .ok (.getfield 138, 3) := by decide +kernel
theorem dX6_append_63 : decode cX6_append 63 = .ok (.ireturn, 1) := by decide +kernel
theorem dX6_clearText_0 : decode cX6_clearText 0 = .ok (.aload_n 0, 1) := by decide +kernel
theorem dX6_clearText_1 : decode cX6_clearText 1 = .ok (.iconst 0, 1) := by decide +kernel
theorem dX6_clearText_2 : decode cX6_clearText 2 = .ok (.putfield 42, 3) := by decide +kernel
theorem dX6_clearText_5 : decode cX6_clearText 5 = .ok (.aload_n 0, 1) := by decide +kernel
theorem dX6_clearText_6 : decode cX6_clearText 6 = .ok (.getfield 138, 3) := by decide +kernel
theorem dX6_clearText_9 : decode cX6_clearText 9 = .ok (.istore_n 1, 1) := by decide +kernel
theorem dX6_clearText_10 : decode cX6_clearText 10 = .ok (.aload_n 0, 1) := by decide +kernel
theorem dX6_clearText_11 : decode cX6_clearText 11 = .ok (.iconst 0, 1) := by decide +kernel
theorem dX6_clearText_12 : decode cX6_clearText 12 = .ok (.putfield 138, 3) := by decide +kernel
theorem dX6_clearText_15 : decode cX6_clearText 15 = .ok (.iload_n 1, 1) := by decide +kernel
theorem dX6_clearText_16 : decode cX6_clearText 16 = .ok (.ireturn, 1) := by decide +kernel
theorem dX6_figures_0 : decode cX6_figures 0 = .ok (.iconst 0, 1) := by decide +kernel
theorem dX6_figures_1 : decode cX6_figures 1 = .ok (.istore 5, 2) := by decide +kernel
theorem dX6_figures_3 : decode cX6_figures 3 = .ok (.iload_n 2, 1) := by decide +kernel
theorem dX6_figures_4 : decode cX6_figures 4 = .ok (.iconst 2, 1) := by decide +kernel
theorem dX6_figures_5 : decode cX6_figures 5 = .ok (.if_icmp .ne 8, 3) := by decide +kernel
theorem dX6_figures_8 : decode cX6_figures 8 = .ok (.bipush 10, 2) := by decide +kernel
theorem dX6_figures_10 : decode cX6_figures 10 = .ok (.goto 4, 3) := by decide +kernel
theorem dX6_figures_13 : decode cX6_figures 13 = .ok (.iconst 1, 1) := by decide +kernel
theorem dX6_figures_14 : decode cX6_figures 14 = .ok (.istore 6, 2) := by decide +kernel
theorem dX6_figures_16 : decode cX6_figures 16 = .ok (.iload 6, 2) := by decide +kernel
theorem dX6_figures_18 : decode cX6_figures 18 = .ok (.ifCond .le 104, 3) := by decide +kernel
theorem dX6_figures_21 : decode cX6_figures 21 = .ok (.iload_n 1, 1) := by decide +kernel
theorem dX6_figures_22 : decode cX6_figures 22 = .ok (.iconst (-1), 1) := by decide +kernel
theorem dX6_figures_23 : decode cX6_figures 23 = .ok (.if_icmp .eq 99, 3) := by decide +kernel
theorem dX6_figures_26 : decode cX6_figures 26 = .ok (.aload_n 0, 1) := by decide +kernel
theorem dX6_figures_27 : decode cX6_figures 27 = .ok (.getfield 145, 3) := by decide +kernel
theorem dX6_figures_30 : decode cX6_figures 30 = .ok (.aload_n 0, 1) := by decide +kernel
theorem dX6_figures_31 : decode cX6_figures 31 = .ok (.getfield 138, 3) := by decide +kernel
theorem dX6_figures_34 : decode cX6_figures 34 = .ok (.if_icmp .ge 18, 3) := by decide +kernel
theorem dX6_figures_37 : decode cX6_figures 37 = .ok (.aload_n 0, 1) := by decide +kernel
theorem dX6_figures_38 : decode cX6_figures 38 = .ok (.getfield 7, 3) := by decide +kernel
theorem dX6_figures_41 : decode cX6_figures 41 = .ok (.aload_n 0, 1) := by decide +kernel
theorem dX6_figures_42 : decode cX6_figures 42 = .ok (.getfield 145, 3) := by decide +kernel
theorem dX6_figures_45 : decode cX6_figures 45 = .ok (.iaload, 1) := by decide +kernel
theorem dX6_figures_46 : decode cX6_figures 46 = .ok (.bipush 48, 2) := by decide +kernel
theorem dX6_figures_48 : decode cX6_figures 48 = .ok (.isub, 1) := by decide +kernel
theorem dX6_figures_49 : decode cX6_figures 49 = .ok (.goto 4, 3) := by decide +kernel
theorem dX6_figures_52 : decode cX6_figures 52 = .ok (.iconst (-1), 1) := by decide +kernel
theorem dX6_figures_53 : decode cX6_figures 53 = .ok (.istore 7, 2) := by decide +kernel
theorem dX6_figures_55 : decode cX6_figures 55 = .ok (.iload 5, 2) := by decide +kernel
theorem dX6_figures_57 : decode cX6_figures 57 = .ok (.iload 7, 2) := by decide +kernel
theorem dX6_figures_59 : decode cX6_figures 59 = .ok (.iload 6, 2) := by decide +kernel
theorem dX6_figures_61 : decode cX6_figures 61 = .ok (.imul, 1) := by decide +kernel
theorem dX6_figures_62 : decode cX6_figures 62 = .ok (.iadd, 1) := by decide +kernel
theorem dX6_figures_63 : decode cX6_figures 63 = .ok (.istore 8, 2) := by decide +kernel
theorem dX6_figures_65 : decode cX6_figures 65 = .ok (.iload 7, 2) := by decide +kernel
theorem dX6_figures_67 : decode cX6_figures 67 = .ok (.i2l, 1) := by decide +kernel
theorem dX6_figures_68 : decode cX6_figures 68 = .ok (.lconst 0, 1) := by decide +kernel
theorem dX6_figures_69 : decode cX6_figures 69 = .ok (.ldc2_w 148, 3) := by decide +kernel
theorem dX6_figures_72 : decode cX6_figures 72 = .ok (.invokestatic 55, 3) := by decide +kernel
theorem dX6_figures_75 : decode cX6_figures 75 = .ok (.ifCond .eq 21, 3) := by decide +kernel
theorem dX6_figures_78 : decode cX6_figures 78 = .ok (.iload 8, 2) := by decide +kernel
theorem dX6_figures_80 : decode cX6_figures 80 = .ok (.iload 4, 2) := by decide +kernel
theorem dX6_figures_82 : decode cX6_figures 82 = .ok (.if_icmp .gt 14, 3) := by decide +kernel
theorem dX6_figures_85 : decode cX6_figures 85 = .ok (.iload 8, 2) := by decide +kernel
theorem dX6_figures_87 : decode cX6_figures 87 = .ok (.iload 6, 2) := by decide +kernel
theorem dX6_figures_89 : decode cX6_figures 89 = .ok (.iadd, 1) := by decide +kernel
theorem dX6_figures_90 : decode cX6_figures 90 = .ok (.iconst 1, 1) := by decide +kernel
theorem dX6_figures_91 : decode cX6_figures 91 = .ok (.isub, 1) := by decide +kernel
theorem dX6_figures_92 : decode cX6_figures 92 = .ok (.iload_n 3, 1) := by decide +kernel
theorem dX6_figures_93 : decode cX6_figures 93 = .ok (.if_icmp .ge 5, 3) := by decide +kernel
theorem dX6_figures_96 : decode cX6_figures 96 = .ok (.iconst (-1), 1) := by decide +kernel
theorem dX6_figures_97 : decode cX6_figures 97 = .ok (.ireturn, 1) := by decide +kernel
theorem dX6_figures_98 : decode cX6_figures 98 = .ok (.iload 8, 2) := by decide +kernel
theorem dX6_figures_100 : decode cX6_figures 100 = .ok (.istore 5, 2) := by decide +kernel
theorem dX6_figures_102 : decode cX6_figures 102 = .ok (.aload_n 0, 1) := by decide +kernel
theorem dX6_figures_103 : decode cX6_figures 103 = .ok (.dup, 1) := by decide +kernel
theorem dX6_figures_104 : decode cX6_figures 104 = .ok (.getfield 145, 3) := by decide +kernel
theorem dX6_figures_107 : decode cX6_figures 107 = .ok (.iconst 1, 1) := by decide +kernel
theorem dX6_figures_108 : decode cX6_figures 108 = .ok (.iadd, 1) := by decide +kernel
theorem dX6_figures_109 : decode cX6_figures 109 = .ok (.putfield 145, 3) := by decide +kernel
theorem dX6_figures_112 : decode cX6_figures 112 = .ok (.iload 6, 2) := by decide +kernel
theorem dX6_figures_114 : decode cX6_figures 114 = .ok (.bipush 10, 2) := by decide +kernel
theorem dX6_figures_116 : decode cX6_figures 116 = .ok (.idiv, 1) := by decide +kernel
theorem dX6_figures_117 : decode cX6_figures 117 = .ok (.istore 6, 2) := by decide +kernel
theorem dX6_figures_119 : decode cX6_figures 119 = .ok (.goto (-103), 3) := by decide +kernel
theorem dX6_figures_122 : decode cX6_figures 122 = .ok (.iload_n 1, 1) := by decide +kernel
theorem dX6_figures_123 : decode cX6_figures 123 = .ok (.iconst (-1), 1) := by decide +kernel
theorem dX6_figures_124 : decode cX6_figures 124 = .ok (.if_icmp .ne 7, 3) := by decide +kernel
theorem dX6_figures_127 : decode cX6_figures 127 = .ok (.iconst (-1), 1) := by decide +kernel
theorem dX6_figures_128 : decode cX6_figures 128 = .ok (.goto 5, 3) := by decide +kernel
theorem dX6_figures_131 : decode cX6_figures 131 = .ok (.iload 5, 2) := by decide +kernel
theorem dX6_figures_133 : decode cX6_figures 133 = .ok (.ireturn, 1) := by decide +kernel
theorem dX6_done_0 : decode cX6_done 0 = .ok (.aload_n 0, 1) := by decide +kernel
theorem dX6_done_1 : decode cX6_done 1 = .ok (.dup, 1) := by decide +kernel
theorem dX6_done_2 : decode cX6_done 2 = .ok (.getfield 150, 3) := by decide +kernel
theorem dX6_done_5 : decode cX6_done 5 = .ok (.iload_n 1, 1) := by decide +kernel
theorem dX6_done_6 : decode cX6_done 6 = .ok (.ifCond .eq 7, 3) := by decide +kernel
theorem dX6_done_9 : decode cX6_done 9 = .ok (.iconst 0, 1) := by decide +kernel
theorem dX6_done_10 : decode cX6_done 10 = .ok (.goto 4, 3) := by decide +kernel
theorem dX6_done_13 : decode cX6_done 13 = .ok (.iconst 1, 1) := by decide +kernel
theorem dX6_done_14 : decode cX6_done 14 = .ok (.iadd, 1) := by decide +kernel
theorem dX6_done_15 : decode cX6_done 15 = .ok (.putfield 150, 3) := by decide +kernel
theorem dX6_done_18 : decode cX6_done 18 = .ok (.iconst 1, 1) := by decide +kernel
theorem dX6_done_19 : decode cX6_done 19 = .ok (.ireturn, 1) := by decide +kernel
theorem dX6_readTile_0 : decode cX6_readTile 0 = .ok (.aload_n 0, 1) := by decide +kernel
theorem dX6_readTile_1 : decode cX6_readTile 1 = .ok (.iconst 0, 1) := by decide +kernel
theorem dX6_readTile_2 : decode cX6_readTile 2 = .ok (.iconst 2, 1) := by decide +kernel
theorem dX6_readTile_3 : decode cX6_readTile 3 = .ok (.iconst 0, 1) := by decide +kernel
theorem dX6_readTile_4 : decode cX6_readTile 4 = .ok (.bipush 27, 2) := by decide +kernel
theorem dX6_readTile_6 : decode cX6_readTile 6 = .ok (.invokevirtual 153, 3) := by decide +kernel
theorem dX6_readTile_9 : decode cX6_readTile 9 = .ok (.istore_n 2, 1) := by decide +kernel
theorem dX6_readTile_10 : decode cX6_readTile 10 = .ok (.iload_n 2, 1) := by decide +kernel
theorem dX6_readTile_11 : decode cX6_readTile 11 = .ok (.iconst (-1), 1) := by decide +kernel
theorem dX6_readTile_12 : decode cX6_readTile 12 = .ok (.if_icmp .eq 42, 3) := by decide +kernel
theorem dX6_readTile_15 : decode cX6_readTile 15 = .ok (.aload_n 0, 1) := by decide +kernel
theorem dX6_readTile_16 : decode cX6_readTile 16 = .ok (.getfield 145, 3) := by decide +kernel
theorem dX6_readTile_19 : decode cX6_readTile 19 = .ok (.aload_n 0, 1) := by decide +kernel
theorem dX6_readTile_20 : decode cX6_readTile 20 = .ok (.getfield 138, 3) := by decide +kernel
theorem dX6_readTile_23 : decode cX6_readTile 23 = .ok (.if_icmp .eq 31, 3) := by decide +kernel
theorem dX6_readTile_26 : decode cX6_readTile 26 = .ok (.aload_n 0, 1) := by decide +kernel
theorem dX6_readTile_27 : decode cX6_readTile 27 = .ok (.getfield 7, 3) := by decide +kernel
theorem dX6_readTile_30 : decode cX6_readTile 30 = .ok (.aload_n 0, 1) := by decide +kernel
theorem dX6_readTile_31 : decode cX6_readTile 31 = .ok (.getfield 145, 3) := by decide +kernel
theorem dX6_readTile_34 : decode cX6_readTile 34 = .ok (.iaload, 1) := by decide +kernel
theorem dX6_readTile_35 : decode cX6_readTile 35 = .ok (.bipush 114, 2) := by decide +kernel
theorem dX6_readTile_37 : decode cX6_readTile 37 = .ok (.if_icmp .eq 19, 3) := by decide +kernel
theorem dX6_readTile_40 : decode cX6_readTile 40 = .ok (.aload_n 0, 1) := by decide +kernel
theorem dX6_readTile_41 : decode cX6_readTile 41 = .ok (.getfield 7, 3) := by decide +kernel
theorem dX6_readTile_44 : decode cX6_readTile 44 = .ok (.aload_n 0, 1) := by decide +kernel
theorem dX6_readTile_45 : decode cX6_readTile 45 = .ok (.getfield 145, 3) := by decide +kernel
theorem dX6_readTile_48 : decode cX6_readTile 48 = .ok (.iaload, 1) := by decide +kernel
theorem dX6_readTile_49 : decode cX6_readTile 49 = .ok (.bipush 108, 2) := by decide +kernel
theorem dX6_readTile_51 : decode cX6_readTile 51 = .ok (.if_icmp .eq 5, 3) := by decide +kernel
theorem dX6_readTile_54 : decode cX6_readTile 54 = .ok (.iconst 0, 1) := by decide +kernel
theorem dX6_readTile_55 : decode cX6_readTile 55 = .ok (.ireturn, 1) := by decide +kernel
theorem dX6_readTile_56 : decode cX6_readTile 56 = .ok (.aload_n 0, 1) := by decide +kernel
theorem dX6_readTile_57 : decode cX6_readTile 57 = .ok (.getfield 7, 3) := by decide +kernel
theorem dX6_readTile_60 : decode cX6_readTile 60 = .ok (.aload_n 0, 1) := by decide +kernel
theorem dX6_readTile_61 : decode cX6_readTile 61 = .ok (.getfield 145, 3) := by decide +kernel
theorem dX6_readTile_64 : decode cX6_readTile 64 = .ok (.iaload, 1) := by decide +kernel
theorem dX6_readTile_65 : decode cX6_readTile 65 = .ok (.bipush 108, 2) := by decide +kernel
theorem dX6_readTile_67 : decode cX6_readTile 67 = .ok (.if_icmp .ne 7, 3) := by decide +kernel
theorem dX6_readTile_70 : decode cX6_readTile 70 = .ok (.iconst 1, 1) := by decide +kernel
theorem dX6_readTile_71 : decode cX6_readTile 71 = .ok (.goto 4, 3) := by decide +kernel
theorem dX6_readTile_74 : decode cX6_readTile 74 = .ok (.iconst 0, 1) := by decide +kernel
theorem dX6_readTile_75 : decode cX6_readTile 75 = .ok (.istore_n 3, 1) := by decide +kernel
theorem dX6_readTile_76 : decode cX6_readTile 76 = .ok (.aload_n 0, 1) := by decide +kernel
theorem dX6_readTile_77 : decode cX6_readTile 77 = .ok (.dup, 1) := by decide +kernel
theorem dX6_readTile_78 : decode cX6_readTile 78 = .ok (.getfield 145, 3) := by decide +kernel
theorem dX6_readTile_81 : decode cX6_readTile 81 = .ok (.iconst 1, 1) := by decide +kernel
theorem dX6_readTile_82 : decode cX6_readTile 82 = .ok (.iadd, 1) := by decide +kernel
theorem dX6_readTile_83 : decode cX6_readTile 83 = .ok (.putfield 145, 3) := by decide +kernel
theorem dX6_readTile_86 : decode cX6_readTile 86 = .ok (.aload_n 0, 1) := by decide +kernel
theorem dX6_readTile_87 : decode cX6_readTile 87 = .ok (.aload_n 1, 1) := by decide +kernel
theorem dX6_readTile_88 : decode cX6_readTile 88 = .ok (.iconst 1, 1) := by decide +kernel
theorem dX6_readTile_89 : decode cX6_readTile 89 = .ok (.iaload, 1) := by decide +kernel
theorem dX6_readTile_90 : decode cX6_readTile 90 = .ok (.iconst 1, 1) := by decide +kernel
theorem dX6_readTile_91 : decode cX6_readTile 91 = .ok (.if_icmp .ne 24, 3) := by decide +kernel
theorem dX6_readTile_94 : decode cX6_readTile 94 = .ok (.aload_n 1, 1) := by decide +kernel
theorem dX6_readTile_95 : decode cX6_readTile 95 = .ok (.iload_n 2, 1) := by decide +kernel
theorem dX6_readTile_96 : decode cX6_readTile 96 = .ok (.invokestatic 102, 3) := by decide +kernel
theorem dX6_readTile_99 : decode cX6_readTile 99 = .ok (.ifCond .ne 16, 3) := by decide +kernel
theorem dX6_readTile_102 : decode cX6_readTile 102 = .ok (.aload_n 1, 1) := by decide +kernel
theorem dX6_readTile_103 : decode cX6_readTile 103 = .ok (.iload_n 2, 1) := by decide +kernel
theorem dX6_readTile_104 : decode cX6_readTile 104 = .ok (.iload_n 3, 1) := by decide +kernel
theorem dX6_readTile_105 : decode cX6_readTile 105 = .ok (.invokestatic 157, 3) := by decide +kernel
theorem dX6_readTile_108 : decode cX6_readTile 108 = .ok (.ifCond .ne 7, 3) := by decide +kernel
theorem dX6_readTile_111 : decode cX6_readTile 111 = .ok (.iconst 1, 1) := by decide +kernel
theorem dX6_readTile_112 : decode cX6_readTile 112 = .ok (.goto 4, 3) := by decide +kernel
theorem dX6_readTile_115 : decode cX6_readTile 115 = .ok (.iconst 0, 1) := by decide +kernel
theorem dX6_readTile_116 : decode cX6_readTile 116 = .ok (.invokevirtual 161, 3) := by decide +kernel
theorem dX6_readTile_119 : decode cX6_readTile 119 = .ok (.ireturn, 1) := by decide +kernel
theorem dX6_readCommand_0 : decode cX6_readCommand 0 = .ok (.aload_n 0, 1) := by decide +kernel
theorem dX6_readCommand_1 : decode cX6_readCommand 1 = .ok (.getfield 7, 3) := by decide +kernel
theorem dX6_readCommand_4 : decode cX6_readCommand 4 = .ok (.aload_n 0, 1) := by decide +kernel
theorem dX6_readCommand_5 : decode cX6_readCommand 5 = .ok (.getfield 145, 3) := by decide +kernel
theorem dX6_readCommand_8 : decode cX6_readCommand 8 = .ok (.iaload, 1) := by decide +kernel
theorem dX6_readCommand_9 : decode cX6_readCommand 9 = .ok (.istore_n 2, 1) := by decide +kernel
theorem dX6_readCommand_10 : decode cX6_readCommand 10 = .ok (.aload_n 0, 1) := by decide +kernel
theorem dX6_readCommand_11 : decode cX6_readCommand 11 = .ok (.dup, 1) := by decide +kernel
theorem dX6_readCommand_12 : decode cX6_readCommand 12 = .ok (.getfield 145, 3) := by decide +kernel
theorem dX6_readCommand_15 : decode cX6_readCommand 15 = .ok (.iconst 1, 1) := by decide +kernel
theorem dX6_readCommand_16 : decode cX6_readCommand 16 = .ok (.iadd, 1) := by decide +kernel
theorem dX6_readCommand_17 : decode cX6_readCommand 17 = .ok (.putfield 145, 3) := by decide +kernel
theorem dX6_readCommand_20 : decode cX6_readCommand 20 = .ok (.iload_n 2, 1) := by decide +kernel
theorem dX6_readCommand_21 : decode cX6_readCommand 21 = .ok (.lookupswitch 168 #[(98, 161), (100, 51), (112, 107), (115, 137), (119, 113)], 51) := by decide +kernel
theorem dX6_readCommand_72 : decode cX6_readCommand 72 = .ok (.aload_n 0, 1) := by decide +kernel
theorem dX6_readCommand_73 : decode cX6_readCommand 73 = .ok (.iconst 0, 1) := by decide +kernel
theorem dX6_readCommand_74 : decode cX6_readCommand 74 = .ok (.iconst 1, 1) := by decide +kernel
theorem dX6_readCommand_75 : decode cX6_readCommand 75 = .ok (.iconst 2, 1) := by decide +kernel
theorem dX6_readCommand_76 : decode cX6_readCommand 76 = .ok (.iconst 4, 1) := by decide +kernel
theorem dX6_readCommand_77 : decode cX6_readCommand 77 = .ok (.invokevirtual 153, 3) := by decide +kernel
theorem dX6_readCommand_80 : decode cX6_readCommand 80 = .ok (.istore_n 3, 1) := by decide +kernel
theorem dX6_readCommand_81 : decode cX6_readCommand 81 = .ok (.aload_n 0, 1) := by decide +kernel
theorem dX6_readCommand_82 : decode cX6_readCommand 82 = .ok (.iload_n 3, 1) := by decide +kernel
theorem dX6_readCommand_83 : decode cX6_readCommand 83 = .ok (.iconst 2, 1) := by decide +kernel
theorem dX6_readCommand_84 : decode cX6_readCommand 84 = .ok (.iconst 0, 1) := by decide +kernel
theorem dX6_readCommand_85 : decode cX6_readCommand 85 = .ok (.bipush 99, 2) := by decide +kernel
theorem dX6_readCommand_87 : decode cX6_readCommand 87 = .ok (.invokevirtual 153, 3) := by decide +kernel
theorem dX6_readCommand_90 : decode cX6_readCommand 90 = .ok (.istore 4, 2) := by decide +kernel
theorem dX6_readCommand_92 : decode cX6_readCommand 92 = .ok (.iload 4, 2) := by decide +kernel
theorem dX6_readCommand_94 : decode cX6_readCommand 94 = .ok (.iconst (-1), 1) := by decide +kernel
theorem dX6_readCommand_95 : decode cX6_readCommand 95 = .ok (.if_icmp .eq 31, 3) := by decide +kernel
theorem dX6_readCommand_98 : decode cX6_readCommand 98 = .ok (.aload_n 0, 1) := by decide +kernel
theorem dX6_readCommand_99 : decode cX6_readCommand 99 = .ok (.aload_n 0, 1) := by decide +kernel
theorem dX6_readCommand_100 : decode cX6_readCommand 100 = .ok (.aload_n 1, 1) := by decide +kernel
theorem dX6_readCommand_101 : decode cX6_readCommand 101 = .ok (.iload_n 3, 1) := by decide +kernel
theorem dX6_readCommand_102 : decode cX6_readCommand 102 = .ok (.iload 4, 2) := by decide +kernel
theorem dX6_readCommand_104 : decode cX6_readCommand 104 = .ok (.i2l, 1) := by decide +kernel
theorem dX6_readCommand_105 : decode cX6_readCommand 105 = .ok (.invokevirtual 165, 3) := by decide +kernel
theorem dX6_readCommand_108 : decode cX6_readCommand 108 = .ok (.ifCond .le 7, 3) := by decide +kernel
theorem dX6_readCommand_111 : decode cX6_readCommand 111 = .ok (.iconst 1, 1) := by decide +kernel
theorem dX6_readCommand_112 : decode cX6_readCommand 112 = .ok (.goto 4, 3) := by decide +kernel
theorem dX6_readCommand_115 : decode cX6_readCommand 115 = .ok (.iconst 0, 1) := by decide +kernel
theorem dX6_readCommand_116 : decode cX6_readCommand 116 = .ok (.invokevirtual 161, 3) := by decide +kernel
theorem dX6_readCommand_119 : decode cX6_readCommand 119 = .ok (.ifCond .eq 7, 3) := by decide +kernel
theorem dX6_readCommand_122 : decode cX6_readCommand 122 = .ok (.iconst 1, 1) := by decide +kernel
theorem dX6_readCommand_123 : decode cX6_readCommand 123 = .ok (.goto 4, 3) := by decide +kernel
theorem dX6_readCommand_126 : decode cX6_readCommand 126 = .ok (.iconst 0, 1) := by decide +kernel
theorem dX6_readCommand_127 : decode cX6_readCommand 127 = .ok (.ireturn, 1) := by decide +kernel
theorem dX6_readCommand_128 : decode cX6_readCommand 128 = .ok (.aload_n 0, 1) := by decide +kernel
theorem dX6_readCommand_129 : decode cX6_readCommand 129 = .ok (.aload_n 1, 1) := by decide +kernel
theorem dX6_readCommand_130 : decode cX6_readCommand 130 = .ok (.invokevirtual 169, 3) := by decide +kernel
theorem dX6_readCommand_133 : decode cX6_readCommand 133 = .ok (.ireturn, 1) := by decide +kernel
theorem dX6_readCommand_134 : decode cX6_readCommand 134 = .ok (.aload_n 0, 1) := by decide +kernel
theorem dX6_readCommand_135 : decode cX6_readCommand 135 = .ok (.aload_n 1, 1) := by decide +kernel
theorem dX6_readCommand_136 : decode cX6_readCommand 136 = .ok (.invokestatic 173, 3) := by decide +kernel
theorem dX6_readCommand_139 : decode cX6_readCommand 139 = .ok (.ifCond .eq 14, 3) := by decide +kernel
theorem dX6_readCommand_142 : decode cX6_readCommand 142 = .ok (.aload_n 1, 1) := by decide +kernel
theorem dX6_readCommand_143 : decode cX6_readCommand 143 = .ok (.invokestatic 176, 3) := by decide +kernel
theorem dX6_readCommand_146 : decode cX6_readCommand 146 = .ok (.ifCond .lt 7, 3) := by decide +kernel
theorem dX6_readCommand_149 : decode cX6_readCommand 149 = .ok (.iconst 1, 1) := by decide +kernel
theorem dX6_readCommand_150 : decode cX6_readCommand 150 = .ok (.goto 4, 3) := by decide +kernel
theorem dX6_readCommand_153 : decode cX6_readCommand 153 = .ok (.iconst 0, 1) := by decide +kernel
theorem dX6_readCommand_154 : decode cX6_readCommand 154 = .ok (.invokevirtual 161, 3) := by decide +kernel
theorem dX6_readCommand_157 : decode cX6_readCommand 157 = .ok (.ireturn, 1) := by decide +kernel
theorem dX6_readCommand_158 : decode cX6_readCommand 158 = .ok (.aload_n 0, 1) := by decide +kernel
theorem dX6_readCommand_159 : decode cX6_readCommand 159 = .ok (.aload_n 1, 1) := by decide +kernel
theorem dX6_readCommand_160 : decode cX6_readCommand 160 = .ok (.invokestatic 179, 3) := by decide +kernel
theorem dX6_readCommand_163 : decode cX6_readCommand 163 = .ok (.ifCond .eq 14, 3) := by decide +kernel
theorem dX6_readCommand_166 : decode cX6_readCommand 166 = .ok (.aload_n 1, 1) := by decide +kernel
theorem dX6_readCommand_167 : decode cX6_readCommand 167 = .ok (.invokestatic 182, 3) := by decide +kernel
theorem dX6_readCommand_170 : decode cX6_readCommand 170 = .ok (.ifCond .le 7, 3) := by decide +kernel
theorem dX6_readCommand_173 : decode cX6_readCommand 173 = .ok (.iconst 1, 1) := by decide +kernel
theorem dX6_readCommand_174 : decode cX6_readCommand 174 = .ok (.goto 4, 3) := by decide +kernel
theorem dX6_readCommand_177 : decode cX6_readCommand 177 = .ok (.iconst 0, 1) := by decide +kernel
theorem dX6_readCommand_178 : decode cX6_readCommand 178 = .ok (.invokevirtual 161, 3) := by decide +kernel
theorem dX6_readCommand_181 : decode cX6_readCommand 181 = .ok (.ireturn, 1) := by decide +kernel
theorem dX6_readCommand_182 : decode cX6_readCommand 182 = .ok (.aload_n 1, 1) := by decide +kernel
theorem dX6_readCommand_183 : decode cX6_readCommand 183 = .ok (.invokestatic 185, 3) := by decide +kernel
theorem dX6_readCommand_186 : decode cX6_readCommand 186 = .ok (.pop, 1) := by decide +kernel
theorem dX6_readCommand_187 : decode cX6_readCommand 187 = .ok (.iconst 1, 1) := by decide +kernel
theorem dX6_readCommand_188 : decode cX6_readCommand 188 = .ok (.ireturn, 1) := by decide +kernel
theorem dX6_readCommand_189 : decode cX6_readCommand 189 = .ok (.aload_n 0, 1) := by decide +kernel
theorem dX6_readCommand_190 : decode cX6_readCommand 190 = .ok (.dup, 1) := by decide +kernel
theorem dX6_readCommand_191 : decode cX6_readCommand 191 = .ok (.getfield 145, 3) := by decide +kernel
theorem dX6_readCommand_194 : decode cX6_readCommand 194 = .ok (.iconst 1, 1) := by decide +kernel
theorem dX6_readCommand_195 : decode cX6_readCommand 195 = .ok (.isub, 1) := by decide +kernel
theorem dX6_readCommand_196 : decode cX6_readCommand 196 = .ok (.putfield 145, 3) := by decide +kernel
theorem dX6_readCommand_199 : decode cX6_readCommand 199 = .ok (.iconst 0, 1) := by decide +kernel
theorem dX6_readCommand_200 : decode cX6_readCommand 200 = .ok (.ireturn, 1) := by decide +kernel
theorem dX6_readText_0 : decode cX6_readText 0 = .ok (.aload_n 1, 1) := by decide +kernel
theorem dX6_readText_1 : decode cX6_readText 1 = .ok (.invokestatic 38, 3) := by decide +kernel
theorem dX6_readText_4 : decode cX6_readText 4 = .ok (.aload_n 0, 1) := by decide +kernel
theorem dX6_readText_5 : decode cX6_readText 5 = .ok (.iconst 0, 1) := by decide +kernel
theorem dX6_readText_6 : decode cX6_readText 6 = .ok (.putfield 150, 3) := by decide +kernel
theorem dX6_readText_9 : decode cX6_readText 9 = .ok (.aload_n 0, 1) := by decide +kernel
theorem dX6_readText_10 : decode cX6_readText 10 = .ok (.iconst 0, 1) := by decide +kernel
theorem dX6_readText_11 : decode cX6_readText 11 = .ok (.putfield 145, 3) := by decide +kernel
theorem dX6_readText_14 : decode cX6_readText 14 = .ok (.aload_n 0, 1) := by decide +kernel
theorem dX6_readText_15 : decode cX6_readText 15 = .ok (.getfield 138, 3) := by decide +kernel
theorem dX6_readText_18 : decode cX6_readText 18 = .ok (.ifCond .eq 14, 3) := by decide +kernel
theorem dX6_readText_21 : decode cX6_readText 21 = .ok (.aload_n 0, 1) := by decide +kernel
theorem dX6_readText_22 : decode cX6_readText 22 = .ok (.getfield 7, 3) := by decide +kernel
theorem dX6_readText_25 : decode cX6_readText 25 = .ok (.iconst 0, 1) := by decide +kernel
theorem dX6_readText_26 : decode cX6_readText 26 = .ok (.iaload, 1) := by decide +kernel
theorem dX6_readText_27 : decode cX6_readText 27 = .ok (.bipush 78, 2) := by decide +kernel
theorem dX6_readText_29 : decode cX6_readText 29 = .ok (.if_icmp .eq 5, 3) := by decide +kernel
theorem dX6_readText_32 : decode cX6_readText 32 = .ok (.iconst 0, 1) := by decide +kernel
theorem dX6_readText_33 : decode cX6_readText 33 = .ok (.ireturn, 1) := by decide +kernel
theorem dX6_readText_34 : decode cX6_readText 34 = .ok (.aload_n 0, 1) := by decide +kernel
theorem dX6_readText_35 : decode cX6_readText 35 = .ok (.iconst 1, 1) := by decide +kernel
theorem dX6_readText_36 : decode cX6_readText 36 = .ok (.putfield 145, 3) := by decide +kernel
theorem dX6_readText_39 : decode cX6_readText 39 = .ok (.aload_n 0, 1) := by decide +kernel
theorem dX6_readText_40 : decode cX6_readText 40 = .ok (.getfield 145, 3) := by decide +kernel
theorem dX6_readText_43 : decode cX6_readText 43 = .ok (.aload_n 0, 1) := by decide +kernel
theorem dX6_readText_44 : decode cX6_readText 44 = .ok (.getfield 138, 3) := by decide +kernel
theorem dX6_readText_47 : decode cX6_readText 47 = .ok (.if_icmp .ge 16, 3) := by decide +kernel
theorem dX6_readText_50 : decode cX6_readText 50 = .ok (.aload_n 0, 1) := by decide +kernel
theorem dX6_readText_51 : decode cX6_readText 51 = .ok (.aload_n 1, 1) := by decide +kernel
theorem dX6_readText_52 : decode cX6_readText 52 = .ok (.invokevirtual 188, 3) := by decide +kernel
theorem dX6_readText_55 : decode cX6_readText 55 = .ok (.ifCond .ne (-16), 3) := by decide +kernel
theorem dX6_readText_58 : decode cX6_readText 58 = .ok (.aload_n 0, 1) := by decide +kernel
theorem dX6_readText_59 : decode cX6_readText 59 = .ok (.getfield 145, 3) := by decide +kernel
theorem dX6_readText_62 : decode cX6_readText 62 = .ok (.ireturn, 1) := by decide +kernel
theorem dX6_readText_63 : decode cX6_readText 63 = .ok (.iconst (-1), 1) := by decide +kernel
theorem dX6_readText_64 : decode cX6_readText 64 = .ok (.ireturn, 1) := by decide +kernel
theorem dX6_errorPosition_0 : decode cX6_errorPosition 0 = .ok (.aload_n 0, 1) := by decide +kernel
theorem dX6_errorPosition_1 : decode cX6_errorPosition 1 = .ok (.iconst 0, 1) := by decide +kernel
theorem dX6_errorPosition_2 : decode cX6_errorPosition 2 = .ok (.putfield 42, 3) := by decide +kernel
theorem dX6_errorPosition_5 : decode cX6_errorPosition 5 = .ok (.aload_n 0, 1) := by decide +kernel
theorem dX6_errorPosition_6 : decode cX6_errorPosition 6 = .ok (.aload_n 0, 1) := by decide +kernel
theorem dX6_errorPosition_7 : decode cX6_errorPosition 7 = .ok (.getfield 16, 3) := by decide +kernel
theorem dX6_errorPosition_10 : decode cX6_errorPosition 10 = .ok (.invokevirtual 191, 3) := by decide +kernel
theorem dX6_errorPosition_13 : decode cX6_errorPosition 13 = .ok (.ireturn, 1) := by decide +kernel
theorem dX6_load_0 : decode cX6_load 0 = .ok (.aload_n 0, 1) := by decide +kernel
theorem dX6_load_1 : decode cX6_load 1 = .ok (.aload_n 0, 1) := by decide +kernel
theorem dX6_load_2 : decode cX6_load 2 = .ok (.aload_n 0, 1) := by decide +kernel
theorem dX6_load_3 : decode cX6_load 3 = .ok (.getfield 16, 3) := by decide +kernel
theorem dX6_load_6 : decode cX6_load 6 = .ok (.invokevirtual 191, 3) := by decide +kernel
theorem dX6_load_9 : decode cX6_load 9 = .ok (.iconst (-1), 1) := by decide +kernel
theorem dX6_load_10 : decode cX6_load 10 = .ok (.if_icmp .ne 7, 3) := by decide +kernel
theorem dX6_load_13 : decode cX6_load 13 = .ok (.iconst 0, 1) := by decide +kernel
theorem dX6_load_14 : decode cX6_load 14 = .ok (.goto 4, 3) := by decide +kernel
theorem dX6_load_17 : decode cX6_load 17 = .ok (.iconst 1, 1) := by decide +kernel
theorem dX6_load_18 : decode cX6_load 18 = .ok (.invokevirtual 141, 3) := by decide +kernel
theorem dX6_load_21 : decode cX6_load 21 = .ok (.ifCond .eq 5, 3) := by decide +kernel
theorem dX6_load_24 : decode cX6_load 24 = .ok (.iconst 0, 1) := by decide +kernel
theorem dX6_load_25 : decode cX6_load 25 = .ok (.ireturn, 1) := by decide +kernel
theorem dX6_load_26 : decode cX6_load 26 = .ok (.aload_n 0, 1) := by decide +kernel
theorem dX6_load_27 : decode cX6_load 27 = .ok (.getfield 16, 3) := by decide +kernel
theorem dX6_load_30 : decode cX6_load 30 = .ok (.iconst 0, 1) := by decide +kernel
theorem dX6_load_31 : decode cX6_load 31 = .ok (.aload_n 0, 1) := by decide +kernel
theorem dX6_load_32 : decode cX6_load 32 = .ok (.getfield 13, 3) := by decide +kernel
theorem dX6_load_35 : decode cX6_load 35 = .ok (.iconst 0, 1) := by decide +kernel
theorem dX6_load_36 : decode cX6_load 36 = .ok (.invokestatic 194, 3) := by decide +kernel
theorem dX6_load_39 : decode cX6_load 39 = .ok (.aload_n 0, 1) := by decide +kernel
theorem dX6_load_40 : decode cX6_load 40 = .ok (.iconst 0, 1) := by decide +kernel
theorem dX6_load_41 : decode cX6_load 41 = .ok (.putfield 198, 3) := by decide +kernel
theorem dX6_load_44 : decode cX6_load 44 = .ok (.aload_n 0, 1) := by decide +kernel
theorem dX6_load_45 : decode cX6_load 45 = .ok (.getfield 25, 3) := by decide +kernel
theorem dX6_load_48 : decode cX6_load 48 = .ok (.iconst 0, 1) := by decide +kernel
theorem dX6_load_49 : decode cX6_load 49 = .ok (.iconst 0, 1) := by decide +kernel
theorem dX6_load_50 : decode cX6_load 50 = .ok (.bastore, 1) := by decide +kernel
theorem dX6_load_51 : decode cX6_load 51 = .ok (.aload_n 0, 1) := by decide +kernel
theorem dX6_load_52 : decode cX6_load 52 = .ok (.getfield 25, 3) := by decide +kernel
theorem dX6_load_55 : decode cX6_load 55 = .ok (.iconst 1, 1) := by decide +kernel
theorem dX6_load_56 : decode cX6_load 56 = .ok (.iconst 0, 1) := by decide +kernel
theorem dX6_load_57 : decode cX6_load 57 = .ok (.bastore, 1) := by decide +kernel
theorem dX6_load_58 : decode cX6_load 58 = .ok (.aload_n 0, 1) := by decide +kernel
theorem dX6_load_59 : decode cX6_load 59 = .ok (.getfield 150, 3) := by decide +kernel
theorem dX6_load_62 : decode cX6_load 62 = .ok (.ireturn, 1) := by decide +kernel
theorem dX6_tablePips_0 : decode cX6_tablePips 0 = .ok (.iconst 0, 1) := by decide +kernel
theorem dX6_tablePips_1 : decode cX6_tablePips 1 = .ok (.istore_n 1, 1) := by decide +kernel
theorem dX6_tablePips_2 : decode cX6_tablePips 2 = .ok (.iconst 0, 1) := by decide +kernel
theorem dX6_tablePips_3 : decode cX6_tablePips 3 = .ok (.istore_n 2, 1) := by decide +kernel
theorem dX6_tablePips_4 : decode cX6_tablePips 4 = .ok (.iload_n 2, 1) := by decide +kernel
theorem dX6_tablePips_5 : decode cX6_tablePips 5 = .ok (.aload_n 0, 1) := by decide +kernel
theorem dX6_tablePips_6 : decode cX6_tablePips 6 = .ok (.iconst 5, 1) := by decide +kernel
theorem dX6_tablePips_7 : decode cX6_tablePips 7 = .ok (.iaload, 1) := by decide +kernel
theorem dX6_tablePips_8 : decode cX6_tablePips 8 = .ok (.if_icmp .ge 21, 3) := by decide +kernel
theorem dX6_tablePips_11 : decode cX6_tablePips 11 = .ok (.iload_n 1, 1) := by decide +kernel
theorem dX6_tablePips_12 : decode cX6_tablePips 12 = .ok (.aload_n 0, 1) := by decide +kernel
theorem dX6_tablePips_13 : decode cX6_tablePips 13 = .ok (.iload_n 2, 1) := by decide +kernel
theorem dX6_tablePips_14 : decode cX6_tablePips 14 = .ok (.iconst 0, 1) := by decide +kernel
theorem dX6_tablePips_15 : decode cX6_tablePips 15 = .ok (.invokestatic 62, 3) := by decide +kernel
theorem dX6_tablePips_18 : decode cX6_tablePips 18 = .ok (.invokestatic 59, 3) := by decide +kernel
theorem dX6_tablePips_21 : decode cX6_tablePips 21 = .ok (.iadd, 1) := by decide +kernel
theorem dX6_tablePips_22 : decode cX6_tablePips 22 = .ok (.istore_n 1, 1) := by decide +kernel
theorem dX6_tablePips_23 : decode cX6_tablePips 23 = .ok (.iinc 2 1, 3) := by decide +kernel
theorem dX6_tablePips_26 : decode cX6_tablePips 26 = .ok (.goto (-22), 3) := by decide +kernel
theorem dX6_tablePips_29 : decode cX6_tablePips 29 = .ok (.iload_n 1, 1) := by decide +kernel
theorem dX6_tablePips_30 : decode cX6_tablePips 30 = .ok (.ireturn, 1) := by decide +kernel
theorem dX6_about_0 : decode cX6_about 0 = .ok (.aload_n 0, 1) := by decide +kernel
theorem dX6_about_1 : decode cX6_about 1 = .ok (.iload_n 1, 1) := by decide +kernel
theorem dX6_about_2 : decode cX6_about 2 = .ok (.i2l, 1) := by decide +kernel
theorem dX6_about_3 : decode cX6_about 3 = .ok (.lconst 0, 1) := by decide +kernel
theorem dX6_about_4 : decode cX6_about 4 = .ok (.ldc2_w 201, 3) := by decide +kernel
theorem dX6_about_7 : decode cX6_about 7 = .ok (.invokestatic 55, 3) := by decide +kernel
theorem dX6_about_10 : decode cX6_about 10 = .ok (.ifCond .eq 7, 3) := by decide +kernel
theorem dX6_about_13 : decode cX6_about 13 = .ok (.iconst 0, 1) := by decide +kernel
theorem dX6_about_14 : decode cX6_about 14 = .ok (.goto 4, 3) := by decide +kernel
theorem dX6_about_17 : decode cX6_about 17 = .ok (.iconst 1, 1) := by decide +kernel
theorem dX6_about_18 : decode cX6_about 18 = .ok (.invokevirtual 141, 3) := by decide +kernel
theorem dX6_about_21 : decode cX6_about 21 = .ok (.ifCond .eq 5, 3) := by decide +kernel
theorem dX6_about_24 : decode cX6_about 24 = .ok (.iconst 0, 1) := by decide +kernel
theorem dX6_about_25 : decode cX6_about 25 = .ok (.ireturn, 1) := by decide +kernel
theorem dX6_about_26 : decode cX6_about 26 = .ok (.iload_n 1, 1) := by decide +kernel
theorem dX6_about_27 : decode cX6_about 27 = .ok (.tableswitch 87 3 11 #[49, 87, 87, 87, 87, 87, 70, 78, 78], 49) := by decide +kernel
theorem dX6_about_76 : decode cX6_about 76 = .ok (.aload_n 0, 1) := by decide +kernel
theorem dX6_about_77 : decode cX6_about 77 = .ok (.getfield 13, 3) := by decide +kernel
theorem dX6_about_80 : decode cX6_about 80 = .ok (.iconst 1, 1) := by decide +kernel
theorem dX6_about_81 : decode cX6_about 81 = .ok (.iaload, 1) := by decide +kernel
theorem dX6_about_82 : decode cX6_about 82 = .ok (.iconst 1, 1) := by decide +kernel
theorem dX6_about_83 : decode cX6_about 83 = .ok (.if_icmp .ne 12, 3) := by decide +kernel
theorem dX6_about_86 : decode cX6_about 86 = .ok (.aload_n 0, 1) := by decide +kernel
theorem dX6_about_87 : decode cX6_about 87 = .ok (.getfield 13, 3) := by decide +kernel
theorem dX6_about_90 : decode cX6_about 90 = .ok (.iconst 3, 1) := by decide +kernel
theorem dX6_about_91 : decode cX6_about 91 = .ok (.iaload, 1) := by decide +kernel
theorem dX6_about_92 : decode cX6_about 92 = .ok (.goto 4, 3) := by decide +kernel
theorem dX6_about_95 : decode cX6_about 95 = .ok (.iconst (-1), 1) := by decide +kernel
theorem dX6_about_96 : decode cX6_about 96 = .ok (.ireturn, 1) := by decide +kernel
theorem dX6_about_97 : decode cX6_about 97 = .ok (.aload_n 0, 1) := by decide +kernel
theorem dX6_about_98 : decode cX6_about 98 = .ok (.getfield 13, 3) := by decide +kernel
theorem dX6_about_101 : decode cX6_about 101 = .ok (.invokestatic 203, 3) := by decide +kernel
theorem dX6_about_104 : decode cX6_about 104 = .ok (.ireturn, 1) := by decide +kernel
theorem dX6_about_105 : decode cX6_about 105 = .ok (.aload_n 0, 1) := by decide +kernel
theorem dX6_about_106 : decode cX6_about 106 = .ok (.getfield 13, 3) := by decide +kernel
theorem dX6_about_109 : decode cX6_about 109 = .ok (.iload_n 1, 1) := by decide +kernel
theorem dX6_about_110 : decode cX6_about 110 = .ok (.iconst 1, 1) := by decide +kernel
theorem dX6_about_111 : decode cX6_about 111 = .ok (.isub, 1) := by decide +kernel
theorem dX6_about_112 : decode cX6_about 112 = .ok (.iaload, 1) := by decide +kernel
theorem dX6_about_113 : decode cX6_about 113 = .ok (.ireturn, 1) := by decide +kernel
theorem dX6_about_114 : decode cX6_about 114 = .ok (.aload_n 0, 1) := by decide +kernel
theorem dX6_about_115 : decode cX6_about 115 = .ok (.getfield 13, 3) := by decide +kernel
theorem dX6_about_118 : decode cX6_about 118 = .ok (.iload_n 1, 1) := by decide +kernel
theorem dX6_about_119 : decode cX6_about 119 = .ok (.iaload, 1) := by decide +kernel
theorem dX6_about_120 : decode cX6_about 120 = .ok (.ireturn, 1) := by decide +kernel
theorem dX6_placeOf_0 : decode cX6_placeOf 0 = .ok (.iconst 0, 1) := by decide +kernel
theorem dX6_placeOf_1 : decode cX6_placeOf 1 = .ok (.istore_n 2, 1) := by decide +kernel
theorem dX6_placeOf_2 : decode cX6_placeOf 2 = .ok (.iload_n 2, 1) := by decide +kernel
theorem dX6_placeOf_3 : decode cX6_placeOf 3 = .ok (.aload_n 0, 1) := by decide +kernel
theorem dX6_placeOf_4 : decode cX6_placeOf 4 = .ok (.iconst 5, 1) := by decide +kernel
theorem dX6_placeOf_5 : decode cX6_placeOf 5 = .ok (.iaload, 1) := by decide +kernel
theorem dX6_placeOf_6 : decode cX6_placeOf 6 = .ok (.if_icmp .ge 21, 3) := by decide +kernel
theorem dX6_placeOf_9 : decode cX6_placeOf 9 = .ok (.aload_n 0, 1) := by decide +kernel
theorem dX6_placeOf_10 : decode cX6_placeOf 10 = .ok (.iload_n 2, 1) := by decide +kernel
theorem dX6_placeOf_11 : decode cX6_placeOf 11 = .ok (.iconst 0, 1) := by decide +kernel
theorem dX6_placeOf_12 : decode cX6_placeOf 12 = .ok (.invokestatic 62, 3) := by decide +kernel
theorem dX6_placeOf_15 : decode cX6_placeOf 15 = .ok (.iload_n 1, 1) := by decide +kernel
theorem dX6_placeOf_16 : decode cX6_placeOf 16 = .ok (.if_icmp .ne 5, 3) := by decide +kernel
theorem dX6_placeOf_19 : decode cX6_placeOf 19 = .ok (.iload_n 2, 1) := by decide +kernel
theorem dX6_placeOf_20 : decode cX6_placeOf 20 = .ok (.ireturn, 1) := by decide +kernel
theorem dX6_placeOf_21 : decode cX6_placeOf 21 = .ok (.iinc 2 1, 3) := by decide +kernel
theorem dX6_placeOf_24 : decode cX6_placeOf 24 = .ok (.goto (-22), 3) := by decide +kernel
theorem dX6_placeOf_27 : decode cX6_placeOf 27 = .ok (.iconst (-1), 1) := by decide +kernel
theorem dX6_placeOf_28 : decode cX6_placeOf 28 = .ok (.ireturn, 1) := by decide +kernel
theorem dX6_inHeap_0 : decode cX6_inHeap 0 = .ok (.iconst 0, 1) := by decide +kernel
theorem dX6_inHeap_1 : decode cX6_inHeap 1 = .ok (.istore_n 2, 1) := by decide +kernel
theorem dX6_inHeap_2 : decode cX6_inHeap 2 = .ok (.iload_n 2, 1) := by decide +kernel
theorem dX6_inHeap_3 : decode cX6_inHeap 3 = .ok (.aload_n 0, 1) := by decide +kernel
theorem dX6_inHeap_4 : decode cX6_inHeap 4 = .ok (.iconst 4, 1) := by decide +kernel
theorem dX6_inHeap_5 : decode cX6_inHeap 5 = .ok (.iaload, 1) := by decide +kernel
theorem dX6_inHeap_6 : decode cX6_inHeap 6 = .ok (.if_icmp .ge 21, 3) := by decide +kernel
theorem dX6_inHeap_9 : decode cX6_inHeap 9 = .ok (.aload_n 0, 1) := by decide +kernel
theorem dX6_inHeap_10 : decode cX6_inHeap 10 = .ok (.bipush 49, 2) := by decide +kernel
theorem dX6_inHeap_12 : decode cX6_inHeap 12 = .ok (.iload_n 2, 1) := by decide +kernel
theorem dX6_inHeap_13 : decode cX6_inHeap 13 = .ok (.iadd, 1) := by decide +kernel
theorem dX6_inHeap_14 : decode cX6_inHeap 14 = .ok (.iaload, 1) := by decide +kernel
theorem dX6_inHeap_15 : decode cX6_inHeap 15 = .ok (.iload_n 1, 1) := by decide +kernel
theorem dX6_inHeap_16 : decode cX6_inHeap 16 = .ok (.if_icmp .ne 5, 3) := by decide +kernel
theorem dX6_inHeap_19 : decode cX6_inHeap 19 = .ok (.iload_n 2, 1) := by decide +kernel
theorem dX6_inHeap_20 : decode cX6_inHeap 20 = .ok (.ireturn, 1) := by decide +kernel
theorem dX6_inHeap_21 : decode cX6_inHeap 21 = .ok (.iinc 2 1, 3) := by decide +kernel
theorem dX6_inHeap_24 : decode cX6_inHeap 24 = .ok (.goto (-22), 3) := by decide +kernel
theorem dX6_inHeap_27 : decode cX6_inHeap 27 = .ok (.iconst (-1), 1) := by decide +kernel
theorem dX6_inHeap_28 : decode cX6_inHeap 28 = .ok (.ireturn, 1) := by decide +kernel
theorem dX6_tileOf_0 : decode cX6_tileOf 0 = .ok (.aload_n 0, 1) := by decide +kernel
theorem dX6_tileOf_1 : decode cX6_tileOf 1 = .ok (.iload_n 1, 1) := by decide +kernel
theorem dX6_tileOf_2 : decode cX6_tileOf 2 = .ok (.invokestatic 206, 3) := by decide +kernel
theorem dX6_tileOf_5 : decode cX6_tileOf 5 = .ok (.ifCond .ne 7, 3) := by decide +kernel
theorem dX6_tileOf_8 : decode cX6_tileOf 8 = .ok (.iconst 1, 1) := by decide +kernel
theorem dX6_tileOf_9 : decode cX6_tileOf 9 = .ok (.goto 20, 3) := by decide +kernel
theorem dX6_tileOf_12 : decode cX6_tileOf 12 = .ok (.iload_n 2, 1) := by decide +kernel
theorem dX6_tileOf_13 : decode cX6_tileOf 13 = .ok (.i2l, 1) := by decide +kernel
theorem dX6_tileOf_14 : decode cX6_tileOf 14 = .ok (.lconst 0, 1) := by decide +kernel
theorem dX6_tileOf_15 : decode cX6_tileOf 15 = .ok (.ldc2_w 209, 3) := by decide +kernel
theorem dX6_tileOf_18 : decode cX6_tileOf 18 = .ok (.invokestatic 55, 3) := by decide +kernel
theorem dX6_tileOf_21 : decode cX6_tileOf 21 = .ok (.ifCond .eq 7, 3) := by decide +kernel
theorem dX6_tileOf_24 : decode cX6_tileOf 24 = .ok (.iconst 0, 1) := by decide +kernel
theorem dX6_tileOf_25 : decode cX6_tileOf 25 = .ok (.goto 4, 3) := by decide +kernel
theorem dX6_tileOf_28 : decode cX6_tileOf 28 = .ok (.iconst 2, 1) := by decide +kernel
theorem dX6_tileOf_29 : decode cX6_tileOf 29 = .ok (.invokevirtual 141, 3) := by decide +kernel
theorem dX6_tileOf_32 : decode cX6_tileOf 32 = .ok (.ifCond .eq 5, 3) := by decide +kernel
theorem dX6_tileOf_35 : decode cX6_tileOf 35 = .ok (.iconst 0, 1) := by decide +kernel
theorem dX6_tileOf_36 : decode cX6_tileOf 36 = .ok (.ireturn, 1) := by decide +kernel
theorem dX6_tileOf_37 : decode cX6_tileOf 37 = .ok (.iload_n 2, 1) := by decide +kernel
theorem dX6_tileOf_38 : decode cX6_tileOf 38 = .ok (.ifCond .ne 10, 3) := by decide +kernel
theorem dX6_tileOf_41 : decode cX6_tileOf 41 = .ok (.iload_n 1, 1) := by decide +kernel
theorem dX6_tileOf_42 : decode cX6_tileOf 42 = .ok (.invokestatic 46, 3) := by decide +kernel
theorem dX6_tileOf_45 : decode cX6_tileOf 45 = .ok (.goto 56, 3) := by decide +kernel
theorem dX6_tileOf_48 : decode cX6_tileOf 48 = .ok (.iload_n 2, 1) := by decide +kernel
theorem dX6_tileOf_49 : decode cX6_tileOf 49 = .ok (.iconst 1, 1) := by decide +kernel
theorem dX6_tileOf_50 : decode cX6_tileOf 50 = .ok (.if_icmp .ne 10, 3) := by decide +kernel
theorem dX6_tileOf_53 : decode cX6_tileOf 53 = .ok (.iload_n 1, 1) := by decide +kernel
theorem dX6_tileOf_54 : decode cX6_tileOf 54 = .ok (.invokestatic 50, 3) := by decide +kernel
theorem dX6_tileOf_57 : decode cX6_tileOf 57 = .ok (.goto 44, 3) := by decide +kernel
theorem dX6_tileOf_60 : decode cX6_tileOf 60 = .ok (.iload_n 2, 1) := by decide +kernel
theorem dX6_tileOf_61 : decode cX6_tileOf 61 = .ok (.iconst 2, 1) := by decide +kernel
theorem dX6_tileOf_62 : decode cX6_tileOf 62 = .ok (.if_icmp .ne 15, 3) := by decide +kernel
theorem dX6_tileOf_65 : decode cX6_tileOf 65 = .ok (.aload_n 0, 1) := by decide +kernel
theorem dX6_tileOf_66 : decode cX6_tileOf 66 = .ok (.getfield 13, 3) := by decide +kernel
theorem dX6_tileOf_69 : decode cX6_tileOf 69 = .ok (.bipush 21, 2) := by decide +kernel
theorem dX6_tileOf_71 : decode cX6_tileOf 71 = .ok (.iload_n 1, 1) := by decide +kernel
theorem dX6_tileOf_72 : decode cX6_tileOf 72 = .ok (.iadd, 1) := by decide +kernel
theorem dX6_tileOf_73 : decode cX6_tileOf 73 = .ok (.iaload, 1) := by decide +kernel
theorem dX6_tileOf_74 : decode cX6_tileOf 74 = .ok (.goto 27, 3) := by decide +kernel
theorem dX6_tileOf_77 : decode cX6_tileOf 77 = .ok (.iload_n 2, 1) := by decide +kernel
theorem dX6_tileOf_78 : decode cX6_tileOf 78 = .ok (.iconst 3, 1) := by decide +kernel
theorem dX6_tileOf_79 : decode cX6_tileOf 79 = .ok (.if_icmp .ne 14, 3) := by decide +kernel
theorem dX6_tileOf_82 : decode cX6_tileOf 82 = .ok (.aload_n 0, 1) := by decide +kernel
theorem dX6_tileOf_83 : decode cX6_tileOf 83 = .ok (.getfield 13, 3) := by decide +kernel
theorem dX6_tileOf_86 : decode cX6_tileOf 86 = .ok (.iload_n 1, 1) := by decide +kernel
theorem dX6_tileOf_87 : decode cX6_tileOf 87 = .ok (.invokestatic 211, 3) := by decide +kernel
theorem dX6_tileOf_90 : decode cX6_tileOf 90 = .ok (.goto 11, 3) := by decide +kernel
theorem dX6_tileOf_93 : decode cX6_tileOf 93 = .ok (.aload_n 0, 1) := by decide +kernel
theorem dX6_tileOf_94 : decode cX6_tileOf 94 = .ok (.getfield 13, 3) := by decide +kernel
theorem dX6_tileOf_97 : decode cX6_tileOf 97 = .ok (.iload_n 1, 1) := by decide +kernel
theorem dX6_tileOf_98 : decode cX6_tileOf 98 = .ok (.invokestatic 214, 3) := by decide +kernel
theorem dX6_tileOf_101 : decode cX6_tileOf 101 = .ok (.ireturn, 1) := by decide +kernel
theorem dX6_laid_0 : decode cX6_laid 0 = .ok (.aload_n 0, 1) := by decide +kernel
theorem dX6_laid_1 : decode cX6_laid 1 = .ok (.iload_n 1, 1) := by decide +kernel
theorem dX6_laid_2 : decode cX6_laid 2 = .ok (.i2l, 1) := by decide +kernel
theorem dX6_laid_3 : decode cX6_laid 3 = .ok (.lconst 0, 1) := by decide +kernel
theorem dX6_laid_4 : decode cX6_laid 4 = .ok (.aload_n 0, 1) := by decide +kernel
theorem dX6_laid_5 : decode cX6_laid 5 = .ok (.getfield 13, 3) := by decide +kernel
theorem dX6_laid_8 : decode cX6_laid 8 = .ok (.iconst 5, 1) := by decide +kernel
theorem dX6_laid_9 : decode cX6_laid 9 = .ok (.iaload, 1) := by decide +kernel
theorem dX6_laid_10 : decode cX6_laid 10 = .ok (.iconst 1, 1) := by decide +kernel
theorem dX6_laid_11 : decode cX6_laid 11 = .ok (.isub, 1) := by decide +kernel
theorem dX6_laid_12 : decode cX6_laid 12 = .ok (.i2l, 1) := by decide +kernel
theorem dX6_laid_13 : decode cX6_laid 13 = .ok (.invokestatic 55, 3) := by decide +kernel
theorem dX6_laid_16 : decode cX6_laid 16 = .ok (.ifCond .ne 7, 3) := by decide +kernel
theorem dX6_laid_19 : decode cX6_laid 19 = .ok (.iconst 1, 1) := by decide +kernel
theorem dX6_laid_20 : decode cX6_laid 20 = .ok (.goto 20, 3) := by decide +kernel
theorem dX6_laid_23 : decode cX6_laid 23 = .ok (.iload_n 2, 1) := by decide +kernel
theorem dX6_laid_24 : decode cX6_laid 24 = .ok (.i2l, 1) := by decide +kernel
theorem dX6_laid_25 : decode cX6_laid 25 = .ok (.lconst 0, 1) := by decide +kernel
theorem dX6_laid_26 : decode cX6_laid 26 = .ok (.ldc2_w 217, 3) := by decide +kernel
theorem dX6_laid_29 : decode cX6_laid 29 = .ok (.invokestatic 55, 3) := by decide +kernel
theorem dX6_laid_32 : decode cX6_laid 32 = .ok (.ifCond .eq 7, 3) := by decide +kernel
theorem dX6_laid_35 : decode cX6_laid 35 = .ok (.iconst 0, 1) := by decide +kernel
theorem dX6_laid_36 : decode cX6_laid 36 = .ok (.goto 4, 3) := by decide +kernel
theorem dX6_laid_39 : decode cX6_laid 39 = .ok (.iconst 2, 1) := by decide +kernel
theorem dX6_laid_40 : decode cX6_laid 40 = .ok (.invokevirtual 141, 3) := by decide +kernel
theorem dX6_laid_43 : decode cX6_laid 43 = .ok (.ifCond .eq 5, 3) := by decide +kernel
theorem dX6_laid_46 : decode cX6_laid 46 = .ok (.iconst 0, 1) := by decide +kernel
theorem dX6_laid_47 : decode cX6_laid 47 = .ok (.ireturn, 1) := by decide +kernel
theorem dX6_laid_48 : decode cX6_laid 48 = .ok (.iload_n 2, 1) := by decide +kernel
theorem dX6_laid_49 : decode cX6_laid 49 = .ok (.iconst 5, 1) := by decide +kernel
theorem dX6_laid_50 : decode cX6_laid 50 = .ok (.if_icmp .ge 15, 3) := by decide +kernel
theorem dX6_laid_53 : decode cX6_laid 53 = .ok (.aload_n 0, 1) := by decide +kernel
theorem dX6_laid_54 : decode cX6_laid 54 = .ok (.getfield 13, 3) := by decide +kernel
theorem dX6_laid_57 : decode cX6_laid 57 = .ok (.iload_n 1, 1) := by decide +kernel
theorem dX6_laid_58 : decode cX6_laid 58 = .ok (.iload_n 2, 1) := by decide +kernel
theorem dX6_laid_59 : decode cX6_laid 59 = .ok (.invokestatic 62, 3) := by decide +kernel
theorem dX6_laid_62 : decode cX6_laid 62 = .ok (.goto 11, 3) := by decide +kernel
theorem dX6_laid_65 : decode cX6_laid 65 = .ok (.aload_n 0, 1) := by decide +kernel
theorem dX6_laid_66 : decode cX6_laid 66 = .ok (.getfield 13, 3) := by decide +kernel
theorem dX6_laid_69 : decode cX6_laid 69 = .ok (.iload_n 1, 1) := by decide +kernel
theorem dX6_laid_70 : decode cX6_laid 70 = .ok (.invokestatic 78, 3) := by decide +kernel
theorem dX6_laid_73 : decode cX6_laid 73 = .ok (.ireturn, 1) := by decide +kernel
theorem dX6_playerOf_0 : decode cX6_playerOf 0 = .ok (.aload_n 0, 1) := by decide +kernel
theorem dX6_playerOf_1 : decode cX6_playerOf 1 = .ok (.iload_n 1, 1) := by decide +kernel
theorem dX6_playerOf_2 : decode cX6_playerOf 2 = .ok (.i2l, 1) := by decide +kernel
theorem dX6_playerOf_3 : decode cX6_playerOf 3 = .ok (.lconst 0, 1) := by decide +kernel
theorem dX6_playerOf_4 : decode cX6_playerOf 4 = .ok (.ldc2_w 219, 3) := by decide +kernel
theorem dX6_playerOf_7 : decode cX6_playerOf 7 = .ok (.invokestatic 55, 3) := by decide +kernel
theorem dX6_playerOf_10 : decode cX6_playerOf 10 = .ok (.ifCond .ne 7, 3) := by decide +kernel
theorem dX6_playerOf_13 : decode cX6_playerOf 13 = .ok (.iconst 1, 1) := by decide +kernel
theorem dX6_playerOf_14 : decode cX6_playerOf 14 = .ok (.goto 20, 3) := by decide +kernel
theorem dX6_playerOf_17 : decode cX6_playerOf 17 = .ok (.iload_n 2, 1) := by decide +kernel
theorem dX6_playerOf_18 : decode cX6_playerOf 18 = .ok (.i2l, 1) := by decide +kernel
theorem dX6_playerOf_19 : decode cX6_playerOf 19 = .ok (.lconst 0, 1) := by decide +kernel
theorem dX6_playerOf_20 : decode cX6_playerOf 20 = .ok (.ldc2_w 219, 3) := by decide +kernel
theorem dX6_playerOf_23 : decode cX6_playerOf 23 = .ok (.invokestatic 55, 3) := by decide +kernel
theorem dX6_playerOf_26 : decode cX6_playerOf 26 = .ok (.ifCond .eq 7, 3) := by decide +kernel
theorem dX6_playerOf_29 : decode cX6_playerOf 29 = .ok (.iconst 0, 1) := by decide +kernel
theorem dX6_playerOf_30 : decode cX6_playerOf 30 = .ok (.goto 4, 3) := by decide +kernel
theorem dX6_playerOf_33 : decode cX6_playerOf 33 = .ok (.iconst 2, 1) := by decide +kernel
theorem dX6_playerOf_34 : decode cX6_playerOf 34 = .ok (.invokevirtual 141, 3) := by decide +kernel
theorem dX6_playerOf_37 : decode cX6_playerOf 37 = .ok (.ifCond .eq 5, 3) := by decide +kernel
theorem dX6_playerOf_40 : decode cX6_playerOf 40 = .ok (.iconst 0, 1) := by decide +kernel
theorem dX6_playerOf_41 : decode cX6_playerOf 41 = .ok (.ireturn, 1) := by decide +kernel
theorem dX6_playerOf_42 : decode cX6_playerOf 42 = .ok (.iload_n 2, 1) := by decide +kernel
theorem dX6_playerOf_43 : decode cX6_playerOf 43 = .ok (.ifCond .ne 14, 3) := by decide +kernel
theorem dX6_playerOf_46 : decode cX6_playerOf 46 = .ok (.aload_n 0, 1) := by decide +kernel
theorem dX6_playerOf_47 : decode cX6_playerOf 47 = .ok (.getfield 13, 3) := by decide +kernel
theorem dX6_playerOf_50 : decode cX6_playerOf 50 = .ok (.iload_n 1, 1) := by decide +kernel
theorem dX6_playerOf_51 : decode cX6_playerOf 51 = .ok (.invokestatic 119, 3) := by decide +kernel
theorem dX6_playerOf_54 : decode cX6_playerOf 54 = .ok (.goto 45, 3) := by decide +kernel
theorem dX6_playerOf_57 : decode cX6_playerOf 57 = .ok (.iload_n 2, 1) := by decide +kernel
theorem dX6_playerOf_58 : decode cX6_playerOf 58 = .ok (.iconst 1, 1) := by decide +kernel
theorem dX6_playerOf_59 : decode cX6_playerOf 59 = .ok (.if_icmp .ne 14, 3) := by decide +kernel
theorem dX6_playerOf_62 : decode cX6_playerOf 62 = .ok (.aload_n 0, 1) := by decide +kernel
theorem dX6_playerOf_63 : decode cX6_playerOf 63 = .ok (.getfield 13, 3) := by decide +kernel
theorem dX6_playerOf_66 : decode cX6_playerOf 66 = .ok (.iload_n 1, 1) := by decide +kernel
theorem dX6_playerOf_67 : decode cX6_playerOf 67 = .ok (.invokestatic 109, 3) := by decide +kernel
theorem dX6_playerOf_70 : decode cX6_playerOf 70 = .ok (.goto 29, 3) := by decide +kernel
theorem dX6_playerOf_73 : decode cX6_playerOf 73 = .ok (.iload_n 2, 1) := by decide +kernel
theorem dX6_playerOf_74 : decode cX6_playerOf 74 = .ok (.iconst 2, 1) := by decide +kernel
theorem dX6_playerOf_75 : decode cX6_playerOf 75 = .ok (.if_icmp .ne 15, 3) := by decide +kernel
theorem dX6_playerOf_78 : decode cX6_playerOf 78 = .ok (.aload_n 0, 1) := by decide +kernel
theorem dX6_playerOf_79 : decode cX6_playerOf 79 = .ok (.getfield 13, 3) := by decide +kernel
theorem dX6_playerOf_82 : decode cX6_playerOf 82 = .ok (.bipush 13, 2) := by decide +kernel
theorem dX6_playerOf_84 : decode cX6_playerOf 84 = .ok (.iload_n 1, 1) := by decide +kernel
theorem dX6_playerOf_85 : decode cX6_playerOf 85 = .ok (.iadd, 1) := by decide +kernel
theorem dX6_playerOf_86 : decode cX6_playerOf 86 = .ok (.iaload, 1) := by decide +kernel
theorem dX6_playerOf_87 : decode cX6_playerOf 87 = .ok (.goto 12, 3) := by decide +kernel
theorem dX6_playerOf_90 : decode cX6_playerOf 90 = .ok (.aload_n 0, 1) := by decide +kernel
theorem dX6_playerOf_91 : decode cX6_playerOf 91 = .ok (.getfield 13, 3) := by decide +kernel
theorem dX6_playerOf_94 : decode cX6_playerOf 94 = .ok (.bipush 17, 2) := by decide +kernel
theorem dX6_playerOf_96 : decode cX6_playerOf 96 = .ok (.iload_n 1, 1) := by decide +kernel
theorem dX6_playerOf_97 : decode cX6_playerOf 97 = .ok (.iadd, 1) := by decide +kernel
theorem dX6_playerOf_98 : decode cX6_playerOf 98 = .ok (.iaload, 1) := by decide +kernel
theorem dX6_playerOf_99 : decode cX6_playerOf 99 = .ok (.ireturn, 1) := by decide +kernel
theorem dX6_at_0 : decode cX6_at 0 = .ok (.aload_n 0, 1) := by decide +kernel
theorem dX6_at_1 : decode cX6_at 1 = .ok (.iload_n 1, 1) := by decide +kernel
theorem dX6_at_2 : decode cX6_at 2 = .ok (.i2l, 1) := by decide +kernel
theorem dX6_at_3 : decode cX6_at 3 = .ok (.lconst 0, 1) := by decide +kernel
theorem dX6_at_4 : decode cX6_at 4 = .ok (.ldc2_w 82, 3) := by decide +kernel
theorem dX6_at_7 : decode cX6_at 7 = .ok (.invokestatic 55, 3) := by decide +kernel
theorem dX6_at_10 : decode cX6_at 10 = .ok (.ifCond .eq 19, 3) := by decide +kernel
theorem dX6_at_13 : decode cX6_at 13 = .ok (.iload_n 2, 1) := by decide +kernel
theorem dX6_at_14 : decode cX6_at 14 = .ok (.i2l, 1) := by decide +kernel
theorem dX6_at_15 : decode cX6_at 15 = .ok (.lconst 0, 1) := by decide +kernel
theorem dX6_at_16 : decode cX6_at 16 = .ok (.ldc2_w 82, 3) := by decide +kernel
theorem dX6_at_19 : decode cX6_at 19 = .ok (.invokestatic 55, 3) := by decide +kernel
theorem dX6_at_22 : decode cX6_at 22 = .ok (.ifCond .eq 7, 3) := by decide +kernel
theorem dX6_at_25 : decode cX6_at 25 = .ok (.iconst 0, 1) := by decide +kernel
theorem dX6_at_26 : decode cX6_at 26 = .ok (.goto 4, 3) := by decide +kernel
theorem dX6_at_29 : decode cX6_at 29 = .ok (.iconst 1, 1) := by decide +kernel
theorem dX6_at_30 : decode cX6_at 30 = .ok (.invokevirtual 141, 3) := by decide +kernel
theorem dX6_at_33 : decode cX6_at 33 = .ok (.ifCond .eq 5, 3) := by decide +kernel
theorem dX6_at_36 : decode cX6_at 36 = .ok (.iconst 0, 1) := by decide +kernel
theorem dX6_at_37 : decode cX6_at 37 = .ok (.ireturn, 1) := by decide +kernel
theorem dX6_at_38 : decode cX6_at 38 = .ok (.aload_n 0, 1) := by decide +kernel
theorem dX6_at_39 : decode cX6_at 39 = .ok (.getfield 13, 3) := by decide +kernel
theorem dX6_at_42 : decode cX6_at 42 = .ok (.iload_n 1, 1) := by decide +kernel
theorem dX6_at_43 : decode cX6_at 43 = .ok (.iload_n 2, 1) := by decide +kernel
theorem dX6_at_44 : decode cX6_at 44 = .ok (.invokestatic 84, 3) := by decide +kernel
theorem dX6_at_47 : decode cX6_at 47 = .ok (.ireturn, 1) := by decide +kernel
theorem dX6_free_0 : decode cX6_free 0 = .ok (.aload_n 0, 1) := by decide +kernel
theorem dX6_free_1 : decode cX6_free 1 = .ok (.iload_n 1, 1) := by decide +kernel
theorem dX6_free_2 : decode cX6_free 2 = .ok (.i2l, 1) := by decide +kernel
theorem dX6_free_3 : decode cX6_free 3 = .ok (.lconst 0, 1) := by decide +kernel
theorem dX6_free_4 : decode cX6_free 4 = .ok (.lconst 1, 1) := by decide +kernel
theorem dX6_free_5 : decode cX6_free 5 = .ok (.invokestatic 55, 3) := by decide +kernel
theorem dX6_free_8 : decode cX6_free 8 = .ok (.ifCond .eq 7, 3) := by decide +kernel
theorem dX6_free_11 : decode cX6_free 11 = .ok (.iconst 0, 1) := by decide +kernel
theorem dX6_free_12 : decode cX6_free 12 = .ok (.goto 4, 3) := by decide +kernel
theorem dX6_free_15 : decode cX6_free 15 = .ok (.iconst 1, 1) := by decide +kernel
theorem dX6_free_16 : decode cX6_free 16 = .ok (.invokevirtual 141, 3) := by decide +kernel
theorem dX6_free_19 : decode cX6_free 19 = .ok (.ifCond .eq 5, 3) := by decide +kernel
theorem dX6_free_22 : decode cX6_free 22 = .ok (.iconst 0, 1) := by decide +kernel
theorem dX6_free_23 : decode cX6_free 23 = .ok (.ireturn, 1) := by decide +kernel
theorem dX6_free_24 : decode cX6_free 24 = .ok (.sipush 625, 3) := by decide +kernel
theorem dX6_free_27 : decode cX6_free 27 = .ok (.iconst 2, 1) := by decide +kernel
theorem dX6_free_28 : decode cX6_free 28 = .ok (.aload_n 0, 1) := by decide +kernel
theorem dX6_free_29 : decode cX6_free 29 = .ok (.getfield 13, 3) := by decide +kernel
theorem dX6_free_32 : decode cX6_free 32 = .ok (.iconst 5, 1) := by decide +kernel
theorem dX6_free_33 : decode cX6_free 33 = .ok (.iaload, 1) := by decide +kernel
theorem dX6_free_34 : decode cX6_free 34 = .ok (.imul, 1) := by decide +kernel
theorem dX6_free_35 : decode cX6_free 35 = .ok (.isub, 1) := by decide +kernel
theorem dX6_free_36 : decode cX6_free 36 = .ok (.ireturn, 1) := by decide +kernel
theorem dX6_remember_0 : decode cX6_remember 0 = .ok (.aload_n 0, 1) := by decide +kernel
theorem dX6_remember_1 : decode cX6_remember 1 = .ok (.getfield 198, 3) := by decide +kernel
theorem dX6_remember_4 : decode cX6_remember 4 = .ok (.bipush 14, 2) := by decide +kernel
theorem dX6_remember_6 : decode cX6_remember 6 = .ok (.if_icmp .ne 44, 3) := by decide +kernel
theorem dX6_remember_9 : decode cX6_remember 9 = .ok (.iconst 0, 1) := by decide +kernel
theorem dX6_remember_10 : decode cX6_remember 10 = .ok (.istore_n 1, 1) := by decide +kernel
theorem dX6_remember_11 : decode cX6_remember 11 = .ok (.iload_n 1, 1) := by decide +kernel
theorem dX6_remember_12 : decode cX6_remember 12 = .ok (.sipush 2821, 3) := by decide +kernel
theorem dX6_remember_15 : decode cX6_remember 15 = .ok (.if_icmp .ge 25, 3) := by decide +kernel
theorem dX6_remember_18 : decode cX6_remember 18 = .ok (.aload_n 0, 1) := by decide +kernel
theorem dX6_remember_19 : decode cX6_remember 19 = .ok (.getfield 19, 3) := by decide +kernel
theorem dX6_remember_22 : decode cX6_remember 22 = .ok (.iload_n 1, 1) := by decide +kernel
theorem dX6_remember_23 : decode cX6_remember 23 = .ok (.aload_n 0, 1) := by decide +kernel
theorem dX6_remember_24 : decode cX6_remember 24 = .ok (.getfield 19, 3) := by decide +kernel
theorem dX6_remember_27 : decode cX6_remember 27 = .ok (.iload_n 1, 1) := by decide +kernel
theorem dX6_remember_28 : decode cX6_remember 28 = .ok (.sipush 217, 3) := by decide +kernel
theorem dX6_remember_31 : decode cX6_remember 31 = .ok (.iadd, 1) := by decide +kernel
theorem dX6_remember_32 : decode cX6_remember 32 = .ok (.iaload, 1) := by decide +kernel
theorem dX6_remember_33 : decode cX6_remember 33 = .ok (.iastore, 1) := by decide +kernel
theorem dX6_remember_34 : decode cX6_remember 34 = .ok (.iinc 1 1, 3) := by decide +kernel
theorem dX6_remember_37 : decode cX6_remember 37 = .ok (.goto (-26), 3) := by decide +kernel
theorem dX6_remember_40 : decode cX6_remember 40 = .ok (.aload_n 0, 1) := by decide +kernel
theorem dX6_remember_41 : decode cX6_remember 41 = .ok (.dup, 1) := by decide +kernel
theorem dX6_remember_42 : decode cX6_remember 42 = .ok (.getfield 198, 3) := by decide +kernel
theorem dX6_remember_45 : decode cX6_remember 45 = .ok (.iconst 1, 1) := by decide +kernel
theorem dX6_remember_46 : decode cX6_remember 46 = .ok (.isub, 1) := by decide +kernel
theorem dX6_remember_47 : decode cX6_remember 47 = .ok (.putfield 198, 3) := by decide +kernel
theorem dX6_remember_50 : decode cX6_remember 50 = .ok (.aload_n 0, 1) := by decide +kernel
theorem dX6_remember_51 : decode cX6_remember 51 = .ok (.getfield 13, 3) := by decide +kernel
theorem dX6_remember_54 : decode cX6_remember 54 = .ok (.iconst 0, 1) := by decide +kernel
theorem dX6_remember_55 : decode cX6_remember 55 = .ok (.aload_n 0, 1) := by decide +kernel
theorem dX6_remember_56 : decode cX6_remember 56 = .ok (.getfield 19, 3) := by decide +kernel
theorem dX6_remember_59 : decode cX6_remember 59 = .ok (.sipush 217, 3) := by decide +kernel
theorem dX6_remember_62 : decode cX6_remember 62 = .ok (.aload_n 0, 1) := by decide +kernel
theorem dX6_remember_63 : decode cX6_remember 63 = .ok (.getfield 198, 3) := by decide +kernel
theorem dX6_remember_66 : decode cX6_remember 66 = .ok (.imul, 1) := by decide +kernel
theorem dX6_remember_67 : decode cX6_remember 67 = .ok (.invokestatic 194, 3) := by decide +kernel
theorem dX6_remember_70 : decode cX6_remember 70 = .ok (.aload_n 0, 1) := by decide +kernel
theorem dX6_remember_71 : decode cX6_remember 71 = .ok (.dup, 1) := by decide +kernel
theorem dX6_remember_72 : decode cX6_remember 72 = .ok (.getfield 198, 3) := by decide +kernel
theorem dX6_remember_75 : decode cX6_remember 75 = .ok (.iconst 1, 1) := by decide +kernel
theorem dX6_remember_76 : decode cX6_remember 76 = .ok (.iadd, 1) := by decide +kernel
theorem dX6_remember_77 : decode cX6_remember 77 = .ok (.putfield 198, 3) := by decide +kernel
theorem dX6_remember_80 : decode cX6_remember 80 = .ok (.return_, 1) := by decide +kernel
theorem dX6_deal_0 : decode cX6_deal 0 = .ok (.aload_n 0, 1) := by decide +kernel
theorem dX6_deal_1 : decode cX6_deal 1 = .ok (.iload_n 1, 1) := by decide +kernel
theorem dX6_deal_2 : decode cX6_deal 2 = .ok (.i2l, 1) := by decide +kernel
theorem dX6_deal_3 : decode cX6_deal 3 = .ok (.ldc2_w 221, 3) := by decide +kernel
theorem dX6_deal_6 : decode cX6_deal 6 = .ok (.ldc2_w 209, 3) := by decide +kernel
theorem dX6_deal_9 : decode cX6_deal 9 = .ok (.invokestatic 55, 3) := by decide +kernel
theorem dX6_deal_12 : decode cX6_deal 12 = .ok (.ifCond .eq 7, 3) := by decide +kernel
theorem dX6_deal_15 : decode cX6_deal 15 = .ok (.iconst 0, 1) := by decide +kernel
theorem dX6_deal_16 : decode cX6_deal 16 = .ok (.goto 4, 3) := by decide +kernel
theorem dX6_deal_19 : decode cX6_deal 19 = .ok (.iconst 1, 1) := by decide +kernel
theorem dX6_deal_20 : decode cX6_deal 20 = .ok (.invokevirtual 141, 3) := by decide +kernel
theorem dX6_deal_23 : decode cX6_deal 23 = .ok (.ifCond .eq 5, 3) := by decide +kernel
theorem dX6_deal_26 : decode cX6_deal 26 = .ok (.iconst 0, 1) := by decide +kernel
theorem dX6_deal_27 : decode cX6_deal 27 = .ok (.ireturn, 1) := by decide +kernel
theorem dX6_deal_28 : decode cX6_deal 28 = .ok (.aload_n 0, 1) := by decide +kernel
theorem dX6_deal_29 : decode cX6_deal 29 = .ok (.invokevirtual 223, 3) := by decide +kernel
theorem dX6_deal_32 : decode cX6_deal 32 = .ok (.aload_n 0, 1) := by decide +kernel
theorem dX6_deal_33 : decode cX6_deal 33 = .ok (.aload_n 0, 1) := by decide +kernel
theorem dX6_deal_34 : decode cX6_deal 34 = .ok (.getfield 13, 3) := by decide +kernel
theorem dX6_deal_37 : decode cX6_deal 37 = .ok (.iload_n 1, 1) := by decide +kernel
theorem dX6_deal_38 : decode cX6_deal 38 = .ok (.lload_n 2, 1) := by decide +kernel
theorem dX6_deal_39 : decode cX6_deal 39 = .ok (.invokevirtual 165, 3) := by decide +kernel
theorem dX6_deal_42 : decode cX6_deal 42 = .ok (.ireturn, 1) := by decide +kernel
theorem dX6_play_0 : decode cX6_play 0 = .ok (.aload_n 0, 1) := by decide +kernel
theorem dX6_play_1 : decode cX6_play 1 = .ok (.iload_n 1, 1) := by decide +kernel
theorem dX6_play_2 : decode cX6_play 2 = .ok (.invokestatic 206, 3) := by decide +kernel
theorem dX6_play_5 : decode cX6_play 5 = .ok (.ifCond .ne 7, 3) := by decide +kernel
theorem dX6_play_8 : decode cX6_play 8 = .ok (.iconst 1, 1) := by decide +kernel
theorem dX6_play_9 : decode cX6_play 9 = .ok (.goto 18, 3) := by decide +kernel
theorem dX6_play_12 : decode cX6_play 12 = .ok (.aload_n 0, 1) := by decide +kernel
theorem dX6_play_13 : decode cX6_play 13 = .ok (.getfield 13, 3) := by decide +kernel
theorem dX6_play_16 : decode cX6_play 16 = .ok (.iconst 1, 1) := by decide +kernel
theorem dX6_play_17 : decode cX6_play 17 = .ok (.iaload, 1) := by decide +kernel
theorem dX6_play_18 : decode cX6_play 18 = .ok (.iconst 1, 1) := by decide +kernel
theorem dX6_play_19 : decode cX6_play 19 = .ok (.if_icmp .ne 7, 3) := by decide +kernel
theorem dX6_play_22 : decode cX6_play 22 = .ok (.iconst 0, 1) := by decide +kernel
theorem dX6_play_23 : decode cX6_play 23 = .ok (.goto 4, 3) := by decide +kernel
theorem dX6_play_26 : decode cX6_play 26 = .ok (.iconst 2, 1) := by decide +kernel
theorem dX6_play_27 : decode cX6_play 27 = .ok (.invokevirtual 141, 3) := by decide +kernel
theorem dX6_play_30 : decode cX6_play 30 = .ok (.ifCond .eq 5, 3) := by decide +kernel
theorem dX6_play_33 : decode cX6_play 33 = .ok (.iconst 0, 1) := by decide +kernel
theorem dX6_play_34 : decode cX6_play 34 = .ok (.ireturn, 1) := by decide +kernel
theorem dX6_play_35 : decode cX6_play 35 = .ok (.aload_n 0, 1) := by decide +kernel
theorem dX6_play_36 : decode cX6_play 36 = .ok (.invokevirtual 223, 3) := by decide +kernel
theorem dX6_play_39 : decode cX6_play 39 = .ok (.aload_n 0, 1) := by decide +kernel
theorem dX6_play_40 : decode cX6_play 40 = .ok (.getfield 13, 3) := by decide +kernel
theorem dX6_play_43 : decode cX6_play 43 = .ok (.iload_n 1, 1) := by decide +kernel
theorem dX6_play_44 : decode cX6_play 44 = .ok (.iload_n 2, 1) := by decide +kernel
theorem dX6_play_45 : decode cX6_play 45 = .ok (.invokestatic 157, 3) := by decide +kernel
theorem dX6_play_48 : decode cX6_play 48 = .ok (.ireturn, 1) := by decide +kernel
theorem dX6_draw_0 : decode cX6_draw 0 = .ok (.aload_n 0, 1) := by decide +kernel
theorem dX6_draw_1 : decode cX6_draw 1 = .ok (.aload_n 0, 1) := by decide +kernel
theorem dX6_draw_2 : decode cX6_draw 2 = .ok (.getfield 13, 3) := by decide +kernel
theorem dX6_draw_5 : decode cX6_draw 5 = .ok (.invokestatic 173, 3) := by decide +kernel
theorem dX6_draw_8 : decode cX6_draw 8 = .ok (.ifCond .eq 7, 3) := by decide +kernel
theorem dX6_draw_11 : decode cX6_draw 11 = .ok (.iconst 0, 1) := by decide +kernel
theorem dX6_draw_12 : decode cX6_draw 12 = .ok (.goto 4, 3) := by decide +kernel
theorem dX6_draw_15 : decode cX6_draw 15 = .ok (.iconst 1, 1) := by decide +kernel
theorem dX6_draw_16 : decode cX6_draw 16 = .ok (.invokevirtual 141, 3) := by decide +kernel
theorem dX6_draw_19 : decode cX6_draw 19 = .ok (.ifCond .eq 5, 3) := by decide +kernel
theorem dX6_draw_22 : decode cX6_draw 22 = .ok (.iconst 0, 1) := by decide +kernel
theorem dX6_draw_23 : decode cX6_draw 23 = .ok (.ireturn, 1) := by decide +kernel
theorem dX6_draw_24 : decode cX6_draw 24 = .ok (.aload_n 0, 1) := by decide +kernel
theorem dX6_draw_25 : decode cX6_draw 25 = .ok (.invokevirtual 223, 3) := by decide +kernel
theorem dX6_draw_28 : decode cX6_draw 28 = .ok (.aload_n 0, 1) := by decide +kernel
theorem dX6_draw_29 : decode cX6_draw 29 = .ok (.getfield 13, 3) := by decide +kernel
theorem dX6_draw_32 : decode cX6_draw 32 = .ok (.invokestatic 176, 3) := by decide +kernel
theorem dX6_draw_35 : decode cX6_draw 35 = .ok (.ireturn, 1) := by decide +kernel
theorem dX6_pass_0 : decode cX6_pass 0 = .ok (.aload_n 0, 1) := by decide +kernel
theorem dX6_pass_1 : decode cX6_pass 1 = .ok (.aload_n 0, 1) := by decide +kernel
theorem dX6_pass_2 : decode cX6_pass 2 = .ok (.getfield 13, 3) := by decide +kernel
theorem dX6_pass_5 : decode cX6_pass 5 = .ok (.invokestatic 179, 3) := by decide +kernel
theorem dX6_pass_8 : decode cX6_pass 8 = .ok (.ifCond .eq 7, 3) := by decide +kernel
theorem dX6_pass_11 : decode cX6_pass 11 = .ok (.iconst 0, 1) := by decide +kernel
theorem dX6_pass_12 : decode cX6_pass 12 = .ok (.goto 4, 3) := by decide +kernel
theorem dX6_pass_15 : decode cX6_pass 15 = .ok (.iconst 1, 1) := by decide +kernel
theorem dX6_pass_16 : decode cX6_pass 16 = .ok (.invokevirtual 141, 3) := by decide +kernel
theorem dX6_pass_19 : decode cX6_pass 19 = .ok (.ifCond .eq 5, 3) := by decide +kernel
theorem dX6_pass_22 : decode cX6_pass 22 = .ok (.iconst 0, 1) := by decide +kernel
theorem dX6_pass_23 : decode cX6_pass 23 = .ok (.ireturn, 1) := by decide +kernel
theorem dX6_pass_24 : decode cX6_pass 24 = .ok (.aload_n 0, 1) := by decide +kernel
theorem dX6_pass_25 : decode cX6_pass 25 = .ok (.invokevirtual 223, 3) := by decide +kernel
theorem dX6_pass_28 : decode cX6_pass 28 = .ok (.aload_n 0, 1) := by decide +kernel
theorem dX6_pass_29 : decode cX6_pass 29 = .ok (.getfield 13, 3) := by decide +kernel
theorem dX6_pass_32 : decode cX6_pass 32 = .ok (.invokestatic 182, 3) := by decide +kernel
theorem dX6_pass_35 : decode cX6_pass 35 = .ok (.ireturn, 1) := by decide +kernel
theorem dX6_undo_0 : decode cX6_undo 0 = .ok (.aload_n 0, 1) := by decide +kernel
theorem dX6_undo_1 : decode cX6_undo 1 = .ok (.aload_n 0, 1) := by decide +kernel
theorem dX6_undo_2 : decode cX6_undo 2 = .ok (.getfield 198, 3) := by decide +kernel
theorem dX6_undo_5 : decode cX6_undo 5 = .ok (.ifCond .ne 7, 3) := by decide +kernel
theorem dX6_undo_8 : decode cX6_undo 8 = .ok (.iconst 1, 1) := by decide +kernel
theorem dX6_undo_9 : decode cX6_undo 9 = .ok (.goto 4, 3) := by decide +kernel
theorem dX6_undo_12 : decode cX6_undo 12 = .ok (.iconst 0, 1) := by decide +kernel
theorem dX6_undo_13 : decode cX6_undo 13 = .ok (.invokevirtual 141, 3) := by decide +kernel
theorem dX6_undo_16 : decode cX6_undo 16 = .ok (.ifCond .eq 5, 3) := by decide +kernel
theorem dX6_undo_19 : decode cX6_undo 19 = .ok (.iconst 0, 1) := by decide +kernel
theorem dX6_undo_20 : decode cX6_undo 20 = .ok (.ireturn, 1) := by decide +kernel
theorem dX6_undo_21 : decode cX6_undo 21 = .ok (.aload_n 0, 1) := by decide +kernel
theorem dX6_undo_22 : decode cX6_undo 22 = .ok (.dup, 1) := by decide +kernel
theorem dX6_undo_23 : decode cX6_undo 23 = .ok (.getfield 198, 3) := by decide +kernel
theorem dX6_undo_26 : decode cX6_undo 26 = .ok (.iconst 1, 1) := by decide +kernel
theorem dX6_undo_27 : decode cX6_undo 27 = .ok (.isub, 1) := by decide +kernel
theorem dX6_undo_28 : decode cX6_undo 28 = .ok (.putfield 198, 3) := by decide +kernel
theorem dX6_undo_31 : decode cX6_undo 31 = .ok (.aload_n 0, 1) := by decide +kernel
theorem dX6_undo_32 : decode cX6_undo 32 = .ok (.getfield 19, 3) := by decide +kernel
theorem dX6_undo_35 : decode cX6_undo 35 = .ok (.sipush 217, 3) := by decide +kernel
theorem dX6_undo_38 : decode cX6_undo 38 = .ok (.aload_n 0, 1) := by decide +kernel
theorem dX6_undo_39 : decode cX6_undo 39 = .ok (.getfield 198, 3) := by decide +kernel
theorem dX6_undo_42 : decode cX6_undo 42 = .ok (.imul, 1) := by decide +kernel
theorem dX6_undo_43 : decode cX6_undo 43 = .ok (.aload_n 0, 1) := by decide +kernel
theorem dX6_undo_44 : decode cX6_undo 44 = .ok (.getfield 13, 3) := by decide +kernel
theorem dX6_undo_47 : decode cX6_undo 47 = .ok (.iconst 0, 1) := by decide +kernel
theorem dX6_undo_48 : decode cX6_undo 48 = .ok (.invokestatic 194, 3) := by decide +kernel
theorem dX6_undo_51 : decode cX6_undo 51 = .ok (.aload_n 0, 1) := by decide +kernel
theorem dX6_undo_52 : decode cX6_undo 52 = .ok (.getfield 198, 3) := by decide +kernel
theorem dX6_undo_55 : decode cX6_undo 55 = .ok (.ireturn, 1) := by decide +kernel
theorem dX6_why_0 : decode cX6_why 0 = .ok (.aload_n 0, 1) := by decide +kernel
theorem dX6_why_1 : decode cX6_why 1 = .ok (.iload_n 1, 1) := by decide +kernel
theorem dX6_why_2 : decode cX6_why 2 = .ok (.invokestatic 206, 3) := by decide +kernel
theorem dX6_why_5 : decode cX6_why 5 = .ok (.ifCond .eq 7, 3) := by decide +kernel
theorem dX6_why_8 : decode cX6_why 8 = .ok (.iconst 0, 1) := by decide +kernel
theorem dX6_why_9 : decode cX6_why 9 = .ok (.goto 4, 3) := by decide +kernel
theorem dX6_why_12 : decode cX6_why 12 = .ok (.iconst 1, 1) := by decide +kernel
theorem dX6_why_13 : decode cX6_why 13 = .ok (.invokevirtual 141, 3) := by decide +kernel
theorem dX6_why_16 : decode cX6_why 16 = .ok (.ifCond .eq 5, 3) := by decide +kernel
theorem dX6_why_19 : decode cX6_why 19 = .ok (.iconst 0, 1) := by decide +kernel
theorem dX6_why_20 : decode cX6_why 20 = .ok (.ireturn, 1) := by decide +kernel
theorem dX6_why_21 : decode cX6_why 21 = .ok (.aload_n 0, 1) := by decide +kernel
theorem dX6_why_22 : decode cX6_why 22 = .ok (.getfield 13, 3) := by decide +kernel
theorem dX6_why_25 : decode cX6_why 25 = .ok (.iconst 1, 1) := by decide +kernel
theorem dX6_why_26 : decode cX6_why 26 = .ok (.iaload, 1) := by decide +kernel
theorem dX6_why_27 : decode cX6_why 27 = .ok (.iconst 1, 1) := by decide +kernel
theorem dX6_why_28 : decode cX6_why 28 = .ok (.if_icmp .ne 14, 3) := by decide +kernel
theorem dX6_why_31 : decode cX6_why 31 = .ok (.aload_n 0, 1) := by decide +kernel
theorem dX6_why_32 : decode cX6_why 32 = .ok (.getfield 13, 3) := by decide +kernel
theorem dX6_why_35 : decode cX6_why 35 = .ok (.iload_n 1, 1) := by decide +kernel
theorem dX6_why_36 : decode cX6_why 36 = .ok (.invokestatic 102, 3) := by decide +kernel
theorem dX6_why_39 : decode cX6_why 39 = .ok (.goto 4, 3) := by decide +kernel
theorem dX6_why_42 : decode cX6_why 42 = .ok (.iconst (-1), 1) := by decide +kernel
theorem dX6_why_43 : decode cX6_why 43 = .ok (.ireturn, 1) := by decide +kernel
theorem dX6_legal_0 : decode cX6_legal 0 = .ok (.aload_n 0, 1) := by decide +kernel
theorem dX6_legal_1 : decode cX6_legal 1 = .ok (.iconst 0, 1) := by decide +kernel
theorem dX6_legal_2 : decode cX6_legal 2 = .ok (.putfield 42, 3) := by decide +kernel
theorem dX6_legal_5 : decode cX6_legal 5 = .ok (.iconst 0, 1) := by decide +kernel
theorem dX6_legal_6 : decode cX6_legal 6 = .ok (.istore_n 1, 1) := by decide +kernel
theorem dX6_legal_7 : decode cX6_legal 7 = .ok (.iconst 0, 1) := by decide +kernel
theorem dX6_legal_8 : decode cX6_legal 8 = .ok (.istore_n 2, 1) := by decide +kernel
theorem dX6_legal_9 : decode cX6_legal 9 = .ok (.iload_n 2, 1) := by decide +kernel
theorem dX6_legal_10 : decode cX6_legal 10 = .ok (.bipush 28, 2) := by decide +kernel
theorem dX6_legal_12 : decode cX6_legal 12 = .ok (.if_icmp .ge 40, 3) := by decide +kernel
theorem dX6_legal_15 : decode cX6_legal 15 = .ok (.aload_n 0, 1) := by decide +kernel
theorem dX6_legal_16 : decode cX6_legal 16 = .ok (.getfield 13, 3) := by decide +kernel
theorem dX6_legal_19 : decode cX6_legal 19 = .ok (.iconst 1, 1) := by decide +kernel
theorem dX6_legal_20 : decode cX6_legal 20 = .ok (.iaload, 1) := by decide +kernel
theorem dX6_legal_21 : decode cX6_legal 21 = .ok (.iconst 1, 1) := by decide +kernel
theorem dX6_legal_22 : decode cX6_legal 22 = .ok (.if_icmp .ne 30, 3) := by decide +kernel
theorem dX6_legal_25 : decode cX6_legal 25 = .ok (.iload_n 1, 1) := by decide +kernel
theorem dX6_legal_26 : decode cX6_legal 26 = .ok (.aload_n 0, 1) := by decide +kernel
theorem dX6_legal_27 : decode cX6_legal 27 = .ok (.getfield 13, 3) := by decide +kernel
theorem dX6_legal_30 : decode cX6_legal 30 = .ok (.iload_n 2, 1) := by decide +kernel
theorem dX6_legal_31 : decode cX6_legal 31 = .ok (.invokestatic 102, 3) := by decide +kernel
theorem dX6_legal_34 : decode cX6_legal 34 = .ok (.ifCond .ne 9, 3) := by decide +kernel
theorem dX6_legal_37 : decode cX6_legal 37 = .ok (.iconst 1, 1) := by decide +kernel
theorem dX6_legal_38 : decode cX6_legal 38 = .ok (.iload_n 2, 1) := by decide +kernel
theorem dX6_legal_39 : decode cX6_legal 39 = .ok (.ishl, 1) := by decide +kernel
theorem dX6_legal_40 : decode cX6_legal 40 = .ok (.goto 4, 3) := by decide +kernel
theorem dX6_legal_43 : decode cX6_legal 43 = .ok (.iconst 0, 1) := by decide +kernel
theorem dX6_legal_44 : decode cX6_legal 44 = .ok (.ior, 1) := by decide +kernel
theorem dX6_legal_45 : decode cX6_legal 45 = .ok (.istore_n 1, 1) := by decide +kernel
theorem dX6_legal_46 : decode cX6_legal 46 = .ok (.iinc 2 1, 3) := by decide +kernel
theorem dX6_legal_49 : decode cX6_legal 49 = .ok (.goto (-40), 3) := by decide +kernel
theorem dX6_legal_52 : decode cX6_legal 52 = .ok (.iload_n 1, 1) := by decide +kernel
theorem dX6_legal_53 : decode cX6_legal 53 = .ok (.ireturn, 1) := by decide +kernel
theorem dX6_best_0 : decode cX6_best 0 = .ok (.aload_n 0, 1) := by decide +kernel
theorem dX6_best_1 : decode cX6_best 1 = .ok (.iconst 0, 1) := by decide +kernel
theorem dX6_best_2 : decode cX6_best 2 = .ok (.putfield 42, 3) := by decide +kernel
theorem dX6_best_5 : decode cX6_best 5 = .ok (.aload_n 0, 1) := by decide +kernel
theorem dX6_best_6 : decode cX6_best 6 = .ok (.getfield 13, 3) := by decide +kernel
theorem dX6_best_9 : decode cX6_best 9 = .ok (.invokestatic 133, 3) := by decide +kernel
theorem dX6_best_12 : decode cX6_best 12 = .ok (.ireturn, 1) := by decide +kernel
theorem dX6_isTried_0 : decode cX6_isTried 0 = .ok (.iconst 0, 1) := by decide +kernel
theorem dX6_isTried_1 : decode cX6_isTried 1 = .ok (.istore_n 3, 1) := by decide +kernel
theorem dX6_isTried_2 : decode cX6_isTried 2 = .ok (.iconst 0, 1) := by decide +kernel
theorem dX6_isTried_3 : decode cX6_isTried 3 = .ok (.istore 4, 2) := by decide +kernel
theorem dX6_isTried_5 : decode cX6_isTried 5 = .ok (.iload 4, 2) := by decide +kernel
theorem dX6_isTried_7 : decode cX6_isTried 7 = .ok (.iload_n 2, 1) := by decide +kernel
theorem dX6_isTried_8 : decode cX6_isTried 8 = .ok (.if_icmp .ge 30, 3) := by decide +kernel
theorem dX6_isTried_11 : decode cX6_isTried 11 = .ok (.iload_n 3, 1) := by decide +kernel
theorem dX6_isTried_12 : decode cX6_isTried 12 = .ok (.ifCond .ne 14, 3) := by decide +kernel
theorem dX6_isTried_15 : decode cX6_isTried 15 = .ok (.aload_n 0, 1) := by decide +kernel
theorem dX6_isTried_16 : decode cX6_isTried 16 = .ok (.getfield 32, 3) := by decide +kernel
theorem dX6_isTried_19 : decode cX6_isTried 19 = .ok (.iload 4, 2) := by decide +kernel
theorem dX6_isTried_21 : decode cX6_isTried 21 = .ok (.iaload, 1) := by decide +kernel
theorem dX6_isTried_22 : decode cX6_isTried 22 = .ok (.iload_n 1, 1) := by decide +kernel
theorem dX6_isTried_23 : decode cX6_isTried 23 = .ok (.if_icmp .ne 7, 3) := by decide +kernel
theorem dX6_isTried_26 : decode cX6_isTried 26 = .ok (.iconst 1, 1) := by decide +kernel
theorem dX6_isTried_27 : decode cX6_isTried 27 = .ok (.goto 4, 3) := by decide +kernel
theorem dX6_isTried_30 : decode cX6_isTried 30 = .ok (.iconst 0, 1) := by decide +kernel
theorem dX6_isTried_31 : decode cX6_isTried 31 = .ok (.istore_n 3, 1) := by decide +kernel
theorem dX6_isTried_32 : decode cX6_isTried 32 = .ok (.iinc 4 1, 3) := by decide +kernel
theorem dX6_isTried_35 : decode cX6_isTried 35 = .ok (.goto (-30), 3) := by decide +kernel
theorem dX6_isTried_38 : decode cX6_isTried 38 = .ok (.iload_n 3, 1) := by decide +kernel
theorem dX6_isTried_39 : decode cX6_isTried 39 = .ok (.ireturn, 1) := by decide +kernel
theorem dX6_nextTried_0 : decode cX6_nextTried 0 = .ok (.iload_n 3, 1) := by decide +kernel
theorem dX6_nextTried_1 : decode cX6_nextTried 1 = .ok (.istore 5, 2) := by decide +kernel
theorem dX6_nextTried_3 : decode cX6_nextTried 3 = .ok (.iload 5, 2) := by decide +kernel
theorem dX6_nextTried_5 : decode cX6_nextTried 5 = .ok (.bipush 28, 2) := by decide +kernel
theorem dX6_nextTried_7 : decode cX6_nextTried 7 = .ok (.if_icmp .ge 46, 3) := by decide +kernel
theorem dX6_nextTried_10 : decode cX6_nextTried 10 = .ok (.aload_n 1, 1) := by decide +kernel
theorem dX6_nextTried_11 : decode cX6_nextTried 11 = .ok (.bipush 21, 2) := by decide +kernel
theorem dX6_nextTried_13 : decode cX6_nextTried 13 = .ok (.iload 5, 2) := by decide +kernel
theorem dX6_nextTried_15 : decode cX6_nextTried 15 = .ok (.iadd, 1) := by decide +kernel
theorem dX6_nextTried_16 : decode cX6_nextTried 16 = .ok (.iaload, 1) := by decide +kernel
theorem dX6_nextTried_17 : decode cX6_nextTried 17 = .ok (.iload_n 2, 1) := by decide +kernel
theorem dX6_nextTried_18 : decode cX6_nextTried 18 = .ok (.if_icmp .ne 29, 3) := by decide +kernel
theorem dX6_nextTried_21 : decode cX6_nextTried 21 = .ok (.aload_n 0, 1) := by decide +kernel
theorem dX6_nextTried_22 : decode cX6_nextTried 22 = .ok (.iload 5, 2) := by decide +kernel
theorem dX6_nextTried_24 : decode cX6_nextTried 24 = .ok (.iload 4, 2) := by decide +kernel
theorem dX6_nextTried_26 : decode cX6_nextTried 26 = .ok (.invokevirtual 226, 3) := by decide +kernel
theorem dX6_nextTried_29 : decode cX6_nextTried 29 = .ok (.ifCond .ne 18, 3) := by decide +kernel
theorem dX6_nextTried_32 : decode cX6_nextTried 32 = .ok (.iload 5, 2) := by decide +kernel
theorem dX6_nextTried_34 : decode cX6_nextTried 34 = .ok (.aload_n 0, 1) := by decide +kernel
theorem dX6_nextTried_35 : decode cX6_nextTried 35 = .ok (.getfield 35, 3) := by decide +kernel
theorem dX6_nextTried_38 : decode cX6_nextTried 38 = .ok (.iload 4, 2) := by decide +kernel
theorem dX6_nextTried_40 : decode cX6_nextTried 40 = .ok (.iaload, 1) := by decide +kernel
theorem dX6_nextTried_41 : decode cX6_nextTried 41 = .ok (.invokestatic 87, 3) := by decide +kernel
theorem dX6_nextTried_44 : decode cX6_nextTried 44 = .ok (.ifCond .ne 9, 3) := by decide +kernel
theorem dX6_nextTried_47 : decode cX6_nextTried 47 = .ok (.iinc 5 1, 3) := by decide +kernel
theorem dX6_nextTried_50 : decode cX6_nextTried 50 = .ok (.goto (-47), 3) := by decide +kernel
theorem dX6_nextTried_53 : decode cX6_nextTried 53 = .ok (.iload 5, 2) := by decide +kernel
theorem dX6_nextTried_55 : decode cX6_nextTried 55 = .ok (.ireturn, 1) := by decide +kernel
theorem dX6_longest_0 : decode cX6_longest 0 = .ok (.iconst 0, 1) := by decide +kernel
theorem dX6_longest_1 : decode cX6_longest 1 = .ok (.istore 4, 2) := by decide +kernel
theorem dX6_longest_3 : decode cX6_longest 3 = .ok (.iconst 0, 1) := by decide +kernel
theorem dX6_longest_4 : decode cX6_longest 4 = .ok (.istore 5, 2) := by decide +kernel
theorem dX6_longest_6 : decode cX6_longest 6 = .ok (.aload_n 0, 1) := by decide +kernel
theorem dX6_longest_7 : decode cX6_longest 7 = .ok (.getfield 35, 3) := by decide +kernel
theorem dX6_longest_10 : decode cX6_longest 10 = .ok (.iconst 0, 1) := by decide +kernel
theorem dX6_longest_11 : decode cX6_longest 11 = .ok (.aload_n 1, 1) := by decide +kernel
theorem dX6_longest_12 : decode cX6_longest 12 = .ok (.bipush 6, 2) := by decide +kernel
theorem dX6_longest_14 : decode cX6_longest 14 = .ok (.iaload, 1) := by decide +kernel
theorem dX6_longest_15 : decode cX6_longest 15 = .ok (.iastore, 1) := by decide +kernel
theorem dX6_longest_16 : decode cX6_longest 16 = .ok (.aload_n 0, 1) := by decide +kernel
theorem dX6_longest_17 : decode cX6_longest 17 = .ok (.getfield 32, 3) := by decide +kernel
theorem dX6_longest_20 : decode cX6_longest 20 = .ok (.iconst 0, 1) := by decide +kernel
theorem dX6_longest_21 : decode cX6_longest 21 = .ok (.iconst (-1), 1) := by decide +kernel
theorem dX6_longest_22 : decode cX6_longest 22 = .ok (.iastore, 1) := by decide +kernel
theorem dX6_longest_23 : decode cX6_longest 23 = .ok (.iload 5, 2) := by decide +kernel
theorem dX6_longest_25 : decode cX6_longest 25 = .ok (.ifCond .lt 108, 3) := by decide +kernel
theorem dX6_longest_28 : decode cX6_longest 28 = .ok (.iload 4, 2) := by decide +kernel
theorem dX6_longest_30 : decode cX6_longest 30 = .ok (.iload_n 3, 1) := by decide +kernel
theorem dX6_longest_31 : decode cX6_longest 31 = .ok (.if_icmp .ge 102, 3) := by decide +kernel
theorem dX6_longest_34 : decode cX6_longest 34 = .ok (.aload_n 0, 1) := by decide +kernel
theorem dX6_longest_35 : decode cX6_longest 35 = .ok (.aload_n 1, 1) := by decide +kernel
theorem dX6_longest_36 : decode cX6_longest 36 = .ok (.iload_n 2, 1) := by decide +kernel
theorem dX6_longest_37 : decode cX6_longest 37 = .ok (.aload_n 0, 1) := by decide +kernel
theorem dX6_longest_38 : decode cX6_longest 38 = .ok (.getfield 32, 3) := by decide +kernel
theorem dX6_longest_41 : decode cX6_longest 41 = .ok (.iload 5, 2) := by decide +kernel
theorem dX6_longest_43 : decode cX6_longest 43 = .ok (.iaload, 1) := by decide +kernel
theorem dX6_longest_44 : decode cX6_longest 44 = .ok (.iconst 1, 1) := by decide +kernel
theorem dX6_longest_45 : decode cX6_longest 45 = .ok (.iadd, 1) := by decide +kernel
theorem dX6_longest_46 : decode cX6_longest 46 = .ok (.iload 5, 2) := by decide +kernel
theorem dX6_longest_48 : decode cX6_longest 48 = .ok (.invokevirtual 229, 3) := by decide +kernel
theorem dX6_longest_51 : decode cX6_longest 51 = .ok (.istore 6, 2) := by decide +kernel
theorem dX6_longest_53 : decode cX6_longest 53 = .ok (.aload_n 0, 1) := by decide +kernel
theorem dX6_longest_54 : decode cX6_longest 54 = .ok (.getfield 32, 3) := by decide +kernel
theorem dX6_longest_57 : decode cX6_longest 57 = .ok (.iload 5, 2) := by decide +kernel
theorem dX6_longest_59 : decode cX6_longest 59 = .ok (.iload 6, 2) := by decide +kernel
theorem dX6_longest_61 : decode cX6_longest 61 = .ok (.iastore, 1) := by decide +kernel
theorem dX6_longest_62 : decode cX6_longest 62 = .ok (.iload 6, 2) := by decide +kernel
theorem dX6_longest_64 : decode cX6_longest 64 = .ok (.bipush 28, 2) := by decide +kernel
theorem dX6_longest_66 : decode cX6_longest 66 = .ok (.if_icmp .ne 9, 3) := by decide +kernel
theorem dX6_longest_69 : decode cX6_longest 69 = .ok (.iinc 5 (-1), 3) := by decide +kernel
theorem dX6_longest_72 : decode cX6_longest 72 = .ok (.goto 58, 3) := by decide +kernel
theorem dX6_longest_75 : decode cX6_longest 75 = .ok (.aload_n 0, 1) := by decide +kernel
theorem dX6_longest_76 : decode cX6_longest 76 = .ok (.getfield 35, 3) := by decide +kernel
theorem dX6_longest_79 : decode cX6_longest 79 = .ok (.iload 5, 2) := by decide +kernel
theorem dX6_longest_81 : decode cX6_longest 81 = .ok (.iconst 1, 1) := by decide +kernel
theorem dX6_longest_82 : decode cX6_longest 82 = .ok (.iadd, 1) := by decide +kernel
theorem dX6_longest_83 : decode cX6_longest 83 = .ok (.iload 6, 2) := by decide +kernel
theorem dX6_longest_85 : decode cX6_longest 85 = .ok (.aload_n 0, 1) := by decide +kernel
theorem dX6_longest_86 : decode cX6_longest 86 = .ok (.getfield 35, 3) := by decide +kernel
theorem dX6_longest_89 : decode cX6_longest 89 = .ok (.iload 5, 2) := by decide +kernel
theorem dX6_longest_91 : decode cX6_longest 91 = .ok (.iaload, 1) := by decide +kernel
theorem dX6_longest_92 : decode cX6_longest 92 = .ok (.invokestatic 115, 3) := by decide +kernel
theorem dX6_longest_95 : decode cX6_longest 95 = .ok (.iastore, 1) := by decide +kernel
theorem dX6_longest_96 : decode cX6_longest 96 = .ok (.iinc 5 1, 3) := by decide +kernel
theorem dX6_longest_99 : decode cX6_longest 99 = .ok (.iload 5, 2) := by decide +kernel
theorem dX6_longest_101 : decode cX6_longest 101 = .ok (.iload 4, 2) := by decide +kernel
theorem dX6_longest_103 : decode cX6_longest 103 = .ok (.if_icmp .le 8, 3) := by decide +kernel
theorem dX6_longest_106 : decode cX6_longest 106 = .ok (.iload 5, 2) := by decide +kernel
theorem dX6_longest_108 : decode cX6_longest 108 = .ok (.goto 5, 3) := by decide +kernel
theorem dX6_longest_111 : decode cX6_longest 111 = .ok (.iload 4, 2) := by decide +kernel
theorem dX6_longest_113 : decode cX6_longest 113 = .ok (.istore 4, 2) := by decide +kernel
theorem dX6_longest_115 : decode cX6_longest 115 = .ok (.iload 5, 2) := by decide +kernel
theorem dX6_longest_117 : decode cX6_longest 117 = .ok (.bipush 6, 2) := by decide +kernel
theorem dX6_longest_119 : decode cX6_longest 119 = .ok (.if_icmp .ge 11, 3) := by decide +kernel
theorem dX6_longest_122 : decode cX6_longest 122 = .ok (.aload_n 0, 1) := by decide +kernel
theorem dX6_longest_123 : decode cX6_longest 123 = .ok (.getfield 32, 3) := by decide +kernel
theorem dX6_longest_126 : decode cX6_longest 126 = .ok (.iload 5, 2) := by decide +kernel
theorem dX6_longest_128 : decode cX6_longest 128 = .ok (.iconst (-1), 1) := by decide +kernel
theorem dX6_longest_129 : decode cX6_longest 129 = .ok (.iastore, 1) := by decide +kernel
theorem dX6_longest_130 : decode cX6_longest 130 = .ok (.goto (-107), 3) := by decide +kernel
theorem dX6_longest_133 : decode cX6_longest 133 = .ok (.iload 4, 2) := by decide +kernel
theorem dX6_longest_135 : decode cX6_longest 135 = .ok (.ireturn, 1) := by decide +kernel
theorem dX6_chain_0 : decode cX6_chain 0 = .ok (.aload_n 0, 1) := by decide +kernel
theorem dX6_chain_1 : decode cX6_chain 1 = .ok (.iload_n 1, 1) := by decide +kernel
theorem dX6_chain_2 : decode cX6_chain 2 = .ok (.i2l, 1) := by decide +kernel
theorem dX6_chain_3 : decode cX6_chain 3 = .ok (.lconst 0, 1) := by decide +kernel
theorem dX6_chain_4 : decode cX6_chain 4 = .ok (.ldc2_w 219, 3) := by decide +kernel
theorem dX6_chain_7 : decode cX6_chain 7 = .ok (.invokestatic 55, 3) := by decide +kernel
theorem dX6_chain_10 : decode cX6_chain 10 = .ok (.ifCond .ne 7, 3) := by decide +kernel
theorem dX6_chain_13 : decode cX6_chain 13 = .ok (.iconst 1, 1) := by decide +kernel
theorem dX6_chain_14 : decode cX6_chain 14 = .ok (.goto 20, 3) := by decide +kernel
theorem dX6_chain_17 : decode cX6_chain 17 = .ok (.iload_n 2, 1) := by decide +kernel
theorem dX6_chain_18 : decode cX6_chain 18 = .ok (.i2l, 1) := by decide +kernel
theorem dX6_chain_19 : decode cX6_chain 19 = .ok (.lconst 1, 1) := by decide +kernel
theorem dX6_chain_20 : decode cX6_chain 20 = .ok (.ldc2_w 233, 3) := by decide +kernel
theorem dX6_chain_23 : decode cX6_chain 23 = .ok (.invokestatic 55, 3) := by decide +kernel
theorem dX6_chain_26 : decode cX6_chain 26 = .ok (.ifCond .eq 7, 3) := by decide +kernel
theorem dX6_chain_29 : decode cX6_chain 29 = .ok (.iconst 0, 1) := by decide +kernel
theorem dX6_chain_30 : decode cX6_chain 30 = .ok (.goto 4, 3) := by decide +kernel
theorem dX6_chain_33 : decode cX6_chain 33 = .ok (.iconst 2, 1) := by decide +kernel
theorem dX6_chain_34 : decode cX6_chain 34 = .ok (.invokevirtual 141, 3) := by decide +kernel
theorem dX6_chain_37 : decode cX6_chain 37 = .ok (.ifCond .eq 5, 3) := by decide +kernel
theorem dX6_chain_40 : decode cX6_chain 40 = .ok (.iconst 0, 1) := by decide +kernel
theorem dX6_chain_41 : decode cX6_chain 41 = .ok (.ireturn, 1) := by decide +kernel
theorem dX6_chain_42 : decode cX6_chain 42 = .ok (.aload_n 0, 1) := by decide +kernel
theorem dX6_chain_43 : decode cX6_chain 43 = .ok (.getfield 13, 3) := by decide +kernel
theorem dX6_chain_46 : decode cX6_chain 46 = .ok (.iconst 1, 1) := by decide +kernel
theorem dX6_chain_47 : decode cX6_chain 47 = .ok (.iaload, 1) := by decide +kernel
theorem dX6_chain_48 : decode cX6_chain 48 = .ok (.iconst 1, 1) := by decide +kernel
theorem dX6_chain_49 : decode cX6_chain 49 = .ok (.if_icmp .ne 16, 3) := by decide +kernel
theorem dX6_chain_52 : decode cX6_chain 52 = .ok (.aload_n 0, 1) := by decide +kernel
theorem dX6_chain_53 : decode cX6_chain 53 = .ok (.aload_n 0, 1) := by decide +kernel
theorem dX6_chain_54 : decode cX6_chain 54 = .ok (.getfield 13, 3) := by decide +kernel
theorem dX6_chain_57 : decode cX6_chain 57 = .ok (.iload_n 1, 1) := by decide +kernel
theorem dX6_chain_58 : decode cX6_chain 58 = .ok (.iload_n 2, 1) := by decide +kernel
theorem dX6_chain_59 : decode cX6_chain 59 = .ok (.invokevirtual 235, 3) := by decide +kernel
theorem dX6_chain_62 : decode cX6_chain 62 = .ok (.goto 4, 3) := by decide +kernel
theorem dX6_chain_65 : decode cX6_chain 65 = .ok (.iconst 0, 1) := by decide +kernel
theorem dX6_chain_66 : decode cX6_chain 66 = .ok (.ireturn, 1) := by decide +kernel
theorem dX6_reached_0 : decode cX6_reached 0 = .ok (.iload_n 1, 1) := by decide +kernel
theorem dX6_reached_1 : decode cX6_reached 1 = .ok (.iconst 2, 1) := by decide +kernel
theorem dX6_reached_2 : decode cX6_reached 2 = .ok (.if_icmp .ge 12, 3) := by decide +kernel
theorem dX6_reached_5 : decode cX6_reached 5 = .ok (.aload_n 0, 1) := by decide +kernel
theorem dX6_reached_6 : decode cX6_reached 6 = .ok (.iconst 0, 1) := by decide +kernel
theorem dX6_reached_7 : decode cX6_reached 7 = .ok (.iconst 0, 1) := by decide +kernel
theorem dX6_reached_8 : decode cX6_reached 8 = .ok (.invokestatic 72, 3) := by decide +kernel
theorem dX6_reached_11 : decode cX6_reached 11 = .ok (.goto 9, 3) := by decide +kernel
theorem dX6_reached_14 : decode cX6_reached 14 = .ok (.aload_n 0, 1) := by decide +kernel
theorem dX6_reached_15 : decode cX6_reached 15 = .ok (.iconst 0, 1) := by decide +kernel
theorem dX6_reached_16 : decode cX6_reached 16 = .ok (.iconst 0, 1) := by decide +kernel
theorem dX6_reached_17 : decode cX6_reached 17 = .ok (.invokestatic 75, 3) := by decide +kernel
theorem dX6_reached_20 : decode cX6_reached 20 = .ok (.istore_n 2, 1) := by decide +kernel
theorem dX6_reached_21 : decode cX6_reached 21 = .ok (.iconst 0, 1) := by decide +kernel
theorem dX6_reached_22 : decode cX6_reached 22 = .ok (.istore_n 3, 1) := by decide +kernel
theorem dX6_reached_23 : decode cX6_reached 23 = .ok (.iload_n 3, 1) := by decide +kernel
theorem dX6_reached_24 : decode cX6_reached 24 = .ok (.iconst 2, 1) := by decide +kernel
theorem dX6_reached_25 : decode cX6_reached 25 = .ok (.aload_n 0, 1) := by decide +kernel
theorem dX6_reached_26 : decode cX6_reached 26 = .ok (.iconst 5, 1) := by decide +kernel
theorem dX6_reached_27 : decode cX6_reached 27 = .ok (.iaload, 1) := by decide +kernel
theorem dX6_reached_28 : decode cX6_reached 28 = .ok (.imul, 1) := by decide +kernel
theorem dX6_reached_29 : decode cX6_reached 29 = .ok (.if_icmp .ge 73, 3) := by decide +kernel
theorem dX6_reached_32 : decode cX6_reached 32 = .ok (.iload_n 1, 1) := by decide +kernel
theorem dX6_reached_33 : decode cX6_reached 33 = .ok (.iconst 2, 1) := by decide +kernel
theorem dX6_reached_34 : decode cX6_reached 34 = .ok (.if_icmp .ge 16, 3) := by decide +kernel
theorem dX6_reached_37 : decode cX6_reached 37 = .ok (.aload_n 0, 1) := by decide +kernel
theorem dX6_reached_38 : decode cX6_reached 38 = .ok (.iload_n 3, 1) := by decide +kernel
theorem dX6_reached_39 : decode cX6_reached 39 = .ok (.iconst 2, 1) := by decide +kernel
theorem dX6_reached_40 : decode cX6_reached 40 = .ok (.idiv, 1) := by decide +kernel
theorem dX6_reached_41 : decode cX6_reached 41 = .ok (.iload_n 3, 1) := by decide +kernel
theorem dX6_reached_42 : decode cX6_reached 42 = .ok (.iconst 2, 1) := by decide +kernel
theorem dX6_reached_43 : decode cX6_reached 43 = .ok (.irem, 1) := by decide +kernel
theorem dX6_reached_44 : decode cX6_reached 44 = .ok (.invokestatic 72, 3) := by decide +kernel
theorem dX6_reached_47 : decode cX6_reached 47 = .ok (.goto 13, 3) := by decide +kernel
theorem dX6_reached_50 : decode cX6_reached 50 = .ok (.aload_n 0, 1) := by decide +kernel
theorem dX6_reached_51 : decode cX6_reached 51 = .ok (.iload_n 3, 1) := by decide +kernel
theorem dX6_reached_52 : decode cX6_reached 52 = .ok (.iconst 2, 1) := by decide +kernel
theorem dX6_reached_53 : decode cX6_reached 53 = .ok (.idiv, 1) := by decide +kernel
theorem dX6_reached_54 : decode cX6_reached 54 = .ok (.iload_n 3, 1) := by decide +kernel
theorem dX6_reached_55 : decode cX6_reached 55 = .ok (.iconst 2, 1) := by decide +kernel
theorem dX6_reached_56 : decode cX6_reached 56 = .ok (.irem, 1) := by decide +kernel
theorem dX6_reached_57 : decode cX6_reached 57 = .ok (.invokestatic 75, 3) := by decide +kernel
theorem dX6_reached_60 : decode cX6_reached 60 = .ok (.istore 4, 2) := by decide +kernel
theorem dX6_reached_62 : decode cX6_reached 62 = .ok (.iload_n 1, 1) := by decide +kernel
theorem dX6_reached_63 : decode cX6_reached 63 = .ok (.iconst 2, 1) := by decide +kernel
theorem dX6_reached_64 : decode cX6_reached 64 = .ok (.irem, 1) := by decide +kernel
theorem dX6_reached_65 : decode cX6_reached 65 = .ok (.ifCond .ne 18, 3) := by decide +kernel
theorem dX6_reached_68 : decode cX6_reached 68 = .ok (.iload 4, 2) := by decide +kernel
theorem dX6_reached_70 : decode cX6_reached 70 = .ok (.iload_n 2, 1) := by decide +kernel
theorem dX6_reached_71 : decode cX6_reached 71 = .ok (.if_icmp .ge 8, 3) := by decide +kernel
theorem dX6_reached_74 : decode cX6_reached 74 = .ok (.iload 4, 2) := by decide +kernel
theorem dX6_reached_76 : decode cX6_reached 76 = .ok (.goto 19, 3) := by decide +kernel
theorem dX6_reached_79 : decode cX6_reached 79 = .ok (.iload_n 2, 1) := by decide +kernel
theorem dX6_reached_80 : decode cX6_reached 80 = .ok (.goto 15, 3) := by decide +kernel
theorem dX6_reached_83 : decode cX6_reached 83 = .ok (.iload 4, 2) := by decide +kernel
theorem dX6_reached_85 : decode cX6_reached 85 = .ok (.iload_n 2, 1) := by decide +kernel
theorem dX6_reached_86 : decode cX6_reached 86 = .ok (.if_icmp .le 8, 3) := by decide +kernel
theorem dX6_reached_89 : decode cX6_reached 89 = .ok (.iload 4, 2) := by decide +kernel
theorem dX6_reached_91 : decode cX6_reached 91 = .ok (.goto 4, 3) := by decide +kernel
theorem dX6_reached_94 : decode cX6_reached 94 = .ok (.iload_n 2, 1) := by decide +kernel
theorem dX6_reached_95 : decode cX6_reached 95 = .ok (.istore_n 2, 1) := by decide +kernel
theorem dX6_reached_96 : decode cX6_reached 96 = .ok (.iinc 3 1, 3) := by decide +kernel
theorem dX6_reached_99 : decode cX6_reached 99 = .ok (.goto (-76), 3) := by decide +kernel
theorem dX6_reached_102 : decode cX6_reached 102 = .ok (.iload_n 2, 1) := by decide +kernel
theorem dX6_reached_103 : decode cX6_reached 103 = .ok (.ireturn, 1) := by decide +kernel
theorem dX6_reach_0 : decode cX6_reach 0 = .ok (.aload_n 0, 1) := by decide +kernel
theorem dX6_reach_1 : decode cX6_reach 1 = .ok (.iload_n 1, 1) := by decide +kernel
theorem dX6_reach_2 : decode cX6_reach 2 = .ok (.i2l, 1) := by decide +kernel
theorem dX6_reach_3 : decode cX6_reach 3 = .ok (.lconst 0, 1) := by decide +kernel
theorem dX6_reach_4 : decode cX6_reach 4 = .ok (.ldc2_w 217, 3) := by decide +kernel
theorem dX6_reach_7 : decode cX6_reach 7 = .ok (.invokestatic 55, 3) := by decide +kernel
theorem dX6_reach_10 : decode cX6_reach 10 = .ok (.ifCond .eq 7, 3) := by decide +kernel
theorem dX6_reach_13 : decode cX6_reach 13 = .ok (.iconst 0, 1) := by decide +kernel
theorem dX6_reach_14 : decode cX6_reach 14 = .ok (.goto 4, 3) := by decide +kernel
theorem dX6_reach_17 : decode cX6_reach 17 = .ok (.iconst 1, 1) := by decide +kernel
theorem dX6_reach_18 : decode cX6_reach 18 = .ok (.invokevirtual 141, 3) := by decide +kernel
theorem dX6_reach_21 : decode cX6_reach 21 = .ok (.ifCond .eq 5, 3) := by decide +kernel
theorem dX6_reach_24 : decode cX6_reach 24 = .ok (.iconst 0, 1) := by decide +kernel
theorem dX6_reach_25 : decode cX6_reach 25 = .ok (.ireturn, 1) := by decide +kernel
theorem dX6_reach_26 : decode cX6_reach 26 = .ok (.iload_n 1, 1) := by decide +kernel
theorem dX6_reach_27 : decode cX6_reach 27 = .ok (.iconst 3, 1) := by decide +kernel
theorem dX6_reach_28 : decode cX6_reach 28 = .ok (.if_icmp .le 17, 3) := by decide +kernel
theorem dX6_reach_31 : decode cX6_reach 31 = .ok (.aload_n 0, 1) := by decide +kernel
theorem dX6_reach_32 : decode cX6_reach 32 = .ok (.getfield 13, 3) := by decide +kernel
theorem dX6_reach_35 : decode cX6_reach 35 = .ok (.bipush 11, 2) := by decide +kernel
theorem dX6_reach_37 : decode cX6_reach 37 = .ok (.iload_n 1, 1) := by decide +kernel
theorem dX6_reach_38 : decode cX6_reach 38 = .ok (.iadd, 1) := by decide +kernel
theorem dX6_reach_39 : decode cX6_reach 39 = .ok (.iconst 4, 1) := by decide +kernel
theorem dX6_reach_40 : decode cX6_reach 40 = .ok (.isub, 1) := by decide +kernel
theorem dX6_reach_41 : decode cX6_reach 41 = .ok (.iaload, 1) := by decide +kernel
theorem dX6_reach_42 : decode cX6_reach 42 = .ok (.goto 24, 3) := by decide +kernel
theorem dX6_reach_45 : decode cX6_reach 45 = .ok (.aload_n 0, 1) := by decide +kernel
theorem dX6_reach_46 : decode cX6_reach 46 = .ok (.getfield 13, 3) := by decide +kernel
theorem dX6_reach_49 : decode cX6_reach 49 = .ok (.iconst 5, 1) := by decide +kernel
theorem dX6_reach_50 : decode cX6_reach 50 = .ok (.iaload, 1) := by decide +kernel
theorem dX6_reach_51 : decode cX6_reach 51 = .ok (.ifCond .ne 7, 3) := by decide +kernel
theorem dX6_reach_54 : decode cX6_reach 54 = .ok (.iconst (-1), 1) := by decide +kernel
theorem dX6_reach_55 : decode cX6_reach 55 = .ok (.goto 11, 3) := by decide +kernel
theorem dX6_reach_58 : decode cX6_reach 58 = .ok (.aload_n 0, 1) := by decide +kernel
theorem dX6_reach_59 : decode cX6_reach 59 = .ok (.getfield 13, 3) := by decide +kernel
theorem dX6_reach_62 : decode cX6_reach 62 = .ok (.iload_n 1, 1) := by decide +kernel
theorem dX6_reach_63 : decode cX6_reach 63 = .ok (.invokestatic 238, 3) := by decide +kernel
theorem dX6_reach_66 : decode cX6_reach 66 = .ok (.ireturn, 1) := by decide +kernel
theorem dX6_playsBest_0 : decode cX6_playsBest 0 = .ok (.iconst 1, 1) := by decide +kernel
theorem dX6_playsBest_1 : decode cX6_playsBest 1 = .ok (.istore_n 2, 1) := by decide +kernel
theorem dX6_playsBest_2 : decode cX6_playsBest 2 = .ok (.iconst 0, 1) := by decide +kernel
theorem dX6_playsBest_3 : decode cX6_playsBest 3 = .ok (.istore_n 3, 1) := by decide +kernel
theorem dX6_playsBest_4 : decode cX6_playsBest 4 = .ok (.iload_n 3, 1) := by decide +kernel
theorem dX6_playsBest_5 : decode cX6_playsBest 5 = .ok (.iload_n 1, 1) := by decide +kernel
theorem dX6_playsBest_6 : decode cX6_playsBest 6 = .ok (.if_icmp .ge 21, 3) := by decide +kernel
theorem dX6_playsBest_9 : decode cX6_playsBest 9 = .ok (.iload_n 2, 1) := by decide +kernel
theorem dX6_playsBest_10 : decode cX6_playsBest 10 = .ok (.ifCond .eq 17, 3) := by decide +kernel
theorem dX6_playsBest_13 : decode cX6_playsBest 13 = .ok (.aload_n 0, 1) := by decide +kernel
theorem dX6_playsBest_14 : decode cX6_playsBest 14 = .ok (.getfield 16, 3) := by decide +kernel
theorem dX6_playsBest_17 : decode cX6_playsBest 17 = .ok (.invokestatic 185, 3) := by decide +kernel
theorem dX6_playsBest_20 : decode cX6_playsBest 20 = .ok (.istore_n 2, 1) := by decide +kernel
theorem dX6_playsBest_21 : decode cX6_playsBest 21 = .ok (.iinc 3 1, 3) := by decide +kernel
theorem dX6_playsBest_24 : decode cX6_playsBest 24 = .ok (.goto (-20), 3) := by decide +kernel
theorem dX6_playsBest_27 : decode cX6_playsBest 27 = .ok (.iload_n 2, 1) := by decide +kernel
theorem dX6_playsBest_28 : decode cX6_playsBest 28 = .ok (.ireturn, 1) := by decide +kernel
theorem dX6_command_0 : decode cX6_command 0 = .ok (.iload_n 2, 1) := by decide +kernel
theorem dX6_command_1 : decode cX6_command 1 = .ok (.bipush 100, 2) := by decide +kernel
theorem dX6_command_3 : decode cX6_command 3 = .ok (.idiv, 1) := by decide +kernel
theorem dX6_command_4 : decode cX6_command 4 = .ok (.istore_n 3, 1) := by decide +kernel
theorem dX6_command_5 : decode cX6_command 5 = .ok (.iload_n 2, 1) := by decide +kernel
theorem dX6_command_6 : decode cX6_command 6 = .ok (.bipush 100, 2) := by decide +kernel
theorem dX6_command_8 : decode cX6_command 8 = .ok (.irem, 1) := by decide +kernel
theorem dX6_command_9 : decode cX6_command 9 = .ok (.istore 4, 2) := by decide +kernel
theorem dX6_command_11 : decode cX6_command 11 = .ok (.iload_n 2, 1) := by decide +kernel
theorem dX6_command_12 : decode cX6_command 12 = .ok (.bipush 10, 2) := by decide +kernel
theorem dX6_command_14 : decode cX6_command 14 = .ok (.irem, 1) := by decide +kernel
theorem dX6_command_15 : decode cX6_command 15 = .ok (.istore 5, 2) := by decide +kernel
theorem dX6_command_17 : decode cX6_command 17 = .ok (.iload_n 1, 1) := by decide +kernel
theorem dX6_command_18 : decode cX6_command 18 = .ok (.tableswitch 317 1 9 #[50, 85, 135, 165, 195, 216, 248, 272, 296], 50) := by decide +kernel
theorem dX6_command_68 : decode cX6_command 68 = .ok (.iload_n 3, 1) := by decide +kernel
theorem dX6_command_69 : decode cX6_command 69 = .ok (.i2l, 1) := by decide +kernel
theorem dX6_command_70 : decode cX6_command 70 = .ok (.ldc2_w 221, 3) := by decide +kernel
theorem dX6_command_73 : decode cX6_command 73 = .ok (.ldc2_w 209, 3) := by decide +kernel
theorem dX6_command_76 : decode cX6_command 76 = .ok (.invokestatic 55, 3) := by decide +kernel
theorem dX6_command_79 : decode cX6_command 79 = .ok (.ifCond .eq 22, 3) := by decide +kernel
theorem dX6_command_82 : decode cX6_command 82 = .ok (.aload_n 0, 1) := by decide +kernel
theorem dX6_command_83 : decode cX6_command 83 = .ok (.aload_n 0, 1) := by decide +kernel
theorem dX6_command_84 : decode cX6_command 84 = .ok (.getfield 16, 3) := by decide +kernel
theorem dX6_command_87 : decode cX6_command 87 = .ok (.iload_n 3, 1) := by decide +kernel
theorem dX6_command_88 : decode cX6_command 88 = .ok (.iload 4, 2) := by decide +kernel
theorem dX6_command_90 : decode cX6_command 90 = .ok (.i2l, 1) := by decide +kernel
theorem dX6_command_91 : decode cX6_command 91 = .ok (.invokevirtual 165, 3) := by decide +kernel
theorem dX6_command_94 : decode cX6_command 94 = .ok (.ifCond .le 7, 3) := by decide +kernel
theorem dX6_command_97 : decode cX6_command 97 = .ok (.iconst 1, 1) := by decide +kernel
theorem dX6_command_98 : decode cX6_command 98 = .ok (.goto 4, 3) := by decide +kernel
theorem dX6_command_101 : decode cX6_command 101 = .ok (.iconst 0, 1) := by decide +kernel
theorem dX6_command_102 : decode cX6_command 102 = .ok (.ireturn, 1) := by decide +kernel
theorem dX6_command_103 : decode cX6_command 103 = .ok (.iload_n 3, 1) := by decide +kernel
theorem dX6_command_104 : decode cX6_command 104 = .ok (.iconst 2, 1) := by decide +kernel
theorem dX6_command_105 : decode cX6_command 105 = .ok (.if_icmp .ge 46, 3) := by decide +kernel
theorem dX6_command_108 : decode cX6_command 108 = .ok (.iload 4, 2) := by decide +kernel
theorem dX6_command_110 : decode cX6_command 110 = .ok (.bipush 28, 2) := by decide +kernel
theorem dX6_command_112 : decode cX6_command 112 = .ok (.if_icmp .ge 39, 3) := by decide +kernel
theorem dX6_command_115 : decode cX6_command 115 = .ok (.aload_n 0, 1) := by decide +kernel
theorem dX6_command_116 : decode cX6_command 116 = .ok (.getfield 16, 3) := by decide +kernel
theorem dX6_command_119 : decode cX6_command 119 = .ok (.iconst 1, 1) := by decide +kernel
theorem dX6_command_120 : decode cX6_command 120 = .ok (.iaload, 1) := by decide +kernel
theorem dX6_command_121 : decode cX6_command 121 = .ok (.iconst 1, 1) := by decide +kernel
theorem dX6_command_122 : decode cX6_command 122 = .ok (.if_icmp .ne 29, 3) := by decide +kernel
theorem dX6_command_125 : decode cX6_command 125 = .ok (.aload_n 0, 1) := by decide +kernel
theorem dX6_command_126 : decode cX6_command 126 = .ok (.getfield 16, 3) := by decide +kernel
theorem dX6_command_129 : decode cX6_command 129 = .ok (.iload 4, 2) := by decide +kernel
theorem dX6_command_131 : decode cX6_command 131 = .ok (.iload_n 3, 1) := by decide +kernel
theorem dX6_command_132 : decode cX6_command 132 = .ok (.iconst 1, 1) := by decide +kernel
theorem dX6_command_133 : decode cX6_command 133 = .ok (.if_icmp .ne 7, 3) := by decide +kernel
theorem dX6_command_136 : decode cX6_command 136 = .ok (.iconst 1, 1) := by decide +kernel
theorem dX6_command_137 : decode cX6_command 137 = .ok (.goto 4, 3) := by decide +kernel
theorem dX6_command_140 : decode cX6_command 140 = .ok (.iconst 0, 1) := by decide +kernel
theorem dX6_command_141 : decode cX6_command 141 = .ok (.invokestatic 157, 3) := by decide +kernel
theorem dX6_command_144 : decode cX6_command 144 = .ok (.ifCond .ne 7, 3) := by decide +kernel
theorem dX6_command_147 : decode cX6_command 147 = .ok (.iconst 1, 1) := by decide +kernel
theorem dX6_command_148 : decode cX6_command 148 = .ok (.goto 4, 3) := by decide +kernel
theorem dX6_command_151 : decode cX6_command 151 = .ok (.iconst 0, 1) := by decide +kernel
theorem dX6_command_152 : decode cX6_command 152 = .ok (.ireturn, 1) := by decide +kernel
theorem dX6_command_153 : decode cX6_command 153 = .ok (.iload_n 2, 1) := by decide +kernel
theorem dX6_command_154 : decode cX6_command 154 = .ok (.ifCond .ne 27, 3) := by decide +kernel
theorem dX6_command_157 : decode cX6_command 157 = .ok (.aload_n 0, 1) := by decide +kernel
theorem dX6_command_158 : decode cX6_command 158 = .ok (.getfield 16, 3) := by decide +kernel
theorem dX6_command_161 : decode cX6_command 161 = .ok (.invokestatic 173, 3) := by decide +kernel
theorem dX6_command_164 : decode cX6_command 164 = .ok (.ifCond .eq 17, 3) := by decide +kernel
theorem dX6_command_167 : decode cX6_command 167 = .ok (.aload_n 0, 1) := by decide +kernel
theorem dX6_command_168 : decode cX6_command 168 = .ok (.getfield 16, 3) := by decide +kernel
theorem dX6_command_171 : decode cX6_command 171 = .ok (.invokestatic 176, 3) := by decide +kernel
theorem dX6_command_174 : decode cX6_command 174 = .ok (.ifCond .lt 7, 3) := by decide +kernel
theorem dX6_command_177 : decode cX6_command 177 = .ok (.iconst 1, 1) := by decide +kernel
theorem dX6_command_178 : decode cX6_command 178 = .ok (.goto 4, 3) := by decide +kernel
theorem dX6_command_181 : decode cX6_command 181 = .ok (.iconst 0, 1) := by decide +kernel
theorem dX6_command_182 : decode cX6_command 182 = .ok (.ireturn, 1) := by decide +kernel
theorem dX6_command_183 : decode cX6_command 183 = .ok (.iload_n 2, 1) := by decide +kernel
theorem dX6_command_184 : decode cX6_command 184 = .ok (.ifCond .ne 27, 3) := by decide +kernel
theorem dX6_command_187 : decode cX6_command 187 = .ok (.aload_n 0, 1) := by decide +kernel
theorem dX6_command_188 : decode cX6_command 188 = .ok (.getfield 16, 3) := by decide +kernel
theorem dX6_command_191 : decode cX6_command 191 = .ok (.invokestatic 179, 3) := by decide +kernel
theorem dX6_command_194 : decode cX6_command 194 = .ok (.ifCond .eq 17, 3) := by decide +kernel
theorem dX6_command_197 : decode cX6_command 197 = .ok (.aload_n 0, 1) := by decide +kernel
theorem dX6_command_198 : decode cX6_command 198 = .ok (.getfield 16, 3) := by decide +kernel
theorem dX6_command_201 : decode cX6_command 201 = .ok (.invokestatic 182, 3) := by decide +kernel
theorem dX6_command_204 : decode cX6_command 204 = .ok (.ifCond .le 7, 3) := by decide +kernel
theorem dX6_command_207 : decode cX6_command 207 = .ok (.iconst 1, 1) := by decide +kernel
theorem dX6_command_208 : decode cX6_command 208 = .ok (.goto 4, 3) := by decide +kernel
theorem dX6_command_211 : decode cX6_command 211 = .ok (.iconst 0, 1) := by decide +kernel
theorem dX6_command_212 : decode cX6_command 212 = .ok (.ireturn, 1) := by decide +kernel
theorem dX6_command_213 : decode cX6_command 213 = .ok (.iload_n 2, 1) := by decide +kernel
theorem dX6_command_214 : decode cX6_command 214 = .ok (.bipush 10, 2) := by decide +kernel
theorem dX6_command_216 : decode cX6_command 216 = .ok (.if_icmp .ge 16, 3) := by decide +kernel
theorem dX6_command_219 : decode cX6_command 219 = .ok (.aload_n 0, 1) := by decide +kernel
theorem dX6_command_220 : decode cX6_command 220 = .ok (.iload 5, 2) := by decide +kernel
theorem dX6_command_222 : decode cX6_command 222 = .ok (.invokevirtual 241, 3) := by decide +kernel
theorem dX6_command_225 : decode cX6_command 225 = .ok (.ifCond .eq 7, 3) := by decide +kernel
theorem dX6_command_228 : decode cX6_command 228 = .ok (.iconst 1, 1) := by decide +kernel
theorem dX6_command_229 : decode cX6_command 229 = .ok (.goto 4, 3) := by decide +kernel
theorem dX6_command_232 : decode cX6_command 232 = .ok (.iconst 0, 1) := by decide +kernel
theorem dX6_command_233 : decode cX6_command 233 = .ok (.ireturn, 1) := by decide +kernel
theorem dX6_command_234 : decode cX6_command 234 = .ok (.iload_n 2, 1) := by decide +kernel
theorem dX6_command_235 : decode cX6_command 235 = .ok (.iconst 4, 1) := by decide +kernel
theorem dX6_command_236 : decode cX6_command 236 = .ok (.if_icmp .ge 28, 3) := by decide +kernel
theorem dX6_command_239 : decode cX6_command 239 = .ok (.aload_n 0, 1) := by decide +kernel
theorem dX6_command_240 : decode cX6_command 240 = .ok (.getfield 16, 3) := by decide +kernel
theorem dX6_command_243 : decode cX6_command 243 = .ok (.iconst 1, 1) := by decide +kernel
theorem dX6_command_244 : decode cX6_command 244 = .ok (.iaload, 1) := by decide +kernel
theorem dX6_command_245 : decode cX6_command 245 = .ok (.iconst 1, 1) := by decide +kernel
theorem dX6_command_246 : decode cX6_command 246 = .ok (.if_icmp .ne 18, 3) := by decide +kernel
theorem dX6_command_249 : decode cX6_command 249 = .ok (.aload_n 0, 1) := by decide +kernel
theorem dX6_command_250 : decode cX6_command 250 = .ok (.getfield 16, 3) := by decide +kernel
theorem dX6_command_253 : decode cX6_command 253 = .ok (.iconst 3, 1) := by decide +kernel
theorem dX6_command_254 : decode cX6_command 254 = .ok (.iaload, 1) := by decide +kernel
theorem dX6_command_255 : decode cX6_command 255 = .ok (.iload 5, 2) := by decide +kernel
theorem dX6_command_257 : decode cX6_command 257 = .ok (.if_icmp .ne 7, 3) := by decide +kernel
theorem dX6_command_260 : decode cX6_command 260 = .ok (.iconst 1, 1) := by decide +kernel
theorem dX6_command_261 : decode cX6_command 261 = .ok (.goto 4, 3) := by decide +kernel
theorem dX6_command_264 : decode cX6_command 264 = .ok (.iconst 0, 1) := by decide +kernel
theorem dX6_command_265 : decode cX6_command 265 = .ok (.ireturn, 1) := by decide +kernel
theorem dX6_command_266 : decode cX6_command 266 = .ok (.iload_n 3, 1) := by decide +kernel
theorem dX6_command_267 : decode cX6_command 267 = .ok (.iconst 4, 1) := by decide +kernel
theorem dX6_command_268 : decode cX6_command 268 = .ok (.if_icmp .ge 20, 3) := by decide +kernel
theorem dX6_command_271 : decode cX6_command 271 = .ok (.aload_n 0, 1) := by decide +kernel
theorem dX6_command_272 : decode cX6_command 272 = .ok (.getfield 16, 3) := by decide +kernel
theorem dX6_command_275 : decode cX6_command 275 = .ok (.iload_n 3, 1) := by decide +kernel
theorem dX6_command_276 : decode cX6_command 276 = .ok (.invokestatic 119, 3) := by decide +kernel
theorem dX6_command_279 : decode cX6_command 279 = .ok (.iload 4, 2) := by decide +kernel
theorem dX6_command_281 : decode cX6_command 281 = .ok (.if_icmp .gt 7, 3) := by decide +kernel
theorem dX6_command_284 : decode cX6_command 284 = .ok (.iconst 1, 1) := by decide +kernel
theorem dX6_command_285 : decode cX6_command 285 = .ok (.goto 4, 3) := by decide +kernel
theorem dX6_command_288 : decode cX6_command 288 = .ok (.iconst 0, 1) := by decide +kernel
theorem dX6_command_289 : decode cX6_command 289 = .ok (.ireturn, 1) := by decide +kernel
theorem dX6_command_290 : decode cX6_command 290 = .ok (.iload_n 2, 1) := by decide +kernel
theorem dX6_command_291 : decode cX6_command 291 = .ok (.bipush 10, 2) := by decide +kernel
theorem dX6_command_293 : decode cX6_command 293 = .ok (.if_icmp .ge 19, 3) := by decide +kernel
theorem dX6_command_296 : decode cX6_command 296 = .ok (.aload_n 0, 1) := by decide +kernel
theorem dX6_command_297 : decode cX6_command 297 = .ok (.getfield 16, 3) := by decide +kernel
theorem dX6_command_300 : decode cX6_command 300 = .ok (.bipush 6, 2) := by decide +kernel
theorem dX6_command_302 : decode cX6_command 302 = .ok (.iaload, 1) := by decide +kernel
theorem dX6_command_303 : decode cX6_command 303 = .ok (.iload 5, 2) := by decide +kernel
theorem dX6_command_305 : decode cX6_command 305 = .ok (.if_icmp .ne 7, 3) := by decide +kernel
theorem dX6_command_308 : decode cX6_command 308 = .ok (.iconst 1, 1) := by decide +kernel
theorem dX6_command_309 : decode cX6_command 309 = .ok (.goto 4, 3) := by decide +kernel
theorem dX6_command_312 : decode cX6_command 312 = .ok (.iconst 0, 1) := by decide +kernel
theorem dX6_command_313 : decode cX6_command 313 = .ok (.ireturn, 1) := by decide +kernel
theorem dX6_command_314 : decode cX6_command 314 = .ok (.iload_n 3, 1) := by decide +kernel
theorem dX6_command_315 : decode cX6_command 315 = .ok (.ifCond .ne 18, 3) := by decide +kernel
theorem dX6_command_318 : decode cX6_command 318 = .ok (.aload_n 0, 1) := by decide +kernel
theorem dX6_command_319 : decode cX6_command 319 = .ok (.getfield 16, 3) := by decide +kernel
theorem dX6_command_322 : decode cX6_command 322 = .ok (.iconst 5, 1) := by decide +kernel
theorem dX6_command_323 : decode cX6_command 323 = .ok (.iaload, 1) := by decide +kernel
theorem dX6_command_324 : decode cX6_command 324 = .ok (.iload 4, 2) := by decide +kernel
theorem dX6_command_326 : decode cX6_command 326 = .ok (.if_icmp .lt 7, 3) := by decide +kernel
theorem dX6_command_329 : decode cX6_command 329 = .ok (.iconst 1, 1) := by decide +kernel
theorem dX6_command_330 : decode cX6_command 330 = .ok (.goto 4, 3) := by decide +kernel
theorem dX6_command_333 : decode cX6_command 333 = .ok (.iconst 0, 1) := by decide +kernel
theorem dX6_command_334 : decode cX6_command 334 = .ok (.ireturn, 1) := by decide +kernel
theorem dX6_command_335 : decode cX6_command 335 = .ok (.iconst 0, 1) := by decide +kernel
theorem dX6_command_336 : decode cX6_command 336 = .ok (.ireturn, 1) := by decide +kernel
theorem dX6_runScript_0 : decode cX6_runScript 0 = .ok (.lconst 1, 1) := by decide +kernel
theorem dX6_runScript_1 : decode cX6_runScript 1 = .ok (.lstore 4, 2) := by decide +kernel
theorem dX6_runScript_3 : decode cX6_runScript 3 = .ok (.iconst 0, 1) := by decide +kernel
theorem dX6_runScript_4 : decode cX6_runScript 4 = .ok (.istore 6, 2) := by decide +kernel
theorem dX6_runScript_6 : decode cX6_runScript 6 = .ok (.iload 6, 2) := by decide +kernel
theorem dX6_runScript_8 : decode cX6_runScript 8 = .ok (.iload_n 1, 1) := by decide +kernel
theorem dX6_runScript_9 : decode cX6_runScript 9 = .ok (.if_icmp .ge 23, 3) := by decide +kernel
theorem dX6_runScript_12 : decode cX6_runScript 12 = .ok (.iload 6, 2) := by decide +kernel
theorem dX6_runScript_14 : decode cX6_runScript 14 = .ok (.iconst 4, 1) := by decide +kernel
theorem dX6_runScript_15 : decode cX6_runScript 15 = .ok (.if_icmp .ge 17, 3) := by decide +kernel
theorem dX6_runScript_18 : decode cX6_runScript 18 = .ok (.lload 4, 2) := by decide +kernel
theorem dX6_runScript_20 : decode cX6_runScript 20 = .ok (.ldc2_w 244, 3) := by decide +kernel
theorem dX6_runScript_23 : decode cX6_runScript 23 = .ok (.lmul, 1) := by decide +kernel
theorem dX6_runScript_24 : decode cX6_runScript 24 = .ok (.lstore 4, 2) := by decide +kernel
theorem dX6_runScript_26 : decode cX6_runScript 26 = .ok (.iinc 6 1, 3) := by decide +kernel
theorem dX6_runScript_29 : decode cX6_runScript 29 = .ok (.goto (-23), 3) := by decide +kernel
theorem dX6_runScript_32 : decode cX6_runScript 32 = .ok (.aload_n 0, 1) := by decide +kernel
theorem dX6_runScript_33 : decode cX6_runScript 33 = .ok (.iload_n 1, 1) := by decide +kernel
theorem dX6_runScript_34 : decode cX6_runScript 34 = .ok (.i2l, 1) := by decide +kernel
theorem dX6_runScript_35 : decode cX6_runScript 35 = .ok (.lconst 1, 1) := by decide +kernel
theorem dX6_runScript_36 : decode cX6_runScript 36 = .ok (.ldc2_w 209, 3) := by decide +kernel
theorem dX6_runScript_39 : decode cX6_runScript 39 = .ok (.invokestatic 55, 3) := by decide +kernel
theorem dX6_runScript_42 : decode cX6_runScript 42 = .ok (.ifCond .eq 19, 3) := by decide +kernel
theorem dX6_runScript_45 : decode cX6_runScript 45 = .ok (.lload_n 2, 1) := by decide +kernel
theorem dX6_runScript_46 : decode cX6_runScript 46 = .ok (.lconst 0, 1) := by decide +kernel
theorem dX6_runScript_47 : decode cX6_runScript 47 = .ok (.lload 4, 2) := by decide +kernel
theorem dX6_runScript_49 : decode cX6_runScript 49 = .ok (.lconst 1, 1) := by decide +kernel
theorem dX6_runScript_50 : decode cX6_runScript 50 = .ok (.lsub, 1) := by decide +kernel
theorem dX6_runScript_51 : decode cX6_runScript 51 = .ok (.invokestatic 55, 3) := by decide +kernel
theorem dX6_runScript_54 : decode cX6_runScript 54 = .ok (.ifCond .eq 7, 3) := by decide +kernel
theorem dX6_runScript_57 : decode cX6_runScript 57 = .ok (.iconst 0, 1) := by decide +kernel
theorem dX6_runScript_58 : decode cX6_runScript 58 = .ok (.goto 4, 3) := by decide +kernel
theorem dX6_runScript_61 : decode cX6_runScript 61 = .ok (.iconst 1, 1) := by decide +kernel
theorem dX6_runScript_62 : decode cX6_runScript 62 = .ok (.invokevirtual 141, 3) := by decide +kernel
theorem dX6_runScript_65 : decode cX6_runScript 65 = .ok (.ifCond .eq 5, 3) := by decide +kernel
theorem dX6_runScript_68 : decode cX6_runScript 68 = .ok (.iconst 0, 1) := by decide +kernel
theorem dX6_runScript_69 : decode cX6_runScript 69 = .ok (.ireturn, 1) := by decide +kernel
theorem dX6_runScript_70 : decode cX6_runScript 70 = .ok (.aload_n 0, 1) := by decide +kernel
theorem dX6_runScript_71 : decode cX6_runScript 71 = .ok (.getfield 13, 3) := by decide +kernel
theorem dX6_runScript_74 : decode cX6_runScript 74 = .ok (.iconst 0, 1) := by decide +kernel
theorem dX6_runScript_75 : decode cX6_runScript 75 = .ok (.aload_n 0, 1) := by decide +kernel
theorem dX6_runScript_76 : decode cX6_runScript 76 = .ok (.getfield 16, 3) := by decide +kernel
theorem dX6_runScript_79 : decode cX6_runScript 79 = .ok (.iconst 0, 1) := by decide +kernel
theorem dX6_runScript_80 : decode cX6_runScript 80 = .ok (.invokestatic 194, 3) := by decide +kernel
theorem dX6_runScript_83 : decode cX6_runScript 83 = .ok (.iconst 0, 1) := by decide +kernel
theorem dX6_runScript_84 : decode cX6_runScript 84 = .ok (.istore 6, 2) := by decide +kernel
theorem dX6_runScript_86 : decode cX6_runScript 86 = .ok (.iload 6, 2) := by decide +kernel
theorem dX6_runScript_88 : decode cX6_runScript 88 = .ok (.iload_n 1, 1) := by decide +kernel
theorem dX6_runScript_89 : decode cX6_runScript 89 = .ok (.if_icmp .ge 50, 3) := by decide +kernel
theorem dX6_runScript_92 : decode cX6_runScript 92 = .ok (.lload 4, 2) := by decide +kernel
theorem dX6_runScript_94 : decode cX6_runScript 94 = .ok (.ldc2_w 244, 3) := by decide +kernel
theorem dX6_runScript_97 : decode cX6_runScript 97 = .ok (.ldiv, 1) := by decide +kernel
theorem dX6_runScript_98 : decode cX6_runScript 98 = .ok (.lstore 4, 2) := by decide +kernel
theorem dX6_runScript_100 : decode cX6_runScript 100 = .ok (.lload_n 2, 1) := by decide +kernel
theorem dX6_runScript_101 : decode cX6_runScript 101 = .ok (.lload 4, 2) := by decide +kernel
theorem dX6_runScript_103 : decode cX6_runScript 103 = .ok (.ldiv, 1) := by decide +kernel
theorem dX6_runScript_104 : decode cX6_runScript 104 = .ok (.ldc2_w 244, 3) := by decide +kernel
theorem dX6_runScript_107 : decode cX6_runScript 107 = .ok (.lrem, 1) := by decide +kernel
theorem dX6_runScript_108 : decode cX6_runScript 108 = .ok (.l2i, 1) := by decide +kernel
theorem dX6_runScript_109 : decode cX6_runScript 109 = .ok (.istore 7, 2) := by decide +kernel
theorem dX6_runScript_111 : decode cX6_runScript 111 = .ok (.aload_n 0, 1) := by decide +kernel
theorem dX6_runScript_112 : decode cX6_runScript 112 = .ok (.iload 7, 2) := by decide +kernel
theorem dX6_runScript_114 : decode cX6_runScript 114 = .ok (.sipush 1000, 3) := by decide +kernel
theorem dX6_runScript_117 : decode cX6_runScript 117 = .ok (.idiv, 1) := by decide +kernel
theorem dX6_runScript_118 : decode cX6_runScript 118 = .ok (.iload 7, 2) := by decide +kernel
theorem dX6_runScript_120 : decode cX6_runScript 120 = .ok (.sipush 1000, 3) := by decide +kernel
theorem dX6_runScript_123 : decode cX6_runScript 123 = .ok (.irem, 1) := by decide +kernel
theorem dX6_runScript_124 : decode cX6_runScript 124 = .ok (.invokevirtual 246, 3) := by decide +kernel
theorem dX6_runScript_127 : decode cX6_runScript 127 = .ok (.ifCond .ne 6, 3) := by decide +kernel
theorem dX6_runScript_130 : decode cX6_runScript 130 = .ok (.iload 6, 2) := by decide +kernel
theorem dX6_runScript_132 : decode cX6_runScript 132 = .ok (.ireturn, 1) := by decide +kernel
theorem dX6_runScript_133 : decode cX6_runScript 133 = .ok (.iinc 6 1, 3) := by decide +kernel
theorem dX6_runScript_136 : decode cX6_runScript 136 = .ok (.goto (-50), 3) := by decide +kernel
theorem dX6_runScript_139 : decode cX6_runScript 139 = .ok (.iconst (-1), 1) := by decide +kernel
theorem dX6_runScript_140 : decode cX6_runScript 140 = .ok (.ireturn, 1) := by decide +kernel
theorem dX6_turnOf_0 : decode cX6_turnOf 0 = .ok (.iload_n 2, 1) := by decide +kernel
theorem dX6_turnOf_1 : decode cX6_turnOf 1 = .ok (.bipush 16, 2) := by decide +kernel
theorem dX6_turnOf_3 : decode cX6_turnOf 3 = .ok (.idiv, 1) := by decide +kernel
theorem dX6_turnOf_4 : decode cX6_turnOf 4 = .ok (.istore_n 3, 1) := by decide +kernel
theorem dX6_turnOf_5 : decode cX6_turnOf 5 = .ok (.aload_n 1, 1) := by decide +kernel
theorem dX6_turnOf_6 : decode cX6_turnOf 6 = .ok (.iconst 1, 1) := by decide +kernel
theorem dX6_turnOf_7 : decode cX6_turnOf 7 = .ok (.iaload, 1) := by decide +kernel
theorem dX6_turnOf_8 : decode cX6_turnOf 8 = .ok (.iconst 1, 1) := by decide +kernel
theorem dX6_turnOf_9 : decode cX6_turnOf 9 = .ok (.if_icmp .eq 19, 3) := by decide +kernel
theorem dX6_turnOf_12 : decode cX6_turnOf 12 = .ok (.aload_n 0, 1) := by decide +kernel
theorem dX6_turnOf_13 : decode cX6_turnOf 13 = .ok (.aload_n 1, 1) := by decide +kernel
theorem dX6_turnOf_14 : decode cX6_turnOf 14 = .ok (.iconst 2, 1) := by decide +kernel
theorem dX6_turnOf_15 : decode cX6_turnOf 15 = .ok (.iload_n 3, 1) := by decide +kernel
theorem dX6_turnOf_16 : decode cX6_turnOf 16 = .ok (.iconst 3, 1) := by decide +kernel
theorem dX6_turnOf_17 : decode cX6_turnOf 17 = .ok (.irem, 1) := by decide +kernel
theorem dX6_turnOf_18 : decode cX6_turnOf 18 = .ok (.iadd, 1) := by decide +kernel
theorem dX6_turnOf_19 : decode cX6_turnOf 19 = .ok (.iload_n 3, 1) := by decide +kernel
theorem dX6_turnOf_20 : decode cX6_turnOf 20 = .ok (.i2l, 1) := by decide +kernel
theorem dX6_turnOf_21 : decode cX6_turnOf 21 = .ok (.invokevirtual 165, 3) := by decide +kernel
theorem dX6_turnOf_24 : decode cX6_turnOf 24 = .ok (.pop, 1) := by decide +kernel
theorem dX6_turnOf_25 : decode cX6_turnOf 25 = .ok (.goto 64, 3) := by decide +kernel
theorem dX6_turnOf_28 : decode cX6_turnOf 28 = .ok (.aload_n 1, 1) := by decide +kernel
theorem dX6_turnOf_29 : decode cX6_turnOf 29 = .ok (.invokestatic 249, 3) := by decide +kernel
theorem dX6_turnOf_32 : decode cX6_turnOf 32 = .ok (.istore 4, 2) := by decide +kernel
theorem dX6_turnOf_34 : decode cX6_turnOf 34 = .ok (.iload 4, 2) := by decide +kernel
theorem dX6_turnOf_36 : decode cX6_turnOf 36 = .ok (.ifCond .le 33, 3) := by decide +kernel
theorem dX6_turnOf_39 : decode cX6_turnOf 39 = .ok (.aload_n 1, 1) := by decide +kernel
theorem dX6_turnOf_40 : decode cX6_turnOf 40 = .ok (.aload_n 1, 1) := by decide +kernel
theorem dX6_turnOf_41 : decode cX6_turnOf 41 = .ok (.iload_n 2, 1) := by decide +kernel
theorem dX6_turnOf_42 : decode cX6_turnOf 42 = .ok (.bipush 16, 2) := by decide +kernel
theorem dX6_turnOf_44 : decode cX6_turnOf 44 = .ok (.irem, 1) := by decide +kernel
theorem dX6_turnOf_45 : decode cX6_turnOf 45 = .ok (.iload 4, 2) := by decide +kernel
theorem dX6_turnOf_47 : decode cX6_turnOf 47 = .ok (.irem, 1) := by decide +kernel
theorem dX6_turnOf_48 : decode cX6_turnOf 48 = .ok (.invokestatic 252, 3) := by decide +kernel
theorem dX6_turnOf_51 : decode cX6_turnOf 51 = .ok (.iload_n 3, 1) := by decide +kernel
theorem dX6_turnOf_52 : decode cX6_turnOf 52 = .ok (.iconst 2, 1) := by decide +kernel
theorem dX6_turnOf_53 : decode cX6_turnOf 53 = .ok (.irem, 1) := by decide +kernel
theorem dX6_turnOf_54 : decode cX6_turnOf 54 = .ok (.iconst 1, 1) := by decide +kernel
theorem dX6_turnOf_55 : decode cX6_turnOf 55 = .ok (.if_icmp .ne 7, 3) := by decide +kernel
theorem dX6_turnOf_58 : decode cX6_turnOf 58 = .ok (.iconst 1, 1) := by decide +kernel
theorem dX6_turnOf_59 : decode cX6_turnOf 59 = .ok (.goto 4, 3) := by decide +kernel
theorem dX6_turnOf_62 : decode cX6_turnOf 62 = .ok (.iconst 0, 1) := by decide +kernel
theorem dX6_turnOf_63 : decode cX6_turnOf 63 = .ok (.invokestatic 129, 3) := by decide +kernel
theorem dX6_turnOf_66 : decode cX6_turnOf 66 = .ok (.goto 23, 3) := by decide +kernel
theorem dX6_turnOf_69 : decode cX6_turnOf 69 = .ok (.aload_n 1, 1) := by decide +kernel
theorem dX6_turnOf_70 : decode cX6_turnOf 70 = .ok (.invokestatic 173, 3) := by decide +kernel
theorem dX6_turnOf_73 : decode cX6_turnOf 73 = .ok (.ifCond .eq 11, 3) := by decide +kernel
theorem dX6_turnOf_76 : decode cX6_turnOf 76 = .ok (.aload_n 1, 1) := by decide +kernel
theorem dX6_turnOf_77 : decode cX6_turnOf 77 = .ok (.invokestatic 176, 3) := by decide +kernel
theorem dX6_turnOf_80 : decode cX6_turnOf 80 = .ok (.pop, 1) := by decide +kernel
theorem dX6_turnOf_81 : decode cX6_turnOf 81 = .ok (.goto 8, 3) := by decide +kernel
theorem dX6_turnOf_84 : decode cX6_turnOf 84 = .ok (.aload_n 1, 1) := by decide +kernel
theorem dX6_turnOf_85 : decode cX6_turnOf 85 = .ok (.invokestatic 182, 3) := by decide +kernel
theorem dX6_turnOf_88 : decode cX6_turnOf 88 = .ok (.pop, 1) := by decide +kernel
theorem dX6_turnOf_89 : decode cX6_turnOf 89 = .ok (.return_, 1) := by decide +kernel
theorem dX6_simulate_0 : decode cX6_simulate 0 = .ok (.aload_n 0, 1) := by decide +kernel
theorem dX6_simulate_1 : decode cX6_simulate 1 = .ok (.iload_n 3, 1) := by decide +kernel
theorem dX6_simulate_2 : decode cX6_simulate 2 = .ok (.i2l, 1) := by decide +kernel
theorem dX6_simulate_3 : decode cX6_simulate 3 = .ok (.lconst 1, 1) := by decide +kernel
theorem dX6_simulate_4 : decode cX6_simulate 4 = .ok (.ldc2_w 255, 3) := by decide +kernel
theorem dX6_simulate_7 : decode cX6_simulate 7 = .ok (.invokestatic 55, 3) := by decide +kernel
theorem dX6_simulate_10 : decode cX6_simulate 10 = .ok (.ifCond .eq 7, 3) := by decide +kernel
theorem dX6_simulate_13 : decode cX6_simulate 13 = .ok (.iconst 0, 1) := by decide +kernel
theorem dX6_simulate_14 : decode cX6_simulate 14 = .ok (.goto 4, 3) := by decide +kernel
theorem dX6_simulate_17 : decode cX6_simulate 17 = .ok (.iconst 1, 1) := by decide +kernel
theorem dX6_simulate_18 : decode cX6_simulate 18 = .ok (.invokevirtual 141, 3) := by decide +kernel
theorem dX6_simulate_21 : decode cX6_simulate 21 = .ok (.ifCond .eq 5, 3) := by decide +kernel
theorem dX6_simulate_24 : decode cX6_simulate 24 = .ok (.iconst 0, 1) := by decide +kernel
theorem dX6_simulate_25 : decode cX6_simulate 25 = .ok (.ireturn, 1) := by decide +kernel
theorem dX6_simulate_26 : decode cX6_simulate 26 = .ok (.aload_n 0, 1) := by decide +kernel
theorem dX6_simulate_27 : decode cX6_simulate 27 = .ok (.getfield 13, 3) := by decide +kernel
theorem dX6_simulate_30 : decode cX6_simulate 30 = .ok (.iconst 0, 1) := by decide +kernel
theorem dX6_simulate_31 : decode cX6_simulate 31 = .ok (.aload_n 0, 1) := by decide +kernel
theorem dX6_simulate_32 : decode cX6_simulate 32 = .ok (.getfield 16, 3) := by decide +kernel
theorem dX6_simulate_35 : decode cX6_simulate 35 = .ok (.iconst 0, 1) := by decide +kernel
theorem dX6_simulate_36 : decode cX6_simulate 36 = .ok (.invokestatic 194, 3) := by decide +kernel
theorem dX6_simulate_39 : decode cX6_simulate 39 = .ok (.lload_n 1, 1) := by decide +kernel
theorem dX6_simulate_40 : decode cX6_simulate 40 = .ok (.lstore 4, 2) := by decide +kernel
theorem dX6_simulate_42 : decode cX6_simulate 42 = .ok (.iconst 0, 1) := by decide +kernel
theorem dX6_simulate_43 : decode cX6_simulate 43 = .ok (.istore 6, 2) := by decide +kernel
theorem dX6_simulate_45 : decode cX6_simulate 45 = .ok (.iload 6, 2) := by decide +kernel
theorem dX6_simulate_47 : decode cX6_simulate 47 = .ok (.iload_n 3, 1) := by decide +kernel
theorem dX6_simulate_48 : decode cX6_simulate 48 = .ok (.if_icmp .ge 35, 3) := by decide +kernel
theorem dX6_simulate_51 : decode cX6_simulate 51 = .ok (.lload 4, 2) := by decide +kernel
theorem dX6_simulate_53 : decode cX6_simulate 53 = .ok (.ldc2_w 105, 3) := by decide +kernel
theorem dX6_simulate_56 : decode cX6_simulate 56 = .ok (.lmul, 1) := by decide +kernel
theorem dX6_simulate_57 : decode cX6_simulate 57 = .ok (.ldc2_w 107, 3) := by decide +kernel
theorem dX6_simulate_60 : decode cX6_simulate 60 = .ok (.ladd, 1) := by decide +kernel
theorem dX6_simulate_61 : decode cX6_simulate 61 = .ok (.lstore 4, 2) := by decide +kernel
theorem dX6_simulate_63 : decode cX6_simulate 63 = .ok (.aload_n 0, 1) := by decide +kernel
theorem dX6_simulate_64 : decode cX6_simulate 64 = .ok (.aload_n 0, 1) := by decide +kernel
theorem dX6_simulate_65 : decode cX6_simulate 65 = .ok (.getfield 16, 3) := by decide +kernel
theorem dX6_simulate_68 : decode cX6_simulate 68 = .ok (.lload 4, 2) := by decide +kernel
theorem dX6_simulate_70 : decode cX6_simulate 70 = .ok (.bipush 33, 2) := by decide +kernel
theorem dX6_simulate_72 : decode cX6_simulate 72 = .ok (.lushr, 1) := by decide +kernel
theorem dX6_simulate_73 : decode cX6_simulate 73 = .ok (.l2i, 1) := by decide +kernel
theorem dX6_simulate_74 : decode cX6_simulate 74 = .ok (.invokevirtual 257, 3) := by decide +kernel
theorem dX6_simulate_77 : decode cX6_simulate 77 = .ok (.iinc 6 1, 3) := by decide +kernel
theorem dX6_simulate_80 : decode cX6_simulate 80 = .ok (.goto (-35), 3) := by decide +kernel
theorem dX6_simulate_83 : decode cX6_simulate 83 = .ok (.sipush 10000, 3) := by decide +kernel
theorem dX6_simulate_86 : decode cX6_simulate 86 = .ok (.aload_n 0, 1) := by decide +kernel
theorem dX6_simulate_87 : decode cX6_simulate 87 = .ok (.getfield 16, 3) := by decide +kernel
theorem dX6_simulate_90 : decode cX6_simulate 90 = .ok (.iconst 0, 1) := by decide +kernel
theorem dX6_simulate_91 : decode cX6_simulate 91 = .ok (.iaload, 1) := by decide +kernel
theorem dX6_simulate_92 : decode cX6_simulate 92 = .ok (.aload_n 0, 1) := by decide +kernel
theorem dX6_simulate_93 : decode cX6_simulate 93 = .ok (.getfield 13, 3) := by decide +kernel
theorem dX6_simulate_96 : decode cX6_simulate 96 = .ok (.iconst 0, 1) := by decide +kernel
theorem dX6_simulate_97 : decode cX6_simulate 97 = .ok (.iaload, 1) := by decide +kernel
theorem dX6_simulate_98 : decode cX6_simulate 98 = .ok (.isub, 1) := by decide +kernel
theorem dX6_simulate_99 : decode cX6_simulate 99 = .ok (.imul, 1) := by decide +kernel
theorem dX6_simulate_100 : decode cX6_simulate 100 = .ok (.bipush 100, 2) := by decide +kernel
theorem dX6_simulate_102 : decode cX6_simulate 102 = .ok (.aload_n 0, 1) := by decide +kernel
theorem dX6_simulate_103 : decode cX6_simulate 103 = .ok (.getfield 16, 3) := by decide +kernel
theorem dX6_simulate_106 : decode cX6_simulate 106 = .ok (.iconst 5, 1) := by decide +kernel
theorem dX6_simulate_107 : decode cX6_simulate 107 = .ok (.iaload, 1) := by decide +kernel
theorem dX6_simulate_108 : decode cX6_simulate 108 = .ok (.imul, 1) := by decide +kernel
theorem dX6_simulate_109 : decode cX6_simulate 109 = .ok (.iadd, 1) := by decide +kernel
theorem dX6_simulate_110 : decode cX6_simulate 110 = .ok (.aload_n 0, 1) := by decide +kernel
theorem dX6_simulate_111 : decode cX6_simulate 111 = .ok (.getfield 16, 3) := by decide +kernel
theorem dX6_simulate_114 : decode cX6_simulate 114 = .ok (.iconst 4, 1) := by decide +kernel
theorem dX6_simulate_115 : decode cX6_simulate 115 = .ok (.iaload, 1) := by decide +kernel
theorem dX6_simulate_116 : decode cX6_simulate 116 = .ok (.iadd, 1) := by decide +kernel
theorem dX6_simulate_117 : decode cX6_simulate 117 = .ok (.ireturn, 1) := by decide +kernel
theorem dX6_save_0 : decode cX6_save 0 = .ok (.aload_n 0, 1) := by decide +kernel
theorem dX6_save_1 : decode cX6_save 1 = .ok (.iload_n 1, 1) := by decide +kernel
theorem dX6_save_2 : decode cX6_save 2 = .ok (.i2l, 1) := by decide +kernel
theorem dX6_save_3 : decode cX6_save 3 = .ok (.lconst 0, 1) := by decide +kernel
theorem dX6_save_4 : decode cX6_save 4 = .ok (.lconst 1, 1) := by decide +kernel
theorem dX6_save_5 : decode cX6_save 5 = .ok (.invokestatic 55, 3) := by decide +kernel
theorem dX6_save_8 : decode cX6_save 8 = .ok (.ifCond .eq 7, 3) := by decide +kernel
theorem dX6_save_11 : decode cX6_save 11 = .ok (.iconst 0, 1) := by decide +kernel
theorem dX6_save_12 : decode cX6_save 12 = .ok (.goto 4, 3) := by decide +kernel
theorem dX6_save_15 : decode cX6_save 15 = .ok (.iconst 1, 1) := by decide +kernel
theorem dX6_save_16 : decode cX6_save 16 = .ok (.invokevirtual 141, 3) := by decide +kernel
theorem dX6_save_19 : decode cX6_save 19 = .ok (.ifCond .eq 5, 3) := by decide +kernel
theorem dX6_save_22 : decode cX6_save 22 = .ok (.iconst 0, 1) := by decide +kernel
theorem dX6_save_23 : decode cX6_save 23 = .ok (.ireturn, 1) := by decide +kernel
theorem dX6_save_24 : decode cX6_save 24 = .ok (.aload_n 0, 1) := by decide +kernel
theorem dX6_save_25 : decode cX6_save 25 = .ok (.getfield 13, 3) := by decide +kernel
theorem dX6_save_28 : decode cX6_save 28 = .ok (.iconst 0, 1) := by decide +kernel
theorem dX6_save_29 : decode cX6_save 29 = .ok (.aload_n 0, 1) := by decide +kernel
theorem dX6_save_30 : decode cX6_save 30 = .ok (.getfield 22, 3) := by decide +kernel
theorem dX6_save_33 : decode cX6_save 33 = .ok (.sipush 217, 3) := by decide +kernel
theorem dX6_save_36 : decode cX6_save 36 = .ok (.iload_n 1, 1) := by decide +kernel
theorem dX6_save_37 : decode cX6_save 37 = .ok (.imul, 1) := by decide +kernel
theorem dX6_save_38 : decode cX6_save 38 = .ok (.invokestatic 194, 3) := by decide +kernel
theorem dX6_save_41 : decode cX6_save 41 = .ok (.aload_n 0, 1) := by decide +kernel
theorem dX6_save_42 : decode cX6_save 42 = .ok (.getfield 25, 3) := by decide +kernel
theorem dX6_save_45 : decode cX6_save 45 = .ok (.iload_n 1, 1) := by decide +kernel
theorem dX6_save_46 : decode cX6_save 46 = .ok (.iconst 1, 1) := by decide +kernel
theorem dX6_save_47 : decode cX6_save 47 = .ok (.bastore, 1) := by decide +kernel
theorem dX6_save_48 : decode cX6_save 48 = .ok (.aload_n 0, 1) := by decide +kernel
theorem dX6_save_49 : decode cX6_save 49 = .ok (.getfield 13, 3) := by decide +kernel
theorem dX6_save_52 : decode cX6_save 52 = .ok (.iconst 0, 1) := by decide +kernel
theorem dX6_save_53 : decode cX6_save 53 = .ok (.iaload, 1) := by decide +kernel
theorem dX6_save_54 : decode cX6_save 54 = .ok (.ireturn, 1) := by decide +kernel
theorem dX6_restore_0 : decode cX6_restore 0 = .ok (.aload_n 0, 1) := by decide +kernel
theorem dX6_restore_1 : decode cX6_restore 1 = .ok (.iload_n 1, 1) := by decide +kernel
theorem dX6_restore_2 : decode cX6_restore 2 = .ok (.i2l, 1) := by decide +kernel
theorem dX6_restore_3 : decode cX6_restore 3 = .ok (.lconst 0, 1) := by decide +kernel
theorem dX6_restore_4 : decode cX6_restore 4 = .ok (.lconst 1, 1) := by decide +kernel
theorem dX6_restore_5 : decode cX6_restore 5 = .ok (.invokestatic 55, 3) := by decide +kernel
theorem dX6_restore_8 : decode cX6_restore 8 = .ok (.ifCond .ne 7, 3) := by decide +kernel
theorem dX6_restore_11 : decode cX6_restore 11 = .ok (.iconst 1, 1) := by decide +kernel
theorem dX6_restore_12 : decode cX6_restore 12 = .ok (.goto 17, 3) := by decide +kernel
theorem dX6_restore_15 : decode cX6_restore 15 = .ok (.aload_n 0, 1) := by decide +kernel
theorem dX6_restore_16 : decode cX6_restore 16 = .ok (.getfield 25, 3) := by decide +kernel
theorem dX6_restore_19 : decode cX6_restore 19 = .ok (.iload_n 1, 1) := by decide +kernel
theorem dX6_restore_20 : decode cX6_restore 20 = .ok (.baload, 1) := by decide +kernel
theorem dX6_restore_21 : decode cX6_restore 21 = .ok (.ifCond .ne 7, 3) := by decide +kernel
theorem dX6_restore_24 : decode cX6_restore 24 = .ok (.iconst 2, 1) := by decide +kernel
theorem dX6_restore_25 : decode cX6_restore 25 = .ok (.goto 4, 3) := by decide +kernel
theorem dX6_restore_28 : decode cX6_restore 28 = .ok (.iconst 0, 1) := by decide +kernel
theorem dX6_restore_29 : decode cX6_restore 29 = .ok (.invokevirtual 141, 3) := by decide +kernel
theorem dX6_restore_32 : decode cX6_restore 32 = .ok (.ifCond .eq 5, 3) := by decide +kernel
theorem dX6_restore_35 : decode cX6_restore 35 = .ok (.iconst 0, 1) := by decide +kernel
theorem dX6_restore_36 : decode cX6_restore 36 = .ok (.ireturn, 1) := by decide +kernel
theorem dX6_restore_37 : decode cX6_restore 37 = .ok (.aload_n 0, 1) := by decide +kernel
theorem dX6_restore_38 : decode cX6_restore 38 = .ok (.getfield 22, 3) := by decide +kernel
theorem dX6_restore_41 : decode cX6_restore 41 = .ok (.sipush 217, 3) := by decide +kernel
theorem dX6_restore_44 : decode cX6_restore 44 = .ok (.iload_n 1, 1) := by decide +kernel
theorem dX6_restore_45 : decode cX6_restore 45 = .ok (.imul, 1) := by decide +kernel
theorem dX6_restore_46 : decode cX6_restore 46 = .ok (.aload_n 0, 1) := by decide +kernel
theorem dX6_restore_47 : decode cX6_restore 47 = .ok (.getfield 13, 3) := by decide +kernel
theorem dX6_restore_50 : decode cX6_restore 50 = .ok (.iconst 0, 1) := by decide +kernel
theorem dX6_restore_51 : decode cX6_restore 51 = .ok (.invokestatic 194, 3) := by decide +kernel
theorem dX6_restore_54 : decode cX6_restore 54 = .ok (.aload_n 0, 1) := by decide +kernel
theorem dX6_restore_55 : decode cX6_restore 55 = .ok (.iconst 0, 1) := by decide +kernel
theorem dX6_restore_56 : decode cX6_restore 56 = .ok (.putfield 198, 3) := by decide +kernel
theorem dX6_restore_59 : decode cX6_restore 59 = .ok (.aload_n 0, 1) := by decide +kernel
theorem dX6_restore_60 : decode cX6_restore 60 = .ok (.getfield 13, 3) := by decide +kernel
theorem dX6_restore_63 : decode cX6_restore 63 = .ok (.iconst 0, 1) := by decide +kernel
theorem dX6_restore_64 : decode cX6_restore 64 = .ok (.iaload, 1) := by decide +kernel
theorem dX6_restore_65 : decode cX6_restore 65 = .ok (.ireturn, 1) := by decide +kernel
end
section
theorem dL_append_0 : decode cL_append 0 = .ok (.aload_n 2, 1) := by decide +kernel
theorem dL_append_1 : decode cL_append 1 = .ok (.iconst 0, 1) := by decide +kernel
theorem dL_append_2 : decode cL_append 2 = .ok (.aload_n 0, 1) := by decide +kernel
theorem dL_append_3 : decode cL_append 3 = .ok (.iload_n 1, 1) := by decide +kernel
theorem dL_append_4 : decode cL_append 4 = .ok (.invokevirtual 7, 3) := by decide +kernel
theorem dL_append_7 : decode cL_append 7 = .ok (.i2l, 1) := by decide +kernel
theorem dL_append_8 : decode cL_append 8 = .ok (.lastore, 1) := by decide +kernel
theorem dL_append_9 : decode cL_append 9 = .ok (.goto 9, 3) := by decide +kernel
theorem dL_append_12 : decode cL_append 12 = .ok (.astore_n 3, 1) := by decide +kernel
theorem dL_append_13 : decode cL_append 13 = .ok (.iconst 1, 1) := by decide +kernel
theorem dL_append_14 : decode cL_append 14 = .ok (.ireturn, 1) := by decide +kernel
theorem dL_append_15 : decode cL_append 15 = .ok (.astore_n 3, 1) := by decide +kernel
theorem dL_append_16 : decode cL_append 16 = .ok (.iconst 2, 1) := by decide +kernel
theorem dL_append_17 : decode cL_append 17 = .ok (.ireturn, 1) := by decide +kernel
theorem dL_append_18 : decode cL_append 18 = .ok (.iconst 0, 1) := by decide +kernel
theorem dL_append_19 : decode cL_append 19 = .ok (.ireturn, 1) := by decide +kernel
theorem dL_load_0 : decode cL_load 0 = .ok (.aload_n 1, 1) := by decide +kernel
theorem dL_load_1 : decode cL_load 1 = .ok (.iconst 0, 1) := by decide +kernel
theorem dL_load_2 : decode cL_load 2 = .ok (.aload_n 0, 1) := by decide +kernel
theorem dL_load_3 : decode cL_load 3 = .ok (.invokevirtual 17, 3) := by decide +kernel
theorem dL_load_6 : decode cL_load 6 = .ok (.i2l, 1) := by decide +kernel
theorem dL_load_7 : decode cL_load 7 = .ok (.lastore, 1) := by decide +kernel
theorem dL_load_8 : decode cL_load 8 = .ok (.goto 6, 3) := by decide +kernel
theorem dL_load_11 : decode cL_load 11 = .ok (.astore_n 2, 1) := by decide +kernel
theorem dL_load_12 : decode cL_load 12 = .ok (.iconst 1, 1) := by decide +kernel
theorem dL_load_13 : decode cL_load 13 = .ok (.ireturn, 1) := by decide +kernel
theorem dL_load_14 : decode cL_load 14 = .ok (.iconst 0, 1) := by decide +kernel
theorem dL_load_15 : decode cL_load 15 = .ok (.ireturn, 1) := by decide +kernel
theorem dL_about_0 : decode cL_about 0 = .ok (.aload_n 2, 1) := by decide +kernel
theorem dL_about_1 : decode cL_about 1 = .ok (.iconst 0, 1) := by decide +kernel
theorem dL_about_2 : decode cL_about 2 = .ok (.aload_n 0, 1) := by decide +kernel
theorem dL_about_3 : decode cL_about 3 = .ok (.iload_n 1, 1) := by decide +kernel
theorem dL_about_4 : decode cL_about 4 = .ok (.invokevirtual 21, 3) := by decide +kernel
theorem dL_about_7 : decode cL_about 7 = .ok (.i2l, 1) := by decide +kernel
theorem dL_about_8 : decode cL_about 8 = .ok (.lastore, 1) := by decide +kernel
theorem dL_about_9 : decode cL_about 9 = .ok (.goto 6, 3) := by decide +kernel
theorem dL_about_12 : decode cL_about 12 = .ok (.astore_n 3, 1) := by decide +kernel
theorem dL_about_13 : decode cL_about 13 = .ok (.iconst 1, 1) := by decide +kernel
theorem dL_about_14 : decode cL_about 14 = .ok (.ireturn, 1) := by decide +kernel
theorem dL_about_15 : decode cL_about 15 = .ok (.iconst 0, 1) := by decide +kernel
theorem dL_about_16 : decode cL_about 16 = .ok (.ireturn, 1) := by decide +kernel
theorem dL_tileOf_0 : decode cL_tileOf 0 = .ok (.aload_n 3, 1) := by decide +kernel
theorem dL_tileOf_1 : decode cL_tileOf 1 = .ok (.iconst 0, 1) := by decide +kernel
theorem dL_tileOf_2 : decode cL_tileOf 2 = .ok (.aload_n 0, 1) := by decide +kernel
theorem dL_tileOf_3 : decode cL_tileOf 3 = .ok (.iload_n 1, 1) := by decide +kernel
theorem dL_tileOf_4 : decode cL_tileOf 4 = .ok (.iload_n 2, 1) := by decide +kernel
theorem dL_tileOf_5 : decode cL_tileOf 5 = .ok (.invokevirtual 24, 3) := by decide +kernel
theorem dL_tileOf_8 : decode cL_tileOf 8 = .ok (.i2l, 1) := by decide +kernel
theorem dL_tileOf_9 : decode cL_tileOf 9 = .ok (.lastore, 1) := by decide +kernel
theorem dL_tileOf_10 : decode cL_tileOf 10 = .ok (.goto 11, 3) := by decide +kernel
theorem dL_tileOf_13 : decode cL_tileOf 13 = .ok (.astore 4, 2) := by decide +kernel
theorem dL_tileOf_15 : decode cL_tileOf 15 = .ok (.iconst 1, 1) := by decide +kernel
theorem dL_tileOf_16 : decode cL_tileOf 16 = .ok (.ireturn, 1) := by decide +kernel
theorem dL_tileOf_17 : decode cL_tileOf 17 = .ok (.astore 4, 2) := by decide +kernel
theorem dL_tileOf_19 : decode cL_tileOf 19 = .ok (.iconst 2, 1) := by decide +kernel
theorem dL_tileOf_20 : decode cL_tileOf 20 = .ok (.ireturn, 1) := by decide +kernel
theorem dL_tileOf_21 : decode cL_tileOf 21 = .ok (.iconst 0, 1) := by decide +kernel
theorem dL_tileOf_22 : decode cL_tileOf 22 = .ok (.ireturn, 1) := by decide +kernel
theorem dL_laid_0 : decode cL_laid 0 = .ok (.aload_n 3, 1) := by decide +kernel
theorem dL_laid_1 : decode cL_laid 1 = .ok (.iconst 0, 1) := by decide +kernel
theorem dL_laid_2 : decode cL_laid 2 = .ok (.aload_n 0, 1) := by decide +kernel
theorem dL_laid_3 : decode cL_laid 3 = .ok (.iload_n 1, 1) := by decide +kernel
theorem dL_laid_4 : decode cL_laid 4 = .ok (.iload_n 2, 1) := by decide +kernel
theorem dL_laid_5 : decode cL_laid 5 = .ok (.invokevirtual 30, 3) := by decide +kernel
theorem dL_laid_8 : decode cL_laid 8 = .ok (.i2l, 1) := by decide +kernel
theorem dL_laid_9 : decode cL_laid 9 = .ok (.lastore, 1) := by decide +kernel
theorem dL_laid_10 : decode cL_laid 10 = .ok (.goto 11, 3) := by decide +kernel
theorem dL_laid_13 : decode cL_laid 13 = .ok (.astore 4, 2) := by decide +kernel
theorem dL_laid_15 : decode cL_laid 15 = .ok (.iconst 1, 1) := by decide +kernel
theorem dL_laid_16 : decode cL_laid 16 = .ok (.ireturn, 1) := by decide +kernel
theorem dL_laid_17 : decode cL_laid 17 = .ok (.astore 4, 2) := by decide +kernel
theorem dL_laid_19 : decode cL_laid 19 = .ok (.iconst 2, 1) := by decide +kernel
theorem dL_laid_20 : decode cL_laid 20 = .ok (.ireturn, 1) := by decide +kernel
theorem dL_laid_21 : decode cL_laid 21 = .ok (.iconst 0, 1) := by decide +kernel
theorem dL_laid_22 : decode cL_laid 22 = .ok (.ireturn, 1) := by decide +kernel
theorem dL_playerOf_0 : decode cL_playerOf 0 = .ok (.aload_n 3, 1) := by decide +kernel
theorem dL_playerOf_1 : decode cL_playerOf 1 = .ok (.iconst 0, 1) := by decide +kernel
theorem dL_playerOf_2 : decode cL_playerOf 2 = .ok (.aload_n 0, 1) := by decide +kernel
theorem dL_playerOf_3 : decode cL_playerOf 3 = .ok (.iload_n 1, 1) := by decide +kernel
theorem dL_playerOf_4 : decode cL_playerOf 4 = .ok (.iload_n 2, 1) := by decide +kernel
theorem dL_playerOf_5 : decode cL_playerOf 5 = .ok (.invokevirtual 33, 3) := by decide +kernel
theorem dL_playerOf_8 : decode cL_playerOf 8 = .ok (.i2l, 1) := by decide +kernel
theorem dL_playerOf_9 : decode cL_playerOf 9 = .ok (.lastore, 1) := by decide +kernel
theorem dL_playerOf_10 : decode cL_playerOf 10 = .ok (.goto 11, 3) := by decide +kernel
theorem dL_playerOf_13 : decode cL_playerOf 13 = .ok (.astore 4, 2) := by decide +kernel
theorem dL_playerOf_15 : decode cL_playerOf 15 = .ok (.iconst 1, 1) := by decide +kernel
theorem dL_playerOf_16 : decode cL_playerOf 16 = .ok (.ireturn, 1) := by decide +kernel
theorem dL_playerOf_17 : decode cL_playerOf 17 = .ok (.astore 4, 2) := by decide +kernel
theorem dL_playerOf_19 : decode cL_playerOf 19 = .ok (.iconst 2, 1) := by decide +kernel
theorem dL_playerOf_20 : decode cL_playerOf 20 = .ok (.ireturn, 1) := by decide +kernel
theorem dL_playerOf_21 : decode cL_playerOf 21 = .ok (.iconst 0, 1) := by decide +kernel
theorem dL_playerOf_22 : decode cL_playerOf 22 = .ok (.ireturn, 1) := by decide +kernel
theorem dL_at_0 : decode cL_at 0 = .ok (.aload_n 3, 1) := by decide +kernel
theorem dL_at_1 : decode cL_at 1 = .ok (.iconst 0, 1) := by decide +kernel
theorem dL_at_2 : decode cL_at 2 = .ok (.aload_n 0, 1) := by decide +kernel
theorem dL_at_3 : decode cL_at 3 = .ok (.iload_n 1, 1) := by decide +kernel
theorem dL_at_4 : decode cL_at 4 = .ok (.iload_n 2, 1) := by decide +kernel
theorem dL_at_5 : decode cL_at 5 = .ok (.invokevirtual 36, 3) := by decide +kernel
theorem dL_at_8 : decode cL_at 8 = .ok (.i2l, 1) := by decide +kernel
theorem dL_at_9 : decode cL_at 9 = .ok (.lastore, 1) := by decide +kernel
theorem dL_at_10 : decode cL_at 10 = .ok (.goto 7, 3) := by decide +kernel
theorem dL_at_13 : decode cL_at 13 = .ok (.astore 4, 2) := by decide +kernel
theorem dL_at_15 : decode cL_at 15 = .ok (.iconst 1, 1) := by decide +kernel
theorem dL_at_16 : decode cL_at 16 = .ok (.ireturn, 1) := by decide +kernel
theorem dL_at_17 : decode cL_at 17 = .ok (.iconst 0, 1) := by decide +kernel
theorem dL_at_18 : decode cL_at 18 = .ok (.ireturn, 1) := by decide +kernel
theorem dL_free_0 : decode cL_free 0 = .ok (.aload_n 2, 1) := by decide +kernel
theorem dL_free_1 : decode cL_free 1 = .ok (.iconst 0, 1) := by decide +kernel
theorem dL_free_2 : decode cL_free 2 = .ok (.aload_n 0, 1) := by decide +kernel
theorem dL_free_3 : decode cL_free 3 = .ok (.iload_n 1, 1) := by decide +kernel
theorem dL_free_4 : decode cL_free 4 = .ok (.invokevirtual 39, 3) := by decide +kernel
theorem dL_free_7 : decode cL_free 7 = .ok (.i2l, 1) := by decide +kernel
theorem dL_free_8 : decode cL_free 8 = .ok (.lastore, 1) := by decide +kernel
theorem dL_free_9 : decode cL_free 9 = .ok (.goto 6, 3) := by decide +kernel
theorem dL_free_12 : decode cL_free 12 = .ok (.astore_n 3, 1) := by decide +kernel
theorem dL_free_13 : decode cL_free 13 = .ok (.iconst 1, 1) := by decide +kernel
theorem dL_free_14 : decode cL_free 14 = .ok (.ireturn, 1) := by decide +kernel
theorem dL_free_15 : decode cL_free 15 = .ok (.iconst 0, 1) := by decide +kernel
theorem dL_free_16 : decode cL_free 16 = .ok (.ireturn, 1) := by decide +kernel
theorem dL_deal_0 : decode cL_deal 0 = .ok (.aload 4, 2) := by decide +kernel
theorem dL_deal_2 : decode cL_deal 2 = .ok (.iconst 0, 1) := by decide +kernel
theorem dL_deal_3 : decode cL_deal 3 = .ok (.aload_n 0, 1) := by decide +kernel
theorem dL_deal_4 : decode cL_deal 4 = .ok (.iload_n 1, 1) := by decide +kernel
theorem dL_deal_5 : decode cL_deal 5 = .ok (.lload_n 2, 1) := by decide +kernel
theorem dL_deal_6 : decode cL_deal 6 = .ok (.invokevirtual 42, 3) := by decide +kernel
theorem dL_deal_9 : decode cL_deal 9 = .ok (.i2l, 1) := by decide +kernel
theorem dL_deal_10 : decode cL_deal 10 = .ok (.lastore, 1) := by decide +kernel
theorem dL_deal_11 : decode cL_deal 11 = .ok (.goto 7, 3) := by decide +kernel
theorem dL_deal_14 : decode cL_deal 14 = .ok (.astore 5, 2) := by decide +kernel
theorem dL_deal_16 : decode cL_deal 16 = .ok (.iconst 1, 1) := by decide +kernel
theorem dL_deal_17 : decode cL_deal 17 = .ok (.ireturn, 1) := by decide +kernel
theorem dL_deal_18 : decode cL_deal 18 = .ok (.iconst 0, 1) := by decide +kernel
theorem dL_deal_19 : decode cL_deal 19 = .ok (.ireturn, 1) := by decide +kernel
theorem dL_play_0 : decode cL_play 0 = .ok (.aload_n 3, 1) := by decide +kernel
theorem dL_play_1 : decode cL_play 1 = .ok (.iconst 0, 1) := by decide +kernel
theorem dL_play_2 : decode cL_play 2 = .ok (.aload_n 0, 1) := by decide +kernel
theorem dL_play_3 : decode cL_play 3 = .ok (.iload_n 1, 1) := by decide +kernel
theorem dL_play_4 : decode cL_play 4 = .ok (.iload_n 2, 1) := by decide +kernel
theorem dL_play_5 : decode cL_play 5 = .ok (.invokevirtual 46, 3) := by decide +kernel
theorem dL_play_8 : decode cL_play 8 = .ok (.i2l, 1) := by decide +kernel
theorem dL_play_9 : decode cL_play 9 = .ok (.lastore, 1) := by decide +kernel
theorem dL_play_10 : decode cL_play 10 = .ok (.goto 11, 3) := by decide +kernel
theorem dL_play_13 : decode cL_play 13 = .ok (.astore 4, 2) := by decide +kernel
theorem dL_play_15 : decode cL_play 15 = .ok (.iconst 1, 1) := by decide +kernel
theorem dL_play_16 : decode cL_play 16 = .ok (.ireturn, 1) := by decide +kernel
theorem dL_play_17 : decode cL_play 17 = .ok (.astore 4, 2) := by decide +kernel
theorem dL_play_19 : decode cL_play 19 = .ok (.iconst 2, 1) := by decide +kernel
theorem dL_play_20 : decode cL_play 20 = .ok (.ireturn, 1) := by decide +kernel
theorem dL_play_21 : decode cL_play 21 = .ok (.iconst 0, 1) := by decide +kernel
theorem dL_play_22 : decode cL_play 22 = .ok (.ireturn, 1) := by decide +kernel
theorem dL_draw_0 : decode cL_draw 0 = .ok (.aload_n 1, 1) := by decide +kernel
theorem dL_draw_1 : decode cL_draw 1 = .ok (.iconst 0, 1) := by decide +kernel
theorem dL_draw_2 : decode cL_draw 2 = .ok (.aload_n 0, 1) := by decide +kernel
theorem dL_draw_3 : decode cL_draw 3 = .ok (.invokevirtual 50, 3) := by decide +kernel
theorem dL_draw_6 : decode cL_draw 6 = .ok (.i2l, 1) := by decide +kernel
theorem dL_draw_7 : decode cL_draw 7 = .ok (.lastore, 1) := by decide +kernel
theorem dL_draw_8 : decode cL_draw 8 = .ok (.goto 6, 3) := by decide +kernel
theorem dL_draw_11 : decode cL_draw 11 = .ok (.astore_n 2, 1) := by decide +kernel
theorem dL_draw_12 : decode cL_draw 12 = .ok (.iconst 1, 1) := by decide +kernel
theorem dL_draw_13 : decode cL_draw 13 = .ok (.ireturn, 1) := by decide +kernel
theorem dL_draw_14 : decode cL_draw 14 = .ok (.iconst 0, 1) := by decide +kernel
theorem dL_draw_15 : decode cL_draw 15 = .ok (.ireturn, 1) := by decide +kernel
theorem dL_pass_0 : decode cL_pass 0 = .ok (.aload_n 1, 1) := by decide +kernel
theorem dL_pass_1 : decode cL_pass 1 = .ok (.iconst 0, 1) := by decide +kernel
theorem dL_pass_2 : decode cL_pass 2 = .ok (.aload_n 0, 1) := by decide +kernel
theorem dL_pass_3 : decode cL_pass 3 = .ok (.invokevirtual 53, 3) := by decide +kernel
theorem dL_pass_6 : decode cL_pass 6 = .ok (.i2l, 1) := by decide +kernel
theorem dL_pass_7 : decode cL_pass 7 = .ok (.lastore, 1) := by decide +kernel
theorem dL_pass_8 : decode cL_pass 8 = .ok (.goto 6, 3) := by decide +kernel
theorem dL_pass_11 : decode cL_pass 11 = .ok (.astore_n 2, 1) := by decide +kernel
theorem dL_pass_12 : decode cL_pass 12 = .ok (.iconst 1, 1) := by decide +kernel
theorem dL_pass_13 : decode cL_pass 13 = .ok (.ireturn, 1) := by decide +kernel
theorem dL_pass_14 : decode cL_pass 14 = .ok (.iconst 0, 1) := by decide +kernel
theorem dL_pass_15 : decode cL_pass 15 = .ok (.ireturn, 1) := by decide +kernel
theorem dL_undo_0 : decode cL_undo 0 = .ok (.aload_n 1, 1) := by decide +kernel
theorem dL_undo_1 : decode cL_undo 1 = .ok (.iconst 0, 1) := by decide +kernel
theorem dL_undo_2 : decode cL_undo 2 = .ok (.aload_n 0, 1) := by decide +kernel
theorem dL_undo_3 : decode cL_undo 3 = .ok (.invokevirtual 56, 3) := by decide +kernel
theorem dL_undo_6 : decode cL_undo 6 = .ok (.i2l, 1) := by decide +kernel
theorem dL_undo_7 : decode cL_undo 7 = .ok (.lastore, 1) := by decide +kernel
theorem dL_undo_8 : decode cL_undo 8 = .ok (.goto 6, 3) := by decide +kernel
theorem dL_undo_11 : decode cL_undo 11 = .ok (.astore_n 2, 1) := by decide +kernel
theorem dL_undo_12 : decode cL_undo 12 = .ok (.iconst 1, 1) := by decide +kernel
theorem dL_undo_13 : decode cL_undo 13 = .ok (.ireturn, 1) := by decide +kernel
theorem dL_undo_14 : decode cL_undo 14 = .ok (.iconst 0, 1) := by decide +kernel
theorem dL_undo_15 : decode cL_undo 15 = .ok (.ireturn, 1) := by decide +kernel
theorem dL_why_0 : decode cL_why 0 = .ok (.aload_n 2, 1) := by decide +kernel
theorem dL_why_1 : decode cL_why 1 = .ok (.iconst 0, 1) := by decide +kernel
theorem dL_why_2 : decode cL_why 2 = .ok (.aload_n 0, 1) := by decide +kernel
theorem dL_why_3 : decode cL_why 3 = .ok (.iload_n 1, 1) := by decide +kernel
theorem dL_why_4 : decode cL_why 4 = .ok (.invokevirtual 59, 3) := by decide +kernel
theorem dL_why_7 : decode cL_why 7 = .ok (.i2l, 1) := by decide +kernel
theorem dL_why_8 : decode cL_why 8 = .ok (.lastore, 1) := by decide +kernel
theorem dL_why_9 : decode cL_why 9 = .ok (.goto 6, 3) := by decide +kernel
theorem dL_why_12 : decode cL_why 12 = .ok (.astore_n 3, 1) := by decide +kernel
theorem dL_why_13 : decode cL_why 13 = .ok (.iconst 1, 1) := by decide +kernel
theorem dL_why_14 : decode cL_why 14 = .ok (.ireturn, 1) := by decide +kernel
theorem dL_why_15 : decode cL_why 15 = .ok (.iconst 0, 1) := by decide +kernel
theorem dL_why_16 : decode cL_why 16 = .ok (.ireturn, 1) := by decide +kernel
theorem dL_chain_0 : decode cL_chain 0 = .ok (.aload_n 3, 1) := by decide +kernel
theorem dL_chain_1 : decode cL_chain 1 = .ok (.iconst 0, 1) := by decide +kernel
theorem dL_chain_2 : decode cL_chain 2 = .ok (.aload_n 0, 1) := by decide +kernel
theorem dL_chain_3 : decode cL_chain 3 = .ok (.iload_n 1, 1) := by decide +kernel
theorem dL_chain_4 : decode cL_chain 4 = .ok (.iload_n 2, 1) := by decide +kernel
theorem dL_chain_5 : decode cL_chain 5 = .ok (.invokevirtual 62, 3) := by decide +kernel
theorem dL_chain_8 : decode cL_chain 8 = .ok (.i2l, 1) := by decide +kernel
theorem dL_chain_9 : decode cL_chain 9 = .ok (.lastore, 1) := by decide +kernel
theorem dL_chain_10 : decode cL_chain 10 = .ok (.goto 11, 3) := by decide +kernel
theorem dL_chain_13 : decode cL_chain 13 = .ok (.astore 4, 2) := by decide +kernel
theorem dL_chain_15 : decode cL_chain 15 = .ok (.iconst 1, 1) := by decide +kernel
theorem dL_chain_16 : decode cL_chain 16 = .ok (.ireturn, 1) := by decide +kernel
theorem dL_chain_17 : decode cL_chain 17 = .ok (.astore 4, 2) := by decide +kernel
theorem dL_chain_19 : decode cL_chain 19 = .ok (.iconst 2, 1) := by decide +kernel
theorem dL_chain_20 : decode cL_chain 20 = .ok (.ireturn, 1) := by decide +kernel
theorem dL_chain_21 : decode cL_chain 21 = .ok (.iconst 0, 1) := by decide +kernel
theorem dL_chain_22 : decode cL_chain 22 = .ok (.ireturn, 1) := by decide +kernel
theorem dL_reach_0 : decode cL_reach 0 = .ok (.aload_n 2, 1) := by decide +kernel
theorem dL_reach_1 : decode cL_reach 1 = .ok (.iconst 0, 1) := by decide +kernel
theorem dL_reach_2 : decode cL_reach 2 = .ok (.aload_n 0, 1) := by decide +kernel
theorem dL_reach_3 : decode cL_reach 3 = .ok (.iload_n 1, 1) := by decide +kernel
theorem dL_reach_4 : decode cL_reach 4 = .ok (.invokevirtual 65, 3) := by decide +kernel
theorem dL_reach_7 : decode cL_reach 7 = .ok (.i2l, 1) := by decide +kernel
theorem dL_reach_8 : decode cL_reach 8 = .ok (.lastore, 1) := by decide +kernel
theorem dL_reach_9 : decode cL_reach 9 = .ok (.goto 6, 3) := by decide +kernel
theorem dL_reach_12 : decode cL_reach 12 = .ok (.astore_n 3, 1) := by decide +kernel
theorem dL_reach_13 : decode cL_reach 13 = .ok (.iconst 1, 1) := by decide +kernel
theorem dL_reach_14 : decode cL_reach 14 = .ok (.ireturn, 1) := by decide +kernel
theorem dL_reach_15 : decode cL_reach 15 = .ok (.iconst 0, 1) := by decide +kernel
theorem dL_reach_16 : decode cL_reach 16 = .ok (.ireturn, 1) := by decide +kernel
theorem dL_runScript_0 : decode cL_runScript 0 = .ok (.aload 4, 2) := by decide +kernel
theorem dL_runScript_2 : decode cL_runScript 2 = .ok (.iconst 0, 1) := by decide +kernel
theorem dL_runScript_3 : decode cL_runScript 3 = .ok (.aload_n 0, 1) := by decide +kernel
theorem dL_runScript_4 : decode cL_runScript 4 = .ok (.iload_n 1, 1) := by decide +kernel
theorem dL_runScript_5 : decode cL_runScript 5 = .ok (.lload_n 2, 1) := by decide +kernel
theorem dL_runScript_6 : decode cL_runScript 6 = .ok (.invokevirtual 68, 3) := by decide +kernel
theorem dL_runScript_9 : decode cL_runScript 9 = .ok (.i2l, 1) := by decide +kernel
theorem dL_runScript_10 : decode cL_runScript 10 = .ok (.lastore, 1) := by decide +kernel
theorem dL_runScript_11 : decode cL_runScript 11 = .ok (.goto 7, 3) := by decide +kernel
theorem dL_runScript_14 : decode cL_runScript 14 = .ok (.astore 5, 2) := by decide +kernel
theorem dL_runScript_16 : decode cL_runScript 16 = .ok (.iconst 1, 1) := by decide +kernel
theorem dL_runScript_17 : decode cL_runScript 17 = .ok (.ireturn, 1) := by decide +kernel
theorem dL_runScript_18 : decode cL_runScript 18 = .ok (.iconst 0, 1) := by decide +kernel
theorem dL_runScript_19 : decode cL_runScript 19 = .ok (.ireturn, 1) := by decide +kernel
theorem dL_simulate_0 : decode cL_simulate 0 = .ok (.aload 4, 2) := by decide +kernel
theorem dL_simulate_2 : decode cL_simulate 2 = .ok (.iconst 0, 1) := by decide +kernel
theorem dL_simulate_3 : decode cL_simulate 3 = .ok (.aload_n 0, 1) := by decide +kernel
theorem dL_simulate_4 : decode cL_simulate 4 = .ok (.lload_n 1, 1) := by decide +kernel
theorem dL_simulate_5 : decode cL_simulate 5 = .ok (.iload_n 3, 1) := by decide +kernel
theorem dL_simulate_6 : decode cL_simulate 6 = .ok (.invokevirtual 71, 3) := by decide +kernel
theorem dL_simulate_9 : decode cL_simulate 9 = .ok (.i2l, 1) := by decide +kernel
theorem dL_simulate_10 : decode cL_simulate 10 = .ok (.lastore, 1) := by decide +kernel
theorem dL_simulate_11 : decode cL_simulate 11 = .ok (.goto 7, 3) := by decide +kernel
theorem dL_simulate_14 : decode cL_simulate 14 = .ok (.astore 5, 2) := by decide +kernel
theorem dL_simulate_16 : decode cL_simulate 16 = .ok (.iconst 1, 1) := by decide +kernel
theorem dL_simulate_17 : decode cL_simulate 17 = .ok (.ireturn, 1) := by decide +kernel
theorem dL_simulate_18 : decode cL_simulate 18 = .ok (.iconst 0, 1) := by decide +kernel
theorem dL_simulate_19 : decode cL_simulate 19 = .ok (.ireturn, 1) := by decide +kernel
theorem dL_save_0 : decode cL_save 0 = .ok (.aload_n 2, 1) := by decide +kernel
theorem dL_save_1 : decode cL_save 1 = .ok (.iconst 0, 1) := by decide +kernel
theorem dL_save_2 : decode cL_save 2 = .ok (.aload_n 0, 1) := by decide +kernel
theorem dL_save_3 : decode cL_save 3 = .ok (.iload_n 1, 1) := by decide +kernel
theorem dL_save_4 : decode cL_save 4 = .ok (.invokevirtual 75, 3) := by decide +kernel
theorem dL_save_7 : decode cL_save 7 = .ok (.i2l, 1) := by decide +kernel
theorem dL_save_8 : decode cL_save 8 = .ok (.lastore, 1) := by decide +kernel
theorem dL_save_9 : decode cL_save 9 = .ok (.goto 6, 3) := by decide +kernel
theorem dL_save_12 : decode cL_save 12 = .ok (.astore_n 3, 1) := by decide +kernel
theorem dL_save_13 : decode cL_save 13 = .ok (.iconst 1, 1) := by decide +kernel
theorem dL_save_14 : decode cL_save 14 = .ok (.ireturn, 1) := by decide +kernel
theorem dL_save_15 : decode cL_save 15 = .ok (.iconst 0, 1) := by decide +kernel
theorem dL_save_16 : decode cL_save 16 = .ok (.ireturn, 1) := by decide +kernel
theorem dL_restore_0 : decode cL_restore 0 = .ok (.aload_n 2, 1) := by decide +kernel
theorem dL_restore_1 : decode cL_restore 1 = .ok (.iconst 0, 1) := by decide +kernel
theorem dL_restore_2 : decode cL_restore 2 = .ok (.aload_n 0, 1) := by decide +kernel
theorem dL_restore_3 : decode cL_restore 3 = .ok (.iload_n 1, 1) := by decide +kernel
theorem dL_restore_4 : decode cL_restore 4 = .ok (.invokevirtual 78, 3) := by decide +kernel
theorem dL_restore_7 : decode cL_restore 7 = .ok (.i2l, 1) := by decide +kernel
theorem dL_restore_8 : decode cL_restore 8 = .ok (.lastore, 1) := by decide +kernel
theorem dL_restore_9 : decode cL_restore 9 = .ok (.goto 9, 3) := by decide +kernel
theorem dL_restore_12 : decode cL_restore 12 = .ok (.astore_n 3, 1) := by decide +kernel
theorem dL_restore_13 : decode cL_restore 13 = .ok (.iconst 1, 1) := by decide +kernel
theorem dL_restore_14 : decode cL_restore 14 = .ok (.ireturn, 1) := by decide +kernel
theorem dL_restore_15 : decode cL_restore 15 = .ok (.astore_n 3, 1) := by decide +kernel
theorem dL_restore_16 : decode cL_restore 16 = .ok (.iconst 2, 1) := by decide +kernel
theorem dL_restore_17 : decode cL_restore 17 = .ok (.ireturn, 1) := by decide +kernel
theorem dL_restore_18 : decode cL_restore 18 = .ok (.iconst 0, 1) := by decide +kernel
theorem dL_restore_19 : decode cL_restore 19 = .ok (.ireturn, 1) := by decide +kernel
theorem dL_law_0 : decode cL_law 0 = .ok (.new 8, 3) := by decide +kernel
theorem dL_law_3 : decode cL_law 3 = .ok (.dup, 1) := by decide +kernel
theorem dL_law_4 : decode cL_law 4 = .ok (.invokespecial 81, 3) := by decide +kernel
theorem dL_law_7 : decode cL_law 7 = .ok (.astore_n 1, 1) := by decide +kernel
theorem dL_law_8 : decode cL_law 8 = .ok (.new 82, 3) := by decide +kernel
theorem dL_law_11 : decode cL_law 11 = .ok (.dup, 1) := by decide +kernel
theorem dL_law_12 : decode cL_law 12 = .ok (.invokespecial 84, 3) := by decide +kernel
theorem dL_law_15 : decode cL_law 15 = .ok (.astore_n 2, 1) := by decide +kernel
theorem dL_law_16 : decode cL_law 16 = .ok (.iconst 1, 1) := by decide +kernel
theorem dL_law_17 : decode cL_law 17 = .ok (.newarray .long, 2) := by decide +kernel
theorem dL_law_19 : decode cL_law 19 = .ok (.astore_n 3, 1) := by decide +kernel
theorem dL_law_20 : decode cL_law 20 = .ok (.iconst 0, 1) := by decide +kernel
theorem dL_law_21 : decode cL_law 21 = .ok (.istore 4, 2) := by decide +kernel
theorem dL_law_23 : decode cL_law 23 = .ok (.iload 4, 2) := by decide +kernel
theorem dL_law_25 : decode cL_law 25 = .ok (.aload_n 0, 1) := by decide +kernel
theorem dL_law_26 : decode cL_law 26 = .ok (.arraylength, 1) := by decide +kernel
theorem dL_law_27 : decode cL_law 27 = .ok (.iconst 4, 1) := by decide +kernel
theorem dL_law_28 : decode cL_law 28 = .ok (.isub, 1) := by decide +kernel
theorem dL_law_29 : decode cL_law 29 = .ok (.if_icmp .gt 1469, 3) := by decide +kernel
theorem dL_law_32 : decode cL_law 32 = .ok (.aload_n 0, 1) := by decide +kernel
theorem dL_law_33 : decode cL_law 33 = .ok (.iload 4, 2) := by decide +kernel
theorem dL_law_35 : decode cL_law 35 = .ok (.iaload, 1) := by decide +kernel
theorem dL_law_36 : decode cL_law 36 = .ok (.bipush 31, 2) := by decide +kernel
theorem dL_law_38 : decode cL_law 38 = .ok (.iand, 1) := by decide +kernel
theorem dL_law_39 : decode cL_law 39 = .ok (.tableswitch 1453 0 23 #[109, 165, 178, 191, 235, 291, 359, 427, 495, 563, 619, 719, 803, 847, 891, 935, 991, 1004, 1017, 1085, 1141, 1241, 1341, 1397], 109) := by decide +kernel
theorem dL_law_148 : decode cL_law 148 = .ok (.aload_n 1, 1) := by decide +kernel
theorem dL_law_149 : decode cL_law 149 = .ok (.aload_n 0, 1) := by decide +kernel
theorem dL_law_150 : decode cL_law 150 = .ok (.iload 4, 2) := by decide +kernel
theorem dL_law_152 : decode cL_law 152 = .ok (.iconst 1, 1) := by decide +kernel
theorem dL_law_153 : decode cL_law 153 = .ok (.iadd, 1) := by decide +kernel
theorem dL_law_154 : decode cL_law 154 = .ok (.iaload, 1) := by decide +kernel
theorem dL_law_155 : decode cL_law 155 = .ok (.aload_n 3, 1) := by decide +kernel
theorem dL_law_156 : decode cL_law 156 = .ok (.invokestatic 85, 3) := by decide +kernel
theorem dL_law_159 : decode cL_law 159 = .ok (.istore 5, 2) := by decide +kernel
theorem dL_law_161 : decode cL_law 161 = .ok (.aload_n 2, 1) := by decide +kernel
theorem dL_law_162 : decode cL_law 162 = .ok (.aload_n 0, 1) := by decide +kernel
theorem dL_law_163 : decode cL_law 163 = .ok (.iload 4, 2) := by decide +kernel
theorem dL_law_165 : decode cL_law 165 = .ok (.iconst 1, 1) := by decide +kernel
theorem dL_law_166 : decode cL_law 166 = .ok (.iadd, 1) := by decide +kernel
theorem dL_law_167 : decode cL_law 167 = .ok (.iaload, 1) := by decide +kernel
theorem dL_law_168 : decode cL_law 168 = .ok (.invokevirtual 90, 3) := by decide +kernel
theorem dL_law_171 : decode cL_law 171 = .ok (.istore 6, 2) := by decide +kernel
theorem dL_law_173 : decode cL_law 173 = .ok (.aload_n 2, 1) := by decide +kernel
theorem dL_law_174 : decode cL_law 174 = .ok (.invokevirtual 91, 3) := by decide +kernel
theorem dL_law_177 : decode cL_law 177 = .ok (.iload 5, 2) := by decide +kernel
theorem dL_law_179 : decode cL_law 179 = .ok (.if_icmp .eq 5, 3) := by decide +kernel
theorem dL_law_182 : decode cL_law 182 = .ok (.iconst 0, 1) := by decide +kernel
theorem dL_law_183 : decode cL_law 183 = .ok (.ireturn, 1) := by decide +kernel
theorem dL_law_184 : decode cL_law 184 = .ok (.iload 5, 2) := by decide +kernel
theorem dL_law_186 : decode cL_law 186 = .ok (.ifCond .ne 15, 3) := by decide +kernel
theorem dL_law_189 : decode cL_law 189 = .ok (.aload_n 3, 1) := by decide +kernel
theorem dL_law_190 : decode cL_law 190 = .ok (.iconst 0, 1) := by decide +kernel
theorem dL_law_191 : decode cL_law 191 = .ok (.laload, 1) := by decide +kernel
theorem dL_law_192 : decode cL_law 192 = .ok (.iload 6, 2) := by decide +kernel
theorem dL_law_194 : decode cL_law 194 = .ok (.i2l, 1) := by decide +kernel
theorem dL_law_195 : decode cL_law 195 = .ok (.lcmp, 1) := by decide +kernel
theorem dL_law_196 : decode cL_law 196 = .ok (.ifCond .eq 5, 3) := by decide +kernel
theorem dL_law_199 : decode cL_law 199 = .ok (.iconst 0, 1) := by decide +kernel
theorem dL_law_200 : decode cL_law 200 = .ok (.ireturn, 1) := by decide +kernel
theorem dL_law_201 : decode cL_law 201 = .ok (.goto 1291, 3) := by decide +kernel
theorem dL_law_204 : decode cL_law 204 = .ok (.aload_n 1, 1) := by decide +kernel
theorem dL_law_205 : decode cL_law 205 = .ok (.invokevirtual 94, 3) := by decide +kernel
theorem dL_law_208 : decode cL_law 208 = .ok (.aload_n 2, 1) := by decide +kernel
theorem dL_law_209 : decode cL_law 209 = .ok (.invokevirtual 97, 3) := by decide +kernel
theorem dL_law_212 : decode cL_law 212 = .ok (.if_icmp .eq 1280, 3) := by decide +kernel
theorem dL_law_215 : decode cL_law 215 = .ok (.iconst 0, 1) := by decide +kernel
theorem dL_law_216 : decode cL_law 216 = .ok (.ireturn, 1) := by decide +kernel
theorem dL_law_217 : decode cL_law 217 = .ok (.aload_n 1, 1) := by decide +kernel
theorem dL_law_218 : decode cL_law 218 = .ok (.invokevirtual 98, 3) := by decide +kernel
theorem dL_law_221 : decode cL_law 221 = .ok (.aload_n 2, 1) := by decide +kernel
theorem dL_law_222 : decode cL_law 222 = .ok (.invokevirtual 101, 3) := by decide +kernel
theorem dL_law_225 : decode cL_law 225 = .ok (.if_icmp .eq 1267, 3) := by decide +kernel
theorem dL_law_228 : decode cL_law 228 = .ok (.iconst 0, 1) := by decide +kernel
theorem dL_law_229 : decode cL_law 229 = .ok (.ireturn, 1) := by decide +kernel
theorem dL_law_230 : decode cL_law 230 = .ok (.aload_n 1, 1) := by decide +kernel
theorem dL_law_231 : decode cL_law 231 = .ok (.aload_n 3, 1) := by decide +kernel
theorem dL_law_232 : decode cL_law 232 = .ok (.invokestatic 102, 3) := by decide +kernel
theorem dL_law_235 : decode cL_law 235 = .ok (.istore 5, 2) := by decide +kernel
theorem dL_law_237 : decode cL_law 237 = .ok (.aload_n 2, 1) := by decide +kernel
theorem dL_law_238 : decode cL_law 238 = .ok (.invokevirtual 105, 3) := by decide +kernel
theorem dL_law_241 : decode cL_law 241 = .ok (.istore 6, 2) := by decide +kernel
theorem dL_law_243 : decode cL_law 243 = .ok (.aload_n 2, 1) := by decide +kernel
theorem dL_law_244 : decode cL_law 244 = .ok (.invokevirtual 91, 3) := by decide +kernel
theorem dL_law_247 : decode cL_law 247 = .ok (.iload 5, 2) := by decide +kernel
theorem dL_law_249 : decode cL_law 249 = .ok (.if_icmp .eq 5, 3) := by decide +kernel
theorem dL_law_252 : decode cL_law 252 = .ok (.iconst 0, 1) := by decide +kernel
theorem dL_law_253 : decode cL_law 253 = .ok (.ireturn, 1) := by decide +kernel
theorem dL_law_254 : decode cL_law 254 = .ok (.iload 5, 2) := by decide +kernel
theorem dL_law_256 : decode cL_law 256 = .ok (.ifCond .ne 15, 3) := by decide +kernel
theorem dL_law_259 : decode cL_law 259 = .ok (.aload_n 3, 1) := by decide +kernel
theorem dL_law_260 : decode cL_law 260 = .ok (.iconst 0, 1) := by decide +kernel
theorem dL_law_261 : decode cL_law 261 = .ok (.laload, 1) := by decide +kernel
theorem dL_law_262 : decode cL_law 262 = .ok (.iload 6, 2) := by decide +kernel
theorem dL_law_264 : decode cL_law 264 = .ok (.i2l, 1) := by decide +kernel
theorem dL_law_265 : decode cL_law 265 = .ok (.lcmp, 1) := by decide +kernel
theorem dL_law_266 : decode cL_law 266 = .ok (.ifCond .eq 5, 3) := by decide +kernel
theorem dL_law_269 : decode cL_law 269 = .ok (.iconst 0, 1) := by decide +kernel
theorem dL_law_270 : decode cL_law 270 = .ok (.ireturn, 1) := by decide +kernel
theorem dL_law_271 : decode cL_law 271 = .ok (.goto 1221, 3) := by decide +kernel
theorem dL_law_274 : decode cL_law 274 = .ok (.aload_n 1, 1) := by decide +kernel
theorem dL_law_275 : decode cL_law 275 = .ok (.aload_n 0, 1) := by decide +kernel
theorem dL_law_276 : decode cL_law 276 = .ok (.iload 4, 2) := by decide +kernel
theorem dL_law_278 : decode cL_law 278 = .ok (.iconst 1, 1) := by decide +kernel
theorem dL_law_279 : decode cL_law 279 = .ok (.iadd, 1) := by decide +kernel
theorem dL_law_280 : decode cL_law 280 = .ok (.iaload, 1) := by decide +kernel
theorem dL_law_281 : decode cL_law 281 = .ok (.aload_n 3, 1) := by decide +kernel
theorem dL_law_282 : decode cL_law 282 = .ok (.invokestatic 106, 3) := by decide +kernel
theorem dL_law_285 : decode cL_law 285 = .ok (.istore 5, 2) := by decide +kernel
theorem dL_law_287 : decode cL_law 287 = .ok (.aload_n 2, 1) := by decide +kernel
theorem dL_law_288 : decode cL_law 288 = .ok (.aload_n 0, 1) := by decide +kernel
theorem dL_law_289 : decode cL_law 289 = .ok (.iload 4, 2) := by decide +kernel
theorem dL_law_291 : decode cL_law 291 = .ok (.iconst 1, 1) := by decide +kernel
theorem dL_law_292 : decode cL_law 292 = .ok (.iadd, 1) := by decide +kernel
theorem dL_law_293 : decode cL_law 293 = .ok (.iaload, 1) := by decide +kernel
theorem dL_law_294 : decode cL_law 294 = .ok (.invokevirtual 108, 3) := by decide +kernel
theorem dL_law_297 : decode cL_law 297 = .ok (.istore 6, 2) := by decide +kernel
theorem dL_law_299 : decode cL_law 299 = .ok (.aload_n 2, 1) := by decide +kernel
theorem dL_law_300 : decode cL_law 300 = .ok (.invokevirtual 91, 3) := by decide +kernel
theorem dL_law_303 : decode cL_law 303 = .ok (.iload 5, 2) := by decide +kernel
theorem dL_law_305 : decode cL_law 305 = .ok (.if_icmp .eq 5, 3) := by decide +kernel
theorem dL_law_308 : decode cL_law 308 = .ok (.iconst 0, 1) := by decide +kernel
theorem dL_law_309 : decode cL_law 309 = .ok (.ireturn, 1) := by decide +kernel
theorem dL_law_310 : decode cL_law 310 = .ok (.iload 5, 2) := by decide +kernel
theorem dL_law_312 : decode cL_law 312 = .ok (.ifCond .ne 15, 3) := by decide +kernel
theorem dL_law_315 : decode cL_law 315 = .ok (.aload_n 3, 1) := by decide +kernel
theorem dL_law_316 : decode cL_law 316 = .ok (.iconst 0, 1) := by decide +kernel
theorem dL_law_317 : decode cL_law 317 = .ok (.laload, 1) := by decide +kernel
theorem dL_law_318 : decode cL_law 318 = .ok (.iload 6, 2) := by decide +kernel
theorem dL_law_320 : decode cL_law 320 = .ok (.i2l, 1) := by decide +kernel
theorem dL_law_321 : decode cL_law 321 = .ok (.lcmp, 1) := by decide +kernel
theorem dL_law_322 : decode cL_law 322 = .ok (.ifCond .eq 5, 3) := by decide +kernel
theorem dL_law_325 : decode cL_law 325 = .ok (.iconst 0, 1) := by decide +kernel
theorem dL_law_326 : decode cL_law 326 = .ok (.ireturn, 1) := by decide +kernel
theorem dL_law_327 : decode cL_law 327 = .ok (.goto 1165, 3) := by decide +kernel
theorem dL_law_330 : decode cL_law 330 = .ok (.aload_n 1, 1) := by decide +kernel
theorem dL_law_331 : decode cL_law 331 = .ok (.aload_n 0, 1) := by decide +kernel
theorem dL_law_332 : decode cL_law 332 = .ok (.iload 4, 2) := by decide +kernel
theorem dL_law_334 : decode cL_law 334 = .ok (.iconst 1, 1) := by decide +kernel
theorem dL_law_335 : decode cL_law 335 = .ok (.iadd, 1) := by decide +kernel
theorem dL_law_336 : decode cL_law 336 = .ok (.iaload, 1) := by decide +kernel
theorem dL_law_337 : decode cL_law 337 = .ok (.aload_n 0, 1) := by decide +kernel
theorem dL_law_338 : decode cL_law 338 = .ok (.iload 4, 2) := by decide +kernel
theorem dL_law_340 : decode cL_law 340 = .ok (.iconst 2, 1) := by decide +kernel
theorem dL_law_341 : decode cL_law 341 = .ok (.iadd, 1) := by decide +kernel
theorem dL_law_342 : decode cL_law 342 = .ok (.iaload, 1) := by decide +kernel
theorem dL_law_343 : decode cL_law 343 = .ok (.aload_n 3, 1) := by decide +kernel
theorem dL_law_344 : decode cL_law 344 = .ok (.invokestatic 109, 3) := by decide +kernel
theorem dL_law_347 : decode cL_law 347 = .ok (.istore 5, 2) := by decide +kernel
theorem dL_law_349 : decode cL_law 349 = .ok (.aload_n 2, 1) := by decide +kernel
theorem dL_law_350 : decode cL_law 350 = .ok (.aload_n 0, 1) := by decide +kernel
theorem dL_law_351 : decode cL_law 351 = .ok (.iload 4, 2) := by decide +kernel
theorem dL_law_353 : decode cL_law 353 = .ok (.iconst 1, 1) := by decide +kernel
theorem dL_law_354 : decode cL_law 354 = .ok (.iadd, 1) := by decide +kernel
theorem dL_law_355 : decode cL_law 355 = .ok (.iaload, 1) := by decide +kernel
theorem dL_law_356 : decode cL_law 356 = .ok (.aload_n 0, 1) := by decide +kernel
theorem dL_law_357 : decode cL_law 357 = .ok (.iload 4, 2) := by decide +kernel
theorem dL_law_359 : decode cL_law 359 = .ok (.iconst 2, 1) := by decide +kernel
theorem dL_law_360 : decode cL_law 360 = .ok (.iadd, 1) := by decide +kernel
theorem dL_law_361 : decode cL_law 361 = .ok (.iaload, 1) := by decide +kernel
theorem dL_law_362 : decode cL_law 362 = .ok (.invokevirtual 112, 3) := by decide +kernel
theorem dL_law_365 : decode cL_law 365 = .ok (.istore 6, 2) := by decide +kernel
theorem dL_law_367 : decode cL_law 367 = .ok (.aload_n 2, 1) := by decide +kernel
theorem dL_law_368 : decode cL_law 368 = .ok (.invokevirtual 91, 3) := by decide +kernel
theorem dL_law_371 : decode cL_law 371 = .ok (.iload 5, 2) := by decide +kernel
theorem dL_law_373 : decode cL_law 373 = .ok (.if_icmp .eq 5, 3) := by decide +kernel
theorem dL_law_376 : decode cL_law 376 = .ok (.iconst 0, 1) := by decide +kernel
theorem dL_law_377 : decode cL_law 377 = .ok (.ireturn, 1) := by decide +kernel
theorem dL_law_378 : decode cL_law 378 = .ok (.iload 5, 2) := by decide +kernel
theorem dL_law_380 : decode cL_law 380 = .ok (.ifCond .ne 15, 3) := by decide +kernel
theorem dL_law_383 : decode cL_law 383 = .ok (.aload_n 3, 1) := by decide +kernel
theorem dL_law_384 : decode cL_law 384 = .ok (.iconst 0, 1) := by decide +kernel
theorem dL_law_385 : decode cL_law 385 = .ok (.laload, 1) := by decide +kernel
theorem dL_law_386 : decode cL_law 386 = .ok (.iload 6, 2) := by decide +kernel
theorem dL_law_388 : decode cL_law 388 = .ok (.i2l, 1) := by decide +kernel
theorem dL_law_389 : decode cL_law 389 = .ok (.lcmp, 1) := by decide +kernel
theorem dL_law_390 : decode cL_law 390 = .ok (.ifCond .eq 5, 3) := by decide +kernel
theorem dL_law_393 : decode cL_law 393 = .ok (.iconst 0, 1) := by decide +kernel
theorem dL_law_394 : decode cL_law 394 = .ok (.ireturn, 1) := by decide +kernel
theorem dL_law_395 : decode cL_law 395 = .ok (.goto 1097, 3) := by decide +kernel
theorem dL_law_398 : decode cL_law 398 = .ok (.aload_n 1, 1) := by decide +kernel
theorem dL_law_399 : decode cL_law 399 = .ok (.aload_n 0, 1) := by decide +kernel
theorem dL_law_400 : decode cL_law 400 = .ok (.iload 4, 2) := by decide +kernel
theorem dL_law_402 : decode cL_law 402 = .ok (.iconst 1, 1) := by decide +kernel
theorem dL_law_403 : decode cL_law 403 = .ok (.iadd, 1) := by decide +kernel
theorem dL_law_404 : decode cL_law 404 = .ok (.iaload, 1) := by decide +kernel
theorem dL_law_405 : decode cL_law 405 = .ok (.aload_n 0, 1) := by decide +kernel
theorem dL_law_406 : decode cL_law 406 = .ok (.iload 4, 2) := by decide +kernel
theorem dL_law_408 : decode cL_law 408 = .ok (.iconst 2, 1) := by decide +kernel
theorem dL_law_409 : decode cL_law 409 = .ok (.iadd, 1) := by decide +kernel
theorem dL_law_410 : decode cL_law 410 = .ok (.iaload, 1) := by decide +kernel
theorem dL_law_411 : decode cL_law 411 = .ok (.aload_n 3, 1) := by decide +kernel
theorem dL_law_412 : decode cL_law 412 = .ok (.invokestatic 113, 3) := by decide +kernel
theorem dL_law_415 : decode cL_law 415 = .ok (.istore 5, 2) := by decide +kernel
theorem dL_law_417 : decode cL_law 417 = .ok (.aload_n 2, 1) := by decide +kernel
theorem dL_law_418 : decode cL_law 418 = .ok (.aload_n 0, 1) := by decide +kernel
theorem dL_law_419 : decode cL_law 419 = .ok (.iload 4, 2) := by decide +kernel
theorem dL_law_421 : decode cL_law 421 = .ok (.iconst 1, 1) := by decide +kernel
theorem dL_law_422 : decode cL_law 422 = .ok (.iadd, 1) := by decide +kernel
theorem dL_law_423 : decode cL_law 423 = .ok (.iaload, 1) := by decide +kernel
theorem dL_law_424 : decode cL_law 424 = .ok (.aload_n 0, 1) := by decide +kernel
theorem dL_law_425 : decode cL_law 425 = .ok (.iload 4, 2) := by decide +kernel
theorem dL_law_427 : decode cL_law 427 = .ok (.iconst 2, 1) := by decide +kernel
theorem dL_law_428 : decode cL_law 428 = .ok (.iadd, 1) := by decide +kernel
theorem dL_law_429 : decode cL_law 429 = .ok (.iaload, 1) := by decide +kernel
theorem dL_law_430 : decode cL_law 430 = .ok (.invokevirtual 115, 3) := by decide +kernel
theorem dL_law_433 : decode cL_law 433 = .ok (.istore 6, 2) := by decide +kernel
theorem dL_law_435 : decode cL_law 435 = .ok (.aload_n 2, 1) := by decide +kernel
theorem dL_law_436 : decode cL_law 436 = .ok (.invokevirtual 91, 3) := by decide +kernel
theorem dL_law_439 : decode cL_law 439 = .ok (.iload 5, 2) := by decide +kernel
theorem dL_law_441 : decode cL_law 441 = .ok (.if_icmp .eq 5, 3) := by decide +kernel
theorem dL_law_444 : decode cL_law 444 = .ok (.iconst 0, 1) := by decide +kernel
theorem dL_law_445 : decode cL_law 445 = .ok (.ireturn, 1) := by decide +kernel
theorem dL_law_446 : decode cL_law 446 = .ok (.iload 5, 2) := by decide +kernel
theorem dL_law_448 : decode cL_law 448 = .ok (.ifCond .ne 15, 3) := by decide +kernel
theorem dL_law_451 : decode cL_law 451 = .ok (.aload_n 3, 1) := by decide +kernel
theorem dL_law_452 : decode cL_law 452 = .ok (.iconst 0, 1) := by decide +kernel
theorem dL_law_453 : decode cL_law 453 = .ok (.laload, 1) := by decide +kernel
theorem dL_law_454 : decode cL_law 454 = .ok (.iload 6, 2) := by decide +kernel
theorem dL_law_456 : decode cL_law 456 = .ok (.i2l, 1) := by decide +kernel
theorem dL_law_457 : decode cL_law 457 = .ok (.lcmp, 1) := by decide +kernel
theorem dL_law_458 : decode cL_law 458 = .ok (.ifCond .eq 5, 3) := by decide +kernel
theorem dL_law_461 : decode cL_law 461 = .ok (.iconst 0, 1) := by decide +kernel
theorem dL_law_462 : decode cL_law 462 = .ok (.ireturn, 1) := by decide +kernel
theorem dL_law_463 : decode cL_law 463 = .ok (.goto 1029, 3) := by decide +kernel
theorem dL_law_466 : decode cL_law 466 = .ok (.aload_n 1, 1) := by decide +kernel
theorem dL_law_467 : decode cL_law 467 = .ok (.aload_n 0, 1) := by decide +kernel
theorem dL_law_468 : decode cL_law 468 = .ok (.iload 4, 2) := by decide +kernel
theorem dL_law_470 : decode cL_law 470 = .ok (.iconst 1, 1) := by decide +kernel
theorem dL_law_471 : decode cL_law 471 = .ok (.iadd, 1) := by decide +kernel
theorem dL_law_472 : decode cL_law 472 = .ok (.iaload, 1) := by decide +kernel
theorem dL_law_473 : decode cL_law 473 = .ok (.aload_n 0, 1) := by decide +kernel
theorem dL_law_474 : decode cL_law 474 = .ok (.iload 4, 2) := by decide +kernel
theorem dL_law_476 : decode cL_law 476 = .ok (.iconst 2, 1) := by decide +kernel
theorem dL_law_477 : decode cL_law 477 = .ok (.iadd, 1) := by decide +kernel
theorem dL_law_478 : decode cL_law 478 = .ok (.iaload, 1) := by decide +kernel
theorem dL_law_479 : decode cL_law 479 = .ok (.aload_n 3, 1) := by decide +kernel
theorem dL_law_480 : decode cL_law 480 = .ok (.invokestatic 116, 3) := by decide +kernel
theorem dL_law_483 : decode cL_law 483 = .ok (.istore 5, 2) := by decide +kernel
theorem dL_law_485 : decode cL_law 485 = .ok (.aload_n 2, 1) := by decide +kernel
theorem dL_law_486 : decode cL_law 486 = .ok (.aload_n 0, 1) := by decide +kernel
theorem dL_law_487 : decode cL_law 487 = .ok (.iload 4, 2) := by decide +kernel
theorem dL_law_489 : decode cL_law 489 = .ok (.iconst 1, 1) := by decide +kernel
theorem dL_law_490 : decode cL_law 490 = .ok (.iadd, 1) := by decide +kernel
theorem dL_law_491 : decode cL_law 491 = .ok (.iaload, 1) := by decide +kernel
theorem dL_law_492 : decode cL_law 492 = .ok (.aload_n 0, 1) := by decide +kernel
theorem dL_law_493 : decode cL_law 493 = .ok (.iload 4, 2) := by decide +kernel
theorem dL_law_495 : decode cL_law 495 = .ok (.iconst 2, 1) := by decide +kernel
theorem dL_law_496 : decode cL_law 496 = .ok (.iadd, 1) := by decide +kernel
theorem dL_law_497 : decode cL_law 497 = .ok (.iaload, 1) := by decide +kernel
theorem dL_law_498 : decode cL_law 498 = .ok (.invokevirtual 118, 3) := by decide +kernel
theorem dL_law_501 : decode cL_law 501 = .ok (.istore 6, 2) := by decide +kernel
theorem dL_law_503 : decode cL_law 503 = .ok (.aload_n 2, 1) := by decide +kernel
theorem dL_law_504 : decode cL_law 504 = .ok (.invokevirtual 91, 3) := by decide +kernel
theorem dL_law_507 : decode cL_law 507 = .ok (.iload 5, 2) := by decide +kernel
theorem dL_law_509 : decode cL_law 509 = .ok (.if_icmp .eq 5, 3) := by decide +kernel
theorem dL_law_512 : decode cL_law 512 = .ok (.iconst 0, 1) := by decide +kernel
theorem dL_law_513 : decode cL_law 513 = .ok (.ireturn, 1) := by decide +kernel
theorem dL_law_514 : decode cL_law 514 = .ok (.iload 5, 2) := by decide +kernel
theorem dL_law_516 : decode cL_law 516 = .ok (.ifCond .ne 15, 3) := by decide +kernel
theorem dL_law_519 : decode cL_law 519 = .ok (.aload_n 3, 1) := by decide +kernel
theorem dL_law_520 : decode cL_law 520 = .ok (.iconst 0, 1) := by decide +kernel
theorem dL_law_521 : decode cL_law 521 = .ok (.laload, 1) := by decide +kernel
theorem dL_law_522 : decode cL_law 522 = .ok (.iload 6, 2) := by decide +kernel
theorem dL_law_524 : decode cL_law 524 = .ok (.i2l, 1) := by decide +kernel
theorem dL_law_525 : decode cL_law 525 = .ok (.lcmp, 1) := by decide +kernel
theorem dL_law_526 : decode cL_law 526 = .ok (.ifCond .eq 5, 3) := by decide +kernel
theorem dL_law_529 : decode cL_law 529 = .ok (.iconst 0, 1) := by decide +kernel
theorem dL_law_530 : decode cL_law 530 = .ok (.ireturn, 1) := by decide +kernel
theorem dL_law_531 : decode cL_law 531 = .ok (.goto 961, 3) := by decide +kernel
theorem dL_law_534 : decode cL_law 534 = .ok (.aload_n 1, 1) := by decide +kernel
theorem dL_law_535 : decode cL_law 535 = .ok (.aload_n 0, 1) := by decide +kernel
theorem dL_law_536 : decode cL_law 536 = .ok (.iload 4, 2) := by decide +kernel
theorem dL_law_538 : decode cL_law 538 = .ok (.iconst 1, 1) := by decide +kernel
theorem dL_law_539 : decode cL_law 539 = .ok (.iadd, 1) := by decide +kernel
theorem dL_law_540 : decode cL_law 540 = .ok (.iaload, 1) := by decide +kernel
theorem dL_law_541 : decode cL_law 541 = .ok (.aload_n 0, 1) := by decide +kernel
theorem dL_law_542 : decode cL_law 542 = .ok (.iload 4, 2) := by decide +kernel
theorem dL_law_544 : decode cL_law 544 = .ok (.iconst 2, 1) := by decide +kernel
theorem dL_law_545 : decode cL_law 545 = .ok (.iadd, 1) := by decide +kernel
theorem dL_law_546 : decode cL_law 546 = .ok (.iaload, 1) := by decide +kernel
theorem dL_law_547 : decode cL_law 547 = .ok (.aload_n 3, 1) := by decide +kernel
theorem dL_law_548 : decode cL_law 548 = .ok (.invokestatic 119, 3) := by decide +kernel
theorem dL_law_551 : decode cL_law 551 = .ok (.istore 5, 2) := by decide +kernel
theorem dL_law_553 : decode cL_law 553 = .ok (.aload_n 2, 1) := by decide +kernel
theorem dL_law_554 : decode cL_law 554 = .ok (.aload_n 0, 1) := by decide +kernel
theorem dL_law_555 : decode cL_law 555 = .ok (.iload 4, 2) := by decide +kernel
theorem dL_law_557 : decode cL_law 557 = .ok (.iconst 1, 1) := by decide +kernel
theorem dL_law_558 : decode cL_law 558 = .ok (.iadd, 1) := by decide +kernel
theorem dL_law_559 : decode cL_law 559 = .ok (.iaload, 1) := by decide +kernel
theorem dL_law_560 : decode cL_law 560 = .ok (.aload_n 0, 1) := by decide +kernel
theorem dL_law_561 : decode cL_law 561 = .ok (.iload 4, 2) := by decide +kernel
theorem dL_law_563 : decode cL_law 563 = .ok (.iconst 2, 1) := by decide +kernel
theorem dL_law_564 : decode cL_law 564 = .ok (.iadd, 1) := by decide +kernel
theorem dL_law_565 : decode cL_law 565 = .ok (.iaload, 1) := by decide +kernel
theorem dL_law_566 : decode cL_law 566 = .ok (.invokevirtual 121, 3) := by decide +kernel
theorem dL_law_569 : decode cL_law 569 = .ok (.istore 6, 2) := by decide +kernel
theorem dL_law_571 : decode cL_law 571 = .ok (.aload_n 2, 1) := by decide +kernel
theorem dL_law_572 : decode cL_law 572 = .ok (.invokevirtual 91, 3) := by decide +kernel
theorem dL_law_575 : decode cL_law 575 = .ok (.iload 5, 2) := by decide +kernel
theorem dL_law_577 : decode cL_law 577 = .ok (.if_icmp .eq 5, 3) := by decide +kernel
theorem dL_law_580 : decode cL_law 580 = .ok (.iconst 0, 1) := by decide +kernel
theorem dL_law_581 : decode cL_law 581 = .ok (.ireturn, 1) := by decide +kernel
theorem dL_law_582 : decode cL_law 582 = .ok (.iload 5, 2) := by decide +kernel
theorem dL_law_584 : decode cL_law 584 = .ok (.ifCond .ne 15, 3) := by decide +kernel
theorem dL_law_587 : decode cL_law 587 = .ok (.aload_n 3, 1) := by decide +kernel
theorem dL_law_588 : decode cL_law 588 = .ok (.iconst 0, 1) := by decide +kernel
theorem dL_law_589 : decode cL_law 589 = .ok (.laload, 1) := by decide +kernel
theorem dL_law_590 : decode cL_law 590 = .ok (.iload 6, 2) := by decide +kernel
theorem dL_law_592 : decode cL_law 592 = .ok (.i2l, 1) := by decide +kernel
theorem dL_law_593 : decode cL_law 593 = .ok (.lcmp, 1) := by decide +kernel
theorem dL_law_594 : decode cL_law 594 = .ok (.ifCond .eq 5, 3) := by decide +kernel
theorem dL_law_597 : decode cL_law 597 = .ok (.iconst 0, 1) := by decide +kernel
theorem dL_law_598 : decode cL_law 598 = .ok (.ireturn, 1) := by decide +kernel
theorem dL_law_599 : decode cL_law 599 = .ok (.goto 893, 3) := by decide +kernel
theorem dL_law_602 : decode cL_law 602 = .ok (.aload_n 1, 1) := by decide +kernel
theorem dL_law_603 : decode cL_law 603 = .ok (.aload_n 0, 1) := by decide +kernel
theorem dL_law_604 : decode cL_law 604 = .ok (.iload 4, 2) := by decide +kernel
theorem dL_law_606 : decode cL_law 606 = .ok (.iconst 1, 1) := by decide +kernel
theorem dL_law_607 : decode cL_law 607 = .ok (.iadd, 1) := by decide +kernel
theorem dL_law_608 : decode cL_law 608 = .ok (.iaload, 1) := by decide +kernel
theorem dL_law_609 : decode cL_law 609 = .ok (.aload_n 3, 1) := by decide +kernel
theorem dL_law_610 : decode cL_law 610 = .ok (.invokestatic 122, 3) := by decide +kernel
theorem dL_law_613 : decode cL_law 613 = .ok (.istore 5, 2) := by decide +kernel
theorem dL_law_615 : decode cL_law 615 = .ok (.aload_n 2, 1) := by decide +kernel
theorem dL_law_616 : decode cL_law 616 = .ok (.aload_n 0, 1) := by decide +kernel
theorem dL_law_617 : decode cL_law 617 = .ok (.iload 4, 2) := by decide +kernel
theorem dL_law_619 : decode cL_law 619 = .ok (.iconst 1, 1) := by decide +kernel
theorem dL_law_620 : decode cL_law 620 = .ok (.iadd, 1) := by decide +kernel
theorem dL_law_621 : decode cL_law 621 = .ok (.iaload, 1) := by decide +kernel
theorem dL_law_622 : decode cL_law 622 = .ok (.invokevirtual 124, 3) := by decide +kernel
theorem dL_law_625 : decode cL_law 625 = .ok (.istore 6, 2) := by decide +kernel
theorem dL_law_627 : decode cL_law 627 = .ok (.aload_n 2, 1) := by decide +kernel
theorem dL_law_628 : decode cL_law 628 = .ok (.invokevirtual 91, 3) := by decide +kernel
theorem dL_law_631 : decode cL_law 631 = .ok (.iload 5, 2) := by decide +kernel
theorem dL_law_633 : decode cL_law 633 = .ok (.if_icmp .eq 5, 3) := by decide +kernel
theorem dL_law_636 : decode cL_law 636 = .ok (.iconst 0, 1) := by decide +kernel
theorem dL_law_637 : decode cL_law 637 = .ok (.ireturn, 1) := by decide +kernel
theorem dL_law_638 : decode cL_law 638 = .ok (.iload 5, 2) := by decide +kernel
theorem dL_law_640 : decode cL_law 640 = .ok (.ifCond .ne 15, 3) := by decide +kernel
theorem dL_law_643 : decode cL_law 643 = .ok (.aload_n 3, 1) := by decide +kernel
theorem dL_law_644 : decode cL_law 644 = .ok (.iconst 0, 1) := by decide +kernel
theorem dL_law_645 : decode cL_law 645 = .ok (.laload, 1) := by decide +kernel
theorem dL_law_646 : decode cL_law 646 = .ok (.iload 6, 2) := by decide +kernel
theorem dL_law_648 : decode cL_law 648 = .ok (.i2l, 1) := by decide +kernel
theorem dL_law_649 : decode cL_law 649 = .ok (.lcmp, 1) := by decide +kernel
theorem dL_law_650 : decode cL_law 650 = .ok (.ifCond .eq 5, 3) := by decide +kernel
theorem dL_law_653 : decode cL_law 653 = .ok (.iconst 0, 1) := by decide +kernel
theorem dL_law_654 : decode cL_law 654 = .ok (.ireturn, 1) := by decide +kernel
theorem dL_law_655 : decode cL_law 655 = .ok (.goto 837, 3) := by decide +kernel
theorem dL_law_658 : decode cL_law 658 = .ok (.aload_n 1, 1) := by decide +kernel
theorem dL_law_659 : decode cL_law 659 = .ok (.aload_n 0, 1) := by decide +kernel
theorem dL_law_660 : decode cL_law 660 = .ok (.iload 4, 2) := by decide +kernel
theorem dL_law_662 : decode cL_law 662 = .ok (.iconst 1, 1) := by decide +kernel
theorem dL_law_663 : decode cL_law 663 = .ok (.iadd, 1) := by decide +kernel
theorem dL_law_664 : decode cL_law 664 = .ok (.iaload, 1) := by decide +kernel
theorem dL_law_665 : decode cL_law 665 = .ok (.aload_n 0, 1) := by decide +kernel
theorem dL_law_666 : decode cL_law 666 = .ok (.iload 4, 2) := by decide +kernel
theorem dL_law_668 : decode cL_law 668 = .ok (.iconst 2, 1) := by decide +kernel
theorem dL_law_669 : decode cL_law 669 = .ok (.iadd, 1) := by decide +kernel
theorem dL_law_670 : decode cL_law 670 = .ok (.iaload, 1) := by decide +kernel
theorem dL_law_671 : decode cL_law 671 = .ok (.i2l, 1) := by decide +kernel
theorem dL_law_672 : decode cL_law 672 = .ok (.bipush 32, 2) := by decide +kernel
theorem dL_law_674 : decode cL_law 674 = .ok (.lshl, 1) := by decide +kernel
theorem dL_law_675 : decode cL_law 675 = .ok (.aload_n 0, 1) := by decide +kernel
theorem dL_law_676 : decode cL_law 676 = .ok (.iload 4, 2) := by decide +kernel
theorem dL_law_678 : decode cL_law 678 = .ok (.iconst 3, 1) := by decide +kernel
theorem dL_law_679 : decode cL_law 679 = .ok (.iadd, 1) := by decide +kernel
theorem dL_law_680 : decode cL_law 680 = .ok (.iaload, 1) := by decide +kernel
theorem dL_law_681 : decode cL_law 681 = .ok (.i2l, 1) := by decide +kernel
theorem dL_law_682 : decode cL_law 682 = .ok (.ldc2_w 125, 3) := by decide +kernel
theorem dL_law_685 : decode cL_law 685 = .ok (.land, 1) := by decide +kernel
theorem dL_law_686 : decode cL_law 686 = .ok (.lor, 1) := by decide +kernel
theorem dL_law_687 : decode cL_law 687 = .ok (.aload_n 3, 1) := by decide +kernel
theorem dL_law_688 : decode cL_law 688 = .ok (.invokestatic 127, 3) := by decide +kernel
theorem dL_law_691 : decode cL_law 691 = .ok (.istore 5, 2) := by decide +kernel
theorem dL_law_693 : decode cL_law 693 = .ok (.aload_n 2, 1) := by decide +kernel
theorem dL_law_694 : decode cL_law 694 = .ok (.aload_n 0, 1) := by decide +kernel
theorem dL_law_695 : decode cL_law 695 = .ok (.iload 4, 2) := by decide +kernel
theorem dL_law_697 : decode cL_law 697 = .ok (.iconst 1, 1) := by decide +kernel
theorem dL_law_698 : decode cL_law 698 = .ok (.iadd, 1) := by decide +kernel
theorem dL_law_699 : decode cL_law 699 = .ok (.iaload, 1) := by decide +kernel
theorem dL_law_700 : decode cL_law 700 = .ok (.aload_n 0, 1) := by decide +kernel
theorem dL_law_701 : decode cL_law 701 = .ok (.iload 4, 2) := by decide +kernel
theorem dL_law_703 : decode cL_law 703 = .ok (.iconst 2, 1) := by decide +kernel
theorem dL_law_704 : decode cL_law 704 = .ok (.iadd, 1) := by decide +kernel
theorem dL_law_705 : decode cL_law 705 = .ok (.iaload, 1) := by decide +kernel
theorem dL_law_706 : decode cL_law 706 = .ok (.i2l, 1) := by decide +kernel
theorem dL_law_707 : decode cL_law 707 = .ok (.bipush 32, 2) := by decide +kernel
theorem dL_law_709 : decode cL_law 709 = .ok (.lshl, 1) := by decide +kernel
theorem dL_law_710 : decode cL_law 710 = .ok (.aload_n 0, 1) := by decide +kernel
theorem dL_law_711 : decode cL_law 711 = .ok (.iload 4, 2) := by decide +kernel
theorem dL_law_713 : decode cL_law 713 = .ok (.iconst 3, 1) := by decide +kernel
theorem dL_law_714 : decode cL_law 714 = .ok (.iadd, 1) := by decide +kernel
theorem dL_law_715 : decode cL_law 715 = .ok (.iaload, 1) := by decide +kernel
theorem dL_law_716 : decode cL_law 716 = .ok (.i2l, 1) := by decide +kernel
theorem dL_law_717 : decode cL_law 717 = .ok (.ldc2_w 125, 3) := by decide +kernel
theorem dL_law_720 : decode cL_law 720 = .ok (.land, 1) := by decide +kernel
theorem dL_law_721 : decode cL_law 721 = .ok (.lor, 1) := by decide +kernel
theorem dL_law_722 : decode cL_law 722 = .ok (.invokevirtual 130, 3) := by decide +kernel
theorem dL_law_725 : decode cL_law 725 = .ok (.istore 6, 2) := by decide +kernel
theorem dL_law_727 : decode cL_law 727 = .ok (.aload_n 2, 1) := by decide +kernel
theorem dL_law_728 : decode cL_law 728 = .ok (.invokevirtual 91, 3) := by decide +kernel
theorem dL_law_731 : decode cL_law 731 = .ok (.iload 5, 2) := by decide +kernel
theorem dL_law_733 : decode cL_law 733 = .ok (.if_icmp .eq 5, 3) := by decide +kernel
theorem dL_law_736 : decode cL_law 736 = .ok (.iconst 0, 1) := by decide +kernel
theorem dL_law_737 : decode cL_law 737 = .ok (.ireturn, 1) := by decide +kernel
theorem dL_law_738 : decode cL_law 738 = .ok (.iload 5, 2) := by decide +kernel
theorem dL_law_740 : decode cL_law 740 = .ok (.ifCond .ne 15, 3) := by decide +kernel
theorem dL_law_743 : decode cL_law 743 = .ok (.aload_n 3, 1) := by decide +kernel
theorem dL_law_744 : decode cL_law 744 = .ok (.iconst 0, 1) := by decide +kernel
theorem dL_law_745 : decode cL_law 745 = .ok (.laload, 1) := by decide +kernel
theorem dL_law_746 : decode cL_law 746 = .ok (.iload 6, 2) := by decide +kernel
theorem dL_law_748 : decode cL_law 748 = .ok (.i2l, 1) := by decide +kernel
theorem dL_law_749 : decode cL_law 749 = .ok (.lcmp, 1) := by decide +kernel
theorem dL_law_750 : decode cL_law 750 = .ok (.ifCond .eq 5, 3) := by decide +kernel
theorem dL_law_753 : decode cL_law 753 = .ok (.iconst 0, 1) := by decide +kernel
theorem dL_law_754 : decode cL_law 754 = .ok (.ireturn, 1) := by decide +kernel
theorem dL_law_755 : decode cL_law 755 = .ok (.goto 737, 3) := by decide +kernel
theorem dL_law_758 : decode cL_law 758 = .ok (.aload_n 1, 1) := by decide +kernel
theorem dL_law_759 : decode cL_law 759 = .ok (.aload_n 0, 1) := by decide +kernel
theorem dL_law_760 : decode cL_law 760 = .ok (.iload 4, 2) := by decide +kernel
theorem dL_law_762 : decode cL_law 762 = .ok (.iconst 1, 1) := by decide +kernel
theorem dL_law_763 : decode cL_law 763 = .ok (.iadd, 1) := by decide +kernel
theorem dL_law_764 : decode cL_law 764 = .ok (.iaload, 1) := by decide +kernel
theorem dL_law_765 : decode cL_law 765 = .ok (.aload_n 0, 1) := by decide +kernel
theorem dL_law_766 : decode cL_law 766 = .ok (.iload 4, 2) := by decide +kernel
theorem dL_law_768 : decode cL_law 768 = .ok (.iconst 2, 1) := by decide +kernel
theorem dL_law_769 : decode cL_law 769 = .ok (.iadd, 1) := by decide +kernel
theorem dL_law_770 : decode cL_law 770 = .ok (.iaload, 1) := by decide +kernel
theorem dL_law_771 : decode cL_law 771 = .ok (.ifCond .eq 7, 3) := by decide +kernel
theorem dL_law_774 : decode cL_law 774 = .ok (.iconst 1, 1) := by decide +kernel
theorem dL_law_775 : decode cL_law 775 = .ok (.goto 4, 3) := by decide +kernel
theorem dL_law_778 : decode cL_law 778 = .ok (.iconst 0, 1) := by decide +kernel
theorem dL_law_779 : decode cL_law 779 = .ok (.aload_n 3, 1) := by decide +kernel
theorem dL_law_780 : decode cL_law 780 = .ok (.invokestatic 131, 3) := by decide +kernel
theorem dL_law_783 : decode cL_law 783 = .ok (.istore 5, 2) := by decide +kernel
theorem dL_law_785 : decode cL_law 785 = .ok (.aload_n 2, 1) := by decide +kernel
theorem dL_law_786 : decode cL_law 786 = .ok (.aload_n 0, 1) := by decide +kernel
theorem dL_law_787 : decode cL_law 787 = .ok (.iload 4, 2) := by decide +kernel
theorem dL_law_789 : decode cL_law 789 = .ok (.iconst 1, 1) := by decide +kernel
theorem dL_law_790 : decode cL_law 790 = .ok (.iadd, 1) := by decide +kernel
theorem dL_law_791 : decode cL_law 791 = .ok (.iaload, 1) := by decide +kernel
theorem dL_law_792 : decode cL_law 792 = .ok (.aload_n 0, 1) := by decide +kernel
theorem dL_law_793 : decode cL_law 793 = .ok (.iload 4, 2) := by decide +kernel
theorem dL_law_795 : decode cL_law 795 = .ok (.iconst 2, 1) := by decide +kernel
theorem dL_law_796 : decode cL_law 796 = .ok (.iadd, 1) := by decide +kernel
theorem dL_law_797 : decode cL_law 797 = .ok (.iaload, 1) := by decide +kernel
theorem dL_law_798 : decode cL_law 798 = .ok (.ifCond .eq 7, 3) := by decide +kernel
theorem dL_law_801 : decode cL_law 801 = .ok (.iconst 1, 1) := by decide +kernel
theorem dL_law_802 : decode cL_law 802 = .ok (.goto 4, 3) := by decide +kernel
theorem dL_law_805 : decode cL_law 805 = .ok (.iconst 0, 1) := by decide +kernel
theorem dL_law_806 : decode cL_law 806 = .ok (.invokevirtual 134, 3) := by decide +kernel
theorem dL_law_809 : decode cL_law 809 = .ok (.istore 6, 2) := by decide +kernel
theorem dL_law_811 : decode cL_law 811 = .ok (.aload_n 2, 1) := by decide +kernel
theorem dL_law_812 : decode cL_law 812 = .ok (.invokevirtual 91, 3) := by decide +kernel
theorem dL_law_815 : decode cL_law 815 = .ok (.iload 5, 2) := by decide +kernel
theorem dL_law_817 : decode cL_law 817 = .ok (.if_icmp .eq 5, 3) := by decide +kernel
theorem dL_law_820 : decode cL_law 820 = .ok (.iconst 0, 1) := by decide +kernel
theorem dL_law_821 : decode cL_law 821 = .ok (.ireturn, 1) := by decide +kernel
theorem dL_law_822 : decode cL_law 822 = .ok (.iload 5, 2) := by decide +kernel
theorem dL_law_824 : decode cL_law 824 = .ok (.ifCond .ne 15, 3) := by decide +kernel
theorem dL_law_827 : decode cL_law 827 = .ok (.aload_n 3, 1) := by decide +kernel
theorem dL_law_828 : decode cL_law 828 = .ok (.iconst 0, 1) := by decide +kernel
theorem dL_law_829 : decode cL_law 829 = .ok (.laload, 1) := by decide +kernel
theorem dL_law_830 : decode cL_law 830 = .ok (.iload 6, 2) := by decide +kernel
theorem dL_law_832 : decode cL_law 832 = .ok (.i2l, 1) := by decide +kernel
theorem dL_law_833 : decode cL_law 833 = .ok (.lcmp, 1) := by decide +kernel
theorem dL_law_834 : decode cL_law 834 = .ok (.ifCond .eq 5, 3) := by decide +kernel
theorem dL_law_837 : decode cL_law 837 = .ok (.iconst 0, 1) := by decide +kernel
theorem dL_law_838 : decode cL_law 838 = .ok (.ireturn, 1) := by decide +kernel
theorem dL_law_839 : decode cL_law 839 = .ok (.goto 653, 3) := by decide +kernel
theorem dL_law_842 : decode cL_law 842 = .ok (.aload_n 1, 1) := by decide +kernel
theorem dL_law_843 : decode cL_law 843 = .ok (.aload_n 3, 1) := by decide +kernel
theorem dL_law_844 : decode cL_law 844 = .ok (.invokestatic 135, 3) := by decide +kernel
theorem dL_law_847 : decode cL_law 847 = .ok (.istore 5, 2) := by decide +kernel
theorem dL_law_849 : decode cL_law 849 = .ok (.aload_n 2, 1) := by decide +kernel
theorem dL_law_850 : decode cL_law 850 = .ok (.invokevirtual 137, 3) := by decide +kernel
theorem dL_law_853 : decode cL_law 853 = .ok (.istore 6, 2) := by decide +kernel
theorem dL_law_855 : decode cL_law 855 = .ok (.aload_n 2, 1) := by decide +kernel
theorem dL_law_856 : decode cL_law 856 = .ok (.invokevirtual 91, 3) := by decide +kernel
theorem dL_law_859 : decode cL_law 859 = .ok (.iload 5, 2) := by decide +kernel
theorem dL_law_861 : decode cL_law 861 = .ok (.if_icmp .eq 5, 3) := by decide +kernel
theorem dL_law_864 : decode cL_law 864 = .ok (.iconst 0, 1) := by decide +kernel
theorem dL_law_865 : decode cL_law 865 = .ok (.ireturn, 1) := by decide +kernel
theorem dL_law_866 : decode cL_law 866 = .ok (.iload 5, 2) := by decide +kernel
theorem dL_law_868 : decode cL_law 868 = .ok (.ifCond .ne 15, 3) := by decide +kernel
theorem dL_law_871 : decode cL_law 871 = .ok (.aload_n 3, 1) := by decide +kernel
theorem dL_law_872 : decode cL_law 872 = .ok (.iconst 0, 1) := by decide +kernel
theorem dL_law_873 : decode cL_law 873 = .ok (.laload, 1) := by decide +kernel
theorem dL_law_874 : decode cL_law 874 = .ok (.iload 6, 2) := by decide +kernel
theorem dL_law_876 : decode cL_law 876 = .ok (.i2l, 1) := by decide +kernel
theorem dL_law_877 : decode cL_law 877 = .ok (.lcmp, 1) := by decide +kernel
theorem dL_law_878 : decode cL_law 878 = .ok (.ifCond .eq 5, 3) := by decide +kernel
theorem dL_law_881 : decode cL_law 881 = .ok (.iconst 0, 1) := by decide +kernel
theorem dL_law_882 : decode cL_law 882 = .ok (.ireturn, 1) := by decide +kernel
theorem dL_law_883 : decode cL_law 883 = .ok (.goto 609, 3) := by decide +kernel
theorem dL_law_886 : decode cL_law 886 = .ok (.aload_n 1, 1) := by decide +kernel
theorem dL_law_887 : decode cL_law 887 = .ok (.aload_n 3, 1) := by decide +kernel
theorem dL_law_888 : decode cL_law 888 = .ok (.invokestatic 138, 3) := by decide +kernel
theorem dL_law_891 : decode cL_law 891 = .ok (.istore 5, 2) := by decide +kernel
theorem dL_law_893 : decode cL_law 893 = .ok (.aload_n 2, 1) := by decide +kernel
theorem dL_law_894 : decode cL_law 894 = .ok (.invokevirtual 140, 3) := by decide +kernel
theorem dL_law_897 : decode cL_law 897 = .ok (.istore 6, 2) := by decide +kernel
theorem dL_law_899 : decode cL_law 899 = .ok (.aload_n 2, 1) := by decide +kernel
theorem dL_law_900 : decode cL_law 900 = .ok (.invokevirtual 91, 3) := by decide +kernel
theorem dL_law_903 : decode cL_law 903 = .ok (.iload 5, 2) := by decide +kernel
theorem dL_law_905 : decode cL_law 905 = .ok (.if_icmp .eq 5, 3) := by decide +kernel
theorem dL_law_908 : decode cL_law 908 = .ok (.iconst 0, 1) := by decide +kernel
theorem dL_law_909 : decode cL_law 909 = .ok (.ireturn, 1) := by decide +kernel
theorem dL_law_910 : decode cL_law 910 = .ok (.iload 5, 2) := by decide +kernel
theorem dL_law_912 : decode cL_law 912 = .ok (.ifCond .ne 15, 3) := by decide +kernel
theorem dL_law_915 : decode cL_law 915 = .ok (.aload_n 3, 1) := by decide +kernel
theorem dL_law_916 : decode cL_law 916 = .ok (.iconst 0, 1) := by decide +kernel
theorem dL_law_917 : decode cL_law 917 = .ok (.laload, 1) := by decide +kernel
theorem dL_law_918 : decode cL_law 918 = .ok (.iload 6, 2) := by decide +kernel
theorem dL_law_920 : decode cL_law 920 = .ok (.i2l, 1) := by decide +kernel
theorem dL_law_921 : decode cL_law 921 = .ok (.lcmp, 1) := by decide +kernel
theorem dL_law_922 : decode cL_law 922 = .ok (.ifCond .eq 5, 3) := by decide +kernel
theorem dL_law_925 : decode cL_law 925 = .ok (.iconst 0, 1) := by decide +kernel
theorem dL_law_926 : decode cL_law 926 = .ok (.ireturn, 1) := by decide +kernel
theorem dL_law_927 : decode cL_law 927 = .ok (.goto 565, 3) := by decide +kernel
theorem dL_law_930 : decode cL_law 930 = .ok (.aload_n 1, 1) := by decide +kernel
theorem dL_law_931 : decode cL_law 931 = .ok (.aload_n 3, 1) := by decide +kernel
theorem dL_law_932 : decode cL_law 932 = .ok (.invokestatic 141, 3) := by decide +kernel
theorem dL_law_935 : decode cL_law 935 = .ok (.istore 5, 2) := by decide +kernel
theorem dL_law_937 : decode cL_law 937 = .ok (.aload_n 2, 1) := by decide +kernel
theorem dL_law_938 : decode cL_law 938 = .ok (.invokevirtual 143, 3) := by decide +kernel
theorem dL_law_941 : decode cL_law 941 = .ok (.istore 6, 2) := by decide +kernel
theorem dL_law_943 : decode cL_law 943 = .ok (.aload_n 2, 1) := by decide +kernel
theorem dL_law_944 : decode cL_law 944 = .ok (.invokevirtual 91, 3) := by decide +kernel
theorem dL_law_947 : decode cL_law 947 = .ok (.iload 5, 2) := by decide +kernel
theorem dL_law_949 : decode cL_law 949 = .ok (.if_icmp .eq 5, 3) := by decide +kernel
theorem dL_law_952 : decode cL_law 952 = .ok (.iconst 0, 1) := by decide +kernel
theorem dL_law_953 : decode cL_law 953 = .ok (.ireturn, 1) := by decide +kernel
theorem dL_law_954 : decode cL_law 954 = .ok (.iload 5, 2) := by decide +kernel
theorem dL_law_956 : decode cL_law 956 = .ok (.ifCond .ne 15, 3) := by decide +kernel
theorem dL_law_959 : decode cL_law 959 = .ok (.aload_n 3, 1) := by decide +kernel
theorem dL_law_960 : decode cL_law 960 = .ok (.iconst 0, 1) := by decide +kernel
theorem dL_law_961 : decode cL_law 961 = .ok (.laload, 1) := by decide +kernel
theorem dL_law_962 : decode cL_law 962 = .ok (.iload 6, 2) := by decide +kernel
theorem dL_law_964 : decode cL_law 964 = .ok (.i2l, 1) := by decide +kernel
theorem dL_law_965 : decode cL_law 965 = .ok (.lcmp, 1) := by decide +kernel
theorem dL_law_966 : decode cL_law 966 = .ok (.ifCond .eq 5, 3) := by decide +kernel
theorem dL_law_969 : decode cL_law 969 = .ok (.iconst 0, 1) := by decide +kernel
theorem dL_law_970 : decode cL_law 970 = .ok (.ireturn, 1) := by decide +kernel
theorem dL_law_971 : decode cL_law 971 = .ok (.goto 521, 3) := by decide +kernel
theorem dL_law_974 : decode cL_law 974 = .ok (.aload_n 1, 1) := by decide +kernel
theorem dL_law_975 : decode cL_law 975 = .ok (.aload_n 0, 1) := by decide +kernel
theorem dL_law_976 : decode cL_law 976 = .ok (.iload 4, 2) := by decide +kernel
theorem dL_law_978 : decode cL_law 978 = .ok (.iconst 1, 1) := by decide +kernel
theorem dL_law_979 : decode cL_law 979 = .ok (.iadd, 1) := by decide +kernel
theorem dL_law_980 : decode cL_law 980 = .ok (.iaload, 1) := by decide +kernel
theorem dL_law_981 : decode cL_law 981 = .ok (.aload_n 3, 1) := by decide +kernel
theorem dL_law_982 : decode cL_law 982 = .ok (.invokestatic 144, 3) := by decide +kernel
theorem dL_law_985 : decode cL_law 985 = .ok (.istore 5, 2) := by decide +kernel
theorem dL_law_987 : decode cL_law 987 = .ok (.aload_n 2, 1) := by decide +kernel
theorem dL_law_988 : decode cL_law 988 = .ok (.aload_n 0, 1) := by decide +kernel
theorem dL_law_989 : decode cL_law 989 = .ok (.iload 4, 2) := by decide +kernel
theorem dL_law_991 : decode cL_law 991 = .ok (.iconst 1, 1) := by decide +kernel
theorem dL_law_992 : decode cL_law 992 = .ok (.iadd, 1) := by decide +kernel
theorem dL_law_993 : decode cL_law 993 = .ok (.iaload, 1) := by decide +kernel
theorem dL_law_994 : decode cL_law 994 = .ok (.invokevirtual 146, 3) := by decide +kernel
theorem dL_law_997 : decode cL_law 997 = .ok (.istore 6, 2) := by decide +kernel
theorem dL_law_999 : decode cL_law 999 = .ok (.aload_n 2, 1) := by decide +kernel
theorem dL_law_1000 : decode cL_law 1000 = .ok (.invokevirtual 91, 3) := by decide +kernel
theorem dL_law_1003 : decode cL_law 1003 = .ok (.iload 5, 2) := by decide +kernel
theorem dL_law_1005 : decode cL_law 1005 = .ok (.if_icmp .eq 5, 3) := by decide +kernel
theorem dL_law_1008 : decode cL_law 1008 = .ok (.iconst 0, 1) := by decide +kernel
theorem dL_law_1009 : decode cL_law 1009 = .ok (.ireturn, 1) := by decide +kernel
theorem dL_law_1010 : decode cL_law 1010 = .ok (.iload 5, 2) := by decide +kernel
theorem dL_law_1012 : decode cL_law 1012 = .ok (.ifCond .ne 15, 3) := by decide +kernel
theorem dL_law_1015 : decode cL_law 1015 = .ok (.aload_n 3, 1) := by decide +kernel
theorem dL_law_1016 : decode cL_law 1016 = .ok (.iconst 0, 1) := by decide +kernel
theorem dL_law_1017 : decode cL_law 1017 = .ok (.laload, 1) := by decide +kernel
theorem dL_law_1018 : decode cL_law 1018 = .ok (.iload 6, 2) := by decide +kernel
theorem dL_law_1020 : decode cL_law 1020 = .ok (.i2l, 1) := by decide +kernel
theorem dL_law_1021 : decode cL_law 1021 = .ok (.lcmp, 1) := by decide +kernel
theorem dL_law_1022 : decode cL_law 1022 = .ok (.ifCond .eq 5, 3) := by decide +kernel
theorem dL_law_1025 : decode cL_law 1025 = .ok (.iconst 0, 1) := by decide +kernel
theorem dL_law_1026 : decode cL_law 1026 = .ok (.ireturn, 1) := by decide +kernel
theorem dL_law_1027 : decode cL_law 1027 = .ok (.goto 465, 3) := by decide +kernel
theorem dL_law_1030 : decode cL_law 1030 = .ok (.aload_n 1, 1) := by decide +kernel
theorem dL_law_1031 : decode cL_law 1031 = .ok (.invokevirtual 147, 3) := by decide +kernel
theorem dL_law_1034 : decode cL_law 1034 = .ok (.aload_n 2, 1) := by decide +kernel
theorem dL_law_1035 : decode cL_law 1035 = .ok (.invokevirtual 150, 3) := by decide +kernel
theorem dL_law_1038 : decode cL_law 1038 = .ok (.if_icmp .eq 454, 3) := by decide +kernel
theorem dL_law_1041 : decode cL_law 1041 = .ok (.iconst 0, 1) := by decide +kernel
theorem dL_law_1042 : decode cL_law 1042 = .ok (.ireturn, 1) := by decide +kernel
theorem dL_law_1043 : decode cL_law 1043 = .ok (.aload_n 1, 1) := by decide +kernel
theorem dL_law_1044 : decode cL_law 1044 = .ok (.invokevirtual 151, 3) := by decide +kernel
theorem dL_law_1047 : decode cL_law 1047 = .ok (.aload_n 2, 1) := by decide +kernel
theorem dL_law_1048 : decode cL_law 1048 = .ok (.invokevirtual 154, 3) := by decide +kernel
theorem dL_law_1051 : decode cL_law 1051 = .ok (.if_icmp .eq 441, 3) := by decide +kernel
theorem dL_law_1054 : decode cL_law 1054 = .ok (.iconst 0, 1) := by decide +kernel
theorem dL_law_1055 : decode cL_law 1055 = .ok (.ireturn, 1) := by decide +kernel
theorem dL_law_1056 : decode cL_law 1056 = .ok (.aload_n 1, 1) := by decide +kernel
theorem dL_law_1057 : decode cL_law 1057 = .ok (.aload_n 0, 1) := by decide +kernel
theorem dL_law_1058 : decode cL_law 1058 = .ok (.iload 4, 2) := by decide +kernel
theorem dL_law_1060 : decode cL_law 1060 = .ok (.iconst 1, 1) := by decide +kernel
theorem dL_law_1061 : decode cL_law 1061 = .ok (.iadd, 1) := by decide +kernel
theorem dL_law_1062 : decode cL_law 1062 = .ok (.iaload, 1) := by decide +kernel
theorem dL_law_1063 : decode cL_law 1063 = .ok (.aload_n 0, 1) := by decide +kernel
theorem dL_law_1064 : decode cL_law 1064 = .ok (.iload 4, 2) := by decide +kernel
theorem dL_law_1066 : decode cL_law 1066 = .ok (.iconst 2, 1) := by decide +kernel
theorem dL_law_1067 : decode cL_law 1067 = .ok (.iadd, 1) := by decide +kernel
theorem dL_law_1068 : decode cL_law 1068 = .ok (.iaload, 1) := by decide +kernel
theorem dL_law_1069 : decode cL_law 1069 = .ok (.aload_n 3, 1) := by decide +kernel
theorem dL_law_1070 : decode cL_law 1070 = .ok (.invokestatic 155, 3) := by decide +kernel
theorem dL_law_1073 : decode cL_law 1073 = .ok (.istore 5, 2) := by decide +kernel
theorem dL_law_1075 : decode cL_law 1075 = .ok (.aload_n 2, 1) := by decide +kernel
theorem dL_law_1076 : decode cL_law 1076 = .ok (.aload_n 0, 1) := by decide +kernel
theorem dL_law_1077 : decode cL_law 1077 = .ok (.iload 4, 2) := by decide +kernel
theorem dL_law_1079 : decode cL_law 1079 = .ok (.iconst 1, 1) := by decide +kernel
theorem dL_law_1080 : decode cL_law 1080 = .ok (.iadd, 1) := by decide +kernel
theorem dL_law_1081 : decode cL_law 1081 = .ok (.iaload, 1) := by decide +kernel
theorem dL_law_1082 : decode cL_law 1082 = .ok (.aload_n 0, 1) := by decide +kernel
theorem dL_law_1083 : decode cL_law 1083 = .ok (.iload 4, 2) := by decide +kernel
theorem dL_law_1085 : decode cL_law 1085 = .ok (.iconst 2, 1) := by decide +kernel
theorem dL_law_1086 : decode cL_law 1086 = .ok (.iadd, 1) := by decide +kernel
theorem dL_law_1087 : decode cL_law 1087 = .ok (.iaload, 1) := by decide +kernel
theorem dL_law_1088 : decode cL_law 1088 = .ok (.invokevirtual 157, 3) := by decide +kernel
theorem dL_law_1091 : decode cL_law 1091 = .ok (.istore 6, 2) := by decide +kernel
theorem dL_law_1093 : decode cL_law 1093 = .ok (.aload_n 2, 1) := by decide +kernel
theorem dL_law_1094 : decode cL_law 1094 = .ok (.invokevirtual 91, 3) := by decide +kernel
theorem dL_law_1097 : decode cL_law 1097 = .ok (.iload 5, 2) := by decide +kernel
theorem dL_law_1099 : decode cL_law 1099 = .ok (.if_icmp .eq 5, 3) := by decide +kernel
theorem dL_law_1102 : decode cL_law 1102 = .ok (.iconst 0, 1) := by decide +kernel
theorem dL_law_1103 : decode cL_law 1103 = .ok (.ireturn, 1) := by decide +kernel
theorem dL_law_1104 : decode cL_law 1104 = .ok (.iload 5, 2) := by decide +kernel
theorem dL_law_1106 : decode cL_law 1106 = .ok (.ifCond .ne 15, 3) := by decide +kernel
theorem dL_law_1109 : decode cL_law 1109 = .ok (.aload_n 3, 1) := by decide +kernel
theorem dL_law_1110 : decode cL_law 1110 = .ok (.iconst 0, 1) := by decide +kernel
theorem dL_law_1111 : decode cL_law 1111 = .ok (.laload, 1) := by decide +kernel
theorem dL_law_1112 : decode cL_law 1112 = .ok (.iload 6, 2) := by decide +kernel
theorem dL_law_1114 : decode cL_law 1114 = .ok (.i2l, 1) := by decide +kernel
theorem dL_law_1115 : decode cL_law 1115 = .ok (.lcmp, 1) := by decide +kernel
theorem dL_law_1116 : decode cL_law 1116 = .ok (.ifCond .eq 5, 3) := by decide +kernel
theorem dL_law_1119 : decode cL_law 1119 = .ok (.iconst 0, 1) := by decide +kernel
theorem dL_law_1120 : decode cL_law 1120 = .ok (.ireturn, 1) := by decide +kernel
theorem dL_law_1121 : decode cL_law 1121 = .ok (.goto 371, 3) := by decide +kernel
theorem dL_law_1124 : decode cL_law 1124 = .ok (.aload_n 1, 1) := by decide +kernel
theorem dL_law_1125 : decode cL_law 1125 = .ok (.aload_n 0, 1) := by decide +kernel
theorem dL_law_1126 : decode cL_law 1126 = .ok (.iload 4, 2) := by decide +kernel
theorem dL_law_1128 : decode cL_law 1128 = .ok (.iconst 1, 1) := by decide +kernel
theorem dL_law_1129 : decode cL_law 1129 = .ok (.iadd, 1) := by decide +kernel
theorem dL_law_1130 : decode cL_law 1130 = .ok (.iaload, 1) := by decide +kernel
theorem dL_law_1131 : decode cL_law 1131 = .ok (.aload_n 3, 1) := by decide +kernel
theorem dL_law_1132 : decode cL_law 1132 = .ok (.invokestatic 158, 3) := by decide +kernel
theorem dL_law_1135 : decode cL_law 1135 = .ok (.istore 5, 2) := by decide +kernel
theorem dL_law_1137 : decode cL_law 1137 = .ok (.aload_n 2, 1) := by decide +kernel
theorem dL_law_1138 : decode cL_law 1138 = .ok (.aload_n 0, 1) := by decide +kernel
theorem dL_law_1139 : decode cL_law 1139 = .ok (.iload 4, 2) := by decide +kernel
theorem dL_law_1141 : decode cL_law 1141 = .ok (.iconst 1, 1) := by decide +kernel
theorem dL_law_1142 : decode cL_law 1142 = .ok (.iadd, 1) := by decide +kernel
theorem dL_law_1143 : decode cL_law 1143 = .ok (.iaload, 1) := by decide +kernel
theorem dL_law_1144 : decode cL_law 1144 = .ok (.invokevirtual 160, 3) := by decide +kernel
theorem dL_law_1147 : decode cL_law 1147 = .ok (.istore 6, 2) := by decide +kernel
theorem dL_law_1149 : decode cL_law 1149 = .ok (.aload_n 2, 1) := by decide +kernel
theorem dL_law_1150 : decode cL_law 1150 = .ok (.invokevirtual 91, 3) := by decide +kernel
theorem dL_law_1153 : decode cL_law 1153 = .ok (.iload 5, 2) := by decide +kernel
theorem dL_law_1155 : decode cL_law 1155 = .ok (.if_icmp .eq 5, 3) := by decide +kernel
theorem dL_law_1158 : decode cL_law 1158 = .ok (.iconst 0, 1) := by decide +kernel
theorem dL_law_1159 : decode cL_law 1159 = .ok (.ireturn, 1) := by decide +kernel
theorem dL_law_1160 : decode cL_law 1160 = .ok (.iload 5, 2) := by decide +kernel
theorem dL_law_1162 : decode cL_law 1162 = .ok (.ifCond .ne 15, 3) := by decide +kernel
theorem dL_law_1165 : decode cL_law 1165 = .ok (.aload_n 3, 1) := by decide +kernel
theorem dL_law_1166 : decode cL_law 1166 = .ok (.iconst 0, 1) := by decide +kernel
theorem dL_law_1167 : decode cL_law 1167 = .ok (.laload, 1) := by decide +kernel
theorem dL_law_1168 : decode cL_law 1168 = .ok (.iload 6, 2) := by decide +kernel
theorem dL_law_1170 : decode cL_law 1170 = .ok (.i2l, 1) := by decide +kernel
theorem dL_law_1171 : decode cL_law 1171 = .ok (.lcmp, 1) := by decide +kernel
theorem dL_law_1172 : decode cL_law 1172 = .ok (.ifCond .eq 5, 3) := by decide +kernel
theorem dL_law_1175 : decode cL_law 1175 = .ok (.iconst 0, 1) := by decide +kernel
theorem dL_law_1176 : decode cL_law 1176 = .ok (.ireturn, 1) := by decide +kernel
theorem dL_law_1177 : decode cL_law 1177 = .ok (.goto 315, 3) := by decide +kernel
theorem dL_law_1180 : decode cL_law 1180 = .ok (.aload_n 1, 1) := by decide +kernel
theorem dL_law_1181 : decode cL_law 1181 = .ok (.aload_n 0, 1) := by decide +kernel
theorem dL_law_1182 : decode cL_law 1182 = .ok (.iload 4, 2) := by decide +kernel
theorem dL_law_1184 : decode cL_law 1184 = .ok (.iconst 1, 1) := by decide +kernel
theorem dL_law_1185 : decode cL_law 1185 = .ok (.iadd, 1) := by decide +kernel
theorem dL_law_1186 : decode cL_law 1186 = .ok (.iaload, 1) := by decide +kernel
theorem dL_law_1187 : decode cL_law 1187 = .ok (.aload_n 0, 1) := by decide +kernel
theorem dL_law_1188 : decode cL_law 1188 = .ok (.iload 4, 2) := by decide +kernel
theorem dL_law_1190 : decode cL_law 1190 = .ok (.iconst 2, 1) := by decide +kernel
theorem dL_law_1191 : decode cL_law 1191 = .ok (.iadd, 1) := by decide +kernel
theorem dL_law_1192 : decode cL_law 1192 = .ok (.iaload, 1) := by decide +kernel
theorem dL_law_1193 : decode cL_law 1193 = .ok (.i2l, 1) := by decide +kernel
theorem dL_law_1194 : decode cL_law 1194 = .ok (.bipush 32, 2) := by decide +kernel
theorem dL_law_1196 : decode cL_law 1196 = .ok (.lshl, 1) := by decide +kernel
theorem dL_law_1197 : decode cL_law 1197 = .ok (.aload_n 0, 1) := by decide +kernel
theorem dL_law_1198 : decode cL_law 1198 = .ok (.iload 4, 2) := by decide +kernel
theorem dL_law_1200 : decode cL_law 1200 = .ok (.iconst 3, 1) := by decide +kernel
theorem dL_law_1201 : decode cL_law 1201 = .ok (.iadd, 1) := by decide +kernel
theorem dL_law_1202 : decode cL_law 1202 = .ok (.iaload, 1) := by decide +kernel
theorem dL_law_1203 : decode cL_law 1203 = .ok (.i2l, 1) := by decide +kernel
theorem dL_law_1204 : decode cL_law 1204 = .ok (.ldc2_w 125, 3) := by decide +kernel
theorem dL_law_1207 : decode cL_law 1207 = .ok (.land, 1) := by decide +kernel
theorem dL_law_1208 : decode cL_law 1208 = .ok (.lor, 1) := by decide +kernel
theorem dL_law_1209 : decode cL_law 1209 = .ok (.aload_n 3, 1) := by decide +kernel
theorem dL_law_1210 : decode cL_law 1210 = .ok (.invokestatic 161, 3) := by decide +kernel
theorem dL_law_1213 : decode cL_law 1213 = .ok (.istore 5, 2) := by decide +kernel
theorem dL_law_1215 : decode cL_law 1215 = .ok (.aload_n 2, 1) := by decide +kernel
theorem dL_law_1216 : decode cL_law 1216 = .ok (.aload_n 0, 1) := by decide +kernel
theorem dL_law_1217 : decode cL_law 1217 = .ok (.iload 4, 2) := by decide +kernel
theorem dL_law_1219 : decode cL_law 1219 = .ok (.iconst 1, 1) := by decide +kernel
theorem dL_law_1220 : decode cL_law 1220 = .ok (.iadd, 1) := by decide +kernel
theorem dL_law_1221 : decode cL_law 1221 = .ok (.iaload, 1) := by decide +kernel
theorem dL_law_1222 : decode cL_law 1222 = .ok (.aload_n 0, 1) := by decide +kernel
theorem dL_law_1223 : decode cL_law 1223 = .ok (.iload 4, 2) := by decide +kernel
theorem dL_law_1225 : decode cL_law 1225 = .ok (.iconst 2, 1) := by decide +kernel
theorem dL_law_1226 : decode cL_law 1226 = .ok (.iadd, 1) := by decide +kernel
theorem dL_law_1227 : decode cL_law 1227 = .ok (.iaload, 1) := by decide +kernel
theorem dL_law_1228 : decode cL_law 1228 = .ok (.i2l, 1) := by decide +kernel
theorem dL_law_1229 : decode cL_law 1229 = .ok (.bipush 32, 2) := by decide +kernel
theorem dL_law_1231 : decode cL_law 1231 = .ok (.lshl, 1) := by decide +kernel
theorem dL_law_1232 : decode cL_law 1232 = .ok (.aload_n 0, 1) := by decide +kernel
theorem dL_law_1233 : decode cL_law 1233 = .ok (.iload 4, 2) := by decide +kernel
theorem dL_law_1235 : decode cL_law 1235 = .ok (.iconst 3, 1) := by decide +kernel
theorem dL_law_1236 : decode cL_law 1236 = .ok (.iadd, 1) := by decide +kernel
theorem dL_law_1237 : decode cL_law 1237 = .ok (.iaload, 1) := by decide +kernel
theorem dL_law_1238 : decode cL_law 1238 = .ok (.i2l, 1) := by decide +kernel
theorem dL_law_1239 : decode cL_law 1239 = .ok (.ldc2_w 125, 3) := by decide +kernel
theorem dL_law_1242 : decode cL_law 1242 = .ok (.land, 1) := by decide +kernel
theorem dL_law_1243 : decode cL_law 1243 = .ok (.lor, 1) := by decide +kernel
theorem dL_law_1244 : decode cL_law 1244 = .ok (.invokevirtual 163, 3) := by decide +kernel
theorem dL_law_1247 : decode cL_law 1247 = .ok (.istore 6, 2) := by decide +kernel
theorem dL_law_1249 : decode cL_law 1249 = .ok (.aload_n 2, 1) := by decide +kernel
theorem dL_law_1250 : decode cL_law 1250 = .ok (.invokevirtual 91, 3) := by decide +kernel
theorem dL_law_1253 : decode cL_law 1253 = .ok (.iload 5, 2) := by decide +kernel
theorem dL_law_1255 : decode cL_law 1255 = .ok (.if_icmp .eq 5, 3) := by decide +kernel
theorem dL_law_1258 : decode cL_law 1258 = .ok (.iconst 0, 1) := by decide +kernel
theorem dL_law_1259 : decode cL_law 1259 = .ok (.ireturn, 1) := by decide +kernel
theorem dL_law_1260 : decode cL_law 1260 = .ok (.iload 5, 2) := by decide +kernel
theorem dL_law_1262 : decode cL_law 1262 = .ok (.ifCond .ne 15, 3) := by decide +kernel
theorem dL_law_1265 : decode cL_law 1265 = .ok (.aload_n 3, 1) := by decide +kernel
theorem dL_law_1266 : decode cL_law 1266 = .ok (.iconst 0, 1) := by decide +kernel
theorem dL_law_1267 : decode cL_law 1267 = .ok (.laload, 1) := by decide +kernel
theorem dL_law_1268 : decode cL_law 1268 = .ok (.iload 6, 2) := by decide +kernel
theorem dL_law_1270 : decode cL_law 1270 = .ok (.i2l, 1) := by decide +kernel
theorem dL_law_1271 : decode cL_law 1271 = .ok (.lcmp, 1) := by decide +kernel
theorem dL_law_1272 : decode cL_law 1272 = .ok (.ifCond .eq 5, 3) := by decide +kernel
theorem dL_law_1275 : decode cL_law 1275 = .ok (.iconst 0, 1) := by decide +kernel
theorem dL_law_1276 : decode cL_law 1276 = .ok (.ireturn, 1) := by decide +kernel
theorem dL_law_1277 : decode cL_law 1277 = .ok (.goto 215, 3) := by decide +kernel
theorem dL_law_1280 : decode cL_law 1280 = .ok (.aload_n 1, 1) := by decide +kernel
theorem dL_law_1281 : decode cL_law 1281 = .ok (.aload_n 0, 1) := by decide +kernel
theorem dL_law_1282 : decode cL_law 1282 = .ok (.iload 4, 2) := by decide +kernel
theorem dL_law_1284 : decode cL_law 1284 = .ok (.iconst 1, 1) := by decide +kernel
theorem dL_law_1285 : decode cL_law 1285 = .ok (.iadd, 1) := by decide +kernel
theorem dL_law_1286 : decode cL_law 1286 = .ok (.iaload, 1) := by decide +kernel
theorem dL_law_1287 : decode cL_law 1287 = .ok (.i2l, 1) := by decide +kernel
theorem dL_law_1288 : decode cL_law 1288 = .ok (.bipush 32, 2) := by decide +kernel
theorem dL_law_1290 : decode cL_law 1290 = .ok (.lshl, 1) := by decide +kernel
theorem dL_law_1291 : decode cL_law 1291 = .ok (.aload_n 0, 1) := by decide +kernel
theorem dL_law_1292 : decode cL_law 1292 = .ok (.iload 4, 2) := by decide +kernel
theorem dL_law_1294 : decode cL_law 1294 = .ok (.iconst 2, 1) := by decide +kernel
theorem dL_law_1295 : decode cL_law 1295 = .ok (.iadd, 1) := by decide +kernel
theorem dL_law_1296 : decode cL_law 1296 = .ok (.iaload, 1) := by decide +kernel
theorem dL_law_1297 : decode cL_law 1297 = .ok (.i2l, 1) := by decide +kernel
theorem dL_law_1298 : decode cL_law 1298 = .ok (.ldc2_w 125, 3) := by decide +kernel
theorem dL_law_1301 : decode cL_law 1301 = .ok (.land, 1) := by decide +kernel
theorem dL_law_1302 : decode cL_law 1302 = .ok (.lor, 1) := by decide +kernel
theorem dL_law_1303 : decode cL_law 1303 = .ok (.aload_n 0, 1) := by decide +kernel
theorem dL_law_1304 : decode cL_law 1304 = .ok (.iload 4, 2) := by decide +kernel
theorem dL_law_1306 : decode cL_law 1306 = .ok (.iconst 3, 1) := by decide +kernel
theorem dL_law_1307 : decode cL_law 1307 = .ok (.iadd, 1) := by decide +kernel
theorem dL_law_1308 : decode cL_law 1308 = .ok (.iaload, 1) := by decide +kernel
theorem dL_law_1309 : decode cL_law 1309 = .ok (.aload_n 3, 1) := by decide +kernel
theorem dL_law_1310 : decode cL_law 1310 = .ok (.invokestatic 164, 3) := by decide +kernel
theorem dL_law_1313 : decode cL_law 1313 = .ok (.istore 5, 2) := by decide +kernel
theorem dL_law_1315 : decode cL_law 1315 = .ok (.aload_n 2, 1) := by decide +kernel
theorem dL_law_1316 : decode cL_law 1316 = .ok (.aload_n 0, 1) := by decide +kernel
theorem dL_law_1317 : decode cL_law 1317 = .ok (.iload 4, 2) := by decide +kernel
theorem dL_law_1319 : decode cL_law 1319 = .ok (.iconst 1, 1) := by decide +kernel
theorem dL_law_1320 : decode cL_law 1320 = .ok (.iadd, 1) := by decide +kernel
theorem dL_law_1321 : decode cL_law 1321 = .ok (.iaload, 1) := by decide +kernel
theorem dL_law_1322 : decode cL_law 1322 = .ok (.i2l, 1) := by decide +kernel
theorem dL_law_1323 : decode cL_law 1323 = .ok (.bipush 32, 2) := by decide +kernel
theorem dL_law_1325 : decode cL_law 1325 = .ok (.lshl, 1) := by decide +kernel
theorem dL_law_1326 : decode cL_law 1326 = .ok (.aload_n 0, 1) := by decide +kernel
theorem dL_law_1327 : decode cL_law 1327 = .ok (.iload 4, 2) := by decide +kernel
theorem dL_law_1329 : decode cL_law 1329 = .ok (.iconst 2, 1) := by decide +kernel
theorem dL_law_1330 : decode cL_law 1330 = .ok (.iadd, 1) := by decide +kernel
theorem dL_law_1331 : decode cL_law 1331 = .ok (.iaload, 1) := by decide +kernel
theorem dL_law_1332 : decode cL_law 1332 = .ok (.i2l, 1) := by decide +kernel
theorem dL_law_1333 : decode cL_law 1333 = .ok (.ldc2_w 125, 3) := by decide +kernel
theorem dL_law_1336 : decode cL_law 1336 = .ok (.land, 1) := by decide +kernel
theorem dL_law_1337 : decode cL_law 1337 = .ok (.lor, 1) := by decide +kernel
theorem dL_law_1338 : decode cL_law 1338 = .ok (.aload_n 0, 1) := by decide +kernel
theorem dL_law_1339 : decode cL_law 1339 = .ok (.iload 4, 2) := by decide +kernel
theorem dL_law_1341 : decode cL_law 1341 = .ok (.iconst 3, 1) := by decide +kernel
theorem dL_law_1342 : decode cL_law 1342 = .ok (.iadd, 1) := by decide +kernel
theorem dL_law_1343 : decode cL_law 1343 = .ok (.iaload, 1) := by decide +kernel
theorem dL_law_1344 : decode cL_law 1344 = .ok (.invokevirtual 167, 3) := by decide +kernel
theorem dL_law_1347 : decode cL_law 1347 = .ok (.istore 6, 2) := by decide +kernel
theorem dL_law_1349 : decode cL_law 1349 = .ok (.aload_n 2, 1) := by decide +kernel
theorem dL_law_1350 : decode cL_law 1350 = .ok (.invokevirtual 91, 3) := by decide +kernel
theorem dL_law_1353 : decode cL_law 1353 = .ok (.iload 5, 2) := by decide +kernel
theorem dL_law_1355 : decode cL_law 1355 = .ok (.if_icmp .eq 5, 3) := by decide +kernel
theorem dL_law_1358 : decode cL_law 1358 = .ok (.iconst 0, 1) := by decide +kernel
theorem dL_law_1359 : decode cL_law 1359 = .ok (.ireturn, 1) := by decide +kernel
theorem dL_law_1360 : decode cL_law 1360 = .ok (.iload 5, 2) := by decide +kernel
theorem dL_law_1362 : decode cL_law 1362 = .ok (.ifCond .ne 15, 3) := by decide +kernel
theorem dL_law_1365 : decode cL_law 1365 = .ok (.aload_n 3, 1) := by decide +kernel
theorem dL_law_1366 : decode cL_law 1366 = .ok (.iconst 0, 1) := by decide +kernel
theorem dL_law_1367 : decode cL_law 1367 = .ok (.laload, 1) := by decide +kernel
theorem dL_law_1368 : decode cL_law 1368 = .ok (.iload 6, 2) := by decide +kernel
theorem dL_law_1370 : decode cL_law 1370 = .ok (.i2l, 1) := by decide +kernel
theorem dL_law_1371 : decode cL_law 1371 = .ok (.lcmp, 1) := by decide +kernel
theorem dL_law_1372 : decode cL_law 1372 = .ok (.ifCond .eq 5, 3) := by decide +kernel
theorem dL_law_1375 : decode cL_law 1375 = .ok (.iconst 0, 1) := by decide +kernel
theorem dL_law_1376 : decode cL_law 1376 = .ok (.ireturn, 1) := by decide +kernel
theorem dL_law_1377 : decode cL_law 1377 = .ok (.goto 115, 3) := by decide +kernel
theorem dL_law_1380 : decode cL_law 1380 = .ok (.aload_n 1, 1) := by decide +kernel
theorem dL_law_1381 : decode cL_law 1381 = .ok (.aload_n 0, 1) := by decide +kernel
theorem dL_law_1382 : decode cL_law 1382 = .ok (.iload 4, 2) := by decide +kernel
theorem dL_law_1384 : decode cL_law 1384 = .ok (.iconst 1, 1) := by decide +kernel
theorem dL_law_1385 : decode cL_law 1385 = .ok (.iadd, 1) := by decide +kernel
theorem dL_law_1386 : decode cL_law 1386 = .ok (.iaload, 1) := by decide +kernel
theorem dL_law_1387 : decode cL_law 1387 = .ok (.aload_n 3, 1) := by decide +kernel
theorem dL_law_1388 : decode cL_law 1388 = .ok (.invokestatic 168, 3) := by decide +kernel
theorem dL_law_1391 : decode cL_law 1391 = .ok (.istore 5, 2) := by decide +kernel
theorem dL_law_1393 : decode cL_law 1393 = .ok (.aload_n 2, 1) := by decide +kernel
theorem dL_law_1394 : decode cL_law 1394 = .ok (.aload_n 0, 1) := by decide +kernel
theorem dL_law_1395 : decode cL_law 1395 = .ok (.iload 4, 2) := by decide +kernel
theorem dL_law_1397 : decode cL_law 1397 = .ok (.iconst 1, 1) := by decide +kernel
theorem dL_law_1398 : decode cL_law 1398 = .ok (.iadd, 1) := by decide +kernel
theorem dL_law_1399 : decode cL_law 1399 = .ok (.iaload, 1) := by decide +kernel
theorem dL_law_1400 : decode cL_law 1400 = .ok (.invokevirtual 170, 3) := by decide +kernel
theorem dL_law_1403 : decode cL_law 1403 = .ok (.istore 6, 2) := by decide +kernel
theorem dL_law_1405 : decode cL_law 1405 = .ok (.aload_n 2, 1) := by decide +kernel
theorem dL_law_1406 : decode cL_law 1406 = .ok (.invokevirtual 91, 3) := by decide +kernel
theorem dL_law_1409 : decode cL_law 1409 = .ok (.iload 5, 2) := by decide +kernel
theorem dL_law_1411 : decode cL_law 1411 = .ok (.if_icmp .eq 5, 3) := by decide +kernel
theorem dL_law_1414 : decode cL_law 1414 = .ok (.iconst 0, 1) := by decide +kernel
theorem dL_law_1415 : decode cL_law 1415 = .ok (.ireturn, 1) := by decide +kernel
theorem dL_law_1416 : decode cL_law 1416 = .ok (.iload 5, 2) := by decide +kernel
theorem dL_law_1418 : decode cL_law 1418 = .ok (.ifCond .ne 15, 3) := by decide +kernel
theorem dL_law_1421 : decode cL_law 1421 = .ok (.aload_n 3, 1) := by decide +kernel
theorem dL_law_1422 : decode cL_law 1422 = .ok (.iconst 0, 1) := by decide +kernel
theorem dL_law_1423 : decode cL_law 1423 = .ok (.laload, 1) := by decide +kernel
theorem dL_law_1424 : decode cL_law 1424 = .ok (.iload 6, 2) := by decide +kernel
theorem dL_law_1426 : decode cL_law 1426 = .ok (.i2l, 1) := by decide +kernel
theorem dL_law_1427 : decode cL_law 1427 = .ok (.lcmp, 1) := by decide +kernel
theorem dL_law_1428 : decode cL_law 1428 = .ok (.ifCond .eq 5, 3) := by decide +kernel
theorem dL_law_1431 : decode cL_law 1431 = .ok (.iconst 0, 1) := by decide +kernel
theorem dL_law_1432 : decode cL_law 1432 = .ok (.ireturn, 1) := by decide +kernel
theorem dL_law_1433 : decode cL_law 1433 = .ok (.goto 59, 3) := by decide +kernel
theorem dL_law_1436 : decode cL_law 1436 = .ok (.aload_n 1, 1) := by decide +kernel
theorem dL_law_1437 : decode cL_law 1437 = .ok (.aload_n 0, 1) := by decide +kernel
theorem dL_law_1438 : decode cL_law 1438 = .ok (.iload 4, 2) := by decide +kernel
theorem dL_law_1440 : decode cL_law 1440 = .ok (.iconst 1, 1) := by decide +kernel
theorem dL_law_1441 : decode cL_law 1441 = .ok (.iadd, 1) := by decide +kernel
theorem dL_law_1442 : decode cL_law 1442 = .ok (.iaload, 1) := by decide +kernel
theorem dL_law_1443 : decode cL_law 1443 = .ok (.aload_n 3, 1) := by decide +kernel
theorem dL_law_1444 : decode cL_law 1444 = .ok (.invokestatic 171, 3) := by decide +kernel
theorem dL_law_1447 : decode cL_law 1447 = .ok (.istore 5, 2) := by decide +kernel
theorem dL_law_1449 : decode cL_law 1449 = .ok (.aload_n 2, 1) := by decide +kernel
theorem dL_law_1450 : decode cL_law 1450 = .ok (.aload_n 0, 1) := by decide +kernel
theorem dL_law_1451 : decode cL_law 1451 = .ok (.iload 4, 2) := by decide +kernel
theorem dL_law_1453 : decode cL_law 1453 = .ok (.iconst 1, 1) := by decide +kernel
theorem dL_law_1454 : decode cL_law 1454 = .ok (.iadd, 1) := by decide +kernel
theorem dL_law_1455 : decode cL_law 1455 = .ok (.iaload, 1) := by decide +kernel
theorem dL_law_1456 : decode cL_law 1456 = .ok (.invokevirtual 173, 3) := by decide +kernel
theorem dL_law_1459 : decode cL_law 1459 = .ok (.istore 6, 2) := by decide +kernel
theorem dL_law_1461 : decode cL_law 1461 = .ok (.aload_n 2, 1) := by decide +kernel
theorem dL_law_1462 : decode cL_law 1462 = .ok (.invokevirtual 91, 3) := by decide +kernel
theorem dL_law_1465 : decode cL_law 1465 = .ok (.iload 5, 2) := by decide +kernel
theorem dL_law_1467 : decode cL_law 1467 = .ok (.if_icmp .eq 5, 3) := by decide +kernel
theorem dL_law_1470 : decode cL_law 1470 = .ok (.iconst 0, 1) := by decide +kernel
theorem dL_law_1471 : decode cL_law 1471 = .ok (.ireturn, 1) := by decide +kernel
theorem dL_law_1472 : decode cL_law 1472 = .ok (.iload 5, 2) := by decide +kernel
theorem dL_law_1474 : decode cL_law 1474 = .ok (.ifCond .ne 15, 3) := by decide +kernel
theorem dL_law_1477 : decode cL_law 1477 = .ok (.aload_n 3, 1) := by decide +kernel
theorem dL_law_1478 : decode cL_law 1478 = .ok (.iconst 0, 1) := by decide +kernel
theorem dL_law_1479 : decode cL_law 1479 = .ok (.laload, 1) := by decide +kernel
theorem dL_law_1480 : decode cL_law 1480 = .ok (.iload 6, 2) := by decide +kernel
theorem dL_law_1482 : decode cL_law 1482 = .ok (.i2l, 1) := by decide +kernel
theorem dL_law_1483 : decode cL_law 1483 = .ok (.lcmp, 1) := by decide +kernel
theorem dL_law_1484 : decode cL_law 1484 = .ok (.ifCond .eq 5, 3) := by decide +kernel
theorem dL_law_1487 : decode cL_law 1487 = .ok (.iconst 0, 1) := by decide +kernel
theorem dL_law_1488 : decode cL_law 1488 = .ok (.ireturn, 1) := by decide +kernel
theorem dL_law_1489 : decode cL_law 1489 = .ok (.goto 3, 3) := by decide +kernel
theorem dL_law_1492 : decode cL_law 1492 = .ok (.iinc 4 4, 3) := by decide +kernel
theorem dL_law_1495 : decode cL_law 1495 = .ok (.goto (-1472), 3) := by decide +kernel
theorem dL_law_1498 : decode cL_law 1498 = .ok (.iconst 1, 1) := by decide +kernel
theorem dL_law_1499 : decode cL_law 1499 = .ok (.ireturn, 1) := by decide +kernel
end
section
/-! THE LAYER: the world is a map from addresses to cells; a method's contract says its answer and the map behind it -/
abbrev zE : Type := va_G × (ClassId × ClassId × ClassId × ClassId) × (Nat × Nat × Nat)
abbrev zD (E : zE) : va_G := E.1
abbrev zI (E : zE) : ClassId := E.2.1.1
abbrev zB (E : zE) : ClassId := E.2.1.2.1
abbrev zJ (E : zE) : ClassId := E.2.1.2.2.1
abbrev zG (E : zE) : ClassId := E.2.1.2.2.2
abbrev zN (E : zE) : Nat := E.2.2.1
abbrev zLo (E : zE) : Nat := E.2.2.2.1
abbrev zHi (E : zE) : Nat := E.2.2.2.2
abbrev zT (E : zE) : List (ClassId × FieldType) := [(zI E, .int), (zB E, .boolean), (zJ E, .long), (zG E, .object "SpiralDominoes$Game")]
def zA (E : zE) : Nat → Prop := fun q => zN E ≤ q
abbrev Hp : Type := Nat → Option va_E
def hup (h : Hp) (a : Nat) (x : va_E) : Hp := fun q => if q = a then some x else h q
def zP (E : zE) (h : Hp) (H : Heap) : Prop := ∀ (a : Nat) (x : va_E), h a = some x → zN E ≤ a ∧ va_at (zD E) vwCl (a, x) H
/-- the words that the printed list keeps apart: nest mates' links -/
def zNestM : List (String × Nat × MethodName × String) := [("SpiralDominoes", 9, ⟨"SpiralDominoes$Text", "<init>", "()V"⟩, "SpiralDominoes"), ("SpiralDominoes$Game", 26, ⟨"SpiralDominoes$Line", "<init>", "()V"⟩, "SpiralDominoes"), ("SpiralDominoes", 35, ⟨"SpiralDominoes$Slot", "<init>", "()V"⟩, "SpiralDominoes"), ("SpiralDominoes$Game", 202, ⟨"SpiralDominoes", "isTile", "(I)Z"⟩, "SpiralDominoes"), ("SpiralDominoes$Line", 58, ⟨"SpiralDominoes", "lowOf", "(I)I"⟩, "SpiralDominoes"), ("SpiralDominoes$Line", 62, ⟨"SpiralDominoes", "highOf", "(I)I"⟩, "SpiralDominoes"), ("SpiralDominoes$Line", 69, ⟨"SpiralDominoes", "stepX", "(I)I"⟩, "SpiralDominoes"), ("SpiralDominoes$Line", 72, ⟨"SpiralDominoes", "stepY", "(I)I"⟩, "SpiralDominoes"), ("SpiralDominoes$Game", 183, ⟨"SpiralDominoes", "pipsOn", "(I)I"⟩, "SpiralDominoes"), ("SpiralDominoes$Line", 105, ⟨"SpiralDominoes", "isCell", "(II)Z"⟩, "SpiralDominoes"), ("SpiralDominoes$Line", 79, ⟨"SpiralDominoes", "pipsOn", "(I)I"⟩, "SpiralDominoes"), ("SpiralDominoes$Game", 117, ⟨"SpiralDominoes", "isPlayer", "(I)Z"⟩, "SpiralDominoes"), ("SpiralDominoes$Game", 101, ⟨"SpiralDominoes", "lowOf", "(I)I"⟩, "SpiralDominoes"), ("SpiralDominoes$Game", 105, ⟨"SpiralDominoes", "highOf", "(I)I"⟩, "SpiralDominoes"), ("SpiralDominoes$Game", 199, ⟨"SpiralDominoes", "tileWith", "(II)I"⟩, "SpiralDominoes")]
def zNestF : List (String × Nat × String × String × String × String) := [("SpiralDominoes$Game", 205, "SpiralDominoes", "LOW", "[I", "SpiralDominoes"), ("SpiralDominoes$Game", 208, "SpiralDominoes", "HIGH", "[I", "SpiralDominoes")]
def zStrs : List (Nat × String) := [(45, "no character code"), (56, "the text is full"), (70, "the text is not a game"), (120, "no such number"), (130, "no such tile"), (144, "not so many tiles are on the table"), (152, "no such player"), (160, "no such cell"), (165, "no such way"), (176, "not 2 to 4 players"), (188, "no round is played"), (197, "no tile can be drawn"), (202, "no player can pass"), (205, "no state is remembered"), (217, "not 1 to 6 tiles"), (225, "not 1 to 4 commands"), (231, "negative, or too many digits"), (253, "not 1 to 200 turns"), (274, "no such save slot"), (284, "nothing has been saved")]
def zK (E : zE) (U : State) : Prop := va_K (zD E) vwCl (zT E) U ∧ (∀ q ∈ zNestM, va_Nw (.methodLinkNest q.1 q.2.1 q.2.2.1 q.2.2.2) U) ∧ (∀ q ∈ zNestF, va_Nw (.fieldLinkNest q.1 q.2.1 q.2.2.1 q.2.2.2.1 q.2.2.2.2.1 q.2.2.2.2.2) U) ∧ (∀ q ∈ zStrs, ∃ a : Nat, vk_R RX5 q.1 q.2 a U)
def lowT : Nat → Int32 := fun j => ([0, 0, 0, 0, 0, 0, 0, 1, 1, 1, 1, 1, 1, 2, 2, 2, 2, 2, 3, 3, 3, 3, 4, 4, 4, 5, 5, 6] : List Int32).getD j 0
def highT : Nat → Int32 := fun j => ([0, 1, 2, 3, 4, 5, 6, 1, 2, 3, 4, 5, 6, 2, 3, 4, 5, 6, 3, 4, 5, 6, 4, 5, 6, 5, 6, 6] : List Int32).getD j 0
/-- what the class's own static arrays and the JDK's two statics hold: nobody writes them -/
def zS (E : zE) (U : State) (H : Heap) : Prop :=
  va_Z "SpiralDominoes" "LOW" "[I" (.ref (zLo E)) (zA E) U H ∧ va_T .int (zLo E) 28 (fun j => .int (lowT j)) (zA E) U H ∧
  va_Z "SpiralDominoes" "HIGH" "[I" (.ref (zHi E)) (zA E) U H ∧ va_T .int (zHi E) 28 (fun j => .int (highT j)) (zA E) U H ∧
  vx_Zq Bundle.tN "UNASSIGNED_STACK" Bundle.steD (zA E) U H ∧ vx_Zq Bundle.tN "SUPPRESSED_SENTINEL" Bundle.listD (zA E) U H
theorem zK.warm {E : zE} {s U : State} (hW : s.WarmedH U.vm) (h : zK E s) : zK E U :=
  ⟨h.1.moved hW.alike, fun q hq => va_Nw.warmM hW (h.2.1 q hq), fun q hq => va_Nw.warmF hW (h.2.2.1 q hq), fun q hq => by
    obtain ⟨a, ha⟩ := h.2.2.2 q hq
    exact ⟨a, ha.warm hW⟩⟩
theorem zK.same {E : zE} {u U : State} (hv : U.vm = u.vm) (h : zK E u) : zK E U :=
  ⟨h.1.moved (by rw [hv]; exact Vm.Alike.refl _), fun q hq => va_Nw.same rfl hv.symm (h.2.1 q hq), fun q hq => va_Nw.same rfl hv.symm (h.2.2.1 q hq), fun q hq => by
    obtain ⟨a, ha⟩ := h.2.2.2 q hq
    exact ⟨a, ha.same hv⟩⟩
theorem zS.moved {E : zE} {u U : State} {H : Heap} (hvm : u.vm.Alike U.vm) (h : zS E u H) : zS E U H :=
  ⟨h.1.moved hvm, h.2.1.moved hvm, h.2.2.1.moved hvm, h.2.2.2.1.moved hvm, h.2.2.2.2.1.moved hvm, h.2.2.2.2.2.moved hvm⟩
theorem zS.kept {E : zE} {U : State} {H H1 : Heap} (h : zS E U H) (hq : ∀ a : Nat, a < H.size → ¬ zA E a → H1[a]? = H[a]?) : zS E U H1 :=
  ⟨h.1.kept hq, h.2.1.kept hq, h.2.2.1.kept hq, h.2.2.2.1.kept hq, h.2.2.2.2.1.kept hq, h.2.2.2.2.2.kept hq⟩
theorem zP.up {E : zE} {h : Hp} {H H1 : Heap} {a : Nat} {x : va_E} (hP : zP E h H) (ha : zN E ≤ a) (hx : va_at (zD E) vwCl (a, x) H1) (oq : ∀ q : Nat, q ≠ a → H1[q]? = H[q]?) : zP E (hup h a x) H1 := by
  intro b y hb
  by_cases e : b = a
  · subst e
    simp only [hup, if_true] at hb
    cases hb
    exact ⟨ha, hx⟩
  · simp only [hup, if_neg e] at hb
    obtain ⟨h1, h2⟩ := hP b y hb
    exact ⟨h1, h2.kept (oq b e)⟩
theorem zP.one {E : zE} {h : Hp} {H : Heap} {a : Nat} {x : va_E} (hP : zP E h H) (ha : h a = some x) : va_P (zD E) vwCl [(a, x)] H := by
  intro k q hk
  match k, hk with
  | 0, hk => cases hk; exact (hP a x ha).2
  | k + 1, hk => simp at hk
/-- the words of all methods -/
def UU : List Cond := lw_tbl.filter goodWord
theorem UU_in {w : Cond} (h : w ∈ UU) : w ∈ lw_tbl := (List.mem_filter.mp h).1
theorem UU_good : GoodIn UU UU := fun _ h => ⟨h, good_of_word (List.mem_filter.mp h).2⟩
theorem UU_of {w : Cond} (h : w ∈ lw_tbl) (g : goodWord w = true) : w ∈ UU := List.mem_filter.mpr ⟨h, g⟩
theorem UU_cons {y : MethodName} {b : ByteArray} {n : Nat} {r : Option FieldType} (h : Cond.code y b n r ∈ UU) : GoodIn UU (Cond.code y b n r :: UU) := fun w hw => by
  rcases List.mem_cons.mp hw with e | e
  · rw [e]; exact UU_good _ h
  · exact UU_good _ e
def zPre (E : zE) (h : Hp) (U : State) : Prop := zN E ≤ U.heap.size ∧ zP E h U.heap ∧ zK E U ∧ zS E U U.heap
theorem zPre.blind (E : zE) (av : List Value) (h : Hp) : FrameBlind (va_Pc av (zPre E h)) := by
  intro a U g mk hp
  exact ⟨hp.1, hp.2.1, hp.2.2.1, zK.same rfl hp.2.2.2.1, hp.2.2.2.2.moved (Vm.Alike.refl _)⟩
def zQ (E : zE) (v : Option Value) (h : Hp) : Array Value → State → Outcome → State → Prop := fun _ st o t => o = .returned v ∧ zP E h t.heap ∧ va_F (zA E) st t
def zR (d : Nat) : Room := { frames := d, cells := 0, slots := 0, locals := 48 * d }
/-- a contract: with these arguments over the map h, the method answers v and leaves the map h'; calls stand at most d deep -/
def zM (E : zE) (l : Launch) (d : Nat) (y : MethodName) (bytes : ByteArray) (maxL : Nat) (ret : Option FieldType) (av : List Value) (h : Hp) (v : Option Value) (h' : Hp) : Prop :=
  Met l y (Cond.code y bytes maxL ret :: UU) (zR d) (va_Pc av (zPre E h)) (zQ E v h') 0 0 (zA E)
abbrev zX : Type := Program × Launch × Env × Room × State × MethodId × Array Value × List Frame × Method × Code
abbrev xp (X : zX) : Program := X.1
abbrev xl (X : zX) : Launch := X.2.1
abbrev xe (X : zX) : Env := X.2.2.1
abbrev xR (X : zX) : Room := X.2.2.2.1
abbrev xs (X : zX) : State := X.2.2.2.2.1
abbrev xm (X : zX) : MethodId := X.2.2.2.2.2.1
abbrev xa (X : zX) : Array Value := X.2.2.2.2.2.2.1
abbrev xb (X : zX) : List Frame := X.2.2.2.2.2.2.2.1
abbrev xt (X : zX) : Method := X.2.2.2.2.2.2.2.2.1
abbrev xc (X : zX) : Code := X.2.2.2.2.2.2.2.2.2
/-- what stays the same in a method's body -/
def zC (E : zE) (X : zX) (own : String) (cc : ByteArray) (nL : Nat) (ret : Option FieldType) (d : Nat) : Prop :=
  (xp X).tables.exec = Jvm.exec ∧ (xc X).code = cc ∧ (xc X).maxLocals = nL ∧ (xs X).vm.findClass own = some (xm X).cls ∧ (∀ w ∈ UU, w.before (xa X) (xs X) = true) ∧ (xt X).sig.returnType = ret ∧ (xt X).locks = false ∧ zN E ≤ (xs X).heap.size ∧ zK E (xs X) ∧ zS E (xs X) (xs X).heap ∧ d ≤ (xR X).frames ∧ 48 * d ≤ (xR X).locals
/-- from the place pc, over the map h, with the locals lv and the stack st, the machine comes to Q -/
def zW (E : zE) (X : zX) (nL : Nat) (k n : Nat) (Q : State → Prop) (pc : Nat) (h : Hp) (lv : List (Nat × Value)) (st : List Value) : Prop :=
  ∀ (H : Heap) (locs : List Loc) (ls : Array Slot), zP E h H → va_S (zA E) (xs X).heap H locs → lv_has ls nL lv → W (xp X) (xl X) (xe X) (xR X) (xs X) (xm X) (xa X) (xb X) (xt X) (xc X) H locs k n Q (F0 (xm X) pc ls st)
section ZW
variable {E : zE} {X : zX} {own : String} {cc : ByteArray} {nL d k n : Nat} {ret : Option FieldType} {Q : State → Prop} {pc : Nat} {h : Hp} {lv lv' : List (Nat × Value)} {st : List Value}
theorem z_sub (ks : List Nat) (hl : lv_pick lv ks = lv') (kk : zW E X nL k n Q pc h lv' st) : zW E X nL k n Q pc h lv st := fun H locs ls hP hS hv => kk H locs ls hP hS (lv_sub hv ks hl)
theorem z_heap {h' : Hp} (e : h = h') (kk : zW E X nL k n Q pc h' lv st) : zW E X nL k n Q pc h lv st := e ▸ kk
theorem z_stk {st' : List Value} (e : st = st') (kk : zW E X nL k n Q pc h lv st') : zW E X nL k n Q pc h lv st := e ▸ kk
theorem z_iload_n (C : zC E X own cc nL ret d) {j : Fin 4} {x : Int32} (hdg : decode cc pc = .ok (.iload_n j, 1)) (i : Nat) (hi : lv[i]? = some (j.val, .int x)) (kk : zW E X nL k n Q (pc + 1) h lv (.int x :: st)) : zW E X nL k n Q pc h lv st := fun H locs ls hP hS hl => lv_iload_n C.1 C.2.1 hdg rfl (lv_at hl i hi) (kk H locs ls hP hS hl)
theorem z_iload (C : zC E X own cc nL ret d) {j : Nat} {x : Int32} (hdg : decode cc pc = .ok (.iload j, 2)) (i : Nat) (hi : lv[i]? = some (j, .int x)) (kk : zW E X nL k n Q (pc + 2) h lv (.int x :: st)) : zW E X nL k n Q pc h lv st := fun H locs ls hP hS hl => lv_iload C.1 C.2.1 hdg (lv_at hl i hi) (kk H locs ls hP hS hl)
theorem z_lload_n (C : zC E X own cc nL ret d) {j : Fin 4} {x : Int64} (hdg : decode cc pc = .ok (.lload_n j, 1)) (i : Nat) (hi : lv[i]? = some (j.val, .long x)) (kk : zW E X nL k n Q (pc + 1) h lv (.long x :: st)) : zW E X nL k n Q pc h lv st := fun H locs ls hP hS hl => lv_lload_n C.1 C.2.1 hdg rfl (lv_at hl i hi) (kk H locs ls hP hS hl)
theorem z_lload (C : zC E X own cc nL ret d) {j : Nat} {x : Int64} (hdg : decode cc pc = .ok (.lload j, 2)) (i : Nat) (hi : lv[i]? = some (j, .long x)) (kk : zW E X nL k n Q (pc + 2) h lv (.long x :: st)) : zW E X nL k n Q pc h lv st := fun H locs ls hP hS hl => lv_lload C.1 C.2.1 hdg (lv_at hl i hi) (kk H locs ls hP hS hl)
theorem z_aload_n (C : zC E X own cc nL ret d) {j : Fin 4} {x : Nat} (hdg : decode cc pc = .ok (.aload_n j, 1)) (i : Nat) (hi : lv[i]? = some (j.val, .ref x)) (kk : zW E X nL k n Q (pc + 1) h lv (.ref x :: st)) : zW E X nL k n Q pc h lv st := fun H locs ls hP hS hl => lv_aload_n C.1 C.2.1 hdg rfl (lv_at hl i hi) (kk H locs ls hP hS hl)
theorem z_aload (C : zC E X own cc nL ret d) {j : Nat} {x : Nat} (hdg : decode cc pc = .ok (.aload j, 2)) (i : Nat) (hi : lv[i]? = some (j, .ref x)) (kk : zW E X nL k n Q (pc + 2) h lv (.ref x :: st)) : zW E X nL k n Q pc h lv st := fun H locs ls hP hS hl => lv_aload C.1 C.2.1 hdg (lv_at hl i hi) (kk H locs ls hP hS hl)
theorem z_istore_n (C : zC E X own cc nL ret d) {j : Fin 4} {x : Int32} (hdg : decode cc pc = .ok (.istore_n j, 1)) (hn : j.val < nL) (hl : (j.val, Value.int x) :: lv.filter (fun q => !(q.1 == j.val) && !(q.1 + 1 == j.val && q.2.category == 2)) = lv') (kk : zW E X nL k n Q (pc + 1) h lv' st) : zW E X nL k n Q pc h lv (.int x :: st) := fun H locs ls hP hS hv => lv_istore_n C.1 C.2.1 hdg rfl hv hn hl (fun ls' hv' => kk H locs ls' hP hS hv')
theorem z_istore (C : zC E X own cc nL ret d) {j : Nat} {x : Int32} (hdg : decode cc pc = .ok (.istore j, 2)) (hn : j < nL) (hl : (j, Value.int x) :: lv.filter (fun q => !(q.1 == j) && !(q.1 + 1 == j && q.2.category == 2)) = lv') (kk : zW E X nL k n Q (pc + 2) h lv' st) : zW E X nL k n Q pc h lv (.int x :: st) := fun H locs ls hP hS hv => lv_istore C.1 C.2.1 hdg hv hn hl (fun ls' hv' => kk H locs ls' hP hS hv')
theorem z_astore_n (C : zC E X own cc nL ret d) {j : Fin 4} {x : Nat} (hdg : decode cc pc = .ok (.astore_n j, 1)) (hn : j.val < nL) (hl : (j.val, Value.ref x) :: lv.filter (fun q => !(q.1 == j.val) && !(q.1 + 1 == j.val && q.2.category == 2)) = lv') (kk : zW E X nL k n Q (pc + 1) h lv' st) : zW E X nL k n Q pc h lv (.ref x :: st) := fun H locs ls hP hS hv => lv_astore_n C.1 C.2.1 hdg rfl hv hn hl (fun ls' hv' => kk H locs ls' hP hS hv')
theorem z_astore (C : zC E X own cc nL ret d) {j : Nat} {x : Nat} (hdg : decode cc pc = .ok (.astore j, 2)) (hn : j < nL) (hl : (j, Value.ref x) :: lv.filter (fun q => !(q.1 == j) && !(q.1 + 1 == j && q.2.category == 2)) = lv') (kk : zW E X nL k n Q (pc + 2) h lv' st) : zW E X nL k n Q pc h lv (.ref x :: st) := fun H locs ls hP hS hv => lv_astore C.1 C.2.1 hdg hv hn hl (fun ls' hv' => kk H locs ls' hP hS hv')
theorem z_lstore_n (C : zC E X own cc nL ret d) {j : Fin 4} {x : Int64} (hdg : decode cc pc = .ok (.lstore_n j, 1)) (hn : j.val + 1 < nL) (hl : (j.val, Value.long x) :: lv.filter (fun q => !(q.1 == j.val) && (!(q.1 == j.val + 1) && !(q.1 + 1 == j.val && q.2.category == 2))) = lv') (kk : zW E X nL k n Q (pc + 1) h lv' st) : zW E X nL k n Q pc h lv (.long x :: st) := fun H locs ls hP hS hv => lv_lstore_n C.1 C.2.1 hdg rfl hv hn hl (fun ls' hv' => kk H locs ls' hP hS hv')
theorem z_lstore (C : zC E X own cc nL ret d) {j : Nat} {x : Int64} (hdg : decode cc pc = .ok (.lstore j, 2)) (hn : j + 1 < nL) (hl : (j, Value.long x) :: lv.filter (fun q => !(q.1 == j) && (!(q.1 == j + 1) && !(q.1 + 1 == j && q.2.category == 2))) = lv') (kk : zW E X nL k n Q (pc + 2) h lv' st) : zW E X nL k n Q pc h lv (.long x :: st) := fun H locs ls hP hS hv => lv_lstore C.1 C.2.1 hdg hv hn hl (fun ls' hv' => kk H locs ls' hP hS hv')
theorem z_iinc (C : zC E X own cc nL ret d) {j : Nat} {z : Int} {x : Int32} (hdg : decode cc pc = .ok (.iinc j z, 3)) (i : Nat) (v : Int32) (hi : lv[i]? = some (j, .int x)) (hv : x + Int32.ofInt z = v) (hn : j < nL) (hl : (j, Value.int v) :: lv.filter (fun q => !(q.1 == j) && !(q.1 + 1 == j && q.2.category == 2)) = lv') (kk : zW E X nL k n Q (pc + 3) h lv' st) : zW E X nL k n Q pc h lv st := fun H locs ls hP hS hl0 => lv_iinc C.1 C.2.1 hdg hl0 hi hv hn hl (fun ls' hv' => kk H locs ls' hP hS hv')
def jrem (x y : Int32) : Int32 := x - x / y * y
def jushr (x y : Int32) : Int32 := (x.toUInt32 >>> (y.toUInt32 &&& Int32.toUInt32 31)).toInt32
def jshl (x y : Int32) : Int32 := x <<< (y &&& 31)
def jlrem (x y : Int64) : Int64 := x - x / y * y
def jlushr (x : Int64) (y : Int32) : Int64 := (x.toUInt64 >>> (y.toInt64.toUInt64 &&& Int64.toUInt64 63)).toInt64
def jlshl (x : Int64) (y : Int32) : Int64 := x <<< (y.toInt64 &&& 63)
theorem z_iconst (C : zC E X own cc nL ret d) {z : Int} (v : Int32) (hdg : decode cc pc = .ok (.iconst z, 1)) (hv : Int32.ofInt z = v) (kk : zW E X nL k n Q (pc + 1) h lv (.int v :: st)) : zW E X nL k n Q pc h lv st := fun H locs ls hP hS hl => lv_iconst C.1 C.2.1 hdg hv (kk H locs ls hP hS hl)
theorem z_bipush (C : zC E X own cc nL ret d) {z : Int} (v : Int32) (hdg : decode cc pc = .ok (.bipush z, 2)) (hv : (Int8.ofInt z).toInt32 = v) (kk : zW E X nL k n Q (pc + 2) h lv (.int v :: st)) : zW E X nL k n Q pc h lv st := fun H locs ls hP hS hl => lv_bipush C.1 C.2.1 hdg hv (kk H locs ls hP hS hl)
theorem z_sipush (C : zC E X own cc nL ret d) {z : Int} (v : Int32) (hdg : decode cc pc = .ok (.sipush z, 3)) (hv : (Int16.ofInt z).toInt32 = v) (kk : zW E X nL k n Q (pc + 3) h lv (.int v :: st)) : zW E X nL k n Q pc h lv st := fun H locs ls hP hS hl => lv_sipush C.1 C.2.1 hdg hv (kk H locs ls hP hS hl)
theorem z_lconst (C : zC E X own cc nL ret d) {z : Fin 2} (v : Int64) (hdg : decode cc pc = .ok (.lconst z, 1)) (hv : Int64.ofNat z.val = v) (kk : zW E X nL k n Q (pc + 1) h lv (.long v :: st)) : zW E X nL k n Q pc h lv st := fun H locs ls hP hS hl => lv_lconst C.1 C.2.1 hdg hv (kk H locs ls hP hS hl)
theorem z_ldc (C : zC E X own cc nL ret d) {idx : Nat} (v : Int32) (hdg : decode cc pc = .ok (.ldc idx, 2)) (hm : Cond.constant own idx v ∈ UU) (kk : zW E X nL k n Q (pc + 2) h lv (.int v :: st)) : zW E X nL k n Q pc h lv st := fun H locs ls hP hS hl => lv_ldc C.1 C.2.1 C.2.2.2.1 (C.2.2.2.2.1 _ hm) hdg (kk H locs ls hP hS hl)
theorem z_ldcw (C : zC E X own cc nL ret d) {idx : Nat} (v : Int32) (hdg : decode cc pc = .ok (.ldc_w idx, 3)) (hm : Cond.constant own idx v ∈ UU) (kk : zW E X nL k n Q (pc + 3) h lv (.int v :: st)) : zW E X nL k n Q pc h lv st := fun H locs ls hP hS hl => lv_ldcw C.1 C.2.1 C.2.2.2.1 (C.2.2.2.2.1 _ hm) hdg (kk H locs ls hP hS hl)
theorem z_ldc2 (C : zC E X own cc nL ret d) {idx : Nat} (v : Int64) (hdg : decode cc pc = .ok (.ldc2_w idx, 3)) (hm : Cond.constantLong own idx v ∈ UU) (kk : zW E X nL k n Q (pc + 3) h lv (.long v :: st)) : zW E X nL k n Q pc h lv st := fun H locs ls hP hS hl => lv_ldc2 C.1 C.2.1 C.2.2.2.1 (C.2.2.2.2.1 _ hm) hdg (kk H locs ls hP hS hl)
theorem z_null (C : zC E X own cc nL ret d) (hdg : decode cc pc = .ok (.aconst_null, 1)) (kk : zW E X nL k n Q (pc + 1) h lv (.null :: st)) : zW E X nL k n Q pc h lv st := fun H locs ls hP hS hl => lv_null C.1 C.2.1 hdg (kk H locs ls hP hS hl)
theorem z_iadd (C : zC E X own cc nL ret d) {x y : Int32} (hdg : decode cc pc = .ok (.iadd, 1)) (kk : zW E X nL k n Q (pc + 1) h lv (.int (x + y) :: st)) : zW E X nL k n Q pc h lv (.int y :: .int x :: st) := fun H locs ls hP hS hl => lv_iadd C.1 C.2.1 hdg (kk H locs ls hP hS hl)
theorem z_isub (C : zC E X own cc nL ret d) {x y : Int32} (hdg : decode cc pc = .ok (.isub, 1)) (kk : zW E X nL k n Q (pc + 1) h lv (.int (x - y) :: st)) : zW E X nL k n Q pc h lv (.int y :: .int x :: st) := fun H locs ls hP hS hl => lv_isub C.1 C.2.1 hdg (kk H locs ls hP hS hl)
theorem z_imul (C : zC E X own cc nL ret d) {x y : Int32} (hdg : decode cc pc = .ok (.imul, 1)) (kk : zW E X nL k n Q (pc + 1) h lv (.int (x * y) :: st)) : zW E X nL k n Q pc h lv (.int y :: .int x :: st) := fun H locs ls hP hS hl => lv_imul C.1 C.2.1 hdg (kk H locs ls hP hS hl)
theorem z_iand (C : zC E X own cc nL ret d) {x y : Int32} (hdg : decode cc pc = .ok (.iand, 1)) (kk : zW E X nL k n Q (pc + 1) h lv (.int (x &&& y) :: st)) : zW E X nL k n Q pc h lv (.int y :: .int x :: st) := fun H locs ls hP hS hl => lv_iand C.1 C.2.1 hdg (kk H locs ls hP hS hl)
theorem z_ior (C : zC E X own cc nL ret d) {x y : Int32} (hdg : decode cc pc = .ok (.ior, 1)) (kk : zW E X nL k n Q (pc + 1) h lv (.int (x ||| y) :: st)) : zW E X nL k n Q pc h lv (.int y :: .int x :: st) := fun H locs ls hP hS hl => lv_ior C.1 C.2.1 hdg (kk H locs ls hP hS hl)
theorem z_ixor (C : zC E X own cc nL ret d) {x y : Int32} (hdg : decode cc pc = .ok (.ixor, 1)) (kk : zW E X nL k n Q (pc + 1) h lv (.int (x ^^^ y) :: st)) : zW E X nL k n Q pc h lv (.int y :: .int x :: st) := fun H locs ls hP hS hl => lv_ixor C.1 C.2.1 hdg (kk H locs ls hP hS hl)
theorem z_ishl (C : zC E X own cc nL ret d) {x y : Int32} (hdg : decode cc pc = .ok (.ishl, 1)) (kk : zW E X nL k n Q (pc + 1) h lv (.int (jshl x y) :: st)) : zW E X nL k n Q pc h lv (.int y :: .int x :: st) := fun H locs ls hP hS hl => lv_ishl C.1 C.2.1 hdg (kk H locs ls hP hS hl)
theorem z_ladd (C : zC E X own cc nL ret d) {x y : Int64} (hdg : decode cc pc = .ok (.ladd, 1)) (kk : zW E X nL k n Q (pc + 1) h lv (.long (x + y) :: st)) : zW E X nL k n Q pc h lv (.long y :: .long x :: st) := fun H locs ls hP hS hl => lv_ladd C.1 C.2.1 hdg (kk H locs ls hP hS hl)
theorem z_lsub (C : zC E X own cc nL ret d) {x y : Int64} (hdg : decode cc pc = .ok (.lsub, 1)) (kk : zW E X nL k n Q (pc + 1) h lv (.long (x - y) :: st)) : zW E X nL k n Q pc h lv (.long y :: .long x :: st) := fun H locs ls hP hS hl => lv_lsub C.1 C.2.1 hdg (kk H locs ls hP hS hl)
theorem z_lmul (C : zC E X own cc nL ret d) {x y : Int64} (hdg : decode cc pc = .ok (.lmul, 1)) (kk : zW E X nL k n Q (pc + 1) h lv (.long (x * y) :: st)) : zW E X nL k n Q pc h lv (.long y :: .long x :: st) := fun H locs ls hP hS hl => lv_lmul C.1 C.2.1 hdg (kk H locs ls hP hS hl)
theorem z_land (C : zC E X own cc nL ret d) {x y : Int64} (hdg : decode cc pc = .ok (.land, 1)) (kk : zW E X nL k n Q (pc + 1) h lv (.long (x &&& y) :: st)) : zW E X nL k n Q pc h lv (.long y :: .long x :: st) := fun H locs ls hP hS hl => lv_land C.1 C.2.1 hdg (kk H locs ls hP hS hl)
theorem z_lor (C : zC E X own cc nL ret d) {x y : Int64} (hdg : decode cc pc = .ok (.lor, 1)) (kk : zW E X nL k n Q (pc + 1) h lv (.long (x ||| y) :: st)) : zW E X nL k n Q pc h lv (.long y :: .long x :: st) := fun H locs ls hP hS hl => lv_lor C.1 C.2.1 hdg (kk H locs ls hP hS hl)
theorem z_idiv (C : zC E X own cc nL ret d) {x y : Int32} (hdg : decode cc pc = .ok (.idiv, 1)) (hne : ¬ y = 0) (kk : zW E X nL k n Q (pc + 1) h lv (.int (x / y) :: st)) : zW E X nL k n Q pc h lv (.int y :: .int x :: st) := fun H locs ls hP hS hl => lv_idiv C.1 C.2.1 hdg hne (kk H locs ls hP hS hl)
theorem z_irem (C : zC E X own cc nL ret d) {x y : Int32} (hdg : decode cc pc = .ok (.irem, 1)) (hne : ¬ y = 0) (kk : zW E X nL k n Q (pc + 1) h lv (.int (jrem x y) :: st)) : zW E X nL k n Q pc h lv (.int y :: .int x :: st) := fun H locs ls hP hS hl => lv_irem C.1 C.2.1 hdg hne (kk H locs ls hP hS hl)
theorem z_ldiv (C : zC E X own cc nL ret d) {x y : Int64} (hdg : decode cc pc = .ok (.ldiv, 1)) (hne : ¬ y = 0) (kk : zW E X nL k n Q (pc + 1) h lv (.long (x / y) :: st)) : zW E X nL k n Q pc h lv (.long y :: .long x :: st) := fun H locs ls hP hS hl => lv_ldiv C.1 C.2.1 hdg hne (kk H locs ls hP hS hl)
theorem z_lrem (C : zC E X own cc nL ret d) {x y : Int64} (hdg : decode cc pc = .ok (.lrem, 1)) (hne : ¬ y = 0) (kk : zW E X nL k n Q (pc + 1) h lv (.long (jlrem x y) :: st)) : zW E X nL k n Q pc h lv (.long y :: .long x :: st) := fun H locs ls hP hS hl => lv_lrem C.1 C.2.1 hdg hne (kk H locs ls hP hS hl)
theorem z_iushr (C : zC E X own cc nL ret d) {x y : Int32} (hdg : decode cc pc = .ok (.iushr, 1)) (kk : zW E X nL k n Q (pc + 1) h lv (.int (jushr x y) :: st)) : zW E X nL k n Q pc h lv (.int y :: .int x :: st) := fun H locs ls hP hS hl => lv_iushr C.1 C.2.1 hdg rfl (kk H locs ls hP hS hl)
theorem z_lushr (C : zC E X own cc nL ret d) {x : Int64} {y : Int32} (hdg : decode cc pc = .ok (.lushr, 1)) (kk : zW E X nL k n Q (pc + 1) h lv (.long (jlushr x y) :: st)) : zW E X nL k n Q pc h lv (.int y :: .long x :: st) := fun H locs ls hP hS hl => lv_lushr C.1 C.2.1 hdg rfl (kk H locs ls hP hS hl)
theorem z_lshl (C : zC E X own cc nL ret d) {x : Int64} {y : Int32} (hdg : decode cc pc = .ok (.lshl, 1)) (kk : zW E X nL k n Q (pc + 1) h lv (.long (jlshl x y) :: st)) : zW E X nL k n Q pc h lv (.int y :: .long x :: st) := fun H locs ls hP hS hl => lv_lshl C.1 C.2.1 hdg rfl (kk H locs ls hP hS hl)
theorem z_i2l (C : zC E X own cc nL ret d) {x : Int32} (hdg : decode cc pc = .ok (.i2l, 1)) (kk : zW E X nL k n Q (pc + 1) h lv (.long x.toInt64 :: st)) : zW E X nL k n Q pc h lv (.int x :: st) := fun H locs ls hP hS hl => lv_i2l C.1 C.2.1 hdg rfl (kk H locs ls hP hS hl)
theorem z_l2i (C : zC E X own cc nL ret d) {x : Int64} (hdg : decode cc pc = .ok (.l2i, 1)) (kk : zW E X nL k n Q (pc + 1) h lv (.int x.toInt32 :: st)) : zW E X nL k n Q pc h lv (.long x :: st) := fun H locs ls hP hS hl => lv_l2i C.1 C.2.1 hdg rfl (kk H locs ls hP hS hl)
theorem z_lcmp (C : zC E X own cc nL ret d) {x y : Int64} (hdg : decode cc pc = .ok (.lcmp, 1)) (kk : zW E X nL k n Q (pc + 1) h lv (.int (lg_cmp x y) :: st)) : zW E X nL k n Q pc h lv (.long y :: .long x :: st) := fun H locs ls hP hS hl => W.lcmp C.1 C.2.1 hdg (kk H locs ls hP hS hl)
theorem z_dup (C : zC E X own cc nL ret d) {v : Value} (hdg : decode cc pc = .ok (.dup, 1)) (hv : v.category = 1) (kk : zW E X nL k n Q (pc + 1) h lv (v :: v :: st)) : zW E X nL k n Q pc h lv (v :: st) := fun H locs ls hP hS hl => lv_dup C.1 C.2.1 hdg hv (kk H locs ls hP hS hl)
theorem z_dup2 (C : zC E X own cc nL ret d) {v w : Value} (hdg : decode cc pc = .ok (.dup2, 1)) (hv : v.category = 1) (hw : w.category = 1) (kk : zW E X nL k n Q (pc + 1) h lv (v :: w :: v :: w :: st)) : zW E X nL k n Q pc h lv (v :: w :: st) := fun H locs ls hP hS hl => lv_dup2_11 C.1 C.2.1 hdg hv hw (kk H locs ls hP hS hl)
theorem z_pop (C : zC E X own cc nL ret d) {v : Value} (hdg : decode cc pc = .ok (.pop, 1)) (hv : v.category = 1) (kk : zW E X nL k n Q (pc + 1) h lv st) : zW E X nL k n Q pc h lv (v :: st) := fun H locs ls hP hS hl => lv_pop C.1 C.2.1 hdg hv (kk H locs ls hP hS hl)
theorem z_goto (C : zC E X own cc nL ret d) {off : Int} (tgt : Nat) (hdg : decode cc pc = .ok (.goto off, 3)) (ht : (pc : Int) + off = (tgt : Int)) (kk : zW E X nL k n Q tgt h lv st) : zW E X nL k n Q pc h lv st := fun H locs ls hP hS hl => lv_goto C.1 C.2.1 hdg ht (kk H locs ls hP hS hl)
theorem z_if_eq (C : zC E X own cc nL ret d) {x : Int32} {off : Int} (tgt : Nat) (hdg : decode cc pc = .ok (.ifCond .eq off, 3)) (ht : (pc : Int) + off = (tgt : Int)) (kt : x = 0 → zW E X nL k n Q tgt h lv st) (kf : ¬ x = 0 → zW E X nL k n Q (pc + 3) h lv st) : zW E X nL k n Q pc h lv (.int x :: st) := fun H locs ls hP hS hl => lv_if_eq C.1 C.2.1 hdg ht (fun c => kt c H locs ls hP hS hl) (fun c => kf c H locs ls hP hS hl)
theorem z_icmp_eq (C : zC E X own cc nL ret d) {x y : Int32} {off : Int} (tgt : Nat) (hdg : decode cc pc = .ok (.if_icmp .eq off, 3)) (ht : (pc : Int) + off = (tgt : Int)) (kt : x = y → zW E X nL k n Q tgt h lv st) (kf : ¬ x = y → zW E X nL k n Q (pc + 3) h lv st) : zW E X nL k n Q pc h lv (.int y :: .int x :: st) := fun H locs ls hP hS hl => lv_icmp_eq C.1 C.2.1 hdg ht (fun c => kt c H locs ls hP hS hl) (fun c => kf c H locs ls hP hS hl)
theorem z_if_ne (C : zC E X own cc nL ret d) {x : Int32} {off : Int} (tgt : Nat) (hdg : decode cc pc = .ok (.ifCond .ne off, 3)) (ht : (pc : Int) + off = (tgt : Int)) (kt : ¬ x = 0 → zW E X nL k n Q tgt h lv st) (kf : x = 0 → zW E X nL k n Q (pc + 3) h lv st) : zW E X nL k n Q pc h lv (.int x :: st) := fun H locs ls hP hS hl => lv_if_ne C.1 C.2.1 hdg ht (fun c => kt c H locs ls hP hS hl) (fun c => kf c H locs ls hP hS hl)
theorem z_icmp_ne (C : zC E X own cc nL ret d) {x y : Int32} {off : Int} (tgt : Nat) (hdg : decode cc pc = .ok (.if_icmp .ne off, 3)) (ht : (pc : Int) + off = (tgt : Int)) (kt : ¬ x = y → zW E X nL k n Q tgt h lv st) (kf : x = y → zW E X nL k n Q (pc + 3) h lv st) : zW E X nL k n Q pc h lv (.int y :: .int x :: st) := fun H locs ls hP hS hl => lv_icmp_ne C.1 C.2.1 hdg ht (fun c => kt c H locs ls hP hS hl) (fun c => kf c H locs ls hP hS hl)
theorem z_if_lt (C : zC E X own cc nL ret d) {x : Int32} {off : Int} (tgt : Nat) (hdg : decode cc pc = .ok (.ifCond .lt off, 3)) (ht : (pc : Int) + off = (tgt : Int)) (kt : x < 0 → zW E X nL k n Q tgt h lv st) (kf : ¬ x < 0 → zW E X nL k n Q (pc + 3) h lv st) : zW E X nL k n Q pc h lv (.int x :: st) := fun H locs ls hP hS hl => lv_if_lt C.1 C.2.1 hdg ht (fun c => kt c H locs ls hP hS hl) (fun c => kf c H locs ls hP hS hl)
theorem z_icmp_lt (C : zC E X own cc nL ret d) {x y : Int32} {off : Int} (tgt : Nat) (hdg : decode cc pc = .ok (.if_icmp .lt off, 3)) (ht : (pc : Int) + off = (tgt : Int)) (kt : x < y → zW E X nL k n Q tgt h lv st) (kf : ¬ x < y → zW E X nL k n Q (pc + 3) h lv st) : zW E X nL k n Q pc h lv (.int y :: .int x :: st) := fun H locs ls hP hS hl => lv_icmp_lt C.1 C.2.1 hdg ht (fun c => kt c H locs ls hP hS hl) (fun c => kf c H locs ls hP hS hl)
theorem z_if_ge (C : zC E X own cc nL ret d) {x : Int32} {off : Int} (tgt : Nat) (hdg : decode cc pc = .ok (.ifCond .ge off, 3)) (ht : (pc : Int) + off = (tgt : Int)) (kt : 0 ≤ x → zW E X nL k n Q tgt h lv st) (kf : ¬ 0 ≤ x → zW E X nL k n Q (pc + 3) h lv st) : zW E X nL k n Q pc h lv (.int x :: st) := fun H locs ls hP hS hl => lv_if_ge C.1 C.2.1 hdg ht (fun c => kt c H locs ls hP hS hl) (fun c => kf c H locs ls hP hS hl)
theorem z_icmp_ge (C : zC E X own cc nL ret d) {x y : Int32} {off : Int} (tgt : Nat) (hdg : decode cc pc = .ok (.if_icmp .ge off, 3)) (ht : (pc : Int) + off = (tgt : Int)) (kt : y ≤ x → zW E X nL k n Q tgt h lv st) (kf : ¬ y ≤ x → zW E X nL k n Q (pc + 3) h lv st) : zW E X nL k n Q pc h lv (.int y :: .int x :: st) := fun H locs ls hP hS hl => lv_icmp_ge C.1 C.2.1 hdg ht (fun c => kt c H locs ls hP hS hl) (fun c => kf c H locs ls hP hS hl)
theorem z_if_gt (C : zC E X own cc nL ret d) {x : Int32} {off : Int} (tgt : Nat) (hdg : decode cc pc = .ok (.ifCond .gt off, 3)) (ht : (pc : Int) + off = (tgt : Int)) (kt : 0 < x → zW E X nL k n Q tgt h lv st) (kf : ¬ 0 < x → zW E X nL k n Q (pc + 3) h lv st) : zW E X nL k n Q pc h lv (.int x :: st) := fun H locs ls hP hS hl => lv_if_gt C.1 C.2.1 hdg ht (fun c => kt c H locs ls hP hS hl) (fun c => kf c H locs ls hP hS hl)
theorem z_icmp_gt (C : zC E X own cc nL ret d) {x y : Int32} {off : Int} (tgt : Nat) (hdg : decode cc pc = .ok (.if_icmp .gt off, 3)) (ht : (pc : Int) + off = (tgt : Int)) (kt : y < x → zW E X nL k n Q tgt h lv st) (kf : ¬ y < x → zW E X nL k n Q (pc + 3) h lv st) : zW E X nL k n Q pc h lv (.int y :: .int x :: st) := fun H locs ls hP hS hl => lv_icmp_gt C.1 C.2.1 hdg ht (fun c => kt c H locs ls hP hS hl) (fun c => kf c H locs ls hP hS hl)
theorem z_if_le (C : zC E X own cc nL ret d) {x : Int32} {off : Int} (tgt : Nat) (hdg : decode cc pc = .ok (.ifCond .le off, 3)) (ht : (pc : Int) + off = (tgt : Int)) (kt : x ≤ 0 → zW E X nL k n Q tgt h lv st) (kf : ¬ x ≤ 0 → zW E X nL k n Q (pc + 3) h lv st) : zW E X nL k n Q pc h lv (.int x :: st) := fun H locs ls hP hS hl => lv_if_le C.1 C.2.1 hdg ht (fun c => kt c H locs ls hP hS hl) (fun c => kf c H locs ls hP hS hl)
theorem z_icmp_le (C : zC E X own cc nL ret d) {x y : Int32} {off : Int} (tgt : Nat) (hdg : decode cc pc = .ok (.if_icmp .le off, 3)) (ht : (pc : Int) + off = (tgt : Int)) (kt : x ≤ y → zW E X nL k n Q tgt h lv st) (kf : ¬ x ≤ y → zW E X nL k n Q (pc + 3) h lv st) : zW E X nL k n Q pc h lv (.int y :: .int x :: st) := fun H locs ls hP hS hl => lv_icmp_le C.1 C.2.1 hdg ht (fun c => kt c H locs ls hP hS hl) (fun c => kf c H locs ls hP hS hl)
theorem z_ifnull (C : zC E X own cc nL ret d) {x : Nat} {off : Int} (hdg : decode cc pc = .ok (.ifnull off, 3)) (kk : zW E X nL k n Q (pc + 3) h lv st) : zW E X nL k n Q pc h lv (.ref x :: st) := fun H locs ls hP hS hl => lv_ifnull C.1 C.2.1 hdg (kk H locs ls hP hS hl)
theorem z_ifnullN (C : zC E X own cc nL ret d) {off : Int} (tgt : Nat) (hdg : decode cc pc = .ok (.ifnull off, 3)) (ht : (pc : Int) + off = (tgt : Int)) (kk : zW E X nL k n Q tgt h lv st) : zW E X nL k n Q pc h lv (.null :: st) := fun H locs ls hP hS hl => lv_ifnullN C.1 C.2.1 hdg ht (kk H locs ls hP hS hl)
theorem z_tableIn (C : zC E X own cc nL ret d) {dflt lo hi : Int} {offs : Array Int} {len : Nat} {x : Int32} (off : Int) (tgt : Nat) (hdg : decode cc pc = .ok (.tableswitch dflt lo hi offs, len)) (h1 : ¬ x.toInt < lo) (h2 : ¬ hi < x.toInt) (ho : offs[(x.toInt - lo).toNat]? = some off) (ht : (pc : Int) + off = (tgt : Int)) (kk : zW E X nL k n Q tgt h lv st) : zW E X nL k n Q pc h lv (.int x :: st) := fun H locs ls hP hS hl => lv_tableIn C.1 C.2.1 hdg h1 h2 ho ht (kk H locs ls hP hS hl)
theorem z_tableOut (C : zC E X own cc nL ret d) {dflt lo hi : Int} {offs : Array Int} {len : Nat} {x : Int32} (tgt : Nat) (hdg : decode cc pc = .ok (.tableswitch dflt lo hi offs, len)) (hx : x.toInt < lo ∨ hi < x.toInt) (ht : (pc : Int) + dflt = (tgt : Int)) (kk : zW E X nL k n Q tgt h lv st) : zW E X nL k n Q pc h lv (.int x :: st) := fun H locs ls hP hS hl => lv_tableOut C.1 C.2.1 hdg hx ht (kk H locs ls hP hS hl)
theorem z_lookup (C : zC E X own cc nL ret d) {dflt : Int} {ps : Array (Int × Int)} {len : Nat} {x : Int32} (off : Int) (tgt : Nat) (hdg : decode cc pc = .ok (.lookupswitch dflt ps, len)) (hp : (ps.toList.zip (ps.toList.drop 1)).all (fun (a, next) => a.1 < next.1) = true) (ho : Op.lookupswitch.offset ps.toList dflt x.toInt = off) (ht : (pc : Int) + off = (tgt : Int)) (kk : zW E X nL k n Q tgt h lv st) : zW E X nL k n Q pc h lv (.int x :: st) := fun H locs ls hP hS hl => lv_lookup C.1 C.2.1 hdg hp ho ht (kk H locs ls hP hS hl)
theorem z_get (C : zC E X own cc nL ret d) {ref Cn : String} {T : u_T} {N ci index a : Nat} {fs : List Value} (hin : ∀ w ∈ u_ws Cn T N, w ∈ UU) (hc : vwCl[ci]? = some (Cn, T, N)) (f : Nat) (hf : f < N) (hm : Cond.fieldLink own index ref (T f).2.1 (T f).2.2.1 ∈ UU) (hsame : (T f).1 = ref) (ha : h a = some (.inr (ci, fs))) (v : Value) (hv : fs[f]? = some v) (hdg : decode cc pc = .ok (.getfield index, 3)) (kk : zW E X nL k n Q (pc + 3) h lv (v :: st)) : zW E X nL k n Q pc h lv (.ref a :: st) := fun H locs ls hP hS hl => 
  va_get C.1 C.2.1 C.2.2.2.2.1 hin C.2.2.2.1 C.2.2.2.2.2.2.2.2.1.1 (hP.one ha) 0 rfl hc f hf (C.2.2.2.2.1 _ hm) (fun x hx => by rw [← hsame]; exact hx) hv hdg (kk H locs ls hP hS hl)
theorem z_put (C : zC E X own cc nL ret d) {ref Cn : String} {T : u_T} {N ci index a : Nat} {fs : List Value} {v : Value} (hin : ∀ w ∈ u_ws Cn T N, w ∈ UU) (ty0 : Nat → FieldType) (hty : ∀ k, k < N → parseFieldDescriptor (T k).2.2.1 = some (ty0 k)) (hnm : ∀ a, a < N → ∀ b, b < N → a ≠ b → (T a).2.1 ≠ (T b).2.1) (hc : vwCl[ci]? = some (Cn, T, N)) (f : Nat) (hf : f < N) (hm : Cond.fieldLink own index ref (T f).2.1 (T f).2.2.1 ∈ UU) (hsame : (T f).1 = ref) (hfin : (T f).2.2.2 = false) (hn : narrow (ty0 f) v = v) (hfit : fits (ty0 f) v = true) (ha : h a = some (.inr (ci, fs))) (hlen : f < fs.length) (hdg : decode cc pc = .ok (.putfield index, 3)) (h' : Hp) (e : hup h a (.inr (ci, fs.set f v)) = h') (kk : zW E X nL k n Q (pc + 3) h' lv st) : zW E X nL k n Q pc h lv (v :: .ref a :: st) := by
  intro H locs ls hP hS hl
  have hK := C.2.2.2.2.2.2.2.2.1.1
  have hts := C.2.2.2.2.1
  have hap := va_apart (own := own) hts hin ty0 hty hnm hK hc
  obtain ⟨hNa, r, h1, cell, q1, q2, q3, q4⟩ := hP a _ ha
  have hr : r = (Cn, T, N) := Option.some.inj (h1.symm.trans hc)
  subst hr
  obtain ⟨hSl, hfc, kC, hkC, hkind⟩ := hK.1 ci _ hc
  obtain ⟨cf, kf, fi, fd, hi, hsl⟩ := hSl f hf
  have hlay := hts _ (hin _ (u_in_lay hf))
  unfold u_lay at hlay
  rw [if_neg (by rw [hfin]; decide)] at hlay
  have hst := (u_facts hfc hkC (u_lays hts hin hf) hi).1
  have h6 := u_store hfc hkC hkind hlay hi (hty f hf) hn hfit
  refine W.putK C.1 C.2.1 (f := fd) ⟨C.2.2.2.1, hts _ hm, ⟨_, _, _, by rw [← hsame]; exact hi⟩, hst⟩ (by rw [q2]; exact h6) q1 q3 (by rw [hsl]; exact k2_hasslot (q4 f hf)) rfl rfl hdg fun H' e1 e2 e3 => ?_
  rw [hsl] at e1
  refine kk H' _ ls ?_ (hS.put e2 e3 hNa) hl
  rw [← e]
  exact hP.up hNa ⟨_, hc, t_OB.to (V := updV (vp_V fs) f v) ⟨_, e1, q2, q3, t_set q4 hap hf v⟩ (fun j _ => vp_updV_set hlen v j)⟩ e3
theorem z_iald (C : zC E X own cc nL ret d) {a N : Nat} {f : Nat → Int32} {i : Int32} (ha : h a = some (.inl (zI E, N, .inl f))) (hin : vp_in i N) (hdg : decode cc pc = .ok (.iaload, 1)) (kk : zW E X nL k n Q (pc + 1) h lv (.int (f i.toNatClampNeg) :: st)) : zW E X nL k n Q pc h lv (.int i :: .ref a :: st) := fun H locs ls hP hS hl => 
  va_iald C.1 C.2.1 C.2.2.2.2.2.2.2.2.1.1 (hP.one ha) 0 0 rfl rfl hin hdg (kk H locs ls hP hS hl)
theorem z_zald (C : zC E X own cc nL ret d) {a N : Nat} {f : Nat → Int32} {i : Int32} (ha : h a = some (.inl (zB E, N, .inl f))) (hin : vp_in i N) (hdg : decode cc pc = .ok (.baload, 1)) (kk : zW E X nL k n Q (pc + 1) h lv (.int (f i.toNatClampNeg) :: st)) : zW E X nL k n Q pc h lv (.int i :: .ref a :: st) := fun H locs ls hP hS hl => 
  va_zald C.1 C.2.1 C.2.2.2.2.2.2.2.2.1.1 (hP.one ha) 0 1 rfl rfl hin hdg (kk H locs ls hP hS hl)
theorem z_lald (C : zC E X own cc nL ret d) {a N : Nat} {f : Nat → Int64} {i : Int32} (ha : h a = some (.inl (zJ E, N, .inr (.inl f)))) (hin : vp_in i N) (hdg : decode cc pc = .ok (.laload, 1)) (kk : zW E X nL k n Q (pc + 1) h lv (.long (f i.toNatClampNeg) :: st)) : zW E X nL k n Q pc h lv (.int i :: .ref a :: st) := fun H locs ls hP hS hl => 
  va_lald C.1 C.2.1 C.2.2.2.2.2.2.2.2.1.1 (hP.one ha) 0 2 rfl rfl hin hdg (kk H locs ls hP hS hl)
theorem z_iast (C : zC E X own cc nL ret d) {a N : Nat} {f : Nat → Int32} {i : Int32} {x : Int32} (ha : h a = some (.inl (zI E, N, .inl (f)))) (hin : vp_in i N) (hdg : decode cc pc = .ok (.iastore, 1)) (h' : Hp) (e : hup h a (.inl (zI E, N, .inl (upd f i.toNatClampNeg x))) = h') (kk : zW E X nL k n Q (pc + 1) h' lv st) : zW E X nL k n Q pc h lv (.int x :: .int i :: .ref a :: st) := by
  intro H locs ls hP hS hl
  have hK := C.2.2.2.2.2.2.2.2.1.1
  have hPa := (hP a _ ha).2
  have hNa := (hP a _ ha).1
  refine W.iast C.1 C.2.1 hPa ((hK.2 0 _ rfl).1 N (fun j => .int (f j))) (fun q => by cases q) (by show ¬ (i < 0 ∨ (arrV _ _ _).slots.size ≤ _); rw [arrV_size]; exact hin) rfl rfl hdg fun H1 e1 z oq => ?_
  refine kk H1 _ ls ?_ (hS.put z oq hNa) hl
  rw [← e]
  refine hP.up hNa ?_ oq
  show H1[a]? = some (vp_cell _ _)
  rw [e1]
  rw [vp_cell_i, vp_cell_i, arrV_store]
  congr 2
  funext q
  by_cases hq : q = i.toNatClampNeg
  · subst hq
    simp [updV, upd]
  · simp [updV, upd, hq]
theorem z_zast (C : zC E X own cc nL ret d) {a N : Nat} {f : Nat → Int32} {i : Int32} {x : Int32} (ha : h a = some (.inl (zB E, N, .inl (f)))) (hin : vp_in i N) (hdg : decode cc pc = .ok (.bastore, 1)) (h' : Hp) (e : hup h a (.inl (zB E, N, .inl (upd f i.toNatClampNeg (vp_nar .boolean x)))) = h') (kk : zW E X nL k n Q (pc + 1) h' lv st) : zW E X nL k n Q pc h lv (.int x :: .int i :: .ref a :: st) := by
  intro H locs ls hP hS hl
  have hK := C.2.2.2.2.2.2.2.2.1.1
  have hPa := (hP a _ ha).2
  have hNa := (hP a _ ha).1
  refine W.zast C.1 C.2.1 hPa ((hK.2 1 _ rfl).1 N (fun j => .int (f j))) (fun q => by cases q) (by show ¬ (i < 0 ∨ (arrV _ _ _).slots.size ≤ _); rw [arrV_size]; exact hin) rfl rfl hdg fun H1 e1 z oq => ?_
  refine kk H1 _ ls ?_ (hS.put z oq hNa) hl
  rw [← e]
  refine hP.up hNa ?_ oq
  show H1[a]? = some (vp_cell _ _)
  rw [e1]
  rw [vp_cell_i, vp_cell_i, arrV_store]
  congr 2
  funext q
  by_cases hq : q = i.toNatClampNeg
  · subst hq
    simp [updV, upd, vp_nar]
    try rfl
  · simp [updV, upd, hq]
theorem z_last (C : zC E X own cc nL ret d) {a N : Nat} {f : Nat → Int64} {i : Int32} {x : Int64} (ha : h a = some (.inl (zJ E, N, .inr (.inl (f))))) (hin : vp_in i N) (hdg : decode cc pc = .ok (.lastore, 1)) (h' : Hp) (e : hup h a (.inl (zJ E, N, .inr (.inl (vp_updL f i.toNatClampNeg x)))) = h') (kk : zW E X nL k n Q (pc + 1) h' lv st) : zW E X nL k n Q pc h lv (.long x :: .int i :: .ref a :: st) := by
  intro H locs ls hP hS hl
  have hK := C.2.2.2.2.2.2.2.2.1.1
  have hPa := (hP a _ ha).2
  have hNa := (hP a _ ha).1
  refine W.last C.1 C.2.1 hPa ((hK.2 2 _ rfl).1 N (fun j => .long (f j))) (fun q => by cases q) (by show ¬ (i < 0 ∨ (arrV _ _ _).slots.size ≤ _); rw [arrV_size]; exact hin) rfl rfl hdg fun H1 e1 z oq => ?_
  refine kk H1 _ ls ?_ (hS.put z oq hNa) hl
  rw [← e]
  refine hP.up hNa ?_ oq
  show H1[a]? = some (vp_cell _ _)
  rw [e1]
  rw [vp_cell_l, vp_cell_l, arrV_store]
  congr 2
  funext q
  by_cases hq : q = i.toNatClampNeg
  · subst hq
    simp [updV, vp_updL]
  · simp [updV, vp_updL, hq]
theorem z_alen (C : zC E X own cc nL ret d) {a : Nat} {x : vp_A} (ha : h a = some (.inl (zG E, x))) {v : Int32} (hv : Int32.ofNat x.1 = v) (hdg : decode cc pc = .ok (.arraylength, 1)) (kk : zW E X nL k n Q (pc + 1) h lv (.int v :: st)) : zW E X nL k n Q pc h lv (.ref a :: st) := fun H locs ls hP hS hl => 
  va_alen C.1 C.2.1 C.2.2.2.2.2.2.2.2.1.1 (hP.one ha) 0 3 rfl rfl hv hdg (kk H locs ls hP hS hl)
theorem z_aald (C : zC E X own cc nL ret d) {a N b : Nat} {f : Nat → Option Nat} {i : Int32} (ha : h a = some (.inl (zG E, N, .inr (.inr (.inr (.inr f)))))) (hin : vp_in i N) (hb : f i.toNatClampNeg = some b) (hdg : decode cc pc = .ok (.aaload, 1)) (kk : zW E X nL k n Q (pc + 1) h lv (.ref b :: st)) : zW E X nL k n Q pc h lv (.int i :: .ref a :: st) := fun H locs ls hP hS hl => 
  va_aldq C.1 C.2.1 C.2.2.2.2.2.2.2.2.1.1 (hP.one ha) 0 3 rfl rfl hin hdg (by rw [hb]; exact kk H locs ls hP hS hl)
theorem z_getsLow (C : zC E X own cc nL ret d) {index : Nat} (hm : Cond.fieldLink own index "SpiralDominoes" "LOW" "[I" ∈ UU) (hdg : decode cc pc = .ok (.getstatic index, 3)) (kk : zW E X nL k n Q (pc + 3) h lv (.ref (zLo E) :: st)) : zW E X nL k n Q pc h lv st := fun H locs ls hP hS hl => 
  va_gets C.1 C.2.1 C.2.2.2.2.2.2.2.2.2.1.1 hS C.2.2.2.1 (C.2.2.2.2.1 _ hm) (fun _ h9 => h9) hdg (kk H locs ls hP hS hl)
theorem z_getsLowN (C : zC E X own cc nL ret d) {index : Nat} (hm : (own, index, "SpiralDominoes", "LOW", "[I", "SpiralDominoes") ∈ zNestF) (hdg : decode cc pc = .ok (.getstatic index, 3)) (kk : zW E X nL k n Q (pc + 3) h lv (.ref (zLo E) :: st)) : zW E X nL k n Q pc h lv st := fun H locs ls hP hS hl => 
  va_getsN C.1 C.2.1 C.2.2.2.2.2.2.2.2.2.1.1 hS C.2.2.2.1 (va_Nw.use rfl (C.2.2.2.2.2.2.2.2.1.2.2.1 _ hm)) (fun _ h9 => h9) hdg (kk H locs ls hP hS hl)
theorem z_tldLow (C : zC E X own cc nL ret d) {i : Int32} (hin : vp_in i 28) (hdg : decode cc pc = .ok (.iaload, 1)) (kk : zW E X nL k n Q (pc + 1) h lv (.int (lowT i.toNatClampNeg) :: st)) : zW E X nL k n Q pc h lv (.int i :: .ref (zLo E) :: st) := fun H locs ls hP hS hl => 
  va_ti C.1 C.2.1 C.2.2.2.2.2.2.2.2.2.1.2.1 hS hin rfl hdg (kk H locs ls hP hS hl)
theorem z_getsHigh (C : zC E X own cc nL ret d) {index : Nat} (hm : Cond.fieldLink own index "SpiralDominoes" "HIGH" "[I" ∈ UU) (hdg : decode cc pc = .ok (.getstatic index, 3)) (kk : zW E X nL k n Q (pc + 3) h lv (.ref (zHi E) :: st)) : zW E X nL k n Q pc h lv st := fun H locs ls hP hS hl => 
  va_gets C.1 C.2.1 C.2.2.2.2.2.2.2.2.2.1.2.2.1 hS C.2.2.2.1 (C.2.2.2.2.1 _ hm) (fun _ h9 => h9) hdg (kk H locs ls hP hS hl)
theorem z_getsHighN (C : zC E X own cc nL ret d) {index : Nat} (hm : (own, index, "SpiralDominoes", "HIGH", "[I", "SpiralDominoes") ∈ zNestF) (hdg : decode cc pc = .ok (.getstatic index, 3)) (kk : zW E X nL k n Q (pc + 3) h lv (.ref (zHi E) :: st)) : zW E X nL k n Q pc h lv st := fun H locs ls hP hS hl => 
  va_getsN C.1 C.2.1 C.2.2.2.2.2.2.2.2.2.1.2.2.1 hS C.2.2.2.1 (va_Nw.use rfl (C.2.2.2.2.2.2.2.2.1.2.2.1 _ hm)) (fun _ h9 => h9) hdg (kk H locs ls hP hS hl)
theorem z_tldHigh (C : zC E X own cc nL ret d) {i : Int32} (hin : vp_in i 28) (hdg : decode cc pc = .ok (.iaload, 1)) (kk : zW E X nL k n Q (pc + 1) h lv (.int (highT i.toNatClampNeg) :: st)) : zW E X nL k n Q pc h lv (.int i :: .ref (zHi E) :: st) := fun H locs ls hP hS hl => 
  va_ti C.1 C.2.1 C.2.2.2.2.2.2.2.2.2.1.2.2.2.1 hS hin rfl hdg (kk H locs ls hP hS hl)
theorem z_ireturn (C : zC E X own cc nL (some .int) d) {v : Int32} (hdg : decode cc pc = .ok (.ireturn, 1)) : zW E X nL k n (MQ (xb X) (zQ E (some (.int v)) h) (xa X) (xs X) k n (zA E)) pc h lv [.int v] := fun H locs ls hP hS hl => W.iret C.1 C.2.1 C.2.2.2.2.2.1 (fun t ht hW => ⟨rfl, by rw [ht]; exact hP, hS.F ht⟩) hS.2.2 hdg C.2.2.2.2.2.2.1
theorem z_narB {v : Int32} (hb : v = 0 ∨ v = 1) : narrow .boolean (.int v) = .int v := by rcases hb with rfl | rfl <;> rfl
theorem z_zreturn (C : zC E X own cc nL (some .boolean) d) {v : Int32} (hb : v = 0 ∨ v = 1) (hdg : decode cc pc = .ok (.ireturn, 1)) : zW E X nL k n (MQ (xb X) (zQ E (some (.int v)) h) (xa X) (xs X) k n (zA E)) pc h lv [.int v] := fun H locs ls hP hS hl => W.zret C.1 C.2.1 C.2.2.2.2.2.1 (z_narB hb) (fun t ht hW => ⟨rfl, by rw [ht]; exact hP, hS.F ht⟩) hS.2.2 hdg C.2.2.2.2.2.2.1
theorem z_return (C : zC E X own cc nL none d) (hdg : decode cc pc = .ok (.return_, 1)) : zW E X nL k n (MQ (xb X) (zQ E none h) (xa X) (xs X) k n (zA E)) pc h lv [] := fun H locs ls hP hS hl => W.vret C.1 C.2.1 C.2.2.2.2.2.1 (fun t ht hW => ⟨rfl, by rw [ht]; exact hP, hS.F ht⟩) hS.2.2 hdg C.2.2.2.2.2.2.1
theorem z_lreturn (C : zC E X own cc nL (some .long) d) {v : Int64} (hdg : decode cc pc = .ok (.lreturn, 1)) : zW E X nL k n (MQ (xb X) (zQ E (some (.long v)) h) (xa X) (xs X) k n (zA E)) pc h lv [.long v] := fun H locs ls hP hS hl => W.lret C.1 C.2.1 C.2.2.2.2.2.1 (fun t ht hW => ⟨rfl, by rw [ht]; exact hP, hS.F ht⟩) hS.2.2 hdg C.2.2.2.2.2.2.1
theorem z_areturn {cn : String} (C : zC E X own cc nL (some (.object cn)) d) {v : Value} (hv : v = .null ∨ ∃ a, v = .ref a) (hdg : decode cc pc = .ok (.areturn, 1)) : zW E X nL k n (MQ (xb X) (zQ E (some v) h) (xa X) (xs X) k n (zA E)) pc h lv [v] := fun H locs ls hP hS hl => W.aret C.1 C.2.1 C.2.2.2.2.2.1 (Or.inl ⟨_, rfl⟩) hv (fun t ht hW => ⟨rfl, by rw [ht]; exact hP, hS.F ht⟩) hS.2.2 hdg C.2.2.2.2.2.2.1
theorem zC.pre (C : zC E X own cc nL ret d) {H : Heap} {locs : List Loc} (hP : zP E h H) (hS : va_S (zA E) (xs X).heap H locs) (U : State) (hU : U.heap = H) (hW : (xs X).WarmedH U.vm) : zPre E h U :=
  ⟨by rw [hU]; exact Nat.le_trans C.2.2.2.2.2.2.2.1 hS.1, by rw [hU]; exact hP, C.2.2.2.2.2.2.2.2.1.warm hW, by rw [hU]; exact (C.2.2.2.2.2.2.2.2.2.1.kept hS.2.1).moved hW.alike⟩
theorem z_run {pc1 : Nat} {av rest st0 : List Value} {h1 : Hp} {v : Option Value} (hpc : pc + 3 = pc1)
    (hr : ∀ (H : Heap) (locs : List Loc) (ls : Array Slot), zP E h H → va_S (zA E) (xs X).heap H locs → lv_has ls nL lv → va_Run (xp X) (xl X) (xe X) (xR X) (xs X) (xm X) (xa X) (xb X) (xt X) (xc X) H locs k n 0 0 (F0 (xm X) pc ls st0) rest (zQ E v h1 av.toArray) (zA E))
    (kk : zW E X nL k n Q pc1 h1 lv (v.toList ++ rest)) : zW E X nL k n Q pc h lv st0 := by
  subst hpc
  intro H locs ls hP hS hl T hT X9
  obtain ⟨v', st₀, t, T', L, h0, X', hL, e1, e2, ⟨hv, hP1, hz, hk⟩, st9⟩ := hr H locs ls hP hS hl T hT X9
  cases hv
  rw [h0] at hz hk
  have hS1 : va_S (zA E) (xs X).heap T'.heap (locs ++ L) := ⟨Nat.le_trans hS.1 (by rw [e1]; exact hz), fun q q1 q2 => by rw [e1, hk q (Nat.lt_of_lt_of_le q1 hS.1) q2]; exact hS.2.1 q q1 q2, fun q hq => by
    rcases List.mem_append.mp hq with q1 | q1
    · exact hS.2.2 q q1
    · exact hL q q1⟩
  obtain ⟨t2, a1, b1⟩ := kk T'.heap (locs ++ L) ls (by rw [e1]; exact hP1) hS1 hl T' rfl X'
  exact ⟨t2, st9 t2 a1, b1⟩

theorem zC.fix (C : zC E X own cc nL ret d) : CallFix (xp X) (xm X) (xc X) cc nL (xs X) (xa X) UU own := ⟨C.1, C.2.1, C.2.2.1, C.2.2.2.1, C.2.2.2.2.1⟩
theorem zC.room (C : zC E X own cc nL ret d) {d1 maxL : Nat} (h1 : d1 + 1 ≤ d) (h2 : maxL ≤ 29) : (zR d1).frames + 1 ≤ (xR X).frames ∧ 8 + (maxL + 11) + (zR d1).locals ≤ (xR X).locals := by
  obtain ⟨r1, r2⟩ := C.2.2.2.2.2.2.2.2.2.2
  refine ⟨Nat.le_trans h1 r1, ?_⟩
  show 8 + (maxL + 11) + 48 * d1 ≤ _
  omega
theorem z_callV (C : zC E X own cc nL ret d) {y : MethodName} {bytes : ByteArray} {maxL d1 index b ci N : Nat} {rt : Option FieldType} {Cn : String} {T : u_T} {fs : List Value} {h1 : Hp} {v : Option Value} (pc1 : Nat) (As rest : List Value) (hM : zM E (xl X) d1 y bytes maxL rt (.ref b :: As) h v h1)
    (hcode : Cond.code y bytes maxL rt ∈ UU) (hlink : Cond.methodLink own index y ∈ UU) (hinst : Cond.instanceMethod y ∈ UU) (hsel : Cond.selects Cn y y ∈ UU) (hini : Cond.initialized Cn ∈ UU) (hcl : vwCl[ci]? = some (Cn, T, N)) (hb : h b = some (.inr (ci, fs)))
    (hd : y.cls = Cn ∧ y.cls ≠ "java/lang/invoke/MethodHandle" ∧ y.cls ≠ "java/lang/invoke/VarHandle" ∧ (parseMethodDescriptor y.desc).map (fun d => d.parameters.length) = some As.length) (hd1 : d1 + 1 ≤ d) (hmx : maxL ≤ 29) (hst : st = As.reverse ++ .ref b :: rest) (hcat : (rest.map fun v => v.category).sum ≤ 8) (hk : k ≤ (xR X).cells ∧ n ≤ (xR X).slots) (hpc : pc + 3 = pc1) (hdg : decode cc pc = .ok (.invokevirtual index, 3))
    (kk : zW E X nL k n Q pc1 h1 lv (v.toList ++ rest)) : zW E X nL k n Q pc h lv st := by
  subst hst
  refine z_run (av := .ref b :: As) hpc (fun H locs ls hP hS hl => ?_) kk
  exact va_runV (As := As) (rest := rest) (b := b) C.fix hM ⟨callB_of As.length C.2.2.2.2.1 (UU_cons hcode) rfl rfl rfl (by rw [hd.1]; exact C.2.2.2.2.1 _ hini) (C.2.2.2.2.1 _ hlink) hd.2 (C.room hd1 hmx), C.2.2.2.2.1 _ hinst, C.2.2.2.2.1 _ hsel⟩
    ⟨zPre.blind E _ h, va_recv C.2.2.2.2.2.2.2.2.1.1 (hP.one hb) hcl (q0 := 0) rfl, fun U hU hW => ⟨rfl, C.pre hP hS U hU hW⟩⟩ rfl rfl hl.1 rfl (lv_room hcat) hdg hk
theorem z_callS (C : zC E X own cc nL ret d) {y : MethodName} {bytes : ByteArray} {maxL d1 index : Nat} {rt : Option FieldType} {h1 : Hp} {v : Option Value} (pc1 : Nat) (As rest : List Value) (hM : zM E (xl X) d1 y bytes maxL rt As h v h1)
    (hcode : Cond.code y bytes maxL rt ∈ UU) (hlink : Cond.methodLink own index y ∈ UU) (hstat : Cond.static y ∈ UU) (hini : Cond.initialized y.cls ∈ UU)
    (hd : y.cls ≠ "java/lang/invoke/MethodHandle" ∧ y.cls ≠ "java/lang/invoke/VarHandle" ∧ (parseMethodDescriptor y.desc).map (fun d => d.parameters.length) = some As.length) (hd1 : d1 + 1 ≤ d) (hmx : maxL ≤ 29) (hst : st = As.reverse ++ rest) (hcat : (rest.map fun v => v.category).sum ≤ 8) (hk : k ≤ (xR X).cells ∧ n ≤ (xR X).slots) (hpc : pc + 3 = pc1) (hdg : decode cc pc = .ok (.invokestatic index, 3))
    (kk : zW E X nL k n Q pc1 h1 lv (v.toList ++ rest)) : zW E X nL k n Q pc h lv st := by
  subst hst
  refine z_run (av := As) hpc (fun H locs ls hP hS hl => ?_) kk
  exact va_runS (As := As) (rest := rest) C.fix hM ⟨callB_of As.length C.2.2.2.2.1 (UU_cons hcode) rfl rfl rfl (C.2.2.2.2.1 _ hini) (C.2.2.2.2.1 _ hlink) hd (C.room hd1 hmx), C.2.2.2.2.1 _ hstat⟩
    ⟨zPre.blind E _ h, fun U hU hW => ⟨rfl, C.pre hP hS U hU hW⟩⟩ rfl rfl hl.1 rfl (lv_room hcat) hdg hk
theorem z_callSN (C : zC E X own cc nL ret d) {y : MethodName} {bytes : ByteArray} {maxL d1 index : Nat} {host : String} {rt : Option FieldType} {h1 : Hp} {v : Option Value} (pc1 : Nat) (As rest : List Value) (hM : zM E (xl X) d1 y bytes maxL rt As h v h1)
    (hcode : Cond.code y bytes maxL rt ∈ UU) (hlink : (own, index, y, host) ∈ zNestM) (hstat : Cond.static y ∈ UU) (hini : Cond.initialized y.cls ∈ UU)
    (hd : y.cls ≠ "java/lang/invoke/MethodHandle" ∧ y.cls ≠ "java/lang/invoke/VarHandle" ∧ (parseMethodDescriptor y.desc).map (fun d => d.parameters.length) = some As.length) (hd1 : d1 + 1 ≤ d) (hmx : maxL ≤ 29) (hst : st = As.reverse ++ rest) (hcat : (rest.map fun v => v.category).sum ≤ 8) (hk : k ≤ (xR X).cells ∧ n ≤ (xR X).slots) (hpc : pc + 3 = pc1) (hdg : decode cc pc = .ok (.invokestatic index, 3))
    (kk : zW E X nL k n Q pc1 h1 lv (v.toList ++ rest)) : zW E X nL k n Q pc h lv st := by
  subst hst
  refine z_run (av := As) hpc (fun H locs ls hP hS hl => ?_) kk
  exact va_runSN (As := As) (rest := rest) C.fix hM ⟨va_cnB As.length C.2.2.2.2.1 (UU_cons hcode) rfl rfl rfl (C.2.2.2.2.2.2.2.2.1.2.1 _ hlink) (C.2.2.2.2.1 _ hini) hd (C.room hd1 hmx), C.2.2.2.2.1 _ hstat, trivial⟩
    ⟨zPre.blind E _ h, fun U hU hW => ⟨rfl, C.pre hP hS U hU hW⟩⟩ rfl rfl hl.1 rfl (lv_room hcat) hdg hk
theorem z_max (C : zC E X own cc nL ret d) {index : Nat} {x y : Int32} (hlink : Cond.methodLink own index Lib.Math.max.name ∈ UU) (hstat : Cond.static Lib.Math.max.name ∈ UU) (hini : Cond.initialized "java/lang/Math" ∈ UU) (hcode : Cond.code Lib.Math.max.name Lib.Math.max.code 2 (some .int) ∈ UU) (hd1 : 1 ≤ d) (hcat : (st.map fun v => v.category).sum ≤ 8) (hk : k ≤ (xR X).cells ∧ n ≤ (xR X).slots) (hdg : decode cc pc = .ok (.invokestatic index, 3))
    (kk : zW E X nL k n Q (pc + 3) h lv (.int (if x < y then y else x) :: st)) : zW E X nL k n Q pc h lv (.int y :: .int x :: st) := fun H locs ls hP hS hl =>
  va_mmax C.1 C.2.1 (C.2.2.1.trans hl.1.symm) C.2.2.2.1 (C.2.2.2.2.1 _ hlink) (C.2.2.2.2.1 _ hstat) (C.2.2.2.2.1 _ hini) (C.2.2.2.2.1 _ hcode) (Nat.le_trans hd1 C.2.2.2.2.2.2.2.2.2.2.1) (by have := C.2.2.2.2.2.2.2.2.2.2.2; omega) hk.1 hk.2 hdg (kk H locs ls hP hS hl)
theorem z_min (C : zC E X own cc nL ret d) {index : Nat} {x y : Int32} (hlink : Cond.methodLink own index Lib.Math.min.name ∈ UU) (hstat : Cond.static Lib.Math.min.name ∈ UU) (hini : Cond.initialized "java/lang/Math" ∈ UU) (hcode : Cond.code Lib.Math.min.name Lib.Math.min.code 2 (some .int) ∈ UU) (hd1 : 1 ≤ d) (hcat : (st.map fun v => v.category).sum ≤ 8) (hk : k ≤ (xR X).cells ∧ n ≤ (xR X).slots) (hdg : decode cc pc = .ok (.invokestatic index, 3))
    (kk : zW E X nL k n Q (pc + 3) h lv (.int (if y < x then y else x) :: st)) : zW E X nL k n Q pc h lv (.int y :: .int x :: st) := fun H locs ls hP hS hl =>
  va_mmin C.1 C.2.1 (C.2.2.1.trans hl.1.symm) C.2.2.2.1 (C.2.2.2.2.1 _ hlink) (C.2.2.2.2.1 _ hstat) (C.2.2.2.2.1 _ hini) (C.2.2.2.2.1 _ hcode) (Nat.le_trans hd1 C.2.2.2.2.2.2.2.2.2.2.1) (by have := C.2.2.2.2.2.2.2.2.2.2.2; omega) hk.1 hk.2 hdg (kk H locs ls hP hS hl)
end ZW
/-- a method's body, from its entry -/
theorem zM_of {E : zE} {l : Launch} {d : Nat} {y : MethodName} {bytes : ByteArray} {maxL : Nat} {ret : Option FieldType} {av : List Value} {h h' : Hp} {v : Option Value} {lv : List (Nat × Value)} (hy : plainName y.cls = true) (hlen : (lg_sl av).length ≤ maxL) (hlv : lv_args 0 av = lv)
    (body : ∀ X : zX, xl X = l → zC E X y.cls bytes maxL ret d → zW E X maxL 0 0 (MQ (xb X) (zQ E v h') (xa X) (xs X) 0 0 (zA E)) 0 h lv []) : zM E l d y bytes maxL ret av h v h' := by
  refine Met.ofW (cc := bytes) (maxL := maxL) (ret := ret) hy rfl ?_
  intro p e s m args below meth c s₁ B hml hv
  obtain ⟨rfl, hN, hP, hK, hS0⟩ := hv
  have hts0 := atoms_spec (ws := Cond.code y bytes maxL ret :: UU) B.pre
  have hts : ∀ w ∈ UU, w.before av.toArray s = true := fun w hw => hts0 w (List.mem_cons_of_mem _ hw)
  have hown : s.vm.findClass y.cls = some m.cls := findClass_of_methodNamed B.named
  have hl := lv_entry av (n := maxL) hlen
  rw [lg_entry_eq]
  rw [hlv] at hl
  exact body (p, l, e, (headSpec (Cond.code y bytes maxL ret :: UU) (zR d)).room, s, m, av.toArray, below, meth, c) rfl ⟨B.exec, B.bytes, hml, hown, hts, B.returns, B.notSynchronized, hN, hK, hS0, Nat.le_refl _, Nat.le_refl _⟩ s.heap [] _ hP va_S.rf hl
/-- System.arraycopy between two int arrays of the map -/
theorem z_copy {E : zE} {X : zX} {own : String} {cc : ByteArray} {nL d k n : Nat} {ret : Option FieldType} {Q : State → Prop} {pc : Nat} {h : Hp} {lv : List (Nat × Value)} {st : List Value} (C : zC E X own cc nL ret d) {index a0 a n0 n1 : Nat} {f g : Nat → Int32} {sp dp m : Int32}
    (hlink : Cond.methodLink own index arraycopyName ∈ UU) (hnat : Cond.native arraycopyName ∈ UU) (hstat : Cond.static arraycopyName ∈ UU) (hini : Cond.initialized "java/lang/System" ∈ UU) (ha0 : h a0 = some (.inl (zI E, n0, .inl f))) (ha1 : h a = some (.inl (zI E, n1, .inl g)))
    (h1 : ¬ sp < 0) (h2 : ¬ dp < 0) (h3 : ¬ m < 0) (h4 : sp.toNatClampNeg + m.toNatClampNeg ≤ n0) (h5 : dp.toNatClampNeg + m.toNatClampNeg ≤ n1) (hd1 : 1 ≤ d) (hcat : (st.map fun v => v.category).sum ≤ 8) (hdg : decode cc pc = .ok (.invokestatic index, 3)) (h' : Hp)
    (e : hup h a (.inl (zI E, n1, .inl (va_cpy f g sp.toNatClampNeg dp.toNatClampNeg m.toNatClampNeg))) = h') (kk : zW E X nL k n Q (pc + 3) h' lv st) : zW E X nL k n Q pc h lv (.int m :: .int dp :: .ref a :: .int sp :: .ref a0 :: st) := by
  intro H locs ls hP hS hl
  have nn : ∀ z : Int32, ¬ z < 0 → z.toInt = (z.toNatClampNeg : Int) := by
    intro z hz
    have hz0 : (0 : Int) ≤ z.toInt := by
      have := Int32.not_lt.mp hz
      simpa using Int32.le_iff_toInt_le.mp this
    show z.toInt = ((z.toInt.toNat : Nat) : Int)
    omega
  intro T hT X9
  have hc0 : H[a0]? = some (vp_cell (zI E) (n0, .inl f)) := (hP a0 _ ha0).2
  have hc1 : H[a]? = some (vp_cell (zI E) (n1, .inl g)) := (hP a _ ha1).2
  have hNa := (hP a _ ha1).1
  have hK := C.2.2.2.2.2.2.2.2.1.1
  obtain ⟨-, k0, hk0, cm0, hkk0⟩ := (hK.2 0 _ rfl).1 n0 (fun j => .int (f j))
  obtain ⟨-, k1, hk1, cm1, hkk1⟩ := (hK.2 0 _ rfl).1 n1 (fun j => .int (g j))
  obtain ⟨vm', X', step⟩ := X9.arraycopy C.1 C.2.2.2.1 (C.2.2.2.2.1 _ hlink) (C.2.2.2.2.1 _ hnat) (C.2.2.2.2.1 _ hstat) (C.2.2.2.2.1 _ hini) (src := a0) (dst := a) (cs := vp_cell (zI E) (n0, .inl f)) (cd := vp_cell (zI E) (n1, .inl g)) (srcPos := sp) (destPos := dp) (n := m) (by rw [hT]; exact hc0) (by rw [hT]; exact hc1)
    (fun _ h => by cases h) (fun _ h => by cases h) (fun h => by cases h) (fun h => by cases h) hk0 hk1 hkk0 hkk1 (by rfl) h1 h2 h3
    (by rw [nn sp h1, nn m h3]; show ¬ _ > ((arrV (zI E) n0 (fun j => .int (f j))).slots.size : Int); rw [arrV_size]; omega)
    (by rw [nn dp h2, nn m h3]; show ¬ _ > ((arrV (zI E) n1 (fun j => .int (g j))).slots.size : Int); rw [arrV_size]; omega)
    (fun vm₁ _ i hi => by
      have e : (vp_cell (zI E) (n0, .inl f)).slots.getD (sp.toNatClampNeg + i) .null = .int (f (sp.toNatClampNeg + i)) := by
        show (arrV (zI E) n0 (fun j => .int (f j))).slots.getD _ _ = _
        rw [Array.getD_eq_getD_getElem?, arrV_read _ _ (by omega)]
        rfl
      refine ⟨?_, ?_⟩
      · rw [e]
        rfl
      · rw [e]
        exact trivial)
    (g := F0 (xm X) pc ls (.int m :: .int dp :: .ref a :: .int sp :: .ref a0 :: st)) rfl (by rw [C.2.2.1]; exact hl.1) (rest := st) rfl (by rw [C.2.1]; exact hdg) (Nat.le_trans hd1 C.2.2.2.2.2.2.2.2.2.2.1) (by
      have q1 := C.2.2.2.2.2.2.2.2.2.2.2
      have q2 : nativeFrameWords "java/lang/System" "arraycopy" 5 + 11 ≤ 40 := by decide +kernel
      show 2 * 0 + _ + _ ≤ _
      omega)
  have e1 : copied (vp_cell (zI E) (n0, .inl f)) (vp_cell (zI E) (n1, .inl g)) sp dp m = vp_cell (zI E) (n1, .inl (va_cpy f g sp.toNatClampNeg dp.toNatClampNeg m.toNatClampNeg)) := va_copied (fun z => .int z) (zI E) (zI E) f g h4
  rw [e1] at X' step
  have hl9 : a < H.size := (Array.getElem?_eq_some_iff.mp hc1).1
  have oq : ∀ q : Nat, q ≠ a → (H.setIfInBounds a (vp_cell (zI E) (n1, .inl (va_cpy f g sp.toNatClampNeg dp.toNatClampNeg m.toNatClampNeg))))[q]? = H[q]? := fun q hq => by simp [Array.getElem?_setIfInBounds, Ne.symm hq]
  have hheap : ((T.setVm vm').setCell a (vp_cell (zI E) (n1, .inl (va_cpy f g sp.toNatClampNeg dp.toNatClampNeg m.toNatClampNeg)))).heap = H.setIfInBounds a (vp_cell (zI E) (n1, .inl (va_cpy f g sp.toNatClampNeg dp.toNatClampNeg m.toNatClampNeg))) := by rw [← hT]; rfl
  obtain ⟨t, a1, b1⟩ := kk _ _ ls (by rw [← e]; exact hP.up hNa (show (H.setIfInBounds a _)[a]? = some _ by simp [Array.getElem?_setIfInBounds, hl9]) oq) ⟨by simp; exact hS.1, fun q g1 g2 => by
      rw [oq q (fun e => g2 (by rw [e]; exact hNa))]
      exact hS.2.1 q g1 g2, fun q hq => by
      rcases List.mem_append.mp hq with h | h
      · exact hS.2.2 q h
      · obtain ⟨z, -, hz⟩ := List.mem_map.mp h
        rw [← hz]
        exact hNa⟩ hl _ hheap X'
  exact ⟨t, step t a1, b1⟩
end
section
theorem mt_t {w : Cond} (h : w ∈ tables_1) : w ∈ lw_tbl := List.mem_append_right _ h
theorem mt_1 {w : Cond} (h : w ∈ tables_1_1) : w ∈ lw_tbl := mt_t (List.mem_append_left _ h)
theorem mt_2 {w : Cond} (h : w ∈ tables_1_2) : w ∈ lw_tbl := mt_t (List.mem_append_right _ (List.mem_append_left _ h))
theorem mt_3 {w : Cond} (h : w ∈ tables_1_3) : w ∈ lw_tbl := mt_t (List.mem_append_right _ (List.mem_append_right _ (List.mem_append_left _ h)))
theorem mt_4 {w : Cond} (h : w ∈ tables_1_4) : w ∈ lw_tbl := mt_t (List.mem_append_right _ (List.mem_append_right _ (List.mem_append_right _ (List.mem_append_left _ h))))
theorem mt_5 {w : Cond} (h : w ∈ tables_1_5) : w ∈ lw_tbl := mt_t (List.mem_append_right _ (List.mem_append_right _ (List.mem_append_right _ (List.mem_append_right _ (List.mem_append_left _ h)))))
theorem mt_6 {w : Cond} (h : w ∈ tables_1_6) : w ∈ lw_tbl := mt_t (List.mem_append_right _ (List.mem_append_right _ (List.mem_append_right _ (List.mem_append_right _ (List.mem_append_right _ (h))))))
theorem ini_L : Cond.initialized RL ∈ UU := UU_of (mt_1 (List.mem_of_getElem? (i := 0) (by decide +kernel))) (by decide +kernel)
theorem ini_X5 : Cond.initialized RX5 ∈ UU := UU_of (mt_1 (List.mem_of_getElem? (i := 1) (by decide +kernel))) (by decide +kernel)
theorem ini_X4 : Cond.initialized RX4 ∈ UU := UU_of (mt_1 (List.mem_of_getElem? (i := 2) (by decide +kernel))) (by decide +kernel)
theorem ini_X0 : Cond.initialized RX0 ∈ UU := UU_of (mt_1 (List.mem_of_getElem? (i := 3) (by decide +kernel))) (by decide +kernel)
theorem ini_X2 : Cond.initialized RX2 ∈ UU := UU_of (mt_1 (List.mem_of_getElem? (i := 4) (by decide +kernel))) (by decide +kernel)
theorem ini_J7 : Cond.initialized "java/util/Arrays" ∈ UU := UU_of (mt_1 (List.mem_of_getElem? (i := 5) (by decide +kernel))) (by decide +kernel)
theorem ini_X1 : Cond.initialized RX1 ∈ UU := UU_of (mt_1 (List.mem_of_getElem? (i := 6) (by decide +kernel))) (by decide +kernel)
theorem ini_X3 : Cond.initialized RX3 ∈ UU := UU_of (mt_1 (List.mem_of_getElem? (i := 7) (by decide +kernel))) (by decide +kernel)
theorem ini_X6 : Cond.initialized RX6 ∈ UU := UU_of (mt_1 (List.mem_of_getElem? (i := 8) (by decide +kernel))) (by decide +kernel)
theorem ini_Throwable : Cond.initialized "java/lang/Throwable" ∈ UU := UU_of (mt_1 (List.mem_of_getElem? (i := 9) (by decide +kernel))) (by decide +kernel)
theorem ini_Exception : Cond.initialized "java/lang/Exception" ∈ UU := UU_of (mt_1 (List.mem_of_getElem? (i := 10) (by decide +kernel))) (by decide +kernel)
theorem ini_RuntimeException : Cond.initialized "java/lang/RuntimeException" ∈ UU := UU_of (mt_1 (List.mem_of_getElem? (i := 11) (by decide +kernel))) (by decide +kernel)
theorem ini_IllegalArgumentException : Cond.initialized "java/lang/IllegalArgumentException" ∈ UU := UU_of (mt_1 (List.mem_of_getElem? (i := 12) (by decide +kernel))) (by decide +kernel)
theorem ini_IllegalStateException : Cond.initialized "java/lang/IllegalStateException" ∈ UU := UU_of (mt_1 (List.mem_of_getElem? (i := 13) (by decide +kernel))) (by decide +kernel)
theorem ini_J6 : Cond.initialized "java/lang/Integer" ∈ UU := UU_of (mt_1 (List.mem_of_getElem? (i := 14) (by decide +kernel))) (by decide +kernel)
theorem ini_IndexOutOfBoundsException : Cond.initialized "java/lang/IndexOutOfBoundsException" ∈ UU := UU_of (mt_1 (List.mem_of_getElem? (i := 15) (by decide +kernel))) (by decide +kernel)
theorem ini_J9 : Cond.initialized "java/lang/Math" ∈ UU := UU_of (mt_1 (List.mem_of_getElem? (i := 16) (by decide +kernel))) (by decide +kernel)
theorem ini_System : Cond.initialized "java/lang/System" ∈ UU := UU_of (mt_1 (List.mem_of_getElem? (i := 17) (by decide +kernel))) (by decide +kernel)
theorem kl_L_8 : Cond.classLink RL 8 RX5 ∈ UU := UU_of (mt_1 (List.mem_of_getElem? (i := 18) (by decide +kernel))) (by decide +kernel)
theorem ib_X5 : Cond.instantiable RX5 6 ∈ UU := UU_of (mt_1 (List.mem_of_getElem? (i := 19) (by decide +kernel))) (by decide +kernel)
theorem ml_L_81 : Cond.methodLink RL 81 yX5_init ∈ UU := UU_of (mt_1 (List.mem_of_getElem? (i := 20) (by decide +kernel))) (by decide +kernel)
theorem im_X5_init : Cond.instanceMethod yX5_init ∈ UU := UU_of (mt_1 (List.mem_of_getElem? (i := 21) (by decide +kernel))) (by decide +kernel)
theorem co_X5_init : Cond.code yX5_init cX5_init 1 none ∈ UU := UU_of (mt_1 (List.mem_of_getElem? (i := 22) (by decide +kernel))) (by decide +kernel)
theorem ml_X5_1 : Cond.methodLink RX5 1 objectInit ∈ UU := UU_of (mt_1 (List.mem_of_getElem? (i := 23) (by decide +kernel))) (by decide +kernel)
theorem im_Object__init____V : Cond.instanceMethod objectInit ∈ UU := UU_of (mt_1 (List.mem_of_getElem? (i := 24) (by decide +kernel))) (by decide +kernel)
theorem co_Object__init____V : Cond.code objectInit ⟨#[0xb1]⟩ 1 none ∈ UU := UU_of (mt_1 (List.mem_of_getElem? (i := 25) (by decide +kernel))) (by decide +kernel)
theorem kl_X5_7 : Cond.classLink RX5 7 RX4 ∈ UU := UU_of (mt_1 (List.mem_of_getElem? (i := 26) (by decide +kernel))) (by decide +kernel)
theorem ib_X4 : Cond.instantiable RX4 2 ∈ UU := UU_of (mt_1 (List.mem_of_getElem? (i := 27) (by decide +kernel))) (by decide +kernel)
theorem im_X4_init : Cond.instanceMethod yX4_init ∈ UU := UU_of (mt_1 (List.mem_of_getElem? (i := 29) (by decide +kernel))) (by decide +kernel)
theorem co_X4_init : Cond.code yX4_init cX4_init 1 none ∈ UU := UU_of (mt_1 (List.mem_of_getElem? (i := 30) (by decide +kernel))) (by decide +kernel)
theorem ml_X4_3 : Cond.methodLink RX4 3 objectInit ∈ UU := UU_of (mt_1 (List.mem_of_getElem? (i := 31) (by decide +kernel))) (by decide +kernel)
theorem fl_X4_11 : Cond.fieldLink RX4 11 "SpiralDominoes$Text" "signs" "[I" ∈ UU := UU_of (mt_1 (List.mem_of_getElem? (i := 32) (by decide +kernel))) (by decide +kernel)
theorem fl_X4_15 : Cond.fieldLink RX4 15 "SpiralDominoes$Text" "length" "I" ∈ UU := UU_of (mt_1 (List.mem_of_getElem? (i := 33) (by decide +kernel))) (by decide +kernel)
theorem ac_int : Cond.arrayClass .int ∈ UU := UU_of (mt_1 (List.mem_of_getElem? (i := 39) (by decide +kernel))) (by decide +kernel)
theorem kl_X5_16 : Cond.classLink RX5 16 RX0 ∈ UU := UU_of (mt_1 (List.mem_of_getElem? (i := 40) (by decide +kernel))) (by decide +kernel)
theorem ib_X0 : Cond.instantiable RX0 13 ∈ UU := UU_of (mt_1 (List.mem_of_getElem? (i := 41) (by decide +kernel))) (by decide +kernel)
theorem ml_X5_18 : Cond.methodLink RX5 18 yX0_init ∈ UU := UU_of (mt_1 (List.mem_of_getElem? (i := 42) (by decide +kernel))) (by decide +kernel)
theorem im_X0_init : Cond.instanceMethod yX0_init ∈ UU := UU_of (mt_1 (List.mem_of_getElem? (i := 43) (by decide +kernel))) (by decide +kernel)
theorem co_X0_init : Cond.code yX0_init cX0_init 1 none ∈ UU := UU_of (mt_1 (List.mem_of_getElem? (i := 44) (by decide +kernel))) (by decide +kernel)
theorem ml_X0_3 : Cond.methodLink RX0 3 objectInit ∈ UU := UU_of (mt_1 (List.mem_of_getElem? (i := 45) (by decide +kernel))) (by decide +kernel)
theorem kl_X0_24 : Cond.classLink RX0 24 RX2 ∈ UU := UU_of (mt_1 (List.mem_of_getElem? (i := 46) (by decide +kernel))) (by decide +kernel)
theorem ib_X2 : Cond.instantiable RX2 11 ∈ UU := UU_of (mt_1 (List.mem_of_getElem? (i := 47) (by decide +kernel))) (by decide +kernel)
theorem im_X2_init : Cond.instanceMethod yX2_init ∈ UU := UU_of (mt_1 (List.mem_of_getElem? (i := 49) (by decide +kernel))) (by decide +kernel)
theorem co_X2_init : Cond.code yX2_init cX2_init 1 none ∈ UU := UU_of (mt_1 (List.mem_of_getElem? (i := 50) (by decide +kernel))) (by decide +kernel)
theorem ml_X2_3 : Cond.methodLink RX2 3 objectInit ∈ UU := UU_of (mt_1 (List.mem_of_getElem? (i := 51) (by decide +kernel))) (by decide +kernel)
theorem fl_X2_40 : Cond.fieldLink RX2 40 "SpiralDominoes$Line" "size" "I" ∈ UU := UU_of (mt_1 (List.mem_of_getElem? (i := 52) (by decide +kernel))) (by decide +kernel)
theorem fl_X2_9 : Cond.fieldLink RX2 9 "SpiralDominoes$Line" "end" "I" ∈ UU := UU_of (mt_1 (List.mem_of_getElem? (i := 53) (by decide +kernel))) (by decide +kernel)
theorem fl_X2_43 : Cond.fieldLink RX2 43 "SpiralDominoes$Line" "direction" "I" ∈ UU := UU_of (mt_1 (List.mem_of_getElem? (i := 54) (by decide +kernel))) (by decide +kernel)
theorem fl_X2_15 : Cond.fieldLink RX2 15 "SpiralDominoes$Line" "nextX" "I" ∈ UU := UU_of (mt_1 (List.mem_of_getElem? (i := 55) (by decide +kernel))) (by decide +kernel)
theorem fl_X2_18 : Cond.fieldLink RX2 18 "SpiralDominoes$Line" "nextY" "I" ∈ UU := UU_of (mt_1 (List.mem_of_getElem? (i := 56) (by decide +kernel))) (by decide +kernel)
theorem fl_X2_21 : Cond.fieldLink RX2 21 "SpiralDominoes$Line" "tiles" "[I" ∈ UU := UU_of (mt_1 (List.mem_of_getElem? (i := 57) (by decide +kernel))) (by decide +kernel)
theorem fl_X2_25 : Cond.fieldLink RX2 25 "SpiralDominoes$Line" "xs" "[I" ∈ UU := UU_of (mt_1 (List.mem_of_getElem? (i := 58) (by decide +kernel))) (by decide +kernel)
theorem fl_X2_28 : Cond.fieldLink RX2 28 "SpiralDominoes$Line" "ys" "[I" ∈ UU := UU_of (mt_1 (List.mem_of_getElem? (i := 59) (by decide +kernel))) (by decide +kernel)
theorem fl_X2_31 : Cond.fieldLink RX2 31 "SpiralDominoes$Line" "ways" "[I" ∈ UU := UU_of (mt_1 (List.mem_of_getElem? (i := 60) (by decide +kernel))) (by decide +kernel)
theorem fl_X2_34 : Cond.fieldLink RX2 34 "SpiralDominoes$Line" "firsts" "[I" ∈ UU := UU_of (mt_1 (List.mem_of_getElem? (i := 61) (by decide +kernel))) (by decide +kernel)
theorem fl_X2_37 : Cond.fieldLink RX2 37 "SpiralDominoes$Line" "covered" "[I" ∈ UU := UU_of (mt_1 (List.mem_of_getElem? (i := 62) (by decide +kernel))) (by decide +kernel)
theorem ml_X0_31 : Cond.methodLink RX0 31 yX0_becomeNew ∈ UU := UU_of (mt_1 (List.mem_of_getElem? (i := 86) (by decide +kernel))) (by decide +kernel)
theorem im_X0_becomeNew : Cond.instanceMethod yX0_becomeNew ∈ UU := UU_of (mt_1 (List.mem_of_getElem? (i := 87) (by decide +kernel))) (by decide +kernel)
theorem se_X0_becomeNew : Cond.selects RX0 yX0_becomeNew yX0_becomeNew ∈ UU := UU_of (mt_1 (List.mem_of_getElem? (i := 88) (by decide +kernel))) (by decide +kernel)
theorem co_X0_becomeNew : Cond.code yX0_becomeNew cX0_becomeNew 1 none ∈ UU := UU_of (mt_1 (List.mem_of_getElem? (i := 89) (by decide +kernel))) (by decide +kernel)
theorem ml_X0_59 : Cond.methodLink RX0 59 yJ7_fill_53178 ∈ UU := UU_of (mt_1 (List.mem_of_getElem? (i := 90) (by decide +kernel))) (by decide +kernel)
theorem st_J7_fill_53178 : Cond.static yJ7_fill_53178 ∈ UU := UU_of (mt_1 (List.mem_of_getElem? (i := 91) (by decide +kernel))) (by decide +kernel)
theorem co_J7_fill_53178 : Cond.code yJ7_fill_53178 cJ7_fill_53178 4 none ∈ UU := UU_of (mt_1 (List.mem_of_getElem? (i := 92) (by decide +kernel))) (by decide +kernel)
theorem ml_X0_65 : Cond.methodLink RX0 65 yX2_becomeEmpty ∈ UU := UU_of (mt_1 (List.mem_of_getElem? (i := 93) (by decide +kernel))) (by decide +kernel)
theorem im_X2_becomeEmpty : Cond.instanceMethod yX2_becomeEmpty ∈ UU := UU_of (mt_1 (List.mem_of_getElem? (i := 94) (by decide +kernel))) (by decide +kernel)
theorem se_X2_becomeEmpty : Cond.selects RX2 yX2_becomeEmpty yX2_becomeEmpty ∈ UU := UU_of (mt_1 (List.mem_of_getElem? (i := 95) (by decide +kernel))) (by decide +kernel)
theorem co_X2_becomeEmpty : Cond.code yX2_becomeEmpty cX2_becomeEmpty 1 none ∈ UU := UU_of (mt_1 (List.mem_of_getElem? (i := 96) (by decide +kernel))) (by decide +kernel)
theorem ml_X2_46 : Cond.methodLink RX2 46 yJ7_fill_53178 ∈ UU := UU_of (mt_1 (List.mem_of_getElem? (i := 97) (by decide +kernel))) (by decide +kernel)
theorem fl_X0_34 : Cond.fieldLink RX0 34 "SpiralDominoes$Game" "rounds" "I" ∈ UU := UU_of (mt_1 (List.mem_of_getElem? (i := 98) (by decide +kernel))) (by decide +kernel)
theorem fl_X0_38 : Cond.fieldLink RX0 38 "SpiralDominoes$Game" "refused" "I" ∈ UU := UU_of (mt_1 (List.mem_of_getElem? (i := 99) (by decide +kernel))) (by decide +kernel)
theorem fl_X0_41 : Cond.fieldLink RX0 41 "SpiralDominoes$Game" "laidInAll" "I" ∈ UU := UU_of (mt_1 (List.mem_of_getElem? (i := 100) (by decide +kernel))) (by decide +kernel)
theorem fl_X0_44 : Cond.fieldLink RX0 44 "SpiralDominoes$Game" "phase" "I" ∈ UU := UU_of (mt_1 (List.mem_of_getElem? (i := 101) (by decide +kernel))) (by decide +kernel)
theorem fl_X0_47 : Cond.fieldLink RX0 47 "SpiralDominoes$Game" "players" "I" ∈ UU := UU_of (mt_1 (List.mem_of_getElem? (i := 102) (by decide +kernel))) (by decide +kernel)
theorem fl_X0_50 : Cond.fieldLink RX0 50 "SpiralDominoes$Game" "turn" "I" ∈ UU := UU_of (mt_1 (List.mem_of_getElem? (i := 103) (by decide +kernel))) (by decide +kernel)
theorem fl_X0_53 : Cond.fieldLink RX0 53 "SpiralDominoes$Game" "passes" "I" ∈ UU := UU_of (mt_1 (List.mem_of_getElem? (i := 104) (by decide +kernel))) (by decide +kernel)
theorem fl_X0_9 : Cond.fieldLink RX0 9 "SpiralDominoes$Game" "row" "[I" ∈ UU := UU_of (mt_1 (List.mem_of_getElem? (i := 105) (by decide +kernel))) (by decide +kernel)
theorem fl_X0_56 : Cond.fieldLink RX0 56 "SpiralDominoes$Game" "heapBegin" "I" ∈ UU := UU_of (mt_1 (List.mem_of_getElem? (i := 106) (by decide +kernel))) (by decide +kernel)
theorem fl_X0_15 : Cond.fieldLink RX0 15 "SpiralDominoes$Game" "holders" "[I" ∈ UU := UU_of (mt_1 (List.mem_of_getElem? (i := 107) (by decide +kernel))) (by decide +kernel)
theorem fl_X0_18 : Cond.fieldLink RX0 18 "SpiralDominoes$Game" "scores" "[I" ∈ UU := UU_of (mt_1 (List.mem_of_getElem? (i := 108) (by decide +kernel))) (by decide +kernel)
theorem fl_X0_21 : Cond.fieldLink RX0 21 "SpiralDominoes$Game" "wins" "[I" ∈ UU := UU_of (mt_1 (List.mem_of_getElem? (i := 109) (by decide +kernel))) (by decide +kernel)
theorem fl_X0_27 : Cond.fieldLink RX0 27 "SpiralDominoes$Game" "line" "LSpiralDominoes$Line;" ∈ UU := UU_of (mt_1 (List.mem_of_getElem? (i := 110) (by decide +kernel))) (by decide +kernel)
theorem kl_X5_26 : Cond.classLink RX5 26 RX1 ∈ UU := UU_of (mt_1 (List.mem_of_getElem? (i := 138) (by decide +kernel))) (by decide +kernel)
theorem ib_X1 : Cond.instantiable RX1 3 ∈ UU := UU_of (mt_1 (List.mem_of_getElem? (i := 139) (by decide +kernel))) (by decide +kernel)
theorem ml_X5_28 : Cond.methodLink RX5 28 yX1_init ∈ UU := UU_of (mt_1 (List.mem_of_getElem? (i := 140) (by decide +kernel))) (by decide +kernel)
theorem im_X1_init : Cond.instanceMethod yX1_init ∈ UU := UU_of (mt_1 (List.mem_of_getElem? (i := 141) (by decide +kernel))) (by decide +kernel)
theorem co_X1_init : Cond.code yX1_init cX1_init 2 none ∈ UU := UU_of (mt_1 (List.mem_of_getElem? (i := 142) (by decide +kernel))) (by decide +kernel)
theorem ml_X1_3 : Cond.methodLink RX1 3 objectInit ∈ UU := UU_of (mt_1 (List.mem_of_getElem? (i := 143) (by decide +kernel))) (by decide +kernel)
theorem kl_X1_9 : Cond.classLink RX1 9 RX0 ∈ UU := UU_of (mt_1 (List.mem_of_getElem? (i := 144) (by decide +kernel))) (by decide +kernel)
theorem ml_X1_17 : Cond.methodLink RX1 17 yX0_init ∈ UU := UU_of (mt_1 (List.mem_of_getElem? (i := 146) (by decide +kernel))) (by decide +kernel)
theorem fl_X1_11 : Cond.fieldLink RX1 11 "SpiralDominoes$History" "states" "[LSpiralDominoes$Game;" ∈ UU := UU_of (mt_1 (List.mem_of_getElem? (i := 147) (by decide +kernel))) (by decide +kernel)
theorem fl_X1_22 : Cond.fieldLink RX1 22 "SpiralDominoes$History" "begin" "I" ∈ UU := UU_of (mt_1 (List.mem_of_getElem? (i := 148) (by decide +kernel))) (by decide +kernel)
theorem fl_X1_18 : Cond.fieldLink RX1 18 "SpiralDominoes$History" "size" "I" ∈ UU := UU_of (mt_1 (List.mem_of_getElem? (i := 149) (by decide +kernel))) (by decide +kernel)
theorem kl_X5_33 : Cond.classLink RX5 33 RX3 ∈ UU := UU_of (mt_1 (List.mem_of_getElem? (i := 157) (by decide +kernel))) (by decide +kernel)
theorem ib_X3 : Cond.instantiable RX3 2 ∈ UU := UU_of (mt_1 (List.mem_of_getElem? (i := 158) (by decide +kernel))) (by decide +kernel)
theorem im_X3_init : Cond.instanceMethod yX3_init ∈ UU := UU_of (mt_1 (List.mem_of_getElem? (i := 160) (by decide +kernel))) (by decide +kernel)
theorem co_X3_init : Cond.code yX3_init cX3_init 1 none ∈ UU := UU_of (mt_1 (List.mem_of_getElem? (i := 161) (by decide +kernel))) (by decide +kernel)
theorem ml_X3_1 : Cond.methodLink RX3 1 objectInit ∈ UU := UU_of (mt_1 (List.mem_of_getElem? (i := 162) (by decide +kernel))) (by decide +kernel)
theorem kl_X3_7 : Cond.classLink RX3 7 RX0 ∈ UU := UU_of (mt_1 (List.mem_of_getElem? (i := 163) (by decide +kernel))) (by decide +kernel)
theorem ml_X3_9 : Cond.methodLink RX3 9 yX0_init ∈ UU := UU_of (mt_1 (List.mem_of_getElem? (i := 164) (by decide +kernel))) (by decide +kernel)
theorem fl_X3_10 : Cond.fieldLink RX3 10 "SpiralDominoes$Slot" "kept" "LSpiralDominoes$Game;" ∈ UU := UU_of (mt_1 (List.mem_of_getElem? (i := 165) (by decide +kernel))) (by decide +kernel)
theorem fl_X3_16 : Cond.fieldLink RX3 16 "SpiralDominoes$Slot" "full" "Z" ∈ UU := UU_of (mt_1 (List.mem_of_getElem? (i := 166) (by decide +kernel))) (by decide +kernel)
theorem fl_X5_10 : Cond.fieldLink RX5 10 "SpiralDominoes" "text" "LSpiralDominoes$Text;" ∈ UU := UU_of (mt_1 (List.mem_of_getElem? (i := 172) (by decide +kernel))) (by decide +kernel)
theorem fl_X5_19 : Cond.fieldLink RX5 19 "SpiralDominoes" "now" "LSpiralDominoes$Game;" ∈ UU := UU_of (mt_1 (List.mem_of_getElem? (i := 173) (by decide +kernel))) (by decide +kernel)
theorem fl_X5_23 : Cond.fieldLink RX5 23 "SpiralDominoes" "trial" "LSpiralDominoes$Game;" ∈ UU := UU_of (mt_1 (List.mem_of_getElem? (i := 174) (by decide +kernel))) (by decide +kernel)
theorem fl_X5_29 : Cond.fieldLink RX5 29 "SpiralDominoes" "history" "LSpiralDominoes$History;" ∈ UU := UU_of (mt_1 (List.mem_of_getElem? (i := 175) (by decide +kernel))) (by decide +kernel)
theorem fl_X5_36 : Cond.fieldLink RX5 36 "SpiralDominoes" "firstSlot" "LSpiralDominoes$Slot;" ∈ UU := UU_of (mt_1 (List.mem_of_getElem? (i := 176) (by decide +kernel))) (by decide +kernel)
theorem fl_X5_40 : Cond.fieldLink RX5 40 "SpiralDominoes" "secondSlot" "LSpiralDominoes$Slot;" ∈ UU := UU_of (mt_1 (List.mem_of_getElem? (i := 177) (by decide +kernel))) (by decide +kernel)
theorem ml_L_94 : Cond.methodLink RL 94 yX5_clearText ∈ UU := UU_of (mt_1 (List.mem_of_getElem? (i := 191) (by decide +kernel))) (by decide +kernel)
theorem im_X5_clearText : Cond.instanceMethod yX5_clearText ∈ UU := UU_of (mt_1 (List.mem_of_getElem? (i := 192) (by decide +kernel))) (by decide +kernel)
theorem se_X5_clearText : Cond.selects RX5 yX5_clearText yX5_clearText ∈ UU := UU_of (mt_1 (List.mem_of_getElem? (i := 193) (by decide +kernel))) (by decide +kernel)
theorem co_X5_clearText : Cond.code yX5_clearText cX5_clearText 1 (some .int) ∈ UU := UU_of (mt_1 (List.mem_of_getElem? (i := 194) (by decide +kernel))) (by decide +kernel)
theorem ml_X5_63 : Cond.methodLink RX5 63 yX4_becomeEmpty ∈ UU := UU_of (mt_1 (List.mem_of_getElem? (i := 195) (by decide +kernel))) (by decide +kernel)
theorem im_X4_becomeEmpty : Cond.instanceMethod yX4_becomeEmpty ∈ UU := UU_of (mt_1 (List.mem_of_getElem? (i := 196) (by decide +kernel))) (by decide +kernel)
theorem se_X4_becomeEmpty : Cond.selects RX4 yX4_becomeEmpty yX4_becomeEmpty ∈ UU := UU_of (mt_1 (List.mem_of_getElem? (i := 197) (by decide +kernel))) (by decide +kernel)
theorem co_X4_becomeEmpty : Cond.code yX4_becomeEmpty cX4_becomeEmpty 2 (some .int) ∈ UU := UU_of (mt_1 (List.mem_of_getElem? (i := 198) (by decide +kernel))) (by decide +kernel)
theorem ml_L_98 : Cond.methodLink RL 98 yX5_errorPosition ∈ UU := UU_of (mt_1 (List.mem_of_getElem? (i := 199) (by decide +kernel))) (by decide +kernel)
theorem im_X5_errorPosition : Cond.instanceMethod yX5_errorPosition ∈ UU := UU_of (mt_1 (List.mem_of_getElem? (i := 200) (by decide +kernel))) (by decide +kernel)
theorem se_X5_errorPosition : Cond.selects RX5 yX5_errorPosition yX5_errorPosition ∈ UU := UU_of (mt_1 (List.mem_of_getElem? (i := 201) (by decide +kernel))) (by decide +kernel)
theorem co_X5_errorPosition : Cond.code yX5_errorPosition cX5_errorPosition 1 (some .int) ∈ UU := UU_of (mt_1 (List.mem_of_getElem? (i := 202) (by decide +kernel))) (by decide +kernel)
theorem ml_X5_67 : Cond.methodLink RX5 67 yX4_firstError ∈ UU := UU_of (mt_1 (List.mem_of_getElem? (i := 203) (by decide +kernel))) (by decide +kernel)
theorem im_X4_firstError : Cond.instanceMethod yX4_firstError ∈ UU := UU_of (mt_1 (List.mem_of_getElem? (i := 204) (by decide +kernel))) (by decide +kernel)
theorem se_X4_firstError : Cond.selects RX4 yX4_firstError yX4_firstError ∈ UU := UU_of (mt_1 (List.mem_of_getElem? (i := 205) (by decide +kernel))) (by decide +kernel)
theorem co_X4_firstError : Cond.code yX4_firstError cX4_firstError 3 (some .int) ∈ UU := UU_of (mt_1 (List.mem_of_getElem? (i := 206) (by decide +kernel))) (by decide +kernel)
theorem ml_X4_19 : Cond.methodLink RX4 19 yX4_signAt ∈ UU := UU_of (mt_1 (List.mem_of_getElem? (i := 207) (by decide +kernel))) (by decide +kernel)
theorem im_X4_signAt : Cond.instanceMethod yX4_signAt ∈ UU := UU_of (mt_1 (List.mem_of_getElem? (i := 208) (by decide +kernel))) (by decide +kernel)
theorem se_X4_signAt : Cond.selects RX4 yX4_signAt yX4_signAt ∈ UU := UU_of (mt_1 (List.mem_of_getElem? (i := 209) (by decide +kernel))) (by decide +kernel)
theorem co_X4_signAt : Cond.code yX4_signAt cX4_signAt 2 (some .int) ∈ UU := UU_of (mt_1 (List.mem_of_getElem? (i := 210) (by decide +kernel))) (by decide +kernel)
theorem ml_X4_26 : Cond.methodLink RX4 26 yX4_isAllowed ∈ UU := UU_of (mt_1 (List.mem_of_getElem? (i := 211) (by decide +kernel))) (by decide +kernel)
theorem im_X4_isAllowed : Cond.instanceMethod yX4_isAllowed ∈ UU := UU_of (mt_1 (List.mem_of_getElem? (i := 213) (by decide +kernel))) (by decide +kernel)
theorem co_X4_isAllowed : Cond.code yX4_isAllowed cX4_isAllowed 3 (some .boolean) ∈ UU := UU_of (mt_1 (List.mem_of_getElem? (i := 214) (by decide +kernel))) (by decide +kernel)
theorem ml_X4_33 : Cond.methodLink RX4 33 yX4_lengthOfCommand ∈ UU := UU_of (mt_1 (List.mem_of_getElem? (i := 215) (by decide +kernel))) (by decide +kernel)
theorem st_X4_lengthOfCommand : Cond.static yX4_lengthOfCommand ∈ UU := UU_of (mt_1 (List.mem_of_getElem? (i := 216) (by decide +kernel))) (by decide +kernel)
theorem co_X4_lengthOfCommand : Cond.code yX4_lengthOfCommand cX4_lengthOfCommand 1 (some .int) ∈ UU := UU_of (mt_1 (List.mem_of_getElem? (i := 217) (by decide +kernel))) (by decide +kernel)
theorem ml_X4_36 : Cond.methodLink RX4 36 yX4_isDigit ∈ UU := UU_of (mt_1 (List.mem_of_getElem? (i := 218) (by decide +kernel))) (by decide +kernel)
theorem im_X4_isDigit : Cond.instanceMethod yX4_isDigit ∈ UU := UU_of (mt_1 (List.mem_of_getElem? (i := 220) (by decide +kernel))) (by decide +kernel)
theorem co_X4_isDigit : Cond.code yX4_isDigit cX4_isDigit 4 (some .boolean) ∈ UU := UU_of (mt_1 (List.mem_of_getElem? (i := 221) (by decide +kernel))) (by decide +kernel)
theorem ml_X4_23 : Cond.methodLink RX4 23 yX4_digitAt ∈ UU := UU_of (mt_1 (List.mem_of_getElem? (i := 222) (by decide +kernel))) (by decide +kernel)
theorem im_X4_digitAt : Cond.instanceMethod yX4_digitAt ∈ UU := UU_of (mt_1 (List.mem_of_getElem? (i := 223) (by decide +kernel))) (by decide +kernel)
theorem se_X4_digitAt : Cond.selects RX4 yX4_digitAt yX4_digitAt ∈ UU := UU_of (mt_1 (List.mem_of_getElem? (i := 224) (by decide +kernel))) (by decide +kernel)
theorem co_X4_digitAt : Cond.code yX4_digitAt cX4_digitAt 2 (some .int) ∈ UU := UU_of (mt_1 (List.mem_of_getElem? (i := 225) (by decide +kernel))) (by decide +kernel)
theorem ml_X4_30 : Cond.methodLink RX4 30 yX4_isEndOfCommand ∈ UU := UU_of (mt_1 (List.mem_of_getElem? (i := 226) (by decide +kernel))) (by decide +kernel)
theorem im_X4_isEndOfCommand : Cond.instanceMethod yX4_isEndOfCommand ∈ UU := UU_of (mt_1 (List.mem_of_getElem? (i := 227) (by decide +kernel))) (by decide +kernel)
theorem se_X4_isEndOfCommand : Cond.selects RX4 yX4_isEndOfCommand yX4_isEndOfCommand ∈ UU := UU_of (mt_1 (List.mem_of_getElem? (i := 228) (by decide +kernel))) (by decide +kernel)
theorem co_X4_isEndOfCommand : Cond.code yX4_isEndOfCommand cX4_isEndOfCommand 3 (some .boolean) ∈ UU := UU_of (mt_1 (List.mem_of_getElem? (i := 229) (by decide +kernel))) (by decide +kernel)
theorem ml_L_147 : Cond.methodLink RL 147 yX5_legal ∈ UU := UU_of (mt_1 (List.mem_of_getElem? (i := 230) (by decide +kernel))) (by decide +kernel)
theorem im_X5_legal : Cond.instanceMethod yX5_legal ∈ UU := UU_of (mt_1 (List.mem_of_getElem? (i := 231) (by decide +kernel))) (by decide +kernel)
theorem se_X5_legal : Cond.selects RX5 yX5_legal yX5_legal ∈ UU := UU_of (mt_1 (List.mem_of_getElem? (i := 232) (by decide +kernel))) (by decide +kernel)
theorem co_X5_legal : Cond.code yX5_legal cX5_legal 1 (some .int) ∈ UU := UU_of (mt_1 (List.mem_of_getElem? (i := 233) (by decide +kernel))) (by decide +kernel)
theorem ml_X5_214 : Cond.methodLink RX5 214 yX0_playable ∈ UU := UU_of (mt_1 (List.mem_of_getElem? (i := 234) (by decide +kernel))) (by decide +kernel)
theorem im_X0_playable : Cond.instanceMethod yX0_playable ∈ UU := UU_of (mt_1 (List.mem_of_getElem? (i := 235) (by decide +kernel))) (by decide +kernel)
theorem se_X0_playable : Cond.selects RX0 yX0_playable yX0_playable ∈ UU := UU_of (mt_1 (List.mem_of_getElem? (i := 236) (by decide +kernel))) (by decide +kernel)
theorem co_X0_playable : Cond.code yX0_playable cX0_playable 3 (some .int) ∈ UU := UU_of (mt_1 (List.mem_of_getElem? (i := 237) (by decide +kernel))) (by decide +kernel)
theorem ml_X0_153 : Cond.methodLink RX0 153 yX0_reasonAgainst ∈ UU := UU_of (mt_1 (List.mem_of_getElem? (i := 238) (by decide +kernel))) (by decide +kernel)
theorem im_X0_reasonAgainst : Cond.instanceMethod yX0_reasonAgainst ∈ UU := UU_of (mt_1 (List.mem_of_getElem? (i := 239) (by decide +kernel))) (by decide +kernel)
theorem se_X0_reasonAgainst : Cond.selects RX0 yX0_reasonAgainst yX0_reasonAgainst ∈ UU := UU_of (mt_2 (List.mem_of_getElem? (i := 0) (by decide +kernel))) (by decide +kernel)
theorem co_X0_reasonAgainst : Cond.code yX0_reasonAgainst cX0_reasonAgainst 2 (some .int) ∈ UU := UU_of (mt_2 (List.mem_of_getElem? (i := 1) (by decide +kernel))) (by decide +kernel)
theorem ml_X0_78 : Cond.methodLink RX0 78 yX0_isPlayed ∈ UU := UU_of (mt_2 (List.mem_of_getElem? (i := 2) (by decide +kernel))) (by decide +kernel)
theorem im_X0_isPlayed : Cond.instanceMethod yX0_isPlayed ∈ UU := UU_of (mt_2 (List.mem_of_getElem? (i := 3) (by decide +kernel))) (by decide +kernel)
theorem se_X0_isPlayed : Cond.selects RX0 yX0_isPlayed yX0_isPlayed ∈ UU := UU_of (mt_2 (List.mem_of_getElem? (i := 4) (by decide +kernel))) (by decide +kernel)
theorem co_X0_isPlayed : Cond.code yX0_isPlayed cX0_isPlayed 1 (some .boolean) ∈ UU := UU_of (mt_2 (List.mem_of_getElem? (i := 5) (by decide +kernel))) (by decide +kernel)
theorem ml_X0_108 : Cond.methodLink RX0 108 yX0_holderOf ∈ UU := UU_of (mt_2 (List.mem_of_getElem? (i := 6) (by decide +kernel))) (by decide +kernel)
theorem im_X0_holderOf : Cond.instanceMethod yX0_holderOf ∈ UU := UU_of (mt_2 (List.mem_of_getElem? (i := 8) (by decide +kernel))) (by decide +kernel)
theorem co_X0_holderOf : Cond.code yX0_holderOf cX0_holderOf 2 (some .int) ∈ UU := UU_of (mt_2 (List.mem_of_getElem? (i := 9) (by decide +kernel))) (by decide +kernel)
theorem st_X5_isTile : Cond.static yX5_isTile ∈ UU := UU_of (mt_2 (List.mem_of_getElem? (i := 11) (by decide +kernel))) (by decide +kernel)
theorem co_X5_isTile : Cond.code yX5_isTile cX5_isTile 1 (some .boolean) ∈ UU := UU_of (mt_2 (List.mem_of_getElem? (i := 12) (by decide +kernel))) (by decide +kernel)
theorem ml_X0_147 : Cond.methodLink RX0 147 yX2_fits ∈ UU := UU_of (mt_2 (List.mem_of_getElem? (i := 13) (by decide +kernel))) (by decide +kernel)
theorem im_X2_fits : Cond.instanceMethod yX2_fits ∈ UU := UU_of (mt_2 (List.mem_of_getElem? (i := 14) (by decide +kernel))) (by decide +kernel)
theorem se_X2_fits : Cond.selects RX2 yX2_fits yX2_fits ∈ UU := UU_of (mt_2 (List.mem_of_getElem? (i := 15) (by decide +kernel))) (by decide +kernel)
theorem co_X2_fits : Cond.code yX2_fits cX2_fits 2 (some .boolean) ∈ UU := UU_of (mt_2 (List.mem_of_getElem? (i := 16) (by decide +kernel))) (by decide +kernel)
theorem st_X5_lowOf : Cond.static yX5_lowOf ∈ UU := UU_of (mt_2 (List.mem_of_getElem? (i := 18) (by decide +kernel))) (by decide +kernel)
theorem co_X5_lowOf : Cond.code yX5_lowOf cX5_lowOf 1 (some .int) ∈ UU := UU_of (mt_2 (List.mem_of_getElem? (i := 19) (by decide +kernel))) (by decide +kernel)
theorem fl_X5_289 : Cond.fieldLink RX5 289 "SpiralDominoes" "LOW" "[I" ∈ UU := UU_of (mt_2 (List.mem_of_getElem? (i := 20) (by decide +kernel))) (by decide +kernel)
theorem st_X5_highOf : Cond.static yX5_highOf ∈ UU := UU_of (mt_2 (List.mem_of_getElem? (i := 23) (by decide +kernel))) (by decide +kernel)
theorem co_X5_highOf : Cond.code yX5_highOf cX5_highOf 1 (some .int) ∈ UU := UU_of (mt_2 (List.mem_of_getElem? (i := 24) (by decide +kernel))) (by decide +kernel)
theorem fl_X5_293 : Cond.fieldLink RX5 293 "SpiralDominoes" "HIGH" "[I" ∈ UU := UU_of (mt_2 (List.mem_of_getElem? (i := 25) (by decide +kernel))) (by decide +kernel)
theorem ml_X0_150 : Cond.methodLink RX0 150 yX2_hasRoom ∈ UU := UU_of (mt_2 (List.mem_of_getElem? (i := 27) (by decide +kernel))) (by decide +kernel)
theorem im_X2_hasRoom : Cond.instanceMethod yX2_hasRoom ∈ UU := UU_of (mt_2 (List.mem_of_getElem? (i := 28) (by decide +kernel))) (by decide +kernel)
theorem se_X2_hasRoom : Cond.selects RX2 yX2_hasRoom yX2_hasRoom ∈ UU := UU_of (mt_2 (List.mem_of_getElem? (i := 29) (by decide +kernel))) (by decide +kernel)
theorem co_X2_hasRoom : Cond.code yX2_hasRoom cX2_hasRoom 1 (some .boolean) ∈ UU := UU_of (mt_2 (List.mem_of_getElem? (i := 30) (by decide +kernel))) (by decide +kernel)
theorem ml_X2_65 : Cond.methodLink RX2 65 yX2_isFree ∈ UU := UU_of (mt_2 (List.mem_of_getElem? (i := 31) (by decide +kernel))) (by decide +kernel)
theorem im_X2_isFree : Cond.instanceMethod yX2_isFree ∈ UU := UU_of (mt_2 (List.mem_of_getElem? (i := 33) (by decide +kernel))) (by decide +kernel)
theorem co_X2_isFree : Cond.code yX2_isFree cX2_isFree 3 (some .boolean) ∈ UU := UU_of (mt_2 (List.mem_of_getElem? (i := 34) (by decide +kernel))) (by decide +kernel)
theorem st_X5_stepX : Cond.static yX5_stepX ∈ UU := UU_of (mt_2 (List.mem_of_getElem? (i := 36) (by decide +kernel))) (by decide +kernel)
theorem co_X5_stepX : Cond.code yX5_stepX cX5_stepX 1 (some .int) ∈ UU := UU_of (mt_2 (List.mem_of_getElem? (i := 37) (by decide +kernel))) (by decide +kernel)
theorem st_X5_stepY : Cond.static yX5_stepY ∈ UU := UU_of (mt_2 (List.mem_of_getElem? (i := 39) (by decide +kernel))) (by decide +kernel)
theorem co_X5_stepY : Cond.code yX5_stepY cX5_stepY 1 (some .int) ∈ UU := UU_of (mt_2 (List.mem_of_getElem? (i := 40) (by decide +kernel))) (by decide +kernel)
theorem ml_L_151 : Cond.methodLink RL 151 yX5_best ∈ UU := UU_of (mt_2 (List.mem_of_getElem? (i := 41) (by decide +kernel))) (by decide +kernel)
theorem im_X5_best : Cond.instanceMethod yX5_best ∈ UU := UU_of (mt_2 (List.mem_of_getElem? (i := 42) (by decide +kernel))) (by decide +kernel)
theorem se_X5_best : Cond.selects RX5 yX5_best yX5_best ∈ UU := UU_of (mt_2 (List.mem_of_getElem? (i := 43) (by decide +kernel))) (by decide +kernel)
theorem co_X5_best : Cond.code yX5_best cX5_best 1 (some .int) ∈ UU := UU_of (mt_2 (List.mem_of_getElem? (i := 44) (by decide +kernel))) (by decide +kernel)
theorem ml_X5_117 : Cond.methodLink RX5 117 yX0_heaviestPlayable ∈ UU := UU_of (mt_2 (List.mem_of_getElem? (i := 45) (by decide +kernel))) (by decide +kernel)
theorem im_X0_heaviestPlayable : Cond.instanceMethod yX0_heaviestPlayable ∈ UU := UU_of (mt_2 (List.mem_of_getElem? (i := 46) (by decide +kernel))) (by decide +kernel)
theorem se_X0_heaviestPlayable : Cond.selects RX0 yX0_heaviestPlayable yX0_heaviestPlayable ∈ UU := UU_of (mt_2 (List.mem_of_getElem? (i := 47) (by decide +kernel))) (by decide +kernel)
theorem co_X0_heaviestPlayable : Cond.code yX0_heaviestPlayable cX0_heaviestPlayable 3 (some .int) ∈ UU := UU_of (mt_2 (List.mem_of_getElem? (i := 48) (by decide +kernel))) (by decide +kernel)
theorem st_X5_pipsOn : Cond.static yX5_pipsOn ∈ UU := UU_of (mt_2 (List.mem_of_getElem? (i := 50) (by decide +kernel))) (by decide +kernel)
theorem co_X5_pipsOn : Cond.code yX5_pipsOn cX5_pipsOn 1 (some .int) ∈ UU := UU_of (mt_2 (List.mem_of_getElem? (i := 51) (by decide +kernel))) (by decide +kernel)
theorem ml_L_85 : Cond.methodLink RL 85 yL_append ∈ UU := UU_of (mt_2 (List.mem_of_getElem? (i := 52) (by decide +kernel))) (by decide +kernel)
theorem st_L_append : Cond.static yL_append ∈ UU := UU_of (mt_2 (List.mem_of_getElem? (i := 53) (by decide +kernel))) (by decide +kernel)
theorem co_L_append : Cond.codeWith yL_append cL_append 4 (some .int) [(0, 9, 12, 13), (0, 9, 15, 15)] ∈ UU := UU_of (mt_2 (List.mem_of_getElem? (i := 54) (by decide +kernel))) (by decide +kernel)
theorem kl_L_13 : Cond.classLink RL 13 "java/lang/IllegalArgumentException" ∈ UU := UU_of (mt_2 (List.mem_of_getElem? (i := 55) (by decide +kernel))) (by decide +kernel)
theorem kl_L_15 : Cond.classLink RL 15 "java/lang/IllegalStateException" ∈ UU := UU_of (mt_2 (List.mem_of_getElem? (i := 56) (by decide +kernel))) (by decide +kernel)
theorem ml_L_7 : Cond.methodLink RL 7 yX5_append ∈ UU := UU_of (mt_2 (List.mem_of_getElem? (i := 57) (by decide +kernel))) (by decide +kernel)
theorem im_X5_append : Cond.instanceMethod yX5_append ∈ UU := UU_of (mt_2 (List.mem_of_getElem? (i := 58) (by decide +kernel))) (by decide +kernel)
theorem se_X5_append : Cond.selects RX5 yX5_append yX5_append ∈ UU := UU_of (mt_2 (List.mem_of_getElem? (i := 59) (by decide +kernel))) (by decide +kernel)
theorem co_X5_append : Cond.code yX5_append cX5_append 2 (some .int) ∈ UU := UU_of (mt_2 (List.mem_of_getElem? (i := 60) (by decide +kernel))) (by decide +kernel)
theorem kl_X5_43 : Cond.classLink RX5 43 "java/lang/IllegalArgumentException" ∈ UU := UU_of (mt_2 (List.mem_of_getElem? (i := 61) (by decide +kernel))) (by decide +kernel)
theorem ml_X5_47 : Cond.methodLink RX5 47 (⟨"java/lang/IllegalArgumentException", "<init>", "(Ljava/lang/String;)V"⟩ : MethodName) ∈ UU := UU_of (mt_2 (List.mem_of_getElem? (i := 103) (by decide +kernel))) (by decide +kernel)
theorem ac_byte : Cond.arrayClass .byte ∈ UU := UU_of (mt_2 (List.mem_of_getElem? (i := 128) (by decide +kernel))) (by decide +kernel)
theorem ml_X5_50 : Cond.methodLink RX5 50 yX4_isFull ∈ UU := UU_of (mt_2 (List.mem_of_getElem? (i := 129) (by decide +kernel))) (by decide +kernel)
theorem im_X4_isFull : Cond.instanceMethod yX4_isFull ∈ UU := UU_of (mt_2 (List.mem_of_getElem? (i := 130) (by decide +kernel))) (by decide +kernel)
theorem se_X4_isFull : Cond.selects RX4 yX4_isFull yX4_isFull ∈ UU := UU_of (mt_2 (List.mem_of_getElem? (i := 131) (by decide +kernel))) (by decide +kernel)
theorem co_X4_isFull : Cond.code yX4_isFull cX4_isFull 1 (some .boolean) ∈ UU := UU_of (mt_2 (List.mem_of_getElem? (i := 132) (by decide +kernel))) (by decide +kernel)
theorem kl_X5_54 : Cond.classLink RX5 54 "java/lang/IllegalStateException" ∈ UU := UU_of (mt_2 (List.mem_of_getElem? (i := 133) (by decide +kernel))) (by decide +kernel)
theorem ml_X5_58 : Cond.methodLink RX5 58 (⟨"java/lang/IllegalStateException", "<init>", "(Ljava/lang/String;)V"⟩ : MethodName) ∈ UU := UU_of (mt_2 (List.mem_of_getElem? (i := 143) (by decide +kernel))) (by decide +kernel)
theorem ml_X5_59 : Cond.methodLink RX5 59 yX4_add ∈ UU := UU_of (mt_2 (List.mem_of_getElem? (i := 149) (by decide +kernel))) (by decide +kernel)
theorem im_X4_add : Cond.instanceMethod yX4_add ∈ UU := UU_of (mt_2 (List.mem_of_getElem? (i := 150) (by decide +kernel))) (by decide +kernel)
theorem se_X4_add : Cond.selects RX4 yX4_add yX4_add ∈ UU := UU_of (mt_2 (List.mem_of_getElem? (i := 151) (by decide +kernel))) (by decide +kernel)
theorem co_X4_add : Cond.code yX4_add cX4_add 2 (some .int) ∈ UU := UU_of (mt_2 (List.mem_of_getElem? (i := 152) (by decide +kernel))) (by decide +kernel)
theorem ml_L_102 : Cond.methodLink RL 102 yL_load ∈ UU := UU_of (mt_2 (List.mem_of_getElem? (i := 153) (by decide +kernel))) (by decide +kernel)
theorem st_L_load : Cond.static yL_load ∈ UU := UU_of (mt_2 (List.mem_of_getElem? (i := 154) (by decide +kernel))) (by decide +kernel)
theorem co_L_load : Cond.codeWith yL_load cL_load 3 (some .int) [(0, 8, 11, 15)] ∈ UU := UU_of (mt_2 (List.mem_of_getElem? (i := 155) (by decide +kernel))) (by decide +kernel)
theorem ml_L_17 : Cond.methodLink RL 17 yX5_load ∈ UU := UU_of (mt_2 (List.mem_of_getElem? (i := 156) (by decide +kernel))) (by decide +kernel)
theorem im_X5_load : Cond.instanceMethod yX5_load ∈ UU := UU_of (mt_2 (List.mem_of_getElem? (i := 157) (by decide +kernel))) (by decide +kernel)
theorem se_X5_load : Cond.selects RX5 yX5_load yX5_load ∈ UU := UU_of (mt_2 (List.mem_of_getElem? (i := 158) (by decide +kernel))) (by decide +kernel)
theorem co_X5_load : Cond.code yX5_load cX5_load 1 (some .int) ∈ UU := UU_of (mt_2 (List.mem_of_getElem? (i := 159) (by decide +kernel))) (by decide +kernel)
theorem ml_X5_72 : Cond.methodLink RX5 72 yX0_becomeNew ∈ UU := UU_of (mt_2 (List.mem_of_getElem? (i := 161) (by decide +kernel))) (by decide +kernel)
theorem ml_X5_75 : Cond.methodLink RX5 75 yX1_forget ∈ UU := UU_of (mt_2 (List.mem_of_getElem? (i := 162) (by decide +kernel))) (by decide +kernel)
theorem im_X1_forget : Cond.instanceMethod yX1_forget ∈ UU := UU_of (mt_2 (List.mem_of_getElem? (i := 163) (by decide +kernel))) (by decide +kernel)
theorem se_X1_forget : Cond.selects RX1 yX1_forget yX1_forget ∈ UU := UU_of (mt_2 (List.mem_of_getElem? (i := 164) (by decide +kernel))) (by decide +kernel)
theorem co_X1_forget : Cond.code yX1_forget cX1_forget 1 none ∈ UU := UU_of (mt_2 (List.mem_of_getElem? (i := 165) (by decide +kernel))) (by decide +kernel)
theorem ml_X5_78 : Cond.methodLink RX5 78 yX3_becomeEmpty ∈ UU := UU_of (mt_2 (List.mem_of_getElem? (i := 166) (by decide +kernel))) (by decide +kernel)
theorem im_X3_becomeEmpty : Cond.instanceMethod yX3_becomeEmpty ∈ UU := UU_of (mt_2 (List.mem_of_getElem? (i := 167) (by decide +kernel))) (by decide +kernel)
theorem se_X3_becomeEmpty : Cond.selects RX3 yX3_becomeEmpty yX3_becomeEmpty ∈ UU := UU_of (mt_2 (List.mem_of_getElem? (i := 168) (by decide +kernel))) (by decide +kernel)
theorem co_X3_becomeEmpty : Cond.code yX3_becomeEmpty cX3_becomeEmpty 1 none ∈ UU := UU_of (mt_2 (List.mem_of_getElem? (i := 169) (by decide +kernel))) (by decide +kernel)
theorem ml_X5_80 : Cond.methodLink RX5 80 yX5_doCommandsOfText ∈ UU := UU_of (mt_2 (List.mem_of_getElem? (i := 170) (by decide +kernel))) (by decide +kernel)
theorem im_X5_doCommandsOfText : Cond.instanceMethod yX5_doCommandsOfText ∈ UU := UU_of (mt_2 (List.mem_of_getElem? (i := 172) (by decide +kernel))) (by decide +kernel)
theorem co_X5_doCommandsOfText : Cond.code yX5_doCommandsOfText cX5_doCommandsOfText 4 (some .int) ∈ UU := UU_of (mt_2 (List.mem_of_getElem? (i := 173) (by decide +kernel))) (by decide +kernel)
theorem ml_X5_83 : Cond.methodLink RX5 83 yX4_size ∈ UU := UU_of (mt_2 (List.mem_of_getElem? (i := 174) (by decide +kernel))) (by decide +kernel)
theorem im_X4_size : Cond.instanceMethod yX4_size ∈ UU := UU_of (mt_2 (List.mem_of_getElem? (i := 175) (by decide +kernel))) (by decide +kernel)
theorem se_X4_size : Cond.selects RX4 yX4_size yX4_size ∈ UU := UU_of (mt_2 (List.mem_of_getElem? (i := 176) (by decide +kernel))) (by decide +kernel)
theorem co_X4_size : Cond.code yX4_size cX4_size 1 (some .int) ∈ UU := UU_of (mt_2 (List.mem_of_getElem? (i := 177) (by decide +kernel))) (by decide +kernel)
theorem ml_X5_86 : Cond.methodLink RX5 86 yX4_isEndOfCommand ∈ UU := UU_of (mt_2 (List.mem_of_getElem? (i := 178) (by decide +kernel))) (by decide +kernel)
theorem ml_X5_90 : Cond.methodLink RX5 90 yX5_doCommandAt ∈ UU := UU_of (mt_2 (List.mem_of_getElem? (i := 179) (by decide +kernel))) (by decide +kernel)
theorem im_X5_doCommandAt : Cond.instanceMethod yX5_doCommandAt ∈ UU := UU_of (mt_2 (List.mem_of_getElem? (i := 181) (by decide +kernel))) (by decide +kernel)
theorem co_X5_doCommandAt : Cond.code yX5_doCommandAt cX5_doCommandAt 2 (some .boolean) ∈ UU := UU_of (mt_2 (List.mem_of_getElem? (i := 182) (by decide +kernel))) (by decide +kernel)
theorem ml_X5_94 : Cond.methodLink RX5 94 yX4_signAt ∈ UU := UU_of (mt_2 (List.mem_of_getElem? (i := 183) (by decide +kernel))) (by decide +kernel)
theorem ml_X5_97 : Cond.methodLink RX5 97 yX4_digitAt ∈ UU := UU_of (mt_2 (List.mem_of_getElem? (i := 184) (by decide +kernel))) (by decide +kernel)
theorem ml_X5_100 : Cond.methodLink RX5 100 yX4_numberAt ∈ UU := UU_of (mt_2 (List.mem_of_getElem? (i := 185) (by decide +kernel))) (by decide +kernel)
theorem im_X4_numberAt : Cond.instanceMethod yX4_numberAt ∈ UU := UU_of (mt_2 (List.mem_of_getElem? (i := 186) (by decide +kernel))) (by decide +kernel)
theorem se_X4_numberAt : Cond.selects RX4 yX4_numberAt yX4_numberAt ∈ UU := UU_of (mt_2 (List.mem_of_getElem? (i := 187) (by decide +kernel))) (by decide +kernel)
theorem co_X4_numberAt : Cond.code yX4_numberAt cX4_numberAt 2 (some .int) ∈ UU := UU_of (mt_2 (List.mem_of_getElem? (i := 188) (by decide +kernel))) (by decide +kernel)
theorem ml_X5_103 : Cond.methodLink RX5 103 yX0_startRound ∈ UU := UU_of (mt_2 (List.mem_of_getElem? (i := 189) (by decide +kernel))) (by decide +kernel)
theorem im_X0_startRound : Cond.instanceMethod yX0_startRound ∈ UU := UU_of (mt_2 (List.mem_of_getElem? (i := 190) (by decide +kernel))) (by decide +kernel)
theorem se_X0_startRound : Cond.selects RX0 yX0_startRound yX0_startRound ∈ UU := UU_of (mt_2 (List.mem_of_getElem? (i := 191) (by decide +kernel))) (by decide +kernel)
theorem co_X0_startRound : Cond.code yX0_startRound cX0_startRound 5 (some .boolean) ∈ UU := UU_of (mt_2 (List.mem_of_getElem? (i := 192) (by decide +kernel))) (by decide +kernel)
theorem ml_X0_135 : Cond.methodLink RX0 135 yX0_shuffle ∈ UU := UU_of (mt_2 (List.mem_of_getElem? (i := 193) (by decide +kernel))) (by decide +kernel)
theorem im_X0_shuffle : Cond.instanceMethod yX0_shuffle ∈ UU := UU_of (mt_2 (List.mem_of_getElem? (i := 195) (by decide +kernel))) (by decide +kernel)
theorem co_X0_shuffle : Cond.code yX0_shuffle cX0_shuffle 8 none ∈ UU := UU_of (mt_2 (List.mem_of_getElem? (i := 196) (by decide +kernel))) (by decide +kernel)
theorem cn_X0_143 : Cond.constantLong RX0 143 (6364136223846793005) ∈ UU := UU_of (mt_2 (List.mem_of_getElem? (i := 197) (by decide +kernel))) (by decide +kernel)
theorem cn_X0_145 : Cond.constantLong RX0 145 (1442695040888963407) ∈ UU := UU_of (mt_2 (List.mem_of_getElem? (i := 198) (by decide +kernel))) (by decide +kernel)
theorem ml_X0_139 : Cond.methodLink RX0 139 yX0_giveTo ∈ UU := UU_of (mt_2 (List.mem_of_getElem? (i := 199) (by decide +kernel))) (by decide +kernel)
theorem im_X0_giveTo : Cond.instanceMethod yX0_giveTo ∈ UU := UU_of (mt_2 (List.mem_of_getElem? (i := 201) (by decide +kernel))) (by decide +kernel)
theorem co_X0_giveTo : Cond.code yX0_giveTo cX0_giveTo 3 none ∈ UU := UU_of (mt_2 (List.mem_of_getElem? (i := 202) (by decide +kernel))) (by decide +kernel)
theorem ml_X5_107 : Cond.methodLink RX5 107 yX0_layIfPossible ∈ UU := UU_of (mt_2 (List.mem_of_getElem? (i := 203) (by decide +kernel))) (by decide +kernel)
theorem im_X0_layIfPossible : Cond.instanceMethod yX0_layIfPossible ∈ UU := UU_of (mt_2 (List.mem_of_getElem? (i := 204) (by decide +kernel))) (by decide +kernel)
theorem se_X0_layIfPossible : Cond.selects RX0 yX0_layIfPossible yX0_layIfPossible ∈ UU := UU_of (mt_2 (List.mem_of_getElem? (i := 205) (by decide +kernel))) (by decide +kernel)
theorem co_X0_layIfPossible : Cond.code yX0_layIfPossible cX0_layIfPossible 3 (some .boolean) ∈ UU := UU_of (mt_2 (List.mem_of_getElem? (i := 206) (by decide +kernel))) (by decide +kernel)
theorem ml_X0_160 : Cond.methodLink RX0 160 yX2_add ∈ UU := UU_of (mt_2 (List.mem_of_getElem? (i := 207) (by decide +kernel))) (by decide +kernel)
theorem im_X2_add : Cond.instanceMethod yX2_add ∈ UU := UU_of (mt_2 (List.mem_of_getElem? (i := 208) (by decide +kernel))) (by decide +kernel)
theorem se_X2_add : Cond.selects RX2 yX2_add yX2_add ∈ UU := UU_of (mt_2 (List.mem_of_getElem? (i := 209) (by decide +kernel))) (by decide +kernel)
theorem co_X2_add : Cond.code yX2_add cX2_add 6 none ∈ UU := UU_of (mt_2 (List.mem_of_getElem? (i := 210) (by decide +kernel))) (by decide +kernel)
theorem ml_X2_75 : Cond.methodLink RX2 75 yX2_cover ∈ UU := UU_of (mt_2 (List.mem_of_getElem? (i := 211) (by decide +kernel))) (by decide +kernel)
theorem im_X2_cover : Cond.instanceMethod yX2_cover ∈ UU := UU_of (mt_2 (List.mem_of_getElem? (i := 213) (by decide +kernel))) (by decide +kernel)
theorem co_X2_cover : Cond.code yX2_cover cX2_cover 3 none ∈ UU := UU_of (mt_2 (List.mem_of_getElem? (i := 214) (by decide +kernel))) (by decide +kernel)
theorem st_X5_isCell : Cond.static yX5_isCell ∈ UU := UU_of (mt_2 (List.mem_of_getElem? (i := 216) (by decide +kernel))) (by decide +kernel)
theorem co_X5_isCell : Cond.code yX5_isCell cX5_isCell 2 (some .boolean) ∈ UU := UU_of (mt_2 (List.mem_of_getElem? (i := 217) (by decide +kernel))) (by decide +kernel)
theorem ml_X0_121 : Cond.methodLink RX0 121 yX0_tilesOf ∈ UU := UU_of (mt_2 (List.mem_of_getElem? (i := 219) (by decide +kernel))) (by decide +kernel)
theorem im_X0_tilesOf : Cond.instanceMethod yX0_tilesOf ∈ UU := UU_of (mt_2 (List.mem_of_getElem? (i := 220) (by decide +kernel))) (by decide +kernel)
theorem se_X0_tilesOf : Cond.selects RX0 yX0_tilesOf yX0_tilesOf ∈ UU := UU_of (mt_2 (List.mem_of_getElem? (i := 221) (by decide +kernel))) (by decide +kernel)
theorem co_X0_tilesOf : Cond.code yX0_tilesOf cX0_tilesOf 2 (some .int) ∈ UU := UU_of (mt_2 (List.mem_of_getElem? (i := 222) (by decide +kernel))) (by decide +kernel)
theorem ml_X0_127 : Cond.methodLink RX0 127 yX0_handOf ∈ UU := UU_of (mt_2 (List.mem_of_getElem? (i := 223) (by decide +kernel))) (by decide +kernel)
theorem im_X0_handOf : Cond.instanceMethod yX0_handOf ∈ UU := UU_of (mt_2 (List.mem_of_getElem? (i := 225) (by decide +kernel))) (by decide +kernel)
theorem co_X0_handOf : Cond.code yX0_handOf cX0_handOf 4 (some .int) ∈ UU := UU_of (mt_2 (List.mem_of_getElem? (i := 226) (by decide +kernel))) (by decide +kernel)
theorem ml_X0_130 : Cond.methodLink RX0 130 yJ6_bitCount_0f7a4 ∈ UU := UU_of (mt_2 (List.mem_of_getElem? (i := 227) (by decide +kernel))) (by decide +kernel)
theorem st_J6_bitCount_0f7a4 : Cond.static yJ6_bitCount_0f7a4 ∈ UU := UU_of (mt_2 (List.mem_of_getElem? (i := 228) (by decide +kernel))) (by decide +kernel)
theorem co_J6_bitCount_0f7a4 : Cond.code yJ6_bitCount_0f7a4 cJ6_bitCount_0f7a4 1 (some .int) ∈ UU := UU_of (mt_2 (List.mem_of_getElem? (i := 229) (by decide +kernel))) (by decide +kernel)
theorem cn_J6_265 : Cond.constant RJ6 265 (1431655765) ∈ UU := UU_of (mt_2 (List.mem_of_getElem? (i := 230) (by decide +kernel))) (by decide +kernel)
theorem cn_J6_266 : Cond.constant RJ6 266 (858993459) ∈ UU := UU_of (mt_2 (List.mem_of_getElem? (i := 231) (by decide +kernel))) (by decide +kernel)
theorem cn_J6_267 : Cond.constant RJ6 267 (252645135) ∈ UU := UU_of (mt_2 (List.mem_of_getElem? (i := 232) (by decide +kernel))) (by decide +kernel)
theorem ml_X0_164 : Cond.methodLink RX0 164 yX0_winRound ∈ UU := UU_of (mt_2 (List.mem_of_getElem? (i := 233) (by decide +kernel))) (by decide +kernel)
theorem im_X0_winRound : Cond.instanceMethod yX0_winRound ∈ UU := UU_of (mt_2 (List.mem_of_getElem? (i := 235) (by decide +kernel))) (by decide +kernel)
theorem co_X0_winRound : Cond.code yX0_winRound cX0_winRound 4 none ∈ UU := UU_of (mt_2 (List.mem_of_getElem? (i := 236) (by decide +kernel))) (by decide +kernel)
theorem st_X5_isPlayer : Cond.static yX5_isPlayer ∈ UU := UU_of (mt_2 (List.mem_of_getElem? (i := 238) (by decide +kernel))) (by decide +kernel)
theorem co_X5_isPlayer : Cond.code yX5_isPlayer cX5_isPlayer 1 (some .boolean) ∈ UU := UU_of (mt_2 (List.mem_of_getElem? (i := 239) (by decide +kernel))) (by decide +kernel)
theorem ml_X0_124 : Cond.methodLink RX0 124 yX0_pipsOf ∈ UU := UU_of (mt_3 (List.mem_of_getElem? (i := 0) (by decide +kernel))) (by decide +kernel)
theorem im_X0_pipsOf : Cond.instanceMethod yX0_pipsOf ∈ UU := UU_of (mt_3 (List.mem_of_getElem? (i := 2) (by decide +kernel))) (by decide +kernel)
theorem co_X0_pipsOf : Cond.code yX0_pipsOf cX0_pipsOf 4 (some .int) ∈ UU := UU_of (mt_3 (List.mem_of_getElem? (i := 3) (by decide +kernel))) (by decide +kernel)
theorem ml_X0_168 : Cond.methodLink RX0 168 yX0_goToNextPlayer ∈ UU := UU_of (mt_3 (List.mem_of_getElem? (i := 6) (by decide +kernel))) (by decide +kernel)
theorem im_X0_goToNextPlayer : Cond.instanceMethod yX0_goToNextPlayer ∈ UU := UU_of (mt_3 (List.mem_of_getElem? (i := 8) (by decide +kernel))) (by decide +kernel)
theorem co_X0_goToNextPlayer : Cond.code yX0_goToNextPlayer cX0_goToNextPlayer 1 none ∈ UU := UU_of (mt_3 (List.mem_of_getElem? (i := 9) (by decide +kernel))) (by decide +kernel)
theorem ml_X5_111 : Cond.methodLink RX5 111 yX0_takeFromHeap ∈ UU := UU_of (mt_3 (List.mem_of_getElem? (i := 10) (by decide +kernel))) (by decide +kernel)
theorem im_X0_takeFromHeap : Cond.instanceMethod yX0_takeFromHeap ∈ UU := UU_of (mt_3 (List.mem_of_getElem? (i := 11) (by decide +kernel))) (by decide +kernel)
theorem se_X0_takeFromHeap : Cond.selects RX0 yX0_takeFromHeap yX0_takeFromHeap ∈ UU := UU_of (mt_3 (List.mem_of_getElem? (i := 12) (by decide +kernel))) (by decide +kernel)
theorem co_X0_takeFromHeap : Cond.code yX0_takeFromHeap cX0_takeFromHeap 2 (some .int) ∈ UU := UU_of (mt_3 (List.mem_of_getElem? (i := 13) (by decide +kernel))) (by decide +kernel)
theorem ml_X0_174 : Cond.methodLink RX0 174 yX0_canTakeFromHeap ∈ UU := UU_of (mt_3 (List.mem_of_getElem? (i := 14) (by decide +kernel))) (by decide +kernel)
theorem im_X0_canTakeFromHeap : Cond.instanceMethod yX0_canTakeFromHeap ∈ UU := UU_of (mt_3 (List.mem_of_getElem? (i := 15) (by decide +kernel))) (by decide +kernel)
theorem se_X0_canTakeFromHeap : Cond.selects RX0 yX0_canTakeFromHeap yX0_canTakeFromHeap ∈ UU := UU_of (mt_3 (List.mem_of_getElem? (i := 16) (by decide +kernel))) (by decide +kernel)
theorem co_X0_canTakeFromHeap : Cond.code yX0_canTakeFromHeap cX0_canTakeFromHeap 1 (some .boolean) ∈ UU := UU_of (mt_3 (List.mem_of_getElem? (i := 17) (by decide +kernel))) (by decide +kernel)
theorem ml_X5_114 : Cond.methodLink RX5 114 yX0_skipTurn ∈ UU := UU_of (mt_3 (List.mem_of_getElem? (i := 18) (by decide +kernel))) (by decide +kernel)
theorem im_X0_skipTurn : Cond.instanceMethod yX0_skipTurn ∈ UU := UU_of (mt_3 (List.mem_of_getElem? (i := 19) (by decide +kernel))) (by decide +kernel)
theorem se_X0_skipTurn : Cond.selects RX0 yX0_skipTurn yX0_skipTurn ∈ UU := UU_of (mt_3 (List.mem_of_getElem? (i := 20) (by decide +kernel))) (by decide +kernel)
theorem co_X0_skipTurn : Cond.code yX0_skipTurn cX0_skipTurn 1 (some .int) ∈ UU := UU_of (mt_3 (List.mem_of_getElem? (i := 21) (by decide +kernel))) (by decide +kernel)
theorem ml_X0_177 : Cond.methodLink RX0 177 yX0_canSkipTurn ∈ UU := UU_of (mt_3 (List.mem_of_getElem? (i := 22) (by decide +kernel))) (by decide +kernel)
theorem im_X0_canSkipTurn : Cond.instanceMethod yX0_canSkipTurn ∈ UU := UU_of (mt_3 (List.mem_of_getElem? (i := 23) (by decide +kernel))) (by decide +kernel)
theorem se_X0_canSkipTurn : Cond.selects RX0 yX0_canSkipTurn yX0_canSkipTurn ∈ UU := UU_of (mt_3 (List.mem_of_getElem? (i := 24) (by decide +kernel))) (by decide +kernel)
theorem co_X0_canSkipTurn : Cond.code yX0_canSkipTurn cX0_canSkipTurn 1 (some .boolean) ∈ UU := UU_of (mt_3 (List.mem_of_getElem? (i := 25) (by decide +kernel))) (by decide +kernel)
theorem ml_X0_180 : Cond.methodLink RX0 180 yX0_playerWithFewestPips ∈ UU := UU_of (mt_3 (List.mem_of_getElem? (i := 26) (by decide +kernel))) (by decide +kernel)
theorem im_X0_playerWithFewestPips : Cond.instanceMethod yX0_playerWithFewestPips ∈ UU := UU_of (mt_3 (List.mem_of_getElem? (i := 28) (by decide +kernel))) (by decide +kernel)
theorem co_X0_playerWithFewestPips : Cond.code yX0_playerWithFewestPips cX0_playerWithFewestPips 3 (some .int) ∈ UU := UU_of (mt_3 (List.mem_of_getElem? (i := 29) (by decide +kernel))) (by decide +kernel)
theorem ml_L_106 : Cond.methodLink RL 106 yL_about ∈ UU := UU_of (mt_3 (List.mem_of_getElem? (i := 30) (by decide +kernel))) (by decide +kernel)
theorem st_L_about : Cond.static yL_about ∈ UU := UU_of (mt_3 (List.mem_of_getElem? (i := 31) (by decide +kernel))) (by decide +kernel)
theorem co_L_about : Cond.codeWith yL_about cL_about 4 (some .int) [(0, 9, 12, 13)] ∈ UU := UU_of (mt_3 (List.mem_of_getElem? (i := 32) (by decide +kernel))) (by decide +kernel)
theorem ml_L_21 : Cond.methodLink RL 21 yX5_about ∈ UU := UU_of (mt_3 (List.mem_of_getElem? (i := 33) (by decide +kernel))) (by decide +kernel)
theorem im_X5_about : Cond.instanceMethod yX5_about ∈ UU := UU_of (mt_3 (List.mem_of_getElem? (i := 34) (by decide +kernel))) (by decide +kernel)
theorem se_X5_about : Cond.selects RX5 yX5_about yX5_about ∈ UU := UU_of (mt_3 (List.mem_of_getElem? (i := 35) (by decide +kernel))) (by decide +kernel)
theorem co_X5_about : Cond.code yX5_about cX5_about 2 (some .int) ∈ UU := UU_of (mt_3 (List.mem_of_getElem? (i := 36) (by decide +kernel))) (by decide +kernel)
theorem ml_X5_122 : Cond.methodLink RX5 122 yX0_numberOfGame ∈ UU := UU_of (mt_3 (List.mem_of_getElem? (i := 38) (by decide +kernel))) (by decide +kernel)
theorem im_X0_numberOfGame : Cond.instanceMethod yX0_numberOfGame ∈ UU := UU_of (mt_3 (List.mem_of_getElem? (i := 39) (by decide +kernel))) (by decide +kernel)
theorem se_X0_numberOfGame : Cond.selects RX0 yX0_numberOfGame yX0_numberOfGame ∈ UU := UU_of (mt_3 (List.mem_of_getElem? (i := 40) (by decide +kernel))) (by decide +kernel)
theorem co_X0_numberOfGame : Cond.code yX0_numberOfGame cX0_numberOfGame 2 (some .int) ∈ UU := UU_of (mt_3 (List.mem_of_getElem? (i := 41) (by decide +kernel))) (by decide +kernel)
theorem ml_X0_82 : Cond.methodLink RX0 82 yX0_playerToMove ∈ UU := UU_of (mt_3 (List.mem_of_getElem? (i := 42) (by decide +kernel))) (by decide +kernel)
theorem im_X0_playerToMove : Cond.instanceMethod yX0_playerToMove ∈ UU := UU_of (mt_3 (List.mem_of_getElem? (i := 43) (by decide +kernel))) (by decide +kernel)
theorem se_X0_playerToMove : Cond.selects RX0 yX0_playerToMove yX0_playerToMove ∈ UU := UU_of (mt_3 (List.mem_of_getElem? (i := 44) (by decide +kernel))) (by decide +kernel)
theorem co_X0_playerToMove : Cond.code yX0_playerToMove cX0_playerToMove 1 (some .int) ∈ UU := UU_of (mt_3 (List.mem_of_getElem? (i := 45) (by decide +kernel))) (by decide +kernel)
theorem ml_X0_86 : Cond.methodLink RX0 86 yX0_heapSize ∈ UU := UU_of (mt_3 (List.mem_of_getElem? (i := 46) (by decide +kernel))) (by decide +kernel)
theorem im_X0_heapSize : Cond.instanceMethod yX0_heapSize ∈ UU := UU_of (mt_3 (List.mem_of_getElem? (i := 47) (by decide +kernel))) (by decide +kernel)
theorem se_X0_heapSize : Cond.selects RX0 yX0_heapSize yX0_heapSize ∈ UU := UU_of (mt_3 (List.mem_of_getElem? (i := 48) (by decide +kernel))) (by decide +kernel)
theorem co_X0_heapSize : Cond.code yX0_heapSize cX0_heapSize 1 (some .int) ∈ UU := UU_of (mt_3 (List.mem_of_getElem? (i := 49) (by decide +kernel))) (by decide +kernel)
theorem ml_X0_89 : Cond.methodLink RX0 89 yX2_size ∈ UU := UU_of (mt_3 (List.mem_of_getElem? (i := 50) (by decide +kernel))) (by decide +kernel)
theorem im_X2_size : Cond.instanceMethod yX2_size ∈ UU := UU_of (mt_3 (List.mem_of_getElem? (i := 51) (by decide +kernel))) (by decide +kernel)
theorem se_X2_size : Cond.selects RX2 yX2_size yX2_size ∈ UU := UU_of (mt_3 (List.mem_of_getElem? (i := 52) (by decide +kernel))) (by decide +kernel)
theorem co_X2_size : Cond.code yX2_size cX2_size 1 (some .int) ∈ UU := UU_of (mt_3 (List.mem_of_getElem? (i := 53) (by decide +kernel))) (by decide +kernel)
theorem ml_X0_92 : Cond.methodLink RX0 92 yX2_endOfNow ∈ UU := UU_of (mt_3 (List.mem_of_getElem? (i := 54) (by decide +kernel))) (by decide +kernel)
theorem im_X2_endOfNow : Cond.instanceMethod yX2_endOfNow ∈ UU := UU_of (mt_3 (List.mem_of_getElem? (i := 55) (by decide +kernel))) (by decide +kernel)
theorem se_X2_endOfNow : Cond.selects RX2 yX2_endOfNow yX2_endOfNow ∈ UU := UU_of (mt_3 (List.mem_of_getElem? (i := 56) (by decide +kernel))) (by decide +kernel)
theorem co_X2_endOfNow : Cond.code yX2_endOfNow cX2_endOfNow 1 (some .int) ∈ UU := UU_of (mt_3 (List.mem_of_getElem? (i := 57) (by decide +kernel))) (by decide +kernel)
theorem ml_X0_95 : Cond.methodLink RX0 95 yX2_directionOfNow ∈ UU := UU_of (mt_3 (List.mem_of_getElem? (i := 58) (by decide +kernel))) (by decide +kernel)
theorem im_X2_directionOfNow : Cond.instanceMethod yX2_directionOfNow ∈ UU := UU_of (mt_3 (List.mem_of_getElem? (i := 59) (by decide +kernel))) (by decide +kernel)
theorem se_X2_directionOfNow : Cond.selects RX2 yX2_directionOfNow yX2_directionOfNow ∈ UU := UU_of (mt_3 (List.mem_of_getElem? (i := 60) (by decide +kernel))) (by decide +kernel)
theorem co_X2_directionOfNow : Cond.code yX2_directionOfNow cX2_directionOfNow 1 (some .int) ∈ UU := UU_of (mt_3 (List.mem_of_getElem? (i := 61) (by decide +kernel))) (by decide +kernel)
theorem ml_X0_98 : Cond.methodLink RX0 98 yX2_pips ∈ UU := UU_of (mt_3 (List.mem_of_getElem? (i := 62) (by decide +kernel))) (by decide +kernel)
theorem im_X2_pips : Cond.instanceMethod yX2_pips ∈ UU := UU_of (mt_3 (List.mem_of_getElem? (i := 63) (by decide +kernel))) (by decide +kernel)
theorem se_X2_pips : Cond.selects RX2 yX2_pips yX2_pips ∈ UU := UU_of (mt_3 (List.mem_of_getElem? (i := 64) (by decide +kernel))) (by decide +kernel)
theorem co_X2_pips : Cond.code yX2_pips cX2_pips 3 (some .int) ∈ UU := UU_of (mt_3 (List.mem_of_getElem? (i := 65) (by decide +kernel))) (by decide +kernel)
theorem ml_L_109 : Cond.methodLink RL 109 yL_tileOf ∈ UU := UU_of (mt_3 (List.mem_of_getElem? (i := 66) (by decide +kernel))) (by decide +kernel)
theorem st_L_tileOf : Cond.static yL_tileOf ∈ UU := UU_of (mt_3 (List.mem_of_getElem? (i := 67) (by decide +kernel))) (by decide +kernel)
theorem co_L_tileOf : Cond.codeWith yL_tileOf cL_tileOf 5 (some .int) [(0, 10, 13, 28), (0, 10, 17, 13)] ∈ UU := UU_of (mt_3 (List.mem_of_getElem? (i := 68) (by decide +kernel))) (by decide +kernel)
theorem kl_L_28 : Cond.classLink RL 28 "java/lang/IndexOutOfBoundsException" ∈ UU := UU_of (mt_3 (List.mem_of_getElem? (i := 69) (by decide +kernel))) (by decide +kernel)
theorem ml_L_24 : Cond.methodLink RL 24 yX5_tileOf ∈ UU := UU_of (mt_3 (List.mem_of_getElem? (i := 70) (by decide +kernel))) (by decide +kernel)
theorem im_X5_tileOf : Cond.instanceMethod yX5_tileOf ∈ UU := UU_of (mt_3 (List.mem_of_getElem? (i := 71) (by decide +kernel))) (by decide +kernel)
theorem se_X5_tileOf : Cond.selects RX5 yX5_tileOf yX5_tileOf ∈ UU := UU_of (mt_3 (List.mem_of_getElem? (i := 72) (by decide +kernel))) (by decide +kernel)
theorem co_X5_tileOf : Cond.code yX5_tileOf cX5_tileOf 3 (some .int) ∈ UU := UU_of (mt_3 (List.mem_of_getElem? (i := 73) (by decide +kernel))) (by decide +kernel)
theorem ml_X5_125 : Cond.methodLink RX5 125 yX5_isTile ∈ UU := UU_of (mt_3 (List.mem_of_getElem? (i := 74) (by decide +kernel))) (by decide +kernel)
theorem kl_X5_128 : Cond.classLink RX5 128 "java/lang/IndexOutOfBoundsException" ∈ UU := UU_of (mt_3 (List.mem_of_getElem? (i := 75) (by decide +kernel))) (by decide +kernel)
theorem ml_X5_132 : Cond.methodLink RX5 132 (⟨"java/lang/IndexOutOfBoundsException", "<init>", "(Ljava/lang/String;)V"⟩ : MethodName) ∈ UU := UU_of (mt_3 (List.mem_of_getElem? (i := 85) (by decide +kernel))) (by decide +kernel)
theorem ml_X5_133 : Cond.methodLink RX5 133 yX0_numberOfTile ∈ UU := UU_of (mt_3 (List.mem_of_getElem? (i := 91) (by decide +kernel))) (by decide +kernel)
theorem im_X0_numberOfTile : Cond.instanceMethod yX0_numberOfTile ∈ UU := UU_of (mt_3 (List.mem_of_getElem? (i := 92) (by decide +kernel))) (by decide +kernel)
theorem se_X0_numberOfTile : Cond.selects RX0 yX0_numberOfTile yX0_numberOfTile ∈ UU := UU_of (mt_3 (List.mem_of_getElem? (i := 93) (by decide +kernel))) (by decide +kernel)
theorem co_X0_numberOfTile : Cond.code yX0_numberOfTile cX0_numberOfTile 3 (some .int) ∈ UU := UU_of (mt_3 (List.mem_of_getElem? (i := 94) (by decide +kernel))) (by decide +kernel)
theorem ml_X0_111 : Cond.methodLink RX0 111 yX2_placeOf ∈ UU := UU_of (mt_3 (List.mem_of_getElem? (i := 97) (by decide +kernel))) (by decide +kernel)
theorem im_X2_placeOf : Cond.instanceMethod yX2_placeOf ∈ UU := UU_of (mt_3 (List.mem_of_getElem? (i := 98) (by decide +kernel))) (by decide +kernel)
theorem se_X2_placeOf : Cond.selects RX2 yX2_placeOf yX2_placeOf ∈ UU := UU_of (mt_3 (List.mem_of_getElem? (i := 99) (by decide +kernel))) (by decide +kernel)
theorem co_X2_placeOf : Cond.code yX2_placeOf cX2_placeOf 3 (some .int) ∈ UU := UU_of (mt_3 (List.mem_of_getElem? (i := 100) (by decide +kernel))) (by decide +kernel)
theorem ml_X0_114 : Cond.methodLink RX0 114 yX0_placeInHeap ∈ UU := UU_of (mt_3 (List.mem_of_getElem? (i := 101) (by decide +kernel))) (by decide +kernel)
theorem im_X0_placeInHeap : Cond.instanceMethod yX0_placeInHeap ∈ UU := UU_of (mt_3 (List.mem_of_getElem? (i := 103) (by decide +kernel))) (by decide +kernel)
theorem co_X0_placeInHeap : Cond.code yX0_placeInHeap cX0_placeInHeap 3 (some .int) ∈ UU := UU_of (mt_3 (List.mem_of_getElem? (i := 104) (by decide +kernel))) (by decide +kernel)
theorem ml_L_113 : Cond.methodLink RL 113 yL_laid ∈ UU := UU_of (mt_3 (List.mem_of_getElem? (i := 105) (by decide +kernel))) (by decide +kernel)
theorem st_L_laid : Cond.static yL_laid ∈ UU := UU_of (mt_3 (List.mem_of_getElem? (i := 106) (by decide +kernel))) (by decide +kernel)
theorem co_L_laid : Cond.codeWith yL_laid cL_laid 5 (some .int) [(0, 10, 13, 28), (0, 10, 17, 13)] ∈ UU := UU_of (mt_3 (List.mem_of_getElem? (i := 107) (by decide +kernel))) (by decide +kernel)
theorem ml_L_30 : Cond.methodLink RL 30 yX5_laid ∈ UU := UU_of (mt_3 (List.mem_of_getElem? (i := 108) (by decide +kernel))) (by decide +kernel)
theorem im_X5_laid : Cond.instanceMethod yX5_laid ∈ UU := UU_of (mt_3 (List.mem_of_getElem? (i := 109) (by decide +kernel))) (by decide +kernel)
theorem se_X5_laid : Cond.selects RX5 yX5_laid yX5_laid ∈ UU := UU_of (mt_3 (List.mem_of_getElem? (i := 110) (by decide +kernel))) (by decide +kernel)
theorem co_X5_laid : Cond.code yX5_laid cX5_laid 3 (some .int) ∈ UU := UU_of (mt_3 (List.mem_of_getElem? (i := 111) (by decide +kernel))) (by decide +kernel)
theorem ml_X5_137 : Cond.methodLink RX5 137 yX0_line ∈ UU := UU_of (mt_3 (List.mem_of_getElem? (i := 112) (by decide +kernel))) (by decide +kernel)
theorem im_X0_line : Cond.instanceMethod yX0_line ∈ UU := UU_of (mt_3 (List.mem_of_getElem? (i := 113) (by decide +kernel))) (by decide +kernel)
theorem se_X0_line : Cond.selects RX0 yX0_line yX0_line ∈ UU := UU_of (mt_3 (List.mem_of_getElem? (i := 114) (by decide +kernel))) (by decide +kernel)
theorem co_X0_line : Cond.code yX0_line cX0_line 1 (some (.object "SpiralDominoes$Line")) ∈ UU := UU_of (mt_3 (List.mem_of_getElem? (i := 115) (by decide +kernel))) (by decide +kernel)
theorem ml_X5_141 : Cond.methodLink RX5 141 yX2_size ∈ UU := UU_of (mt_3 (List.mem_of_getElem? (i := 116) (by decide +kernel))) (by decide +kernel)
theorem ml_X5_146 : Cond.methodLink RX5 146 yX2_numberOfPlace ∈ UU := UU_of (mt_3 (List.mem_of_getElem? (i := 118) (by decide +kernel))) (by decide +kernel)
theorem im_X2_numberOfPlace : Cond.instanceMethod yX2_numberOfPlace ∈ UU := UU_of (mt_3 (List.mem_of_getElem? (i := 119) (by decide +kernel))) (by decide +kernel)
theorem se_X2_numberOfPlace : Cond.selects RX2 yX2_numberOfPlace yX2_numberOfPlace ∈ UU := UU_of (mt_3 (List.mem_of_getElem? (i := 120) (by decide +kernel))) (by decide +kernel)
theorem co_X2_numberOfPlace : Cond.code yX2_numberOfPlace cX2_numberOfPlace 3 (some .int) ∈ UU := UU_of (mt_3 (List.mem_of_getElem? (i := 121) (by decide +kernel))) (by decide +kernel)
theorem ml_L_116 : Cond.methodLink RL 116 yL_playerOf ∈ UU := UU_of (mt_3 (List.mem_of_getElem? (i := 122) (by decide +kernel))) (by decide +kernel)
theorem st_L_playerOf : Cond.static yL_playerOf ∈ UU := UU_of (mt_3 (List.mem_of_getElem? (i := 123) (by decide +kernel))) (by decide +kernel)
theorem co_L_playerOf : Cond.codeWith yL_playerOf cL_playerOf 5 (some .int) [(0, 10, 13, 28), (0, 10, 17, 13)] ∈ UU := UU_of (mt_3 (List.mem_of_getElem? (i := 124) (by decide +kernel))) (by decide +kernel)
theorem ml_L_33 : Cond.methodLink RL 33 yX5_playerOf ∈ UU := UU_of (mt_3 (List.mem_of_getElem? (i := 125) (by decide +kernel))) (by decide +kernel)
theorem im_X5_playerOf : Cond.instanceMethod yX5_playerOf ∈ UU := UU_of (mt_3 (List.mem_of_getElem? (i := 126) (by decide +kernel))) (by decide +kernel)
theorem se_X5_playerOf : Cond.selects RX5 yX5_playerOf yX5_playerOf ∈ UU := UU_of (mt_3 (List.mem_of_getElem? (i := 127) (by decide +kernel))) (by decide +kernel)
theorem co_X5_playerOf : Cond.code yX5_playerOf cX5_playerOf 3 (some .int) ∈ UU := UU_of (mt_3 (List.mem_of_getElem? (i := 128) (by decide +kernel))) (by decide +kernel)
theorem ml_X5_149 : Cond.methodLink RX5 149 yX5_isPlayer ∈ UU := UU_of (mt_3 (List.mem_of_getElem? (i := 129) (by decide +kernel))) (by decide +kernel)
theorem ml_X5_154 : Cond.methodLink RX5 154 yX0_numberOfPlayer ∈ UU := UU_of (mt_3 (List.mem_of_getElem? (i := 131) (by decide +kernel))) (by decide +kernel)
theorem im_X0_numberOfPlayer : Cond.instanceMethod yX0_numberOfPlayer ∈ UU := UU_of (mt_3 (List.mem_of_getElem? (i := 132) (by decide +kernel))) (by decide +kernel)
theorem se_X0_numberOfPlayer : Cond.selects RX0 yX0_numberOfPlayer yX0_numberOfPlayer ∈ UU := UU_of (mt_3 (List.mem_of_getElem? (i := 133) (by decide +kernel))) (by decide +kernel)
theorem co_X0_numberOfPlayer : Cond.code yX0_numberOfPlayer cX0_numberOfPlayer 3 (some .int) ∈ UU := UU_of (mt_3 (List.mem_of_getElem? (i := 134) (by decide +kernel))) (by decide +kernel)
theorem ml_L_119 : Cond.methodLink RL 119 yL_at ∈ UU := UU_of (mt_3 (List.mem_of_getElem? (i := 135) (by decide +kernel))) (by decide +kernel)
theorem st_L_at : Cond.static yL_at ∈ UU := UU_of (mt_3 (List.mem_of_getElem? (i := 136) (by decide +kernel))) (by decide +kernel)
theorem co_L_at : Cond.codeWith yL_at cL_at 5 (some .int) [(0, 10, 13, 28)] ∈ UU := UU_of (mt_3 (List.mem_of_getElem? (i := 137) (by decide +kernel))) (by decide +kernel)
theorem ml_L_36 : Cond.methodLink RL 36 yX5_at ∈ UU := UU_of (mt_3 (List.mem_of_getElem? (i := 138) (by decide +kernel))) (by decide +kernel)
theorem im_X5_at : Cond.instanceMethod yX5_at ∈ UU := UU_of (mt_3 (List.mem_of_getElem? (i := 139) (by decide +kernel))) (by decide +kernel)
theorem se_X5_at : Cond.selects RX5 yX5_at yX5_at ∈ UU := UU_of (mt_3 (List.mem_of_getElem? (i := 140) (by decide +kernel))) (by decide +kernel)
theorem co_X5_at : Cond.code yX5_at cX5_at 3 (some .int) ∈ UU := UU_of (mt_3 (List.mem_of_getElem? (i := 141) (by decide +kernel))) (by decide +kernel)
theorem ml_X5_157 : Cond.methodLink RX5 157 yX5_isCell ∈ UU := UU_of (mt_3 (List.mem_of_getElem? (i := 142) (by decide +kernel))) (by decide +kernel)
theorem ml_X5_162 : Cond.methodLink RX5 162 yX2_pipsAt ∈ UU := UU_of (mt_3 (List.mem_of_getElem? (i := 144) (by decide +kernel))) (by decide +kernel)
theorem im_X2_pipsAt : Cond.instanceMethod yX2_pipsAt ∈ UU := UU_of (mt_3 (List.mem_of_getElem? (i := 145) (by decide +kernel))) (by decide +kernel)
theorem se_X2_pipsAt : Cond.selects RX2 yX2_pipsAt yX2_pipsAt ∈ UU := UU_of (mt_3 (List.mem_of_getElem? (i := 146) (by decide +kernel))) (by decide +kernel)
theorem co_X2_pipsAt : Cond.code yX2_pipsAt cX2_pipsAt 4 (some .int) ∈ UU := UU_of (mt_3 (List.mem_of_getElem? (i := 147) (by decide +kernel))) (by decide +kernel)
theorem ml_L_122 : Cond.methodLink RL 122 yL_free ∈ UU := UU_of (mt_3 (List.mem_of_getElem? (i := 148) (by decide +kernel))) (by decide +kernel)
theorem st_L_free : Cond.static yL_free ∈ UU := UU_of (mt_3 (List.mem_of_getElem? (i := 149) (by decide +kernel))) (by decide +kernel)
theorem co_L_free : Cond.codeWith yL_free cL_free 4 (some .int) [(0, 9, 12, 13)] ∈ UU := UU_of (mt_3 (List.mem_of_getElem? (i := 150) (by decide +kernel))) (by decide +kernel)
theorem ml_L_39 : Cond.methodLink RL 39 yX5_free ∈ UU := UU_of (mt_3 (List.mem_of_getElem? (i := 151) (by decide +kernel))) (by decide +kernel)
theorem im_X5_free : Cond.instanceMethod yX5_free ∈ UU := UU_of (mt_3 (List.mem_of_getElem? (i := 152) (by decide +kernel))) (by decide +kernel)
theorem se_X5_free : Cond.selects RX5 yX5_free yX5_free ∈ UU := UU_of (mt_3 (List.mem_of_getElem? (i := 153) (by decide +kernel))) (by decide +kernel)
theorem co_X5_free : Cond.code yX5_free cX5_free 2 (some .int) ∈ UU := UU_of (mt_3 (List.mem_of_getElem? (i := 154) (by decide +kernel))) (by decide +kernel)
theorem ml_X5_167 : Cond.methodLink RX5 167 yX2_freeByCells ∈ UU := UU_of (mt_3 (List.mem_of_getElem? (i := 156) (by decide +kernel))) (by decide +kernel)
theorem im_X2_freeByCells : Cond.instanceMethod yX2_freeByCells ∈ UU := UU_of (mt_3 (List.mem_of_getElem? (i := 157) (by decide +kernel))) (by decide +kernel)
theorem se_X2_freeByCells : Cond.selects RX2 yX2_freeByCells yX2_freeByCells ∈ UU := UU_of (mt_3 (List.mem_of_getElem? (i := 158) (by decide +kernel))) (by decide +kernel)
theorem co_X2_freeByCells : Cond.code yX2_freeByCells cX2_freeByCells 4 (some .int) ∈ UU := UU_of (mt_3 (List.mem_of_getElem? (i := 159) (by decide +kernel))) (by decide +kernel)
theorem ml_X5_170 : Cond.methodLink RX5 170 yX2_freeByTiles ∈ UU := UU_of (mt_3 (List.mem_of_getElem? (i := 160) (by decide +kernel))) (by decide +kernel)
theorem im_X2_freeByTiles : Cond.instanceMethod yX2_freeByTiles ∈ UU := UU_of (mt_3 (List.mem_of_getElem? (i := 161) (by decide +kernel))) (by decide +kernel)
theorem se_X2_freeByTiles : Cond.selects RX2 yX2_freeByTiles yX2_freeByTiles ∈ UU := UU_of (mt_3 (List.mem_of_getElem? (i := 162) (by decide +kernel))) (by decide +kernel)
theorem co_X2_freeByTiles : Cond.code yX2_freeByTiles cX2_freeByTiles 1 (some .int) ∈ UU := UU_of (mt_3 (List.mem_of_getElem? (i := 163) (by decide +kernel))) (by decide +kernel)
theorem ml_L_127 : Cond.methodLink RL 127 yL_deal ∈ UU := UU_of (mt_3 (List.mem_of_getElem? (i := 164) (by decide +kernel))) (by decide +kernel)
theorem st_L_deal : Cond.static yL_deal ∈ UU := UU_of (mt_3 (List.mem_of_getElem? (i := 165) (by decide +kernel))) (by decide +kernel)
theorem co_L_deal : Cond.codeWith yL_deal cL_deal 6 (some .int) [(0, 11, 14, 13)] ∈ UU := UU_of (mt_3 (List.mem_of_getElem? (i := 166) (by decide +kernel))) (by decide +kernel)
theorem ml_L_42 : Cond.methodLink RL 42 yX5_deal ∈ UU := UU_of (mt_3 (List.mem_of_getElem? (i := 167) (by decide +kernel))) (by decide +kernel)
theorem im_X5_deal : Cond.instanceMethod yX5_deal ∈ UU := UU_of (mt_3 (List.mem_of_getElem? (i := 168) (by decide +kernel))) (by decide +kernel)
theorem se_X5_deal : Cond.selects RX5 yX5_deal yX5_deal ∈ UU := UU_of (mt_3 (List.mem_of_getElem? (i := 169) (by decide +kernel))) (by decide +kernel)
theorem co_X5_deal : Cond.code yX5_deal cX5_deal 4 (some .int) ∈ UU := UU_of (mt_3 (List.mem_of_getElem? (i := 170) (by decide +kernel))) (by decide +kernel)
theorem ml_X5_173 : Cond.methodLink RX5 173 yX5_isNumberOfPlayers ∈ UU := UU_of (mt_3 (List.mem_of_getElem? (i := 171) (by decide +kernel))) (by decide +kernel)
theorem st_X5_isNumberOfPlayers : Cond.static yX5_isNumberOfPlayers ∈ UU := UU_of (mt_3 (List.mem_of_getElem? (i := 172) (by decide +kernel))) (by decide +kernel)
theorem co_X5_isNumberOfPlayers : Cond.code yX5_isNumberOfPlayers cX5_isNumberOfPlayers 1 (some .boolean) ∈ UU := UU_of (mt_3 (List.mem_of_getElem? (i := 173) (by decide +kernel))) (by decide +kernel)
theorem ml_X5_178 : Cond.methodLink RX5 178 yX1_remember ∈ UU := UU_of (mt_3 (List.mem_of_getElem? (i := 175) (by decide +kernel))) (by decide +kernel)
theorem im_X1_remember : Cond.instanceMethod yX1_remember ∈ UU := UU_of (mt_3 (List.mem_of_getElem? (i := 176) (by decide +kernel))) (by decide +kernel)
theorem se_X1_remember : Cond.selects RX1 yX1_remember yX1_remember ∈ UU := UU_of (mt_3 (List.mem_of_getElem? (i := 177) (by decide +kernel))) (by decide +kernel)
theorem co_X1_remember : Cond.code yX1_remember cX1_remember 3 none ∈ UU := UU_of (mt_3 (List.mem_of_getElem? (i := 178) (by decide +kernel))) (by decide +kernel)
theorem ml_X1_25 : Cond.methodLink RX1 25 yX1_stateOf ∈ UU := UU_of (mt_3 (List.mem_of_getElem? (i := 179) (by decide +kernel))) (by decide +kernel)
theorem im_X1_stateOf : Cond.instanceMethod yX1_stateOf ∈ UU := UU_of (mt_3 (List.mem_of_getElem? (i := 181) (by decide +kernel))) (by decide +kernel)
theorem co_X1_stateOf : Cond.code yX1_stateOf cX1_stateOf 3 (some (.object "SpiralDominoes$Game")) ∈ UU := UU_of (mt_3 (List.mem_of_getElem? (i := 182) (by decide +kernel))) (by decide +kernel)
theorem ml_X1_33 : Cond.methodLink RX1 33 yJ9_floorMod_7cf53 ∈ UU := UU_of (mt_3 (List.mem_of_getElem? (i := 183) (by decide +kernel))) (by decide +kernel)
theorem st_J9_floorMod_7cf53 : Cond.static yJ9_floorMod_7cf53 ∈ UU := UU_of (mt_3 (List.mem_of_getElem? (i := 184) (by decide +kernel))) (by decide +kernel)
theorem co_J9_floorMod_7cf53 : Cond.code yJ9_floorMod_7cf53 cJ9_floorMod_7cf53 3 (some .int) ∈ UU := UU_of (mt_3 (List.mem_of_getElem? (i := 185) (by decide +kernel))) (by decide +kernel)
theorem ml_X1_29 : Cond.methodLink RX1 29 yX0_becomeLike ∈ UU := UU_of (mt_3 (List.mem_of_getElem? (i := 186) (by decide +kernel))) (by decide +kernel)
theorem im_X0_becomeLike : Cond.instanceMethod yX0_becomeLike ∈ UU := UU_of (mt_3 (List.mem_of_getElem? (i := 187) (by decide +kernel))) (by decide +kernel)
theorem se_X0_becomeLike : Cond.selects RX0 yX0_becomeLike yX0_becomeLike ∈ UU := UU_of (mt_3 (List.mem_of_getElem? (i := 188) (by decide +kernel))) (by decide +kernel)
theorem co_X0_becomeLike : Cond.code yX0_becomeLike cX0_becomeLike 2 none ∈ UU := UU_of (mt_3 (List.mem_of_getElem? (i := 189) (by decide +kernel))) (by decide +kernel)
theorem ml_X0_68 : Cond.methodLink RX0 68 arraycopyName ∈ UU := UU_of (mt_3 (List.mem_of_getElem? (i := 190) (by decide +kernel))) (by decide +kernel)
theorem st_System_arraycopy : Cond.static arraycopyName ∈ UU := UU_of (mt_3 (List.mem_of_getElem? (i := 191) (by decide +kernel))) (by decide +kernel)
theorem na_System_arraycopy : Cond.native arraycopyName ∈ UU := UU_of (mt_3 (List.mem_of_getElem? (i := 192) (by decide +kernel))) (by decide +kernel)
theorem ml_X0_74 : Cond.methodLink RX0 74 yX2_becomeLike ∈ UU := UU_of (mt_3 (List.mem_of_getElem? (i := 193) (by decide +kernel))) (by decide +kernel)
theorem im_X2_becomeLike : Cond.instanceMethod yX2_becomeLike ∈ UU := UU_of (mt_3 (List.mem_of_getElem? (i := 194) (by decide +kernel))) (by decide +kernel)
theorem se_X2_becomeLike : Cond.selects RX2 yX2_becomeLike yX2_becomeLike ∈ UU := UU_of (mt_3 (List.mem_of_getElem? (i := 195) (by decide +kernel))) (by decide +kernel)
theorem co_X2_becomeLike : Cond.code yX2_becomeLike cX2_becomeLike 2 none ∈ UU := UU_of (mt_3 (List.mem_of_getElem? (i := 196) (by decide +kernel))) (by decide +kernel)
theorem ml_X2_52 : Cond.methodLink RX2 52 arraycopyName ∈ UU := UU_of (mt_3 (List.mem_of_getElem? (i := 197) (by decide +kernel))) (by decide +kernel)
theorem ml_X5_182 : Cond.methodLink RX5 182 yX0_roundsSoFar ∈ UU := UU_of (mt_3 (List.mem_of_getElem? (i := 198) (by decide +kernel))) (by decide +kernel)
theorem im_X0_roundsSoFar : Cond.instanceMethod yX0_roundsSoFar ∈ UU := UU_of (mt_3 (List.mem_of_getElem? (i := 199) (by decide +kernel))) (by decide +kernel)
theorem se_X0_roundsSoFar : Cond.selects RX0 yX0_roundsSoFar yX0_roundsSoFar ∈ UU := UU_of (mt_3 (List.mem_of_getElem? (i := 200) (by decide +kernel))) (by decide +kernel)
theorem co_X0_roundsSoFar : Cond.code yX0_roundsSoFar cX0_roundsSoFar 1 (some .int) ∈ UU := UU_of (mt_3 (List.mem_of_getElem? (i := 201) (by decide +kernel))) (by decide +kernel)
theorem ml_L_131 : Cond.methodLink RL 131 yL_play ∈ UU := UU_of (mt_3 (List.mem_of_getElem? (i := 202) (by decide +kernel))) (by decide +kernel)
theorem st_L_play : Cond.static yL_play ∈ UU := UU_of (mt_3 (List.mem_of_getElem? (i := 203) (by decide +kernel))) (by decide +kernel)
theorem co_L_play : Cond.codeWith yL_play cL_play 5 (some .int) [(0, 10, 13, 28), (0, 10, 17, 15)] ∈ UU := UU_of (mt_3 (List.mem_of_getElem? (i := 204) (by decide +kernel))) (by decide +kernel)
theorem ml_L_46 : Cond.methodLink RL 46 yX5_play ∈ UU := UU_of (mt_3 (List.mem_of_getElem? (i := 205) (by decide +kernel))) (by decide +kernel)
theorem im_X5_play : Cond.instanceMethod yX5_play ∈ UU := UU_of (mt_3 (List.mem_of_getElem? (i := 206) (by decide +kernel))) (by decide +kernel)
theorem se_X5_play : Cond.selects RX5 yX5_play yX5_play ∈ UU := UU_of (mt_3 (List.mem_of_getElem? (i := 207) (by decide +kernel))) (by decide +kernel)
theorem co_X5_play : Cond.code yX5_play cX5_play 3 (some .int) ∈ UU := UU_of (mt_3 (List.mem_of_getElem? (i := 208) (by decide +kernel))) (by decide +kernel)
theorem ml_X5_185 : Cond.methodLink RX5 185 yX0_isPlayed ∈ UU := UU_of (mt_3 (List.mem_of_getElem? (i := 209) (by decide +kernel))) (by decide +kernel)
theorem ml_X5_190 : Cond.methodLink RX5 190 yX0_layOrRefuse ∈ UU := UU_of (mt_3 (List.mem_of_getElem? (i := 211) (by decide +kernel))) (by decide +kernel)
theorem im_X0_layOrRefuse : Cond.instanceMethod yX0_layOrRefuse ∈ UU := UU_of (mt_3 (List.mem_of_getElem? (i := 212) (by decide +kernel))) (by decide +kernel)
theorem se_X0_layOrRefuse : Cond.selects RX0 yX0_layOrRefuse yX0_layOrRefuse ∈ UU := UU_of (mt_3 (List.mem_of_getElem? (i := 213) (by decide +kernel))) (by decide +kernel)
theorem co_X0_layOrRefuse : Cond.code yX0_layOrRefuse cX0_layOrRefuse 4 (some .int) ∈ UU := UU_of (mt_3 (List.mem_of_getElem? (i := 214) (by decide +kernel))) (by decide +kernel)
theorem ml_X0_156 : Cond.methodLink RX0 156 yX0_layIfPossible ∈ UU := UU_of (mt_3 (List.mem_of_getElem? (i := 215) (by decide +kernel))) (by decide +kernel)
theorem ml_L_135 : Cond.methodLink RL 135 yL_draw ∈ UU := UU_of (mt_3 (List.mem_of_getElem? (i := 216) (by decide +kernel))) (by decide +kernel)
theorem st_L_draw : Cond.static yL_draw ∈ UU := UU_of (mt_3 (List.mem_of_getElem? (i := 217) (by decide +kernel))) (by decide +kernel)
theorem co_L_draw : Cond.codeWith yL_draw cL_draw 3 (some .int) [(0, 8, 11, 15)] ∈ UU := UU_of (mt_3 (List.mem_of_getElem? (i := 218) (by decide +kernel))) (by decide +kernel)
theorem ml_L_50 : Cond.methodLink RL 50 yX5_draw ∈ UU := UU_of (mt_3 (List.mem_of_getElem? (i := 219) (by decide +kernel))) (by decide +kernel)
theorem im_X5_draw : Cond.instanceMethod yX5_draw ∈ UU := UU_of (mt_3 (List.mem_of_getElem? (i := 220) (by decide +kernel))) (by decide +kernel)
theorem se_X5_draw : Cond.selects RX5 yX5_draw yX5_draw ∈ UU := UU_of (mt_3 (List.mem_of_getElem? (i := 221) (by decide +kernel))) (by decide +kernel)
theorem co_X5_draw : Cond.code yX5_draw cX5_draw 1 (some .int) ∈ UU := UU_of (mt_3 (List.mem_of_getElem? (i := 222) (by decide +kernel))) (by decide +kernel)
theorem ml_X5_194 : Cond.methodLink RX5 194 yX0_canTakeFromHeap ∈ UU := UU_of (mt_3 (List.mem_of_getElem? (i := 223) (by decide +kernel))) (by decide +kernel)
theorem ml_L_138 : Cond.methodLink RL 138 yL_pass ∈ UU := UU_of (mt_3 (List.mem_of_getElem? (i := 225) (by decide +kernel))) (by decide +kernel)
theorem st_L_pass : Cond.static yL_pass ∈ UU := UU_of (mt_3 (List.mem_of_getElem? (i := 226) (by decide +kernel))) (by decide +kernel)
theorem co_L_pass : Cond.codeWith yL_pass cL_pass 3 (some .int) [(0, 8, 11, 15)] ∈ UU := UU_of (mt_3 (List.mem_of_getElem? (i := 227) (by decide +kernel))) (by decide +kernel)
theorem ml_L_53 : Cond.methodLink RL 53 yX5_pass ∈ UU := UU_of (mt_3 (List.mem_of_getElem? (i := 228) (by decide +kernel))) (by decide +kernel)
theorem im_X5_pass : Cond.instanceMethod yX5_pass ∈ UU := UU_of (mt_3 (List.mem_of_getElem? (i := 229) (by decide +kernel))) (by decide +kernel)
theorem se_X5_pass : Cond.selects RX5 yX5_pass yX5_pass ∈ UU := UU_of (mt_3 (List.mem_of_getElem? (i := 230) (by decide +kernel))) (by decide +kernel)
theorem co_X5_pass : Cond.code yX5_pass cX5_pass 1 (some .int) ∈ UU := UU_of (mt_3 (List.mem_of_getElem? (i := 231) (by decide +kernel))) (by decide +kernel)
theorem ml_X5_199 : Cond.methodLink RX5 199 yX0_canSkipTurn ∈ UU := UU_of (mt_3 (List.mem_of_getElem? (i := 232) (by decide +kernel))) (by decide +kernel)
theorem ml_L_141 : Cond.methodLink RL 141 yL_undo ∈ UU := UU_of (mt_3 (List.mem_of_getElem? (i := 234) (by decide +kernel))) (by decide +kernel)
theorem st_L_undo : Cond.static yL_undo ∈ UU := UU_of (mt_3 (List.mem_of_getElem? (i := 235) (by decide +kernel))) (by decide +kernel)
theorem co_L_undo : Cond.codeWith yL_undo cL_undo 3 (some .int) [(0, 8, 11, 15)] ∈ UU := UU_of (mt_3 (List.mem_of_getElem? (i := 236) (by decide +kernel))) (by decide +kernel)
theorem ml_L_56 : Cond.methodLink RL 56 yX5_undo ∈ UU := UU_of (mt_3 (List.mem_of_getElem? (i := 237) (by decide +kernel))) (by decide +kernel)
theorem im_X5_undo : Cond.instanceMethod yX5_undo ∈ UU := UU_of (mt_3 (List.mem_of_getElem? (i := 238) (by decide +kernel))) (by decide +kernel)
theorem se_X5_undo : Cond.selects RX5 yX5_undo yX5_undo ∈ UU := UU_of (mt_3 (List.mem_of_getElem? (i := 239) (by decide +kernel))) (by decide +kernel)
theorem co_X5_undo : Cond.code yX5_undo cX5_undo 1 (some .int) ∈ UU := UU_of (mt_4 (List.mem_of_getElem? (i := 0) (by decide +kernel))) (by decide +kernel)
theorem ml_X5_204 : Cond.methodLink RX5 204 yX1_size ∈ UU := UU_of (mt_4 (List.mem_of_getElem? (i := 1) (by decide +kernel))) (by decide +kernel)
theorem im_X1_size : Cond.instanceMethod yX1_size ∈ UU := UU_of (mt_4 (List.mem_of_getElem? (i := 2) (by decide +kernel))) (by decide +kernel)
theorem se_X1_size : Cond.selects RX1 yX1_size yX1_size ∈ UU := UU_of (mt_4 (List.mem_of_getElem? (i := 3) (by decide +kernel))) (by decide +kernel)
theorem co_X1_size : Cond.code yX1_size cX1_size 1 (some .int) ∈ UU := UU_of (mt_4 (List.mem_of_getElem? (i := 4) (by decide +kernel))) (by decide +kernel)
theorem ml_X5_207 : Cond.methodLink RX5 207 yX1_takeBack ∈ UU := UU_of (mt_4 (List.mem_of_getElem? (i := 6) (by decide +kernel))) (by decide +kernel)
theorem im_X1_takeBack : Cond.instanceMethod yX1_takeBack ∈ UU := UU_of (mt_4 (List.mem_of_getElem? (i := 7) (by decide +kernel))) (by decide +kernel)
theorem se_X1_takeBack : Cond.selects RX1 yX1_takeBack yX1_takeBack ∈ UU := UU_of (mt_4 (List.mem_of_getElem? (i := 8) (by decide +kernel))) (by decide +kernel)
theorem co_X1_takeBack : Cond.code yX1_takeBack cX1_takeBack 3 (some .int) ∈ UU := UU_of (mt_4 (List.mem_of_getElem? (i := 9) (by decide +kernel))) (by decide +kernel)
theorem ml_L_144 : Cond.methodLink RL 144 yL_why ∈ UU := UU_of (mt_4 (List.mem_of_getElem? (i := 10) (by decide +kernel))) (by decide +kernel)
theorem st_L_why : Cond.static yL_why ∈ UU := UU_of (mt_4 (List.mem_of_getElem? (i := 11) (by decide +kernel))) (by decide +kernel)
theorem co_L_why : Cond.codeWith yL_why cL_why 4 (some .int) [(0, 9, 12, 28)] ∈ UU := UU_of (mt_4 (List.mem_of_getElem? (i := 12) (by decide +kernel))) (by decide +kernel)
theorem ml_L_59 : Cond.methodLink RL 59 yX5_why ∈ UU := UU_of (mt_4 (List.mem_of_getElem? (i := 13) (by decide +kernel))) (by decide +kernel)
theorem im_X5_why : Cond.instanceMethod yX5_why ∈ UU := UU_of (mt_4 (List.mem_of_getElem? (i := 14) (by decide +kernel))) (by decide +kernel)
theorem se_X5_why : Cond.selects RX5 yX5_why yX5_why ∈ UU := UU_of (mt_4 (List.mem_of_getElem? (i := 15) (by decide +kernel))) (by decide +kernel)
theorem co_X5_why : Cond.code yX5_why cX5_why 2 (some .int) ∈ UU := UU_of (mt_4 (List.mem_of_getElem? (i := 16) (by decide +kernel))) (by decide +kernel)
theorem ml_X5_211 : Cond.methodLink RX5 211 yX0_reasonAgainst ∈ UU := UU_of (mt_4 (List.mem_of_getElem? (i := 17) (by decide +kernel))) (by decide +kernel)
theorem ml_L_155 : Cond.methodLink RL 155 yL_chain ∈ UU := UU_of (mt_4 (List.mem_of_getElem? (i := 18) (by decide +kernel))) (by decide +kernel)
theorem st_L_chain : Cond.static yL_chain ∈ UU := UU_of (mt_4 (List.mem_of_getElem? (i := 19) (by decide +kernel))) (by decide +kernel)
theorem co_L_chain : Cond.codeWith yL_chain cL_chain 5 (some .int) [(0, 10, 13, 28), (0, 10, 17, 13)] ∈ UU := UU_of (mt_4 (List.mem_of_getElem? (i := 20) (by decide +kernel))) (by decide +kernel)
theorem ml_L_62 : Cond.methodLink RL 62 yX5_chain ∈ UU := UU_of (mt_4 (List.mem_of_getElem? (i := 21) (by decide +kernel))) (by decide +kernel)
theorem im_X5_chain : Cond.instanceMethod yX5_chain ∈ UU := UU_of (mt_4 (List.mem_of_getElem? (i := 22) (by decide +kernel))) (by decide +kernel)
theorem se_X5_chain : Cond.selects RX5 yX5_chain yX5_chain ∈ UU := UU_of (mt_4 (List.mem_of_getElem? (i := 23) (by decide +kernel))) (by decide +kernel)
theorem co_X5_chain : Cond.code yX5_chain cX5_chain 3 (some .int) ∈ UU := UU_of (mt_4 (List.mem_of_getElem? (i := 24) (by decide +kernel))) (by decide +kernel)
theorem ml_X5_219 : Cond.methodLink RX5 219 yX0_longestChainOf ∈ UU := UU_of (mt_4 (List.mem_of_getElem? (i := 26) (by decide +kernel))) (by decide +kernel)
theorem im_X0_longestChainOf : Cond.instanceMethod yX0_longestChainOf ∈ UU := UU_of (mt_4 (List.mem_of_getElem? (i := 27) (by decide +kernel))) (by decide +kernel)
theorem se_X0_longestChainOf : Cond.selects RX0 yX0_longestChainOf yX0_longestChainOf ∈ UU := UU_of (mt_4 (List.mem_of_getElem? (i := 28) (by decide +kernel))) (by decide +kernel)
theorem co_X0_longestChainOf : Cond.code yX0_longestChainOf cX0_longestChainOf 4 (some .int) ∈ UU := UU_of (mt_4 (List.mem_of_getElem? (i := 29) (by decide +kernel))) (by decide +kernel)
theorem ml_X0_186 : Cond.methodLink RX0 186 yX0_mostBehind ∈ UU := UU_of (mt_4 (List.mem_of_getElem? (i := 30) (by decide +kernel))) (by decide +kernel)
theorem st_X0_mostBehind : Cond.static yX0_mostBehind ∈ UU := UU_of (mt_4 (List.mem_of_getElem? (i := 31) (by decide +kernel))) (by decide +kernel)
theorem co_X0_mostBehind : Cond.code yX0_mostBehind cX0_mostBehind 6 (some .int) ∈ UU := UU_of (mt_4 (List.mem_of_getElem? (i := 32) (by decide +kernel))) (by decide +kernel)
theorem st_X5_tileWith : Cond.static yX5_tileWith ∈ UU := UU_of (mt_4 (List.mem_of_getElem? (i := 34) (by decide +kernel))) (by decide +kernel)
theorem co_X5_tileWith : Cond.code yX5_tileWith cX5_tileWith 3 (some .int) ∈ UU := UU_of (mt_4 (List.mem_of_getElem? (i := 35) (by decide +kernel))) (by decide +kernel)
theorem ml_X5_296 : Cond.methodLink RX5 296 Lib.Math.min.name ∈ UU := UU_of (mt_4 (List.mem_of_getElem? (i := 36) (by decide +kernel))) (by decide +kernel)
theorem st_Math_min : Cond.static Lib.Math.min.name ∈ UU := UU_of (mt_4 (List.mem_of_getElem? (i := 37) (by decide +kernel))) (by decide +kernel)
theorem co_Math_min : Cond.code Lib.Math.min.name Lib.Math.min.code 2 (some .int) ∈ UU := UU_of (mt_4 (List.mem_of_getElem? (i := 38) (by decide +kernel))) (by decide +kernel)
theorem ml_X5_301 : Cond.methodLink RX5 301 Lib.Math.max.name ∈ UU := UU_of (mt_4 (List.mem_of_getElem? (i := 39) (by decide +kernel))) (by decide +kernel)
theorem st_Math_max : Cond.static Lib.Math.max.name ∈ UU := UU_of (mt_4 (List.mem_of_getElem? (i := 40) (by decide +kernel))) (by decide +kernel)
theorem co_Math_max : Cond.code Lib.Math.max.name Lib.Math.max.code 2 (some .int) ∈ UU := UU_of (mt_4 (List.mem_of_getElem? (i := 41) (by decide +kernel))) (by decide +kernel)
theorem ml_X0_194 : Cond.methodLink RX0 194 Lib.Math.max.name ∈ UU := UU_of (mt_4 (List.mem_of_getElem? (i := 42) (by decide +kernel))) (by decide +kernel)
theorem ml_X0_190 : Cond.methodLink RX0 190 yX0_mostFromAnyTile ∈ UU := UU_of (mt_4 (List.mem_of_getElem? (i := 43) (by decide +kernel))) (by decide +kernel)
theorem st_X0_mostFromAnyTile : Cond.static yX0_mostFromAnyTile ∈ UU := UU_of (mt_4 (List.mem_of_getElem? (i := 44) (by decide +kernel))) (by decide +kernel)
theorem co_X0_mostFromAnyTile : Cond.code yX0_mostFromAnyTile cX0_mostFromAnyTile 4 (some .int) ∈ UU := UU_of (mt_4 (List.mem_of_getElem? (i := 45) (by decide +kernel))) (by decide +kernel)
theorem ml_L_158 : Cond.methodLink RL 158 yL_reach ∈ UU := UU_of (mt_4 (List.mem_of_getElem? (i := 46) (by decide +kernel))) (by decide +kernel)
theorem st_L_reach : Cond.static yL_reach ∈ UU := UU_of (mt_4 (List.mem_of_getElem? (i := 47) (by decide +kernel))) (by decide +kernel)
theorem co_L_reach : Cond.codeWith yL_reach cL_reach 4 (some .int) [(0, 9, 12, 13)] ∈ UU := UU_of (mt_4 (List.mem_of_getElem? (i := 48) (by decide +kernel))) (by decide +kernel)
theorem ml_L_65 : Cond.methodLink RL 65 yX5_reach ∈ UU := UU_of (mt_4 (List.mem_of_getElem? (i := 49) (by decide +kernel))) (by decide +kernel)
theorem im_X5_reach : Cond.instanceMethod yX5_reach ∈ UU := UU_of (mt_4 (List.mem_of_getElem? (i := 50) (by decide +kernel))) (by decide +kernel)
theorem se_X5_reach : Cond.selects RX5 yX5_reach yX5_reach ∈ UU := UU_of (mt_4 (List.mem_of_getElem? (i := 51) (by decide +kernel))) (by decide +kernel)
theorem co_X5_reach : Cond.code yX5_reach cX5_reach 2 (some .int) ∈ UU := UU_of (mt_4 (List.mem_of_getElem? (i := 52) (by decide +kernel))) (by decide +kernel)
theorem ml_X5_222 : Cond.methodLink RX5 222 yX2_numberOfReach ∈ UU := UU_of (mt_4 (List.mem_of_getElem? (i := 53) (by decide +kernel))) (by decide +kernel)
theorem im_X2_numberOfReach : Cond.instanceMethod yX2_numberOfReach ∈ UU := UU_of (mt_4 (List.mem_of_getElem? (i := 54) (by decide +kernel))) (by decide +kernel)
theorem se_X2_numberOfReach : Cond.selects RX2 yX2_numberOfReach yX2_numberOfReach ∈ UU := UU_of (mt_4 (List.mem_of_getElem? (i := 55) (by decide +kernel))) (by decide +kernel)
theorem co_X2_numberOfReach : Cond.code yX2_numberOfReach cX2_numberOfReach 2 (some .int) ∈ UU := UU_of (mt_4 (List.mem_of_getElem? (i := 56) (by decide +kernel))) (by decide +kernel)
theorem ml_X2_82 : Cond.methodLink RX2 82 yX2_least ∈ UU := UU_of (mt_4 (List.mem_of_getElem? (i := 57) (by decide +kernel))) (by decide +kernel)
theorem im_X2_least : Cond.instanceMethod yX2_least ∈ UU := UU_of (mt_4 (List.mem_of_getElem? (i := 59) (by decide +kernel))) (by decide +kernel)
theorem co_X2_least : Cond.code yX2_least cX2_least 5 (some .int) ∈ UU := UU_of (mt_4 (List.mem_of_getElem? (i := 60) (by decide +kernel))) (by decide +kernel)
theorem ml_X2_92 : Cond.methodLink RX2 92 yX2_step ∈ UU := UU_of (mt_4 (List.mem_of_getElem? (i := 61) (by decide +kernel))) (by decide +kernel)
theorem im_X2_step : Cond.instanceMethod yX2_step ∈ UU := UU_of (mt_4 (List.mem_of_getElem? (i := 63) (by decide +kernel))) (by decide +kernel)
theorem co_X2_step : Cond.code yX2_step cX2_step 3 (some .int) ∈ UU := UU_of (mt_4 (List.mem_of_getElem? (i := 64) (by decide +kernel))) (by decide +kernel)
theorem ml_X2_96 : Cond.methodLink RX2 96 Lib.Math.min.name ∈ UU := UU_of (mt_4 (List.mem_of_getElem? (i := 65) (by decide +kernel))) (by decide +kernel)
theorem ml_X2_86 : Cond.methodLink RX2 86 yX2_greatest ∈ UU := UU_of (mt_4 (List.mem_of_getElem? (i := 66) (by decide +kernel))) (by decide +kernel)
theorem im_X2_greatest : Cond.instanceMethod yX2_greatest ∈ UU := UU_of (mt_4 (List.mem_of_getElem? (i := 68) (by decide +kernel))) (by decide +kernel)
theorem co_X2_greatest : Cond.code yX2_greatest cX2_greatest 5 (some .int) ∈ UU := UU_of (mt_4 (List.mem_of_getElem? (i := 69) (by decide +kernel))) (by decide +kernel)
theorem ml_X2_102 : Cond.methodLink RX2 102 Lib.Math.max.name ∈ UU := UU_of (mt_4 (List.mem_of_getElem? (i := 70) (by decide +kernel))) (by decide +kernel)
theorem ml_X2_89 : Cond.methodLink RX2 89 yX2_turnsTo ∈ UU := UU_of (mt_4 (List.mem_of_getElem? (i := 71) (by decide +kernel))) (by decide +kernel)
theorem im_X2_turnsTo : Cond.instanceMethod yX2_turnsTo ∈ UU := UU_of (mt_4 (List.mem_of_getElem? (i := 73) (by decide +kernel))) (by decide +kernel)
theorem co_X2_turnsTo : Cond.code yX2_turnsTo cX2_turnsTo 5 (some .int) ∈ UU := UU_of (mt_4 (List.mem_of_getElem? (i := 74) (by decide +kernel))) (by decide +kernel)
theorem ml_L_161 : Cond.methodLink RL 161 yL_runScript ∈ UU := UU_of (mt_4 (List.mem_of_getElem? (i := 75) (by decide +kernel))) (by decide +kernel)
theorem st_L_runScript : Cond.static yL_runScript ∈ UU := UU_of (mt_4 (List.mem_of_getElem? (i := 76) (by decide +kernel))) (by decide +kernel)
theorem co_L_runScript : Cond.codeWith yL_runScript cL_runScript 6 (some .int) [(0, 11, 14, 13)] ∈ UU := UU_of (mt_4 (List.mem_of_getElem? (i := 77) (by decide +kernel))) (by decide +kernel)
theorem ml_L_68 : Cond.methodLink RL 68 yX5_runScript ∈ UU := UU_of (mt_4 (List.mem_of_getElem? (i := 78) (by decide +kernel))) (by decide +kernel)
theorem im_X5_runScript : Cond.instanceMethod yX5_runScript ∈ UU := UU_of (mt_4 (List.mem_of_getElem? (i := 79) (by decide +kernel))) (by decide +kernel)
theorem se_X5_runScript : Cond.selects RX5 yX5_runScript yX5_runScript ∈ UU := UU_of (mt_4 (List.mem_of_getElem? (i := 80) (by decide +kernel))) (by decide +kernel)
theorem co_X5_runScript : Cond.code yX5_runScript cX5_runScript 5 (some .int) ∈ UU := UU_of (mt_4 (List.mem_of_getElem? (i := 81) (by decide +kernel))) (by decide +kernel)
theorem ml_X5_227 : Cond.methodLink RX5 227 yX5_withoutGroups ∈ UU := UU_of (mt_4 (List.mem_of_getElem? (i := 83) (by decide +kernel))) (by decide +kernel)
theorem st_X5_withoutGroups : Cond.static yX5_withoutGroups ∈ UU := UU_of (mt_4 (List.mem_of_getElem? (i := 84) (by decide +kernel))) (by decide +kernel)
theorem co_X5_withoutGroups : Cond.code yX5_withoutGroups cX5_withoutGroups 6 (some .long) ∈ UU := UU_of (mt_4 (List.mem_of_getElem? (i := 85) (by decide +kernel))) (by decide +kernel)
theorem cn_X5_236 : Cond.constantLong RX5 236 (10000) ∈ UU := UU_of (mt_4 (List.mem_of_getElem? (i := 86) (by decide +kernel))) (by decide +kernel)
theorem ml_X5_233 : Cond.methodLink RX5 233 yX0_becomeLike ∈ UU := UU_of (mt_4 (List.mem_of_getElem? (i := 88) (by decide +kernel))) (by decide +kernel)
theorem ml_X5_238 : Cond.methodLink RX5 238 yX5_succeeds ∈ UU := UU_of (mt_4 (List.mem_of_getElem? (i := 89) (by decide +kernel))) (by decide +kernel)
theorem im_X5_succeeds : Cond.instanceMethod yX5_succeeds ∈ UU := UU_of (mt_4 (List.mem_of_getElem? (i := 91) (by decide +kernel))) (by decide +kernel)
theorem co_X5_succeeds : Cond.code yX5_succeeds cX5_succeeds 4 (some .boolean) ∈ UU := UU_of (mt_4 (List.mem_of_getElem? (i := 92) (by decide +kernel))) (by decide +kernel)
theorem ml_X5_241 : Cond.methodLink RX5 241 yX0_layHeaviest ∈ UU := UU_of (mt_4 (List.mem_of_getElem? (i := 93) (by decide +kernel))) (by decide +kernel)
theorem im_X0_layHeaviest : Cond.instanceMethod yX0_layHeaviest ∈ UU := UU_of (mt_4 (List.mem_of_getElem? (i := 94) (by decide +kernel))) (by decide +kernel)
theorem se_X0_layHeaviest : Cond.selects RX0 yX0_layHeaviest yX0_layHeaviest ∈ UU := UU_of (mt_4 (List.mem_of_getElem? (i := 95) (by decide +kernel))) (by decide +kernel)
theorem co_X0_layHeaviest : Cond.code yX0_layHeaviest cX0_layHeaviest 3 (some .boolean) ∈ UU := UU_of (mt_4 (List.mem_of_getElem? (i := 96) (by decide +kernel))) (by decide +kernel)
theorem ml_X0_171 : Cond.methodLink RX0 171 yX0_heaviestPlayable ∈ UU := UU_of (mt_4 (List.mem_of_getElem? (i := 97) (by decide +kernel))) (by decide +kernel)
theorem ml_X5_244 : Cond.methodLink RX5 244 yX0_playerToMove ∈ UU := UU_of (mt_4 (List.mem_of_getElem? (i := 98) (by decide +kernel))) (by decide +kernel)
theorem ml_X5_247 : Cond.methodLink RX5 247 yX0_tilesOf ∈ UU := UU_of (mt_4 (List.mem_of_getElem? (i := 99) (by decide +kernel))) (by decide +kernel)
theorem ml_X5_250 : Cond.methodLink RX5 250 yX2_endOfNow ∈ UU := UU_of (mt_4 (List.mem_of_getElem? (i := 100) (by decide +kernel))) (by decide +kernel)
theorem ml_L_164 : Cond.methodLink RL 164 yL_simulate ∈ UU := UU_of (mt_4 (List.mem_of_getElem? (i := 101) (by decide +kernel))) (by decide +kernel)
theorem st_L_simulate : Cond.static yL_simulate ∈ UU := UU_of (mt_4 (List.mem_of_getElem? (i := 102) (by decide +kernel))) (by decide +kernel)
theorem co_L_simulate : Cond.codeWith yL_simulate cL_simulate 6 (some .int) [(0, 11, 14, 13)] ∈ UU := UU_of (mt_4 (List.mem_of_getElem? (i := 103) (by decide +kernel))) (by decide +kernel)
theorem ml_L_71 : Cond.methodLink RL 71 yX5_simulate ∈ UU := UU_of (mt_4 (List.mem_of_getElem? (i := 104) (by decide +kernel))) (by decide +kernel)
theorem im_X5_simulate : Cond.instanceMethod yX5_simulate ∈ UU := UU_of (mt_4 (List.mem_of_getElem? (i := 105) (by decide +kernel))) (by decide +kernel)
theorem se_X5_simulate : Cond.selects RX5 yX5_simulate yX5_simulate ∈ UU := UU_of (mt_4 (List.mem_of_getElem? (i := 106) (by decide +kernel))) (by decide +kernel)
theorem co_X5_simulate : Cond.code yX5_simulate cX5_simulate 7 (some .int) ∈ UU := UU_of (mt_4 (List.mem_of_getElem? (i := 107) (by decide +kernel))) (by decide +kernel)
theorem cn_X5_255 : Cond.constantLong RX5 255 (6364136223846793005) ∈ UU := UU_of (mt_4 (List.mem_of_getElem? (i := 109) (by decide +kernel))) (by decide +kernel)
theorem cn_X5_257 : Cond.constantLong RX5 257 (1442695040888963407) ∈ UU := UU_of (mt_4 (List.mem_of_getElem? (i := 110) (by decide +kernel))) (by decide +kernel)
theorem ml_X5_259 : Cond.methodLink RX5 259 yX5_simulateTurn ∈ UU := UU_of (mt_4 (List.mem_of_getElem? (i := 111) (by decide +kernel))) (by decide +kernel)
theorem im_X5_simulateTurn : Cond.instanceMethod yX5_simulateTurn ∈ UU := UU_of (mt_4 (List.mem_of_getElem? (i := 113) (by decide +kernel))) (by decide +kernel)
theorem co_X5_simulateTurn : Cond.code yX5_simulateTurn cX5_simulateTurn 5 none ∈ UU := UU_of (mt_4 (List.mem_of_getElem? (i := 114) (by decide +kernel))) (by decide +kernel)
theorem ml_X5_266 : Cond.methodLink RX5 266 yJ6_bitCount_0f7a4 ∈ UU := UU_of (mt_4 (List.mem_of_getElem? (i := 115) (by decide +kernel))) (by decide +kernel)
theorem ml_X5_271 : Cond.methodLink RX5 271 yX5_memberOf ∈ UU := UU_of (mt_4 (List.mem_of_getElem? (i := 116) (by decide +kernel))) (by decide +kernel)
theorem st_X5_memberOf : Cond.static yX5_memberOf ∈ UU := UU_of (mt_4 (List.mem_of_getElem? (i := 117) (by decide +kernel))) (by decide +kernel)
theorem co_X5_memberOf : Cond.code yX5_memberOf cX5_memberOf 4 (some .int) ∈ UU := UU_of (mt_4 (List.mem_of_getElem? (i := 118) (by decide +kernel))) (by decide +kernel)
theorem ml_X5_263 : Cond.methodLink RX5 263 yX0_heapSize ∈ UU := UU_of (mt_4 (List.mem_of_getElem? (i := 119) (by decide +kernel))) (by decide +kernel)
theorem ml_L_168 : Cond.methodLink RL 168 yL_save ∈ UU := UU_of (mt_4 (List.mem_of_getElem? (i := 120) (by decide +kernel))) (by decide +kernel)
theorem st_L_save : Cond.static yL_save ∈ UU := UU_of (mt_4 (List.mem_of_getElem? (i := 121) (by decide +kernel))) (by decide +kernel)
theorem co_L_save : Cond.codeWith yL_save cL_save 4 (some .int) [(0, 9, 12, 28)] ∈ UU := UU_of (mt_4 (List.mem_of_getElem? (i := 122) (by decide +kernel))) (by decide +kernel)
theorem ml_L_75 : Cond.methodLink RL 75 yX5_save ∈ UU := UU_of (mt_4 (List.mem_of_getElem? (i := 123) (by decide +kernel))) (by decide +kernel)
theorem im_X5_save : Cond.instanceMethod yX5_save ∈ UU := UU_of (mt_4 (List.mem_of_getElem? (i := 124) (by decide +kernel))) (by decide +kernel)
theorem se_X5_save : Cond.selects RX5 yX5_save yX5_save ∈ UU := UU_of (mt_4 (List.mem_of_getElem? (i := 125) (by decide +kernel))) (by decide +kernel)
theorem co_X5_save : Cond.code yX5_save cX5_save 2 (some .int) ∈ UU := UU_of (mt_4 (List.mem_of_getElem? (i := 126) (by decide +kernel))) (by decide +kernel)
theorem ml_X5_276 : Cond.methodLink RX5 276 yX5_slotOf ∈ UU := UU_of (mt_4 (List.mem_of_getElem? (i := 128) (by decide +kernel))) (by decide +kernel)
theorem im_X5_slotOf : Cond.instanceMethod yX5_slotOf ∈ UU := UU_of (mt_4 (List.mem_of_getElem? (i := 130) (by decide +kernel))) (by decide +kernel)
theorem co_X5_slotOf : Cond.code yX5_slotOf cX5_slotOf 2 (some (.object "SpiralDominoes$Slot")) ∈ UU := UU_of (mt_4 (List.mem_of_getElem? (i := 131) (by decide +kernel))) (by decide +kernel)
theorem ml_X5_280 : Cond.methodLink RX5 280 yX3_keep ∈ UU := UU_of (mt_4 (List.mem_of_getElem? (i := 132) (by decide +kernel))) (by decide +kernel)
theorem im_X3_keep : Cond.instanceMethod yX3_keep ∈ UU := UU_of (mt_4 (List.mem_of_getElem? (i := 133) (by decide +kernel))) (by decide +kernel)
theorem se_X3_keep : Cond.selects RX3 yX3_keep yX3_keep ∈ UU := UU_of (mt_4 (List.mem_of_getElem? (i := 134) (by decide +kernel))) (by decide +kernel)
theorem co_X3_keep : Cond.code yX3_keep cX3_keep 2 none ∈ UU := UU_of (mt_4 (List.mem_of_getElem? (i := 135) (by decide +kernel))) (by decide +kernel)
theorem ml_X3_20 : Cond.methodLink RX3 20 yX0_becomeLike ∈ UU := UU_of (mt_4 (List.mem_of_getElem? (i := 136) (by decide +kernel))) (by decide +kernel)
theorem ml_L_171 : Cond.methodLink RL 171 yL_restore ∈ UU := UU_of (mt_4 (List.mem_of_getElem? (i := 137) (by decide +kernel))) (by decide +kernel)
theorem st_L_restore : Cond.static yL_restore ∈ UU := UU_of (mt_4 (List.mem_of_getElem? (i := 138) (by decide +kernel))) (by decide +kernel)
theorem co_L_restore : Cond.codeWith yL_restore cL_restore 4 (some .int) [(0, 9, 12, 28), (0, 9, 15, 15)] ∈ UU := UU_of (mt_4 (List.mem_of_getElem? (i := 139) (by decide +kernel))) (by decide +kernel)
theorem ml_L_78 : Cond.methodLink RL 78 yX5_restore ∈ UU := UU_of (mt_4 (List.mem_of_getElem? (i := 140) (by decide +kernel))) (by decide +kernel)
theorem im_X5_restore : Cond.instanceMethod yX5_restore ∈ UU := UU_of (mt_4 (List.mem_of_getElem? (i := 141) (by decide +kernel))) (by decide +kernel)
theorem se_X5_restore : Cond.selects RX5 yX5_restore yX5_restore ∈ UU := UU_of (mt_4 (List.mem_of_getElem? (i := 142) (by decide +kernel))) (by decide +kernel)
theorem co_X5_restore : Cond.code yX5_restore cX5_restore 2 (some .int) ∈ UU := UU_of (mt_4 (List.mem_of_getElem? (i := 143) (by decide +kernel))) (by decide +kernel)
theorem ml_X5_283 : Cond.methodLink RX5 283 yX3_isFull ∈ UU := UU_of (mt_4 (List.mem_of_getElem? (i := 144) (by decide +kernel))) (by decide +kernel)
theorem im_X3_isFull : Cond.instanceMethod yX3_isFull ∈ UU := UU_of (mt_4 (List.mem_of_getElem? (i := 145) (by decide +kernel))) (by decide +kernel)
theorem se_X3_isFull : Cond.selects RX3 yX3_isFull yX3_isFull ∈ UU := UU_of (mt_4 (List.mem_of_getElem? (i := 146) (by decide +kernel))) (by decide +kernel)
theorem co_X3_isFull : Cond.code yX3_isFull cX3_isFull 1 (some .boolean) ∈ UU := UU_of (mt_4 (List.mem_of_getElem? (i := 147) (by decide +kernel))) (by decide +kernel)
theorem ml_X5_286 : Cond.methodLink RX5 286 yX3_giveBack ∈ UU := UU_of (mt_4 (List.mem_of_getElem? (i := 149) (by decide +kernel))) (by decide +kernel)
theorem im_X3_giveBack : Cond.instanceMethod yX3_giveBack ∈ UU := UU_of (mt_4 (List.mem_of_getElem? (i := 150) (by decide +kernel))) (by decide +kernel)
theorem se_X3_giveBack : Cond.selects RX3 yX3_giveBack yX3_giveBack ∈ UU := UU_of (mt_4 (List.mem_of_getElem? (i := 151) (by decide +kernel))) (by decide +kernel)
theorem co_X3_giveBack : Cond.code yX3_giveBack cX3_giveBack 2 none ∈ UU := UU_of (mt_4 (List.mem_of_getElem? (i := 152) (by decide +kernel))) (by decide +kernel)
theorem kl_L_82 : Cond.classLink RL 82 RX6 ∈ UU := UU_of (mt_4 (List.mem_of_getElem? (i := 153) (by decide +kernel))) (by decide +kernel)
theorem ib_X6 : Cond.instantiable RX6 14 ∈ UU := UU_of (mt_4 (List.mem_of_getElem? (i := 154) (by decide +kernel))) (by decide +kernel)
theorem ml_L_84 : Cond.methodLink RL 84 yX6_init ∈ UU := UU_of (mt_4 (List.mem_of_getElem? (i := 155) (by decide +kernel))) (by decide +kernel)
theorem im_X6_init : Cond.instanceMethod yX6_init ∈ UU := UU_of (mt_4 (List.mem_of_getElem? (i := 156) (by decide +kernel))) (by decide +kernel)
theorem co_X6_init : Cond.code yX6_init cX6_init 1 none ∈ UU := UU_of (mt_4 (List.mem_of_getElem? (i := 157) (by decide +kernel))) (by decide +kernel)
theorem ml_X6_1 : Cond.methodLink RX6 1 objectInit ∈ UU := UU_of (mt_4 (List.mem_of_getElem? (i := 158) (by decide +kernel))) (by decide +kernel)
theorem ml_X6_38 : Cond.methodLink RX6 38 yX6_clear ∈ UU := UU_of (mt_4 (List.mem_of_getElem? (i := 159) (by decide +kernel))) (by decide +kernel)
theorem st_X6_clear : Cond.static yX6_clear ∈ UU := UU_of (mt_4 (List.mem_of_getElem? (i := 160) (by decide +kernel))) (by decide +kernel)
theorem co_X6_clear : Cond.code yX6_clear cX6_clear 2 none ∈ UU := UU_of (mt_4 (List.mem_of_getElem? (i := 161) (by decide +kernel))) (by decide +kernel)
theorem fl_X6_42 : Cond.fieldLink RX6 42 "SpiralDominoesModel" "refusal" "I" ∈ UU := UU_of (mt_4 (List.mem_of_getElem? (i := 162) (by decide +kernel))) (by decide +kernel)
theorem fl_X6_7 : Cond.fieldLink RX6 7 "SpiralDominoesModel" "text" "[I" ∈ UU := UU_of (mt_4 (List.mem_of_getElem? (i := 163) (by decide +kernel))) (by decide +kernel)
theorem fl_X6_138 : Cond.fieldLink RX6 138 "SpiralDominoesModel" "size" "I" ∈ UU := UU_of (mt_4 (List.mem_of_getElem? (i := 164) (by decide +kernel))) (by decide +kernel)
theorem fl_X6_13 : Cond.fieldLink RX6 13 "SpiralDominoesModel" "now" "[I" ∈ UU := UU_of (mt_4 (List.mem_of_getElem? (i := 165) (by decide +kernel))) (by decide +kernel)
theorem fl_X6_16 : Cond.fieldLink RX6 16 "SpiralDominoesModel" "trial" "[I" ∈ UU := UU_of (mt_4 (List.mem_of_getElem? (i := 166) (by decide +kernel))) (by decide +kernel)
theorem fl_X6_19 : Cond.fieldLink RX6 19 "SpiralDominoesModel" "diary" "[I" ∈ UU := UU_of (mt_4 (List.mem_of_getElem? (i := 167) (by decide +kernel))) (by decide +kernel)
theorem fl_X6_198 : Cond.fieldLink RX6 198 "SpiralDominoesModel" "acts" "I" ∈ UU := UU_of (mt_4 (List.mem_of_getElem? (i := 168) (by decide +kernel))) (by decide +kernel)
theorem fl_X6_22 : Cond.fieldLink RX6 22 "SpiralDominoesModel" "kept" "[I" ∈ UU := UU_of (mt_4 (List.mem_of_getElem? (i := 169) (by decide +kernel))) (by decide +kernel)
theorem fl_X6_25 : Cond.fieldLink RX6 25 "SpiralDominoesModel" "isKept" "[Z" ∈ UU := UU_of (mt_4 (List.mem_of_getElem? (i := 170) (by decide +kernel))) (by decide +kernel)
theorem fl_X6_29 : Cond.fieldLink RX6 29 "SpiralDominoesModel" "row" "[I" ∈ UU := UU_of (mt_4 (List.mem_of_getElem? (i := 171) (by decide +kernel))) (by decide +kernel)
theorem fl_X6_32 : Cond.fieldLink RX6 32 "SpiralDominoesModel" "tried" "[I" ∈ UU := UU_of (mt_4 (List.mem_of_getElem? (i := 172) (by decide +kernel))) (by decide +kernel)
theorem fl_X6_35 : Cond.fieldLink RX6 35 "SpiralDominoesModel" "ends" "[I" ∈ UU := UU_of (mt_4 (List.mem_of_getElem? (i := 173) (by decide +kernel))) (by decide +kernel)
theorem fl_X6_145 : Cond.fieldLink RX6 145 "SpiralDominoesModel" "spot" "I" ∈ UU := UU_of (mt_4 (List.mem_of_getElem? (i := 174) (by decide +kernel))) (by decide +kernel)
theorem fl_X6_150 : Cond.fieldLink RX6 150 "SpiralDominoesModel" "out" "I" ∈ UU := UU_of (mt_4 (List.mem_of_getElem? (i := 175) (by decide +kernel))) (by decide +kernel)
theorem ac_boolean : Cond.arrayClass .boolean ∈ UU := UU_of (mt_4 (List.mem_of_getElem? (i := 205) (by decide +kernel))) (by decide +kernel)
theorem ml_L_91 : Cond.methodLink RL 91 yX6_thrown ∈ UU := UU_of (mt_4 (List.mem_of_getElem? (i := 206) (by decide +kernel))) (by decide +kernel)
theorem im_X6_thrown : Cond.instanceMethod yX6_thrown ∈ UU := UU_of (mt_4 (List.mem_of_getElem? (i := 207) (by decide +kernel))) (by decide +kernel)
theorem se_X6_thrown : Cond.selects RX6 yX6_thrown yX6_thrown ∈ UU := UU_of (mt_4 (List.mem_of_getElem? (i := 208) (by decide +kernel))) (by decide +kernel)
theorem co_X6_thrown : Cond.code yX6_thrown cX6_thrown 1 (some .int) ∈ UU := UU_of (mt_4 (List.mem_of_getElem? (i := 209) (by decide +kernel))) (by decide +kernel)
theorem ml_L_90 : Cond.methodLink RL 90 yX6_append ∈ UU := UU_of (mt_4 (List.mem_of_getElem? (i := 210) (by decide +kernel))) (by decide +kernel)
theorem im_X6_append : Cond.instanceMethod yX6_append ∈ UU := UU_of (mt_4 (List.mem_of_getElem? (i := 211) (by decide +kernel))) (by decide +kernel)
theorem se_X6_append : Cond.selects RX6 yX6_append yX6_append ∈ UU := UU_of (mt_4 (List.mem_of_getElem? (i := 212) (by decide +kernel))) (by decide +kernel)
theorem co_X6_append : Cond.code yX6_append cX6_append 2 (some .int) ∈ UU := UU_of (mt_4 (List.mem_of_getElem? (i := 213) (by decide +kernel))) (by decide +kernel)
theorem cn_X6_136 : Cond.constantLong RX6 136 (255) ∈ UU := UU_of (mt_4 (List.mem_of_getElem? (i := 214) (by decide +kernel))) (by decide +kernel)
theorem ml_X6_55 : Cond.methodLink RX6 55 yX6_in ∈ UU := UU_of (mt_4 (List.mem_of_getElem? (i := 215) (by decide +kernel))) (by decide +kernel)
theorem st_X6_in : Cond.static yX6_in ∈ UU := UU_of (mt_4 (List.mem_of_getElem? (i := 216) (by decide +kernel))) (by decide +kernel)
theorem co_X6_in : Cond.code yX6_in cX6_in 6 (some .boolean) ∈ UU := UU_of (mt_4 (List.mem_of_getElem? (i := 217) (by decide +kernel))) (by decide +kernel)
theorem ml_X6_141 : Cond.methodLink RX6 141 yX6_refused ∈ UU := UU_of (mt_4 (List.mem_of_getElem? (i := 218) (by decide +kernel))) (by decide +kernel)
theorem im_X6_refused : Cond.instanceMethod yX6_refused ∈ UU := UU_of (mt_4 (List.mem_of_getElem? (i := 220) (by decide +kernel))) (by decide +kernel)
theorem co_X6_refused : Cond.code yX6_refused cX6_refused 2 (some .boolean) ∈ UU := UU_of (mt_4 (List.mem_of_getElem? (i := 221) (by decide +kernel))) (by decide +kernel)
theorem ml_L_97 : Cond.methodLink RL 97 yX6_clearText ∈ UU := UU_of (mt_4 (List.mem_of_getElem? (i := 222) (by decide +kernel))) (by decide +kernel)
theorem im_X6_clearText : Cond.instanceMethod yX6_clearText ∈ UU := UU_of (mt_4 (List.mem_of_getElem? (i := 223) (by decide +kernel))) (by decide +kernel)
theorem se_X6_clearText : Cond.selects RX6 yX6_clearText yX6_clearText ∈ UU := UU_of (mt_4 (List.mem_of_getElem? (i := 224) (by decide +kernel))) (by decide +kernel)
theorem co_X6_clearText : Cond.code yX6_clearText cX6_clearText 2 (some .int) ∈ UU := UU_of (mt_4 (List.mem_of_getElem? (i := 225) (by decide +kernel))) (by decide +kernel)
theorem ml_L_101 : Cond.methodLink RL 101 yX6_errorPosition ∈ UU := UU_of (mt_4 (List.mem_of_getElem? (i := 226) (by decide +kernel))) (by decide +kernel)
theorem im_X6_errorPosition : Cond.instanceMethod yX6_errorPosition ∈ UU := UU_of (mt_4 (List.mem_of_getElem? (i := 227) (by decide +kernel))) (by decide +kernel)
theorem se_X6_errorPosition : Cond.selects RX6 yX6_errorPosition yX6_errorPosition ∈ UU := UU_of (mt_4 (List.mem_of_getElem? (i := 228) (by decide +kernel))) (by decide +kernel)
theorem co_X6_errorPosition : Cond.code yX6_errorPosition cX6_errorPosition 1 (some .int) ∈ UU := UU_of (mt_4 (List.mem_of_getElem? (i := 229) (by decide +kernel))) (by decide +kernel)
theorem ml_X6_191 : Cond.methodLink RX6 191 yX6_readText ∈ UU := UU_of (mt_4 (List.mem_of_getElem? (i := 230) (by decide +kernel))) (by decide +kernel)
theorem im_X6_readText : Cond.instanceMethod yX6_readText ∈ UU := UU_of (mt_4 (List.mem_of_getElem? (i := 232) (by decide +kernel))) (by decide +kernel)
theorem co_X6_readText : Cond.code yX6_readText cX6_readText 2 (some .int) ∈ UU := UU_of (mt_4 (List.mem_of_getElem? (i := 233) (by decide +kernel))) (by decide +kernel)
theorem ml_X6_188 : Cond.methodLink RX6 188 yX6_readCommand ∈ UU := UU_of (mt_4 (List.mem_of_getElem? (i := 234) (by decide +kernel))) (by decide +kernel)
theorem im_X6_readCommand : Cond.instanceMethod yX6_readCommand ∈ UU := UU_of (mt_4 (List.mem_of_getElem? (i := 236) (by decide +kernel))) (by decide +kernel)
theorem co_X6_readCommand : Cond.code yX6_readCommand cX6_readCommand 5 (some .boolean) ∈ UU := UU_of (mt_4 (List.mem_of_getElem? (i := 237) (by decide +kernel))) (by decide +kernel)
theorem ml_X6_153 : Cond.methodLink RX6 153 yX6_figures ∈ UU := UU_of (mt_4 (List.mem_of_getElem? (i := 238) (by decide +kernel))) (by decide +kernel)
theorem im_X6_figures : Cond.instanceMethod yX6_figures ∈ UU := UU_of (mt_5 (List.mem_of_getElem? (i := 0) (by decide +kernel))) (by decide +kernel)
theorem co_X6_figures : Cond.code yX6_figures cX6_figures 9 (some .int) ∈ UU := UU_of (mt_5 (List.mem_of_getElem? (i := 1) (by decide +kernel))) (by decide +kernel)
theorem cn_X6_148 : Cond.constantLong RX6 148 (9) ∈ UU := UU_of (mt_5 (List.mem_of_getElem? (i := 2) (by decide +kernel))) (by decide +kernel)
theorem ml_X6_165 : Cond.methodLink RX6 165 yX6_dealOn ∈ UU := UU_of (mt_5 (List.mem_of_getElem? (i := 3) (by decide +kernel))) (by decide +kernel)
theorem im_X6_dealOn : Cond.instanceMethod yX6_dealOn ∈ UU := UU_of (mt_5 (List.mem_of_getElem? (i := 5) (by decide +kernel))) (by decide +kernel)
theorem co_X6_dealOn : Cond.code yX6_dealOn cX6_dealOn 10 (some .int) ∈ UU := UU_of (mt_5 (List.mem_of_getElem? (i := 6) (by decide +kernel))) (by decide +kernel)
theorem cn_X6_105 : Cond.constantLong RX6 105 (6364136223846793005) ∈ UU := UU_of (mt_5 (List.mem_of_getElem? (i := 7) (by decide +kernel))) (by decide +kernel)
theorem cn_X6_107 : Cond.constantLong RX6 107 (1442695040888963407) ∈ UU := UU_of (mt_5 (List.mem_of_getElem? (i := 8) (by decide +kernel))) (by decide +kernel)
theorem ml_X6_161 : Cond.methodLink RX6 161 yX6_done ∈ UU := UU_of (mt_5 (List.mem_of_getElem? (i := 9) (by decide +kernel))) (by decide +kernel)
theorem im_X6_done : Cond.instanceMethod yX6_done ∈ UU := UU_of (mt_5 (List.mem_of_getElem? (i := 11) (by decide +kernel))) (by decide +kernel)
theorem co_X6_done : Cond.code yX6_done cX6_done 2 (some .boolean) ∈ UU := UU_of (mt_5 (List.mem_of_getElem? (i := 12) (by decide +kernel))) (by decide +kernel)
theorem ml_X6_169 : Cond.methodLink RX6 169 yX6_readTile ∈ UU := UU_of (mt_5 (List.mem_of_getElem? (i := 13) (by decide +kernel))) (by decide +kernel)
theorem im_X6_readTile : Cond.instanceMethod yX6_readTile ∈ UU := UU_of (mt_5 (List.mem_of_getElem? (i := 15) (by decide +kernel))) (by decide +kernel)
theorem co_X6_readTile : Cond.code yX6_readTile cX6_readTile 4 (some .boolean) ∈ UU := UU_of (mt_5 (List.mem_of_getElem? (i := 16) (by decide +kernel))) (by decide +kernel)
theorem ml_X6_102 : Cond.methodLink RX6 102 yX6_reason ∈ UU := UU_of (mt_5 (List.mem_of_getElem? (i := 17) (by decide +kernel))) (by decide +kernel)
theorem st_X6_reason : Cond.static yX6_reason ∈ UU := UU_of (mt_5 (List.mem_of_getElem? (i := 18) (by decide +kernel))) (by decide +kernel)
theorem co_X6_reason : Cond.code yX6_reason cX6_reason 4 (some .int) ∈ UU := UU_of (mt_5 (List.mem_of_getElem? (i := 19) (by decide +kernel))) (by decide +kernel)
theorem ml_X6_87 : Cond.methodLink RX6 87 yX6_fitsTo ∈ UU := UU_of (mt_5 (List.mem_of_getElem? (i := 20) (by decide +kernel))) (by decide +kernel)
theorem st_X6_fitsTo : Cond.static yX6_fitsTo ∈ UU := UU_of (mt_5 (List.mem_of_getElem? (i := 21) (by decide +kernel))) (by decide +kernel)
theorem co_X6_fitsTo : Cond.code yX6_fitsTo cX6_fitsTo 2 (some .boolean) ∈ UU := UU_of (mt_5 (List.mem_of_getElem? (i := 22) (by decide +kernel))) (by decide +kernel)
theorem ml_X6_46 : Cond.methodLink RX6 46 yX6_lesser ∈ UU := UU_of (mt_5 (List.mem_of_getElem? (i := 23) (by decide +kernel))) (by decide +kernel)
theorem st_X6_lesser : Cond.static yX6_lesser ∈ UU := UU_of (mt_5 (List.mem_of_getElem? (i := 24) (by decide +kernel))) (by decide +kernel)
theorem co_X6_lesser : Cond.code yX6_lesser cX6_lesser 3 (some .int) ∈ UU := UU_of (mt_5 (List.mem_of_getElem? (i := 25) (by decide +kernel))) (by decide +kernel)
theorem ml_X6_50 : Cond.methodLink RX6 50 yX6_greater ∈ UU := UU_of (mt_5 (List.mem_of_getElem? (i := 26) (by decide +kernel))) (by decide +kernel)
theorem st_X6_greater : Cond.static yX6_greater ∈ UU := UU_of (mt_5 (List.mem_of_getElem? (i := 27) (by decide +kernel))) (by decide +kernel)
theorem co_X6_greater : Cond.code yX6_greater cX6_greater 3 (some .int) ∈ UU := UU_of (mt_5 (List.mem_of_getElem? (i := 28) (by decide +kernel))) (by decide +kernel)
theorem ml_X6_91 : Cond.methodLink RX6 91 yX6_nextX ∈ UU := UU_of (mt_5 (List.mem_of_getElem? (i := 29) (by decide +kernel))) (by decide +kernel)
theorem st_X6_nextX : Cond.static yX6_nextX ∈ UU := UU_of (mt_5 (List.mem_of_getElem? (i := 30) (by decide +kernel))) (by decide +kernel)
theorem co_X6_nextX : Cond.code yX6_nextX cX6_nextX 1 (some .int) ∈ UU := UU_of (mt_5 (List.mem_of_getElem? (i := 31) (by decide +kernel))) (by decide +kernel)
theorem ml_X6_72 : Cond.methodLink RX6 72 yX6_xOf ∈ UU := UU_of (mt_5 (List.mem_of_getElem? (i := 32) (by decide +kernel))) (by decide +kernel)
theorem st_X6_xOf : Cond.static yX6_xOf ∈ UU := UU_of (mt_5 (List.mem_of_getElem? (i := 33) (by decide +kernel))) (by decide +kernel)
theorem co_X6_xOf : Cond.code yX6_xOf cX6_xOf 3 (some .int) ∈ UU := UU_of (mt_5 (List.mem_of_getElem? (i := 34) (by decide +kernel))) (by decide +kernel)
theorem ml_X6_62 : Cond.methodLink RX6 62 yX6_onTable ∈ UU := UU_of (mt_5 (List.mem_of_getElem? (i := 35) (by decide +kernel))) (by decide +kernel)
theorem st_X6_onTable : Cond.static yX6_onTable ∈ UU := UU_of (mt_5 (List.mem_of_getElem? (i := 36) (by decide +kernel))) (by decide +kernel)
theorem co_X6_onTable : Cond.code yX6_onTable cX6_onTable 3 (some .int) ∈ UU := UU_of (mt_5 (List.mem_of_getElem? (i := 37) (by decide +kernel))) (by decide +kernel)
theorem ml_X6_66 : Cond.methodLink RX6 66 yX6_dx ∈ UU := UU_of (mt_5 (List.mem_of_getElem? (i := 38) (by decide +kernel))) (by decide +kernel)
theorem st_X6_dx : Cond.static yX6_dx ∈ UU := UU_of (mt_5 (List.mem_of_getElem? (i := 39) (by decide +kernel))) (by decide +kernel)
theorem co_X6_dx : Cond.code yX6_dx cX6_dx 1 (some .int) ∈ UU := UU_of (mt_5 (List.mem_of_getElem? (i := 40) (by decide +kernel))) (by decide +kernel)
theorem ml_X6_95 : Cond.methodLink RX6 95 yX6_nextY ∈ UU := UU_of (mt_5 (List.mem_of_getElem? (i := 41) (by decide +kernel))) (by decide +kernel)
theorem st_X6_nextY : Cond.static yX6_nextY ∈ UU := UU_of (mt_5 (List.mem_of_getElem? (i := 42) (by decide +kernel))) (by decide +kernel)
theorem co_X6_nextY : Cond.code yX6_nextY cX6_nextY 1 (some .int) ∈ UU := UU_of (mt_5 (List.mem_of_getElem? (i := 43) (by decide +kernel))) (by decide +kernel)
theorem ml_X6_75 : Cond.methodLink RX6 75 yX6_yOf ∈ UU := UU_of (mt_5 (List.mem_of_getElem? (i := 44) (by decide +kernel))) (by decide +kernel)
theorem st_X6_yOf : Cond.static yX6_yOf ∈ UU := UU_of (mt_5 (List.mem_of_getElem? (i := 45) (by decide +kernel))) (by decide +kernel)
theorem co_X6_yOf : Cond.code yX6_yOf cX6_yOf 3 (some .int) ∈ UU := UU_of (mt_5 (List.mem_of_getElem? (i := 46) (by decide +kernel))) (by decide +kernel)
theorem ml_X6_69 : Cond.methodLink RX6 69 yX6_dy ∈ UU := UU_of (mt_5 (List.mem_of_getElem? (i := 47) (by decide +kernel))) (by decide +kernel)
theorem st_X6_dy : Cond.static yX6_dy ∈ UU := UU_of (mt_5 (List.mem_of_getElem? (i := 48) (by decide +kernel))) (by decide +kernel)
theorem co_X6_dy : Cond.code yX6_dy cX6_dy 1 (some .int) ∈ UU := UU_of (mt_5 (List.mem_of_getElem? (i := 49) (by decide +kernel))) (by decide +kernel)
theorem ml_X6_98 : Cond.methodLink RX6 98 yX6_isFree ∈ UU := UU_of (mt_5 (List.mem_of_getElem? (i := 50) (by decide +kernel))) (by decide +kernel)
theorem st_X6_isFree : Cond.static yX6_isFree ∈ UU := UU_of (mt_5 (List.mem_of_getElem? (i := 51) (by decide +kernel))) (by decide +kernel)
theorem co_X6_isFree : Cond.code yX6_isFree cX6_isFree 3 (some .boolean) ∈ UU := UU_of (mt_5 (List.mem_of_getElem? (i := 52) (by decide +kernel))) (by decide +kernel)
theorem cn_X6_82 : Cond.constantLong RX6 82 (24) ∈ UU := UU_of (mt_5 (List.mem_of_getElem? (i := 53) (by decide +kernel))) (by decide +kernel)
theorem ml_X6_84 : Cond.methodLink RX6 84 yX6_cellAt ∈ UU := UU_of (mt_5 (List.mem_of_getElem? (i := 54) (by decide +kernel))) (by decide +kernel)
theorem st_X6_cellAt : Cond.static yX6_cellAt ∈ UU := UU_of (mt_5 (List.mem_of_getElem? (i := 55) (by decide +kernel))) (by decide +kernel)
theorem co_X6_cellAt : Cond.code yX6_cellAt cX6_cellAt 4 (some .int) ∈ UU := UU_of (mt_5 (List.mem_of_getElem? (i := 56) (by decide +kernel))) (by decide +kernel)
theorem ml_X6_78 : Cond.methodLink RX6 78 yX6_otherPips ∈ UU := UU_of (mt_5 (List.mem_of_getElem? (i := 57) (by decide +kernel))) (by decide +kernel)
theorem st_X6_otherPips : Cond.static yX6_otherPips ∈ UU := UU_of (mt_5 (List.mem_of_getElem? (i := 58) (by decide +kernel))) (by decide +kernel)
theorem co_X6_otherPips : Cond.code yX6_otherPips cX6_otherPips 2 (some .int) ∈ UU := UU_of (mt_5 (List.mem_of_getElem? (i := 59) (by decide +kernel))) (by decide +kernel)
theorem ml_X6_59 : Cond.methodLink RX6 59 yX6_pips ∈ UU := UU_of (mt_5 (List.mem_of_getElem? (i := 60) (by decide +kernel))) (by decide +kernel)
theorem st_X6_pips : Cond.static yX6_pips ∈ UU := UU_of (mt_5 (List.mem_of_getElem? (i := 61) (by decide +kernel))) (by decide +kernel)
theorem co_X6_pips : Cond.code yX6_pips cX6_pips 1 (some .int) ∈ UU := UU_of (mt_5 (List.mem_of_getElem? (i := 62) (by decide +kernel))) (by decide +kernel)
theorem ml_X6_157 : Cond.methodLink RX6 157 yX6_playOn ∈ UU := UU_of (mt_5 (List.mem_of_getElem? (i := 63) (by decide +kernel))) (by decide +kernel)
theorem st_X6_playOn : Cond.static yX6_playOn ∈ UU := UU_of (mt_5 (List.mem_of_getElem? (i := 64) (by decide +kernel))) (by decide +kernel)
theorem co_X6_playOn : Cond.code yX6_playOn cX6_playOn 4 (some .int) ∈ UU := UU_of (mt_5 (List.mem_of_getElem? (i := 65) (by decide +kernel))) (by decide +kernel)
theorem ml_X6_129 : Cond.methodLink RX6 129 yX6_put ∈ UU := UU_of (mt_5 (List.mem_of_getElem? (i := 66) (by decide +kernel))) (by decide +kernel)
theorem st_X6_put : Cond.static yX6_put ∈ UU := UU_of (mt_5 (List.mem_of_getElem? (i := 67) (by decide +kernel))) (by decide +kernel)
theorem co_X6_put : Cond.code yX6_put cX6_put 7 none ∈ UU := UU_of (mt_5 (List.mem_of_getElem? (i := 68) (by decide +kernel))) (by decide +kernel)
theorem ml_X6_115 : Cond.methodLink RX6 115 yX6_endBehind ∈ UU := UU_of (mt_5 (List.mem_of_getElem? (i := 69) (by decide +kernel))) (by decide +kernel)
theorem st_X6_endBehind : Cond.static yX6_endBehind ∈ UU := UU_of (mt_5 (List.mem_of_getElem? (i := 70) (by decide +kernel))) (by decide +kernel)
theorem co_X6_endBehind : Cond.code yX6_endBehind cX6_endBehind 2 (some .int) ∈ UU := UU_of (mt_5 (List.mem_of_getElem? (i := 71) (by decide +kernel))) (by decide +kernel)
theorem ml_X6_119 : Cond.methodLink RX6 119 yX6_handMany ∈ UU := UU_of (mt_5 (List.mem_of_getElem? (i := 72) (by decide +kernel))) (by decide +kernel)
theorem st_X6_handMany : Cond.static yX6_handMany ∈ UU := UU_of (mt_5 (List.mem_of_getElem? (i := 73) (by decide +kernel))) (by decide +kernel)
theorem co_X6_handMany : Cond.code yX6_handMany cX6_handMany 4 (some .int) ∈ UU := UU_of (mt_5 (List.mem_of_getElem? (i := 74) (by decide +kernel))) (by decide +kernel)
theorem ml_X6_122 : Cond.methodLink RX6 122 yX6_wins ∈ UU := UU_of (mt_5 (List.mem_of_getElem? (i := 75) (by decide +kernel))) (by decide +kernel)
theorem st_X6_wins : Cond.static yX6_wins ∈ UU := UU_of (mt_5 (List.mem_of_getElem? (i := 76) (by decide +kernel))) (by decide +kernel)
theorem co_X6_wins : Cond.code yX6_wins cX6_wins 2 none ∈ UU := UU_of (mt_5 (List.mem_of_getElem? (i := 77) (by decide +kernel))) (by decide +kernel)
theorem ml_X6_112 : Cond.methodLink RX6 112 yX6_allPips ∈ UU := UU_of (mt_5 (List.mem_of_getElem? (i := 78) (by decide +kernel))) (by decide +kernel)
theorem st_X6_allPips : Cond.static yX6_allPips ∈ UU := UU_of (mt_5 (List.mem_of_getElem? (i := 79) (by decide +kernel))) (by decide +kernel)
theorem co_X6_allPips : Cond.code yX6_allPips cX6_allPips 3 (some .int) ∈ UU := UU_of (mt_5 (List.mem_of_getElem? (i := 80) (by decide +kernel))) (by decide +kernel)
theorem ml_X6_109 : Cond.methodLink RX6 109 yX6_handPips ∈ UU := UU_of (mt_5 (List.mem_of_getElem? (i := 81) (by decide +kernel))) (by decide +kernel)
theorem st_X6_handPips : Cond.static yX6_handPips ∈ UU := UU_of (mt_5 (List.mem_of_getElem? (i := 82) (by decide +kernel))) (by decide +kernel)
theorem co_X6_handPips : Cond.code yX6_handPips cX6_handPips 4 (some .int) ∈ UU := UU_of (mt_5 (List.mem_of_getElem? (i := 83) (by decide +kernel))) (by decide +kernel)
theorem ml_X6_126 : Cond.methodLink RX6 126 yX6_nextTurn ∈ UU := UU_of (mt_5 (List.mem_of_getElem? (i := 84) (by decide +kernel))) (by decide +kernel)
theorem st_X6_nextTurn : Cond.static yX6_nextTurn ∈ UU := UU_of (mt_5 (List.mem_of_getElem? (i := 85) (by decide +kernel))) (by decide +kernel)
theorem co_X6_nextTurn : Cond.code yX6_nextTurn cX6_nextTurn 1 none ∈ UU := UU_of (mt_5 (List.mem_of_getElem? (i := 86) (by decide +kernel))) (by decide +kernel)
theorem ml_X6_173 : Cond.methodLink RX6 173 yX6_canDraw ∈ UU := UU_of (mt_5 (List.mem_of_getElem? (i := 87) (by decide +kernel))) (by decide +kernel)
theorem st_X6_canDraw : Cond.static yX6_canDraw ∈ UU := UU_of (mt_5 (List.mem_of_getElem? (i := 88) (by decide +kernel))) (by decide +kernel)
theorem co_X6_canDraw : Cond.code yX6_canDraw cX6_canDraw 1 (some .boolean) ∈ UU := UU_of (mt_5 (List.mem_of_getElem? (i := 89) (by decide +kernel))) (by decide +kernel)
theorem ml_X6_176 : Cond.methodLink RX6 176 yX6_drawOn ∈ UU := UU_of (mt_5 (List.mem_of_getElem? (i := 90) (by decide +kernel))) (by decide +kernel)
theorem st_X6_drawOn : Cond.static yX6_drawOn ∈ UU := UU_of (mt_5 (List.mem_of_getElem? (i := 91) (by decide +kernel))) (by decide +kernel)
theorem co_X6_drawOn : Cond.code yX6_drawOn cX6_drawOn 3 (some .int) ∈ UU := UU_of (mt_5 (List.mem_of_getElem? (i := 92) (by decide +kernel))) (by decide +kernel)
theorem ml_X6_179 : Cond.methodLink RX6 179 yX6_canPass ∈ UU := UU_of (mt_5 (List.mem_of_getElem? (i := 93) (by decide +kernel))) (by decide +kernel)
theorem st_X6_canPass : Cond.static yX6_canPass ∈ UU := UU_of (mt_5 (List.mem_of_getElem? (i := 94) (by decide +kernel))) (by decide +kernel)
theorem co_X6_canPass : Cond.code yX6_canPass cX6_canPass 1 (some .boolean) ∈ UU := UU_of (mt_5 (List.mem_of_getElem? (i := 95) (by decide +kernel))) (by decide +kernel)
theorem ml_X6_182 : Cond.methodLink RX6 182 yX6_passOn ∈ UU := UU_of (mt_5 (List.mem_of_getElem? (i := 96) (by decide +kernel))) (by decide +kernel)
theorem st_X6_passOn : Cond.static yX6_passOn ∈ UU := UU_of (mt_5 (List.mem_of_getElem? (i := 97) (by decide +kernel))) (by decide +kernel)
theorem co_X6_passOn : Cond.code yX6_passOn cX6_passOn 3 (some .int) ∈ UU := UU_of (mt_5 (List.mem_of_getElem? (i := 98) (by decide +kernel))) (by decide +kernel)
theorem ml_X6_185 : Cond.methodLink RX6 185 yX6_playBest ∈ UU := UU_of (mt_5 (List.mem_of_getElem? (i := 99) (by decide +kernel))) (by decide +kernel)
theorem st_X6_playBest : Cond.static yX6_playBest ∈ UU := UU_of (mt_5 (List.mem_of_getElem? (i := 100) (by decide +kernel))) (by decide +kernel)
theorem co_X6_playBest : Cond.code yX6_playBest cX6_playBest 2 (some .boolean) ∈ UU := UU_of (mt_5 (List.mem_of_getElem? (i := 101) (by decide +kernel))) (by decide +kernel)
theorem ml_X6_133 : Cond.methodLink RX6 133 yX6_bestOf ∈ UU := UU_of (mt_5 (List.mem_of_getElem? (i := 102) (by decide +kernel))) (by decide +kernel)
theorem st_X6_bestOf : Cond.static yX6_bestOf ∈ UU := UU_of (mt_5 (List.mem_of_getElem? (i := 103) (by decide +kernel))) (by decide +kernel)
theorem co_X6_bestOf : Cond.code yX6_bestOf cX6_bestOf 3 (some .int) ∈ UU := UU_of (mt_5 (List.mem_of_getElem? (i := 104) (by decide +kernel))) (by decide +kernel)
theorem ml_L_105 : Cond.methodLink RL 105 yX6_load ∈ UU := UU_of (mt_5 (List.mem_of_getElem? (i := 105) (by decide +kernel))) (by decide +kernel)
theorem im_X6_load : Cond.instanceMethod yX6_load ∈ UU := UU_of (mt_5 (List.mem_of_getElem? (i := 106) (by decide +kernel))) (by decide +kernel)
theorem se_X6_load : Cond.selects RX6 yX6_load yX6_load ∈ UU := UU_of (mt_5 (List.mem_of_getElem? (i := 107) (by decide +kernel))) (by decide +kernel)
theorem co_X6_load : Cond.code yX6_load cX6_load 1 (some .int) ∈ UU := UU_of (mt_5 (List.mem_of_getElem? (i := 108) (by decide +kernel))) (by decide +kernel)
theorem ml_X6_194 : Cond.methodLink RX6 194 yX6_copyState ∈ UU := UU_of (mt_5 (List.mem_of_getElem? (i := 109) (by decide +kernel))) (by decide +kernel)
theorem st_X6_copyState : Cond.static yX6_copyState ∈ UU := UU_of (mt_5 (List.mem_of_getElem? (i := 110) (by decide +kernel))) (by decide +kernel)
theorem co_X6_copyState : Cond.code yX6_copyState cX6_copyState 5 none ∈ UU := UU_of (mt_5 (List.mem_of_getElem? (i := 111) (by decide +kernel))) (by decide +kernel)
theorem ml_L_108 : Cond.methodLink RL 108 yX6_about ∈ UU := UU_of (mt_5 (List.mem_of_getElem? (i := 112) (by decide +kernel))) (by decide +kernel)
theorem im_X6_about : Cond.instanceMethod yX6_about ∈ UU := UU_of (mt_5 (List.mem_of_getElem? (i := 113) (by decide +kernel))) (by decide +kernel)
theorem se_X6_about : Cond.selects RX6 yX6_about yX6_about ∈ UU := UU_of (mt_5 (List.mem_of_getElem? (i := 114) (by decide +kernel))) (by decide +kernel)
theorem co_X6_about : Cond.code yX6_about cX6_about 2 (some .int) ∈ UU := UU_of (mt_5 (List.mem_of_getElem? (i := 115) (by decide +kernel))) (by decide +kernel)
theorem cn_X6_201 : Cond.constantLong RX6 201 (11) ∈ UU := UU_of (mt_5 (List.mem_of_getElem? (i := 116) (by decide +kernel))) (by decide +kernel)
theorem ml_X6_203 : Cond.methodLink RX6 203 yX6_tablePips ∈ UU := UU_of (mt_5 (List.mem_of_getElem? (i := 117) (by decide +kernel))) (by decide +kernel)
theorem st_X6_tablePips : Cond.static yX6_tablePips ∈ UU := UU_of (mt_5 (List.mem_of_getElem? (i := 118) (by decide +kernel))) (by decide +kernel)
theorem co_X6_tablePips : Cond.code yX6_tablePips cX6_tablePips 3 (some .int) ∈ UU := UU_of (mt_5 (List.mem_of_getElem? (i := 119) (by decide +kernel))) (by decide +kernel)
theorem ml_L_112 : Cond.methodLink RL 112 yX6_tileOf ∈ UU := UU_of (mt_5 (List.mem_of_getElem? (i := 120) (by decide +kernel))) (by decide +kernel)
theorem im_X6_tileOf : Cond.instanceMethod yX6_tileOf ∈ UU := UU_of (mt_5 (List.mem_of_getElem? (i := 121) (by decide +kernel))) (by decide +kernel)
theorem se_X6_tileOf : Cond.selects RX6 yX6_tileOf yX6_tileOf ∈ UU := UU_of (mt_5 (List.mem_of_getElem? (i := 122) (by decide +kernel))) (by decide +kernel)
theorem co_X6_tileOf : Cond.code yX6_tileOf cX6_tileOf 3 (some .int) ∈ UU := UU_of (mt_5 (List.mem_of_getElem? (i := 123) (by decide +kernel))) (by decide +kernel)
theorem ml_X6_206 : Cond.methodLink RX6 206 yX6_isTile ∈ UU := UU_of (mt_5 (List.mem_of_getElem? (i := 124) (by decide +kernel))) (by decide +kernel)
theorem st_X6_isTile : Cond.static yX6_isTile ∈ UU := UU_of (mt_5 (List.mem_of_getElem? (i := 125) (by decide +kernel))) (by decide +kernel)
theorem co_X6_isTile : Cond.code yX6_isTile cX6_isTile 1 (some .boolean) ∈ UU := UU_of (mt_5 (List.mem_of_getElem? (i := 126) (by decide +kernel))) (by decide +kernel)
theorem cn_X6_53 : Cond.constantLong RX6 53 (27) ∈ UU := UU_of (mt_5 (List.mem_of_getElem? (i := 127) (by decide +kernel))) (by decide +kernel)
theorem cn_X6_209 : Cond.constantLong RX6 209 (4) ∈ UU := UU_of (mt_5 (List.mem_of_getElem? (i := 128) (by decide +kernel))) (by decide +kernel)
theorem ml_X6_211 : Cond.methodLink RX6 211 yX6_placeOf ∈ UU := UU_of (mt_5 (List.mem_of_getElem? (i := 129) (by decide +kernel))) (by decide +kernel)
theorem st_X6_placeOf : Cond.static yX6_placeOf ∈ UU := UU_of (mt_5 (List.mem_of_getElem? (i := 130) (by decide +kernel))) (by decide +kernel)
theorem co_X6_placeOf : Cond.code yX6_placeOf cX6_placeOf 3 (some .int) ∈ UU := UU_of (mt_5 (List.mem_of_getElem? (i := 131) (by decide +kernel))) (by decide +kernel)
theorem ml_X6_214 : Cond.methodLink RX6 214 yX6_inHeap ∈ UU := UU_of (mt_5 (List.mem_of_getElem? (i := 132) (by decide +kernel))) (by decide +kernel)
theorem st_X6_inHeap : Cond.static yX6_inHeap ∈ UU := UU_of (mt_5 (List.mem_of_getElem? (i := 133) (by decide +kernel))) (by decide +kernel)
theorem co_X6_inHeap : Cond.code yX6_inHeap cX6_inHeap 3 (some .int) ∈ UU := UU_of (mt_5 (List.mem_of_getElem? (i := 134) (by decide +kernel))) (by decide +kernel)
theorem ml_L_115 : Cond.methodLink RL 115 yX6_laid ∈ UU := UU_of (mt_5 (List.mem_of_getElem? (i := 135) (by decide +kernel))) (by decide +kernel)
theorem im_X6_laid : Cond.instanceMethod yX6_laid ∈ UU := UU_of (mt_5 (List.mem_of_getElem? (i := 136) (by decide +kernel))) (by decide +kernel)
theorem se_X6_laid : Cond.selects RX6 yX6_laid yX6_laid ∈ UU := UU_of (mt_5 (List.mem_of_getElem? (i := 137) (by decide +kernel))) (by decide +kernel)
theorem co_X6_laid : Cond.code yX6_laid cX6_laid 3 (some .int) ∈ UU := UU_of (mt_5 (List.mem_of_getElem? (i := 138) (by decide +kernel))) (by decide +kernel)
theorem cn_X6_217 : Cond.constantLong RX6 217 (5) ∈ UU := UU_of (mt_5 (List.mem_of_getElem? (i := 139) (by decide +kernel))) (by decide +kernel)
theorem ml_L_118 : Cond.methodLink RL 118 yX6_playerOf ∈ UU := UU_of (mt_5 (List.mem_of_getElem? (i := 140) (by decide +kernel))) (by decide +kernel)
theorem im_X6_playerOf : Cond.instanceMethod yX6_playerOf ∈ UU := UU_of (mt_5 (List.mem_of_getElem? (i := 141) (by decide +kernel))) (by decide +kernel)
theorem se_X6_playerOf : Cond.selects RX6 yX6_playerOf yX6_playerOf ∈ UU := UU_of (mt_5 (List.mem_of_getElem? (i := 142) (by decide +kernel))) (by decide +kernel)
theorem co_X6_playerOf : Cond.code yX6_playerOf cX6_playerOf 3 (some .int) ∈ UU := UU_of (mt_5 (List.mem_of_getElem? (i := 143) (by decide +kernel))) (by decide +kernel)
theorem cn_X6_219 : Cond.constantLong RX6 219 (3) ∈ UU := UU_of (mt_5 (List.mem_of_getElem? (i := 144) (by decide +kernel))) (by decide +kernel)
theorem ml_L_121 : Cond.methodLink RL 121 yX6_at ∈ UU := UU_of (mt_5 (List.mem_of_getElem? (i := 145) (by decide +kernel))) (by decide +kernel)
theorem im_X6_at : Cond.instanceMethod yX6_at ∈ UU := UU_of (mt_5 (List.mem_of_getElem? (i := 146) (by decide +kernel))) (by decide +kernel)
theorem se_X6_at : Cond.selects RX6 yX6_at yX6_at ∈ UU := UU_of (mt_5 (List.mem_of_getElem? (i := 147) (by decide +kernel))) (by decide +kernel)
theorem co_X6_at : Cond.code yX6_at cX6_at 3 (some .int) ∈ UU := UU_of (mt_5 (List.mem_of_getElem? (i := 148) (by decide +kernel))) (by decide +kernel)
theorem ml_L_124 : Cond.methodLink RL 124 yX6_free ∈ UU := UU_of (mt_5 (List.mem_of_getElem? (i := 149) (by decide +kernel))) (by decide +kernel)
theorem im_X6_free : Cond.instanceMethod yX6_free ∈ UU := UU_of (mt_5 (List.mem_of_getElem? (i := 150) (by decide +kernel))) (by decide +kernel)
theorem se_X6_free : Cond.selects RX6 yX6_free yX6_free ∈ UU := UU_of (mt_5 (List.mem_of_getElem? (i := 151) (by decide +kernel))) (by decide +kernel)
theorem co_X6_free : Cond.code yX6_free cX6_free 2 (some .int) ∈ UU := UU_of (mt_5 (List.mem_of_getElem? (i := 152) (by decide +kernel))) (by decide +kernel)
theorem ml_L_130 : Cond.methodLink RL 130 yX6_deal ∈ UU := UU_of (mt_5 (List.mem_of_getElem? (i := 153) (by decide +kernel))) (by decide +kernel)
theorem im_X6_deal : Cond.instanceMethod yX6_deal ∈ UU := UU_of (mt_5 (List.mem_of_getElem? (i := 154) (by decide +kernel))) (by decide +kernel)
theorem se_X6_deal : Cond.selects RX6 yX6_deal yX6_deal ∈ UU := UU_of (mt_5 (List.mem_of_getElem? (i := 155) (by decide +kernel))) (by decide +kernel)
theorem co_X6_deal : Cond.code yX6_deal cX6_deal 4 (some .int) ∈ UU := UU_of (mt_5 (List.mem_of_getElem? (i := 156) (by decide +kernel))) (by decide +kernel)
theorem cn_X6_221 : Cond.constantLong RX6 221 (2) ∈ UU := UU_of (mt_5 (List.mem_of_getElem? (i := 157) (by decide +kernel))) (by decide +kernel)
theorem ml_X6_223 : Cond.methodLink RX6 223 yX6_remember ∈ UU := UU_of (mt_5 (List.mem_of_getElem? (i := 158) (by decide +kernel))) (by decide +kernel)
theorem im_X6_remember : Cond.instanceMethod yX6_remember ∈ UU := UU_of (mt_5 (List.mem_of_getElem? (i := 160) (by decide +kernel))) (by decide +kernel)
theorem co_X6_remember : Cond.code yX6_remember cX6_remember 2 none ∈ UU := UU_of (mt_5 (List.mem_of_getElem? (i := 161) (by decide +kernel))) (by decide +kernel)
theorem ml_L_134 : Cond.methodLink RL 134 yX6_play ∈ UU := UU_of (mt_5 (List.mem_of_getElem? (i := 162) (by decide +kernel))) (by decide +kernel)
theorem im_X6_play : Cond.instanceMethod yX6_play ∈ UU := UU_of (mt_5 (List.mem_of_getElem? (i := 163) (by decide +kernel))) (by decide +kernel)
theorem se_X6_play : Cond.selects RX6 yX6_play yX6_play ∈ UU := UU_of (mt_5 (List.mem_of_getElem? (i := 164) (by decide +kernel))) (by decide +kernel)
theorem co_X6_play : Cond.code yX6_play cX6_play 3 (some .int) ∈ UU := UU_of (mt_5 (List.mem_of_getElem? (i := 165) (by decide +kernel))) (by decide +kernel)
theorem ml_L_137 : Cond.methodLink RL 137 yX6_draw ∈ UU := UU_of (mt_5 (List.mem_of_getElem? (i := 166) (by decide +kernel))) (by decide +kernel)
theorem im_X6_draw : Cond.instanceMethod yX6_draw ∈ UU := UU_of (mt_5 (List.mem_of_getElem? (i := 167) (by decide +kernel))) (by decide +kernel)
theorem se_X6_draw : Cond.selects RX6 yX6_draw yX6_draw ∈ UU := UU_of (mt_5 (List.mem_of_getElem? (i := 168) (by decide +kernel))) (by decide +kernel)
theorem co_X6_draw : Cond.code yX6_draw cX6_draw 1 (some .int) ∈ UU := UU_of (mt_5 (List.mem_of_getElem? (i := 169) (by decide +kernel))) (by decide +kernel)
theorem ml_L_140 : Cond.methodLink RL 140 yX6_pass ∈ UU := UU_of (mt_5 (List.mem_of_getElem? (i := 170) (by decide +kernel))) (by decide +kernel)
theorem im_X6_pass : Cond.instanceMethod yX6_pass ∈ UU := UU_of (mt_5 (List.mem_of_getElem? (i := 171) (by decide +kernel))) (by decide +kernel)
theorem se_X6_pass : Cond.selects RX6 yX6_pass yX6_pass ∈ UU := UU_of (mt_5 (List.mem_of_getElem? (i := 172) (by decide +kernel))) (by decide +kernel)
theorem co_X6_pass : Cond.code yX6_pass cX6_pass 1 (some .int) ∈ UU := UU_of (mt_5 (List.mem_of_getElem? (i := 173) (by decide +kernel))) (by decide +kernel)
theorem ml_L_143 : Cond.methodLink RL 143 yX6_undo ∈ UU := UU_of (mt_5 (List.mem_of_getElem? (i := 174) (by decide +kernel))) (by decide +kernel)
theorem im_X6_undo : Cond.instanceMethod yX6_undo ∈ UU := UU_of (mt_5 (List.mem_of_getElem? (i := 175) (by decide +kernel))) (by decide +kernel)
theorem se_X6_undo : Cond.selects RX6 yX6_undo yX6_undo ∈ UU := UU_of (mt_5 (List.mem_of_getElem? (i := 176) (by decide +kernel))) (by decide +kernel)
theorem co_X6_undo : Cond.code yX6_undo cX6_undo 1 (some .int) ∈ UU := UU_of (mt_5 (List.mem_of_getElem? (i := 177) (by decide +kernel))) (by decide +kernel)
theorem ml_L_146 : Cond.methodLink RL 146 yX6_why ∈ UU := UU_of (mt_5 (List.mem_of_getElem? (i := 178) (by decide +kernel))) (by decide +kernel)
theorem im_X6_why : Cond.instanceMethod yX6_why ∈ UU := UU_of (mt_5 (List.mem_of_getElem? (i := 179) (by decide +kernel))) (by decide +kernel)
theorem se_X6_why : Cond.selects RX6 yX6_why yX6_why ∈ UU := UU_of (mt_5 (List.mem_of_getElem? (i := 180) (by decide +kernel))) (by decide +kernel)
theorem co_X6_why : Cond.code yX6_why cX6_why 2 (some .int) ∈ UU := UU_of (mt_5 (List.mem_of_getElem? (i := 181) (by decide +kernel))) (by decide +kernel)
theorem ml_L_150 : Cond.methodLink RL 150 yX6_legal ∈ UU := UU_of (mt_5 (List.mem_of_getElem? (i := 182) (by decide +kernel))) (by decide +kernel)
theorem im_X6_legal : Cond.instanceMethod yX6_legal ∈ UU := UU_of (mt_5 (List.mem_of_getElem? (i := 183) (by decide +kernel))) (by decide +kernel)
theorem se_X6_legal : Cond.selects RX6 yX6_legal yX6_legal ∈ UU := UU_of (mt_5 (List.mem_of_getElem? (i := 184) (by decide +kernel))) (by decide +kernel)
theorem co_X6_legal : Cond.code yX6_legal cX6_legal 3 (some .int) ∈ UU := UU_of (mt_5 (List.mem_of_getElem? (i := 185) (by decide +kernel))) (by decide +kernel)
theorem ml_L_154 : Cond.methodLink RL 154 yX6_best ∈ UU := UU_of (mt_5 (List.mem_of_getElem? (i := 186) (by decide +kernel))) (by decide +kernel)
theorem im_X6_best : Cond.instanceMethod yX6_best ∈ UU := UU_of (mt_5 (List.mem_of_getElem? (i := 187) (by decide +kernel))) (by decide +kernel)
theorem se_X6_best : Cond.selects RX6 yX6_best yX6_best ∈ UU := UU_of (mt_5 (List.mem_of_getElem? (i := 188) (by decide +kernel))) (by decide +kernel)
theorem co_X6_best : Cond.code yX6_best cX6_best 1 (some .int) ∈ UU := UU_of (mt_5 (List.mem_of_getElem? (i := 189) (by decide +kernel))) (by decide +kernel)
theorem ml_L_157 : Cond.methodLink RL 157 yX6_chain ∈ UU := UU_of (mt_5 (List.mem_of_getElem? (i := 190) (by decide +kernel))) (by decide +kernel)
theorem im_X6_chain : Cond.instanceMethod yX6_chain ∈ UU := UU_of (mt_5 (List.mem_of_getElem? (i := 191) (by decide +kernel))) (by decide +kernel)
theorem se_X6_chain : Cond.selects RX6 yX6_chain yX6_chain ∈ UU := UU_of (mt_5 (List.mem_of_getElem? (i := 192) (by decide +kernel))) (by decide +kernel)
theorem co_X6_chain : Cond.code yX6_chain cX6_chain 3 (some .int) ∈ UU := UU_of (mt_5 (List.mem_of_getElem? (i := 193) (by decide +kernel))) (by decide +kernel)
theorem cn_X6_233 : Cond.constantLong RX6 233 (6) ∈ UU := UU_of (mt_5 (List.mem_of_getElem? (i := 194) (by decide +kernel))) (by decide +kernel)
theorem ml_X6_235 : Cond.methodLink RX6 235 yX6_longest ∈ UU := UU_of (mt_5 (List.mem_of_getElem? (i := 195) (by decide +kernel))) (by decide +kernel)
theorem im_X6_longest : Cond.instanceMethod yX6_longest ∈ UU := UU_of (mt_5 (List.mem_of_getElem? (i := 197) (by decide +kernel))) (by decide +kernel)
theorem co_X6_longest : Cond.code yX6_longest cX6_longest 7 (some .int) ∈ UU := UU_of (mt_5 (List.mem_of_getElem? (i := 198) (by decide +kernel))) (by decide +kernel)
theorem ml_X6_229 : Cond.methodLink RX6 229 yX6_nextTried ∈ UU := UU_of (mt_5 (List.mem_of_getElem? (i := 199) (by decide +kernel))) (by decide +kernel)
theorem im_X6_nextTried : Cond.instanceMethod yX6_nextTried ∈ UU := UU_of (mt_5 (List.mem_of_getElem? (i := 201) (by decide +kernel))) (by decide +kernel)
theorem co_X6_nextTried : Cond.code yX6_nextTried cX6_nextTried 6 (some .int) ∈ UU := UU_of (mt_5 (List.mem_of_getElem? (i := 202) (by decide +kernel))) (by decide +kernel)
theorem ml_X6_226 : Cond.methodLink RX6 226 yX6_isTried ∈ UU := UU_of (mt_5 (List.mem_of_getElem? (i := 203) (by decide +kernel))) (by decide +kernel)
theorem im_X6_isTried : Cond.instanceMethod yX6_isTried ∈ UU := UU_of (mt_5 (List.mem_of_getElem? (i := 205) (by decide +kernel))) (by decide +kernel)
theorem co_X6_isTried : Cond.code yX6_isTried cX6_isTried 5 (some .boolean) ∈ UU := UU_of (mt_5 (List.mem_of_getElem? (i := 206) (by decide +kernel))) (by decide +kernel)
theorem ml_L_160 : Cond.methodLink RL 160 yX6_reach ∈ UU := UU_of (mt_5 (List.mem_of_getElem? (i := 207) (by decide +kernel))) (by decide +kernel)
theorem im_X6_reach : Cond.instanceMethod yX6_reach ∈ UU := UU_of (mt_5 (List.mem_of_getElem? (i := 208) (by decide +kernel))) (by decide +kernel)
theorem se_X6_reach : Cond.selects RX6 yX6_reach yX6_reach ∈ UU := UU_of (mt_5 (List.mem_of_getElem? (i := 209) (by decide +kernel))) (by decide +kernel)
theorem co_X6_reach : Cond.code yX6_reach cX6_reach 2 (some .int) ∈ UU := UU_of (mt_5 (List.mem_of_getElem? (i := 210) (by decide +kernel))) (by decide +kernel)
theorem ml_X6_238 : Cond.methodLink RX6 238 yX6_reached ∈ UU := UU_of (mt_5 (List.mem_of_getElem? (i := 211) (by decide +kernel))) (by decide +kernel)
theorem st_X6_reached : Cond.static yX6_reached ∈ UU := UU_of (mt_5 (List.mem_of_getElem? (i := 212) (by decide +kernel))) (by decide +kernel)
theorem co_X6_reached : Cond.code yX6_reached cX6_reached 5 (some .int) ∈ UU := UU_of (mt_5 (List.mem_of_getElem? (i := 213) (by decide +kernel))) (by decide +kernel)
theorem ml_L_163 : Cond.methodLink RL 163 yX6_runScript ∈ UU := UU_of (mt_5 (List.mem_of_getElem? (i := 214) (by decide +kernel))) (by decide +kernel)
theorem im_X6_runScript : Cond.instanceMethod yX6_runScript ∈ UU := UU_of (mt_5 (List.mem_of_getElem? (i := 215) (by decide +kernel))) (by decide +kernel)
theorem se_X6_runScript : Cond.selects RX6 yX6_runScript yX6_runScript ∈ UU := UU_of (mt_5 (List.mem_of_getElem? (i := 216) (by decide +kernel))) (by decide +kernel)
theorem co_X6_runScript : Cond.code yX6_runScript cX6_runScript 8 (some .int) ∈ UU := UU_of (mt_5 (List.mem_of_getElem? (i := 217) (by decide +kernel))) (by decide +kernel)
theorem cn_X6_244 : Cond.constantLong RX6 244 (10000) ∈ UU := UU_of (mt_5 (List.mem_of_getElem? (i := 218) (by decide +kernel))) (by decide +kernel)
theorem ml_X6_246 : Cond.methodLink RX6 246 yX6_command ∈ UU := UU_of (mt_5 (List.mem_of_getElem? (i := 219) (by decide +kernel))) (by decide +kernel)
theorem im_X6_command : Cond.instanceMethod yX6_command ∈ UU := UU_of (mt_5 (List.mem_of_getElem? (i := 221) (by decide +kernel))) (by decide +kernel)
theorem co_X6_command : Cond.code yX6_command cX6_command 6 (some .boolean) ∈ UU := UU_of (mt_5 (List.mem_of_getElem? (i := 222) (by decide +kernel))) (by decide +kernel)
theorem ml_X6_241 : Cond.methodLink RX6 241 yX6_playsBest ∈ UU := UU_of (mt_5 (List.mem_of_getElem? (i := 223) (by decide +kernel))) (by decide +kernel)
theorem im_X6_playsBest : Cond.instanceMethod yX6_playsBest ∈ UU := UU_of (mt_5 (List.mem_of_getElem? (i := 225) (by decide +kernel))) (by decide +kernel)
theorem co_X6_playsBest : Cond.code yX6_playsBest cX6_playsBest 4 (some .boolean) ∈ UU := UU_of (mt_5 (List.mem_of_getElem? (i := 226) (by decide +kernel))) (by decide +kernel)
theorem ml_L_167 : Cond.methodLink RL 167 yX6_simulate ∈ UU := UU_of (mt_5 (List.mem_of_getElem? (i := 227) (by decide +kernel))) (by decide +kernel)
theorem im_X6_simulate : Cond.instanceMethod yX6_simulate ∈ UU := UU_of (mt_5 (List.mem_of_getElem? (i := 228) (by decide +kernel))) (by decide +kernel)
theorem se_X6_simulate : Cond.selects RX6 yX6_simulate yX6_simulate ∈ UU := UU_of (mt_5 (List.mem_of_getElem? (i := 229) (by decide +kernel))) (by decide +kernel)
theorem co_X6_simulate : Cond.code yX6_simulate cX6_simulate 7 (some .int) ∈ UU := UU_of (mt_5 (List.mem_of_getElem? (i := 230) (by decide +kernel))) (by decide +kernel)
theorem cn_X6_255 : Cond.constantLong RX6 255 (200) ∈ UU := UU_of (mt_5 (List.mem_of_getElem? (i := 231) (by decide +kernel))) (by decide +kernel)
theorem ml_X6_257 : Cond.methodLink RX6 257 yX6_turnOf ∈ UU := UU_of (mt_5 (List.mem_of_getElem? (i := 232) (by decide +kernel))) (by decide +kernel)
theorem im_X6_turnOf : Cond.instanceMethod yX6_turnOf ∈ UU := UU_of (mt_5 (List.mem_of_getElem? (i := 234) (by decide +kernel))) (by decide +kernel)
theorem co_X6_turnOf : Cond.code yX6_turnOf cX6_turnOf 5 none ∈ UU := UU_of (mt_5 (List.mem_of_getElem? (i := 235) (by decide +kernel))) (by decide +kernel)
theorem ml_X6_249 : Cond.methodLink RX6 249 yX6_legalMany ∈ UU := UU_of (mt_5 (List.mem_of_getElem? (i := 236) (by decide +kernel))) (by decide +kernel)
theorem st_X6_legalMany : Cond.static yX6_legalMany ∈ UU := UU_of (mt_5 (List.mem_of_getElem? (i := 237) (by decide +kernel))) (by decide +kernel)
theorem co_X6_legalMany : Cond.code yX6_legalMany cX6_legalMany 3 (some .int) ∈ UU := UU_of (mt_5 (List.mem_of_getElem? (i := 238) (by decide +kernel))) (by decide +kernel)
theorem ml_X6_252 : Cond.methodLink RX6 252 yX6_legalAt ∈ UU := UU_of (mt_5 (List.mem_of_getElem? (i := 239) (by decide +kernel))) (by decide +kernel)
theorem st_X6_legalAt : Cond.static yX6_legalAt ∈ UU := UU_of (mt_6 (List.mem_of_getElem? (i := 0) (by decide +kernel))) (by decide +kernel)
theorem co_X6_legalAt : Cond.code yX6_legalAt cX6_legalAt 4 (some .int) ∈ UU := UU_of (mt_6 (List.mem_of_getElem? (i := 1) (by decide +kernel))) (by decide +kernel)
theorem ml_L_170 : Cond.methodLink RL 170 yX6_save ∈ UU := UU_of (mt_6 (List.mem_of_getElem? (i := 2) (by decide +kernel))) (by decide +kernel)
theorem im_X6_save : Cond.instanceMethod yX6_save ∈ UU := UU_of (mt_6 (List.mem_of_getElem? (i := 3) (by decide +kernel))) (by decide +kernel)
theorem se_X6_save : Cond.selects RX6 yX6_save yX6_save ∈ UU := UU_of (mt_6 (List.mem_of_getElem? (i := 4) (by decide +kernel))) (by decide +kernel)
theorem co_X6_save : Cond.code yX6_save cX6_save 2 (some .int) ∈ UU := UU_of (mt_6 (List.mem_of_getElem? (i := 5) (by decide +kernel))) (by decide +kernel)
theorem ml_L_173 : Cond.methodLink RL 173 yX6_restore ∈ UU := UU_of (mt_6 (List.mem_of_getElem? (i := 6) (by decide +kernel))) (by decide +kernel)
theorem im_X6_restore : Cond.instanceMethod yX6_restore ∈ UU := UU_of (mt_6 (List.mem_of_getElem? (i := 7) (by decide +kernel))) (by decide +kernel)
theorem se_X6_restore : Cond.selects RX6 yX6_restore yX6_restore ∈ UU := UU_of (mt_6 (List.mem_of_getElem? (i := 8) (by decide +kernel))) (by decide +kernel)
theorem co_X6_restore : Cond.code yX6_restore cX6_restore 2 (some .int) ∈ UU := UU_of (mt_6 (List.mem_of_getElem? (i := 9) (by decide +kernel))) (by decide +kernel)
theorem cn_L_125 : Cond.constantLong RL 125 (4294967295) ∈ UU := UU_of (mt_6 (List.mem_of_getElem? (i := 10) (by decide +kernel))) (by decide +kernel)
theorem ac_long : Cond.arrayClass .long ∈ UU := UU_of (mt_6 (List.mem_of_getElem? (i := 11) (by decide +kernel))) (by decide +kernel)
theorem se_X4_isAllowed : Cond.selects RX4 yX4_isAllowed yX4_isAllowed ∈ UU := UU_of (List.mem_append_left _ (by decide +kernel)) (by decide +kernel)
theorem se_X4_isDigit : Cond.selects RX4 yX4_isDigit yX4_isDigit ∈ UU := UU_of (List.mem_append_left _ (by decide +kernel)) (by decide +kernel)
theorem se_X0_holderOf : Cond.selects RX0 yX0_holderOf yX0_holderOf ∈ UU := UU_of (List.mem_append_left _ (by decide +kernel)) (by decide +kernel)
theorem se_X2_isFree : Cond.selects RX2 yX2_isFree yX2_isFree ∈ UU := UU_of (List.mem_append_left _ (by decide +kernel)) (by decide +kernel)
theorem se_X5_doCommandsOfText : Cond.selects RX5 yX5_doCommandsOfText yX5_doCommandsOfText ∈ UU := UU_of (List.mem_append_left _ (by decide +kernel)) (by decide +kernel)
theorem se_X5_doCommandAt : Cond.selects RX5 yX5_doCommandAt yX5_doCommandAt ∈ UU := UU_of (List.mem_append_left _ (by decide +kernel)) (by decide +kernel)
theorem se_X0_shuffle : Cond.selects RX0 yX0_shuffle yX0_shuffle ∈ UU := UU_of (List.mem_append_left _ (by decide +kernel)) (by decide +kernel)
theorem se_X0_giveTo : Cond.selects RX0 yX0_giveTo yX0_giveTo ∈ UU := UU_of (List.mem_append_left _ (by decide +kernel)) (by decide +kernel)
theorem se_X2_cover : Cond.selects RX2 yX2_cover yX2_cover ∈ UU := UU_of (List.mem_append_left _ (by decide +kernel)) (by decide +kernel)
theorem se_X0_handOf : Cond.selects RX0 yX0_handOf yX0_handOf ∈ UU := UU_of (List.mem_append_left _ (by decide +kernel)) (by decide +kernel)
theorem se_X0_winRound : Cond.selects RX0 yX0_winRound yX0_winRound ∈ UU := UU_of (List.mem_append_left _ (by decide +kernel)) (by decide +kernel)
theorem se_X0_pipsOf : Cond.selects RX0 yX0_pipsOf yX0_pipsOf ∈ UU := UU_of (List.mem_append_left _ (by decide +kernel)) (by decide +kernel)
theorem se_X0_goToNextPlayer : Cond.selects RX0 yX0_goToNextPlayer yX0_goToNextPlayer ∈ UU := UU_of (List.mem_append_left _ (by decide +kernel)) (by decide +kernel)
theorem se_X0_playerWithFewestPips : Cond.selects RX0 yX0_playerWithFewestPips yX0_playerWithFewestPips ∈ UU := UU_of (List.mem_append_left _ (by decide +kernel)) (by decide +kernel)
theorem se_X0_placeInHeap : Cond.selects RX0 yX0_placeInHeap yX0_placeInHeap ∈ UU := UU_of (List.mem_append_left _ (by decide +kernel)) (by decide +kernel)
theorem se_X1_stateOf : Cond.selects RX1 yX1_stateOf yX1_stateOf ∈ UU := UU_of (List.mem_append_left _ (by decide +kernel)) (by decide +kernel)
theorem se_X2_least : Cond.selects RX2 yX2_least yX2_least ∈ UU := UU_of (List.mem_append_left _ (by decide +kernel)) (by decide +kernel)
theorem se_X2_step : Cond.selects RX2 yX2_step yX2_step ∈ UU := UU_of (List.mem_append_left _ (by decide +kernel)) (by decide +kernel)
theorem se_X2_greatest : Cond.selects RX2 yX2_greatest yX2_greatest ∈ UU := UU_of (List.mem_append_left _ (by decide +kernel)) (by decide +kernel)
theorem se_X2_turnsTo : Cond.selects RX2 yX2_turnsTo yX2_turnsTo ∈ UU := UU_of (List.mem_append_left _ (by decide +kernel)) (by decide +kernel)
theorem se_X5_succeeds : Cond.selects RX5 yX5_succeeds yX5_succeeds ∈ UU := UU_of (List.mem_append_left _ (by decide +kernel)) (by decide +kernel)
theorem se_X5_simulateTurn : Cond.selects RX5 yX5_simulateTurn yX5_simulateTurn ∈ UU := UU_of (List.mem_append_left _ (by decide +kernel)) (by decide +kernel)
theorem se_X5_slotOf : Cond.selects RX5 yX5_slotOf yX5_slotOf ∈ UU := UU_of (List.mem_append_left _ (by decide +kernel)) (by decide +kernel)
theorem se_X6_refused : Cond.selects RX6 yX6_refused yX6_refused ∈ UU := UU_of (List.mem_append_left _ (by decide +kernel)) (by decide +kernel)
theorem se_X6_readText : Cond.selects RX6 yX6_readText yX6_readText ∈ UU := UU_of (List.mem_append_left _ (by decide +kernel)) (by decide +kernel)
theorem se_X6_readCommand : Cond.selects RX6 yX6_readCommand yX6_readCommand ∈ UU := UU_of (List.mem_append_left _ (by decide +kernel)) (by decide +kernel)
theorem se_X6_figures : Cond.selects RX6 yX6_figures yX6_figures ∈ UU := UU_of (List.mem_append_left _ (by decide +kernel)) (by decide +kernel)
theorem se_X6_dealOn : Cond.selects RX6 yX6_dealOn yX6_dealOn ∈ UU := UU_of (List.mem_append_left _ (by decide +kernel)) (by decide +kernel)
theorem se_X6_done : Cond.selects RX6 yX6_done yX6_done ∈ UU := UU_of (List.mem_append_left _ (by decide +kernel)) (by decide +kernel)
theorem se_X6_readTile : Cond.selects RX6 yX6_readTile yX6_readTile ∈ UU := UU_of (List.mem_append_left _ (by decide +kernel)) (by decide +kernel)
theorem se_X6_remember : Cond.selects RX6 yX6_remember yX6_remember ∈ UU := UU_of (List.mem_append_left _ (by decide +kernel)) (by decide +kernel)
theorem se_X6_longest : Cond.selects RX6 yX6_longest yX6_longest ∈ UU := UU_of (List.mem_append_left _ (by decide +kernel)) (by decide +kernel)
theorem se_X6_nextTried : Cond.selects RX6 yX6_nextTried yX6_nextTried ∈ UU := UU_of (List.mem_append_left _ (by decide +kernel)) (by decide +kernel)
theorem se_X6_isTried : Cond.selects RX6 yX6_isTried yX6_isTried ∈ UU := UU_of (List.mem_append_left _ (by decide +kernel)) (by decide +kernel)
theorem se_X6_command : Cond.selects RX6 yX6_command yX6_command ∈ UU := UU_of (List.mem_append_left _ (by decide +kernel)) (by decide +kernel)
theorem se_X6_playsBest : Cond.selects RX6 yX6_playsBest yX6_playsBest ∈ UU := UU_of (List.mem_append_left _ (by decide +kernel)) (by decide +kernel)
theorem se_X6_turnOf : Cond.selects RX6 yX6_turnOf yX6_turnOf ∈ UU := UU_of (List.mem_append_left _ (by decide +kernel)) (by decide +kernel)
theorem inX0 : ∀ w ∈ u_ws RX0 TX0 13, w ∈ UU := fun w h => UU_of (of_decide_eq_true (List.all_eq_true.mp (show (u_ws RX0 TX0 13).all (fun w => decide (w ∈ lw_tbl)) = true by decide +kernel) w h)) (List.all_eq_true.mp (show (u_ws RX0 TX0 13).all goodWord = true by decide +kernel) w h)
theorem inX1 : ∀ w ∈ u_ws RX1 TX1 3, w ∈ UU := fun w h => UU_of (of_decide_eq_true (List.all_eq_true.mp (show (u_ws RX1 TX1 3).all (fun w => decide (w ∈ lw_tbl)) = true by decide +kernel) w h)) (List.all_eq_true.mp (show (u_ws RX1 TX1 3).all goodWord = true by decide +kernel) w h)
theorem inX2 : ∀ w ∈ u_ws RX2 TX2 11, w ∈ UU := fun w h => UU_of (of_decide_eq_true (List.all_eq_true.mp (show (u_ws RX2 TX2 11).all (fun w => decide (w ∈ lw_tbl)) = true by decide +kernel) w h)) (List.all_eq_true.mp (show (u_ws RX2 TX2 11).all goodWord = true by decide +kernel) w h)
theorem inX3 : ∀ w ∈ u_ws RX3 TX3 2, w ∈ UU := fun w h => UU_of (of_decide_eq_true (List.all_eq_true.mp (show (u_ws RX3 TX3 2).all (fun w => decide (w ∈ lw_tbl)) = true by decide +kernel) w h)) (List.all_eq_true.mp (show (u_ws RX3 TX3 2).all goodWord = true by decide +kernel) w h)
theorem inX4 : ∀ w ∈ u_ws RX4 TX4 2, w ∈ UU := fun w h => UU_of (of_decide_eq_true (List.all_eq_true.mp (show (u_ws RX4 TX4 2).all (fun w => decide (w ∈ lw_tbl)) = true by decide +kernel) w h)) (List.all_eq_true.mp (show (u_ws RX4 TX4 2).all goodWord = true by decide +kernel) w h)
theorem inX5 : ∀ w ∈ u_ws RX5 TX5 6, w ∈ UU := fun w h => UU_of (of_decide_eq_true (List.all_eq_true.mp (show (u_ws RX5 TX5 6).all (fun w => decide (w ∈ lw_tbl)) = true by decide +kernel) w h)) (List.all_eq_true.mp (show (u_ws RX5 TX5 6).all goodWord = true by decide +kernel) w h)
theorem inX6 : ∀ w ∈ u_ws RX6 TX6 14, w ∈ UU := fun w h => UU_of (of_decide_eq_true (List.all_eq_true.mp (show (u_ws RX6 TX6 14).all (fun w => decide (w ∈ lw_tbl)) = true by decide +kernel) w h)) (List.all_eq_true.mp (show (u_ws RX6 TX6 14).all goodWord = true by decide +kernel) w h)
end
