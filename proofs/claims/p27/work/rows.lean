section
-- ===== PART A: goes FIRST, ahead of the names: the tables' words, and 'selects' of the private methods out of them =====
/-- a private method of a class that the tables say can be made, by its rows of tables_1 -/
def lw_okq (q : MethodName × Nat) : Prop := (q.1.cls ≠ "java/lang/invoke/MethodHandle" ∧ q.1.cls ≠ "java/lang/invoke/VarHandle") ∧ Cond.instantiable q.1.cls q.2 ∈ tables_1 ∧ Cond.privateMethod q.1 ∈ tables_1 ∧ Cond.instanceMethod q.1 ∈ tables_1
theorem lw_p0 : lw_okq (⟨"java/lang/Throwable", "fillInStackTrace", "(I)Ljava/lang/Throwable;"⟩, 6) := ⟨⟨by decide +kernel, by decide +kernel⟩, List.mem_of_getElem? (i := 249) (by decide +kernel), List.mem_of_getElem? (i := 247) (by decide +kernel), List.mem_of_getElem? (i := 248) (by decide +kernel)⟩
theorem lw_p1 : lw_okq (⟨"SpiralDominoes$Text", "isAllowed", "(II)Z"⟩, 2) := ⟨⟨by decide +kernel, by decide +kernel⟩, List.mem_of_getElem? (i := 26) (by decide +kernel), List.mem_of_getElem? (i := 320) (by decide +kernel), List.mem_of_getElem? (i := 321) (by decide +kernel)⟩
theorem lw_p2 : lw_okq (⟨"SpiralDominoes$Text", "isDigit", "(III)Z"⟩, 2) := ⟨⟨by decide +kernel, by decide +kernel⟩, List.mem_of_getElem? (i := 26) (by decide +kernel), List.mem_of_getElem? (i := 327) (by decide +kernel), List.mem_of_getElem? (i := 328) (by decide +kernel)⟩
theorem lw_p3 : lw_okq (⟨"SpiralDominoes", "doCommandsOfText", "()I"⟩, 6) := ⟨⟨by decide +kernel, by decide +kernel⟩, List.mem_of_getElem? (i := 18) (by decide +kernel), List.mem_of_getElem? (i := 349) (by decide +kernel), List.mem_of_getElem? (i := 350) (by decide +kernel)⟩
theorem lw_p4 : lw_okq (⟨"SpiralDominoes", "doCommandAt", "(I)Z"⟩, 6) := ⟨⟨by decide +kernel, by decide +kernel⟩, List.mem_of_getElem? (i := 18) (by decide +kernel), List.mem_of_getElem? (i := 358) (by decide +kernel), List.mem_of_getElem? (i := 359) (by decide +kernel)⟩
theorem lw_p5 : lw_okq (⟨"SpiralDominoes$Game", "shuffle", "(J)V"⟩, 13) := ⟨⟨by decide +kernel, by decide +kernel⟩, List.mem_of_getElem? (i := 40) (by decide +kernel), List.mem_of_getElem? (i := 372) (by decide +kernel), List.mem_of_getElem? (i := 373) (by decide +kernel)⟩
theorem lw_p6 : lw_okq (⟨"SpiralDominoes$Game", "giveTo", "(II)V"⟩, 13) := ⟨⟨by decide +kernel, by decide +kernel⟩, List.mem_of_getElem? (i := 40) (by decide +kernel), List.mem_of_getElem? (i := 378) (by decide +kernel), List.mem_of_getElem? (i := 379) (by decide +kernel)⟩
theorem lw_p7 : lw_okq (⟨"SpiralDominoes$Game", "holderOf", "(I)I"⟩, 13) := ⟨⟨by decide +kernel, by decide +kernel⟩, List.mem_of_getElem? (i := 40) (by decide +kernel), List.mem_of_getElem? (i := 397) (by decide +kernel), List.mem_of_getElem? (i := 398) (by decide +kernel)⟩
theorem lw_p8 : lw_okq (⟨"SpiralDominoes$Line", "isFree", "(II)Z"⟩, 11) := ⟨⟨by decide +kernel, by decide +kernel⟩, List.mem_of_getElem? (i := 46) (by decide +kernel), List.mem_of_getElem? (i := 419) (by decide +kernel), List.mem_of_getElem? (i := 420) (by decide +kernel)⟩
theorem lw_p9 : lw_okq (⟨"SpiralDominoes$Line", "cover", "(II)V"⟩, 11) := ⟨⟨by decide +kernel, by decide +kernel⟩, List.mem_of_getElem? (i := 46) (by decide +kernel), List.mem_of_getElem? (i := 433) (by decide +kernel), List.mem_of_getElem? (i := 434) (by decide +kernel)⟩
theorem lw_p10 : lw_okq (⟨"SpiralDominoes$Game", "handOf", "(I)I"⟩, 13) := ⟨⟨by decide +kernel, by decide +kernel⟩, List.mem_of_getElem? (i := 40) (by decide +kernel), List.mem_of_getElem? (i := 447) (by decide +kernel), List.mem_of_getElem? (i := 448) (by decide +kernel)⟩
theorem lw_p11 : lw_okq (⟨"SpiralDominoes$Game", "winRound", "(I)V"⟩, 13) := ⟨⟨by decide +kernel, by decide +kernel⟩, List.mem_of_getElem? (i := 40) (by decide +kernel), List.mem_of_getElem? (i := 457) (by decide +kernel), List.mem_of_getElem? (i := 458) (by decide +kernel)⟩
theorem lw_p12 : lw_okq (⟨"SpiralDominoes$Game", "pipsOf", "(I)I"⟩, 13) := ⟨⟨by decide +kernel, by decide +kernel⟩, List.mem_of_getElem? (i := 40) (by decide +kernel), List.mem_of_getElem? (i := 464) (by decide +kernel), List.mem_of_getElem? (i := 465) (by decide +kernel)⟩
theorem lw_p13 : lw_okq (⟨"SpiralDominoes$Game", "goToNextPlayer", "()V"⟩, 13) := ⟨⟨by decide +kernel, by decide +kernel⟩, List.mem_of_getElem? (i := 40) (by decide +kernel), List.mem_of_getElem? (i := 470) (by decide +kernel), List.mem_of_getElem? (i := 471) (by decide +kernel)⟩
theorem lw_p14 : lw_okq (⟨"SpiralDominoes$Game", "playerWithFewestPips", "()I"⟩, 13) := ⟨⟨by decide +kernel, by decide +kernel⟩, List.mem_of_getElem? (i := 40) (by decide +kernel), List.mem_of_getElem? (i := 490) (by decide +kernel), List.mem_of_getElem? (i := 491) (by decide +kernel)⟩
theorem lw_p15 : lw_okq (⟨"SpiralDominoes$Game", "placeInHeap", "(I)I"⟩, 13) := ⟨⟨by decide +kernel, by decide +kernel⟩, List.mem_of_getElem? (i := 40) (by decide +kernel), List.mem_of_getElem? (i := 570) (by decide +kernel), List.mem_of_getElem? (i := 571) (by decide +kernel)⟩
def lw_privs_1 : List (MethodName × Nat) := [(⟨"java/lang/Throwable", "fillInStackTrace", "(I)Ljava/lang/Throwable;"⟩, 6), (⟨"SpiralDominoes$Text", "isAllowed", "(II)Z"⟩, 2), (⟨"SpiralDominoes$Text", "isDigit", "(III)Z"⟩, 2), (⟨"SpiralDominoes", "doCommandsOfText", "()I"⟩, 6), (⟨"SpiralDominoes", "doCommandAt", "(I)Z"⟩, 6), (⟨"SpiralDominoes$Game", "shuffle", "(J)V"⟩, 13), (⟨"SpiralDominoes$Game", "giveTo", "(II)V"⟩, 13), (⟨"SpiralDominoes$Game", "holderOf", "(I)I"⟩, 13), (⟨"SpiralDominoes$Line", "isFree", "(II)Z"⟩, 11), (⟨"SpiralDominoes$Line", "cover", "(II)V"⟩, 11), (⟨"SpiralDominoes$Game", "handOf", "(I)I"⟩, 13), (⟨"SpiralDominoes$Game", "winRound", "(I)V"⟩, 13), (⟨"SpiralDominoes$Game", "pipsOf", "(I)I"⟩, 13), (⟨"SpiralDominoes$Game", "goToNextPlayer", "()V"⟩, 13), (⟨"SpiralDominoes$Game", "playerWithFewestPips", "()I"⟩, 13), (⟨"SpiralDominoes$Game", "placeInHeap", "(I)I"⟩, 13)]
theorem lw_r1 : ∀ q ∈ lw_privs_1, lw_okq q := List.forall_mem_cons.mpr ⟨lw_p0, List.forall_mem_cons.mpr ⟨lw_p1, List.forall_mem_cons.mpr ⟨lw_p2, List.forall_mem_cons.mpr ⟨lw_p3, List.forall_mem_cons.mpr ⟨lw_p4, List.forall_mem_cons.mpr ⟨lw_p5, List.forall_mem_cons.mpr ⟨lw_p6, List.forall_mem_cons.mpr ⟨lw_p7, List.forall_mem_cons.mpr ⟨lw_p8, List.forall_mem_cons.mpr ⟨lw_p9, List.forall_mem_cons.mpr ⟨lw_p10, List.forall_mem_cons.mpr ⟨lw_p11, List.forall_mem_cons.mpr ⟨lw_p12, List.forall_mem_cons.mpr ⟨lw_p13, List.forall_mem_cons.mpr ⟨lw_p14, List.forall_mem_cons.mpr ⟨lw_p15, fun _ h => absurd h List.not_mem_nil⟩⟩⟩⟩⟩⟩⟩⟩⟩⟩⟩⟩⟩⟩⟩⟩
theorem lw_p16 : lw_okq (⟨"SpiralDominoes$History", "stateOf", "(I)LSpiralDominoes$Game;"⟩, 3) := ⟨⟨by decide +kernel, by decide +kernel⟩, List.mem_of_getElem? (i := 138) (by decide +kernel), List.mem_of_getElem? (i := 647) (by decide +kernel), List.mem_of_getElem? (i := 648) (by decide +kernel)⟩
theorem lw_p17 : lw_okq (⟨"SpiralDominoes$Line", "least", "(Z)I"⟩, 11) := ⟨⟨by decide +kernel, by decide +kernel⟩, List.mem_of_getElem? (i := 46) (by decide +kernel), List.mem_of_getElem? (i := 738) (by decide +kernel), List.mem_of_getElem? (i := 739) (by decide +kernel)⟩
theorem lw_p18 : lw_okq (⟨"SpiralDominoes$Line", "step", "(IZ)I"⟩, 11) := ⟨⟨by decide +kernel, by decide +kernel⟩, List.mem_of_getElem? (i := 46) (by decide +kernel), List.mem_of_getElem? (i := 742) (by decide +kernel), List.mem_of_getElem? (i := 743) (by decide +kernel)⟩
theorem lw_p19 : lw_okq (⟨"SpiralDominoes$Line", "greatest", "(Z)I"⟩, 11) := ⟨⟨by decide +kernel, by decide +kernel⟩, List.mem_of_getElem? (i := 46) (by decide +kernel), List.mem_of_getElem? (i := 747) (by decide +kernel), List.mem_of_getElem? (i := 748) (by decide +kernel)⟩
theorem lw_p20 : lw_okq (⟨"SpiralDominoes$Line", "turnsTo", "(I)I"⟩, 11) := ⟨⟨by decide +kernel, by decide +kernel⟩, List.mem_of_getElem? (i := 46) (by decide +kernel), List.mem_of_getElem? (i := 752) (by decide +kernel), List.mem_of_getElem? (i := 753) (by decide +kernel)⟩
theorem lw_p21 : lw_okq (⟨"SpiralDominoes", "slotOf", "(I)LSpiralDominoes$Slot;"⟩, 6) := ⟨⟨by decide +kernel, by decide +kernel⟩, List.mem_of_getElem? (i := 18) (by decide +kernel), List.mem_of_getElem? (i := 764) (by decide +kernel), List.mem_of_getElem? (i := 765) (by decide +kernel)⟩
theorem lw_p22 : lw_okq (⟨"SpiralDominoes", "succeeds", "(I)Z"⟩, 6) := ⟨⟨by decide +kernel, by decide +kernel⟩, List.mem_of_getElem? (i := 18) (by decide +kernel), List.mem_of_getElem? (i := 832) (by decide +kernel), List.mem_of_getElem? (i := 833) (by decide +kernel)⟩
theorem lw_p23 : lw_okq (⟨"SpiralDominoes", "simulateTurn", "(I)V"⟩, 6) := ⟨⟨by decide +kernel, by decide +kernel⟩, List.mem_of_getElem? (i := 18) (by decide +kernel), List.mem_of_getElem? (i := 855) (by decide +kernel), List.mem_of_getElem? (i := 856) (by decide +kernel)⟩
def lw_privs_2 : List (MethodName × Nat) := [(⟨"SpiralDominoes$History", "stateOf", "(I)LSpiralDominoes$Game;"⟩, 3), (⟨"SpiralDominoes$Line", "least", "(Z)I"⟩, 11), (⟨"SpiralDominoes$Line", "step", "(IZ)I"⟩, 11), (⟨"SpiralDominoes$Line", "greatest", "(Z)I"⟩, 11), (⟨"SpiralDominoes$Line", "turnsTo", "(I)I"⟩, 11), (⟨"SpiralDominoes", "slotOf", "(I)LSpiralDominoes$Slot;"⟩, 6), (⟨"SpiralDominoes", "succeeds", "(I)Z"⟩, 6), (⟨"SpiralDominoes", "simulateTurn", "(I)V"⟩, 6)]
theorem lw_r2 : ∀ q ∈ lw_privs_2, lw_okq q := List.forall_mem_cons.mpr ⟨lw_p16, List.forall_mem_cons.mpr ⟨lw_p17, List.forall_mem_cons.mpr ⟨lw_p18, List.forall_mem_cons.mpr ⟨lw_p19, List.forall_mem_cons.mpr ⟨lw_p20, List.forall_mem_cons.mpr ⟨lw_p21, List.forall_mem_cons.mpr ⟨lw_p22, List.forall_mem_cons.mpr ⟨lw_p23, fun _ h => absurd h List.not_mem_nil⟩⟩⟩⟩⟩⟩⟩⟩
def lw_privs : List (MethodName × Nat) := lw_privs_1 ++ (lw_privs_2)
def lw_tbl : List Cond := k2_sels lw_privs ++ tables_1
theorem lw_privs_ok : ∀ q ∈ lw_privs, lw_okq q := by
  show ∀ q ∈ lw_privs_1 ++ (lw_privs_2), lw_okq q
  exact List.forall_mem_append.mpr ⟨lw_r1, lw_r2⟩
-- ===== end of PART A; then your names; then what follows =====
/-! ===== BEGIN words of one list among another's, by their places ===== -/
theorem goodIn_r {big : List Cond} (ws : List Cond) (ps : List Nat) (hp : ws = ps.filterMap (fun i => big[i]?)) (h : ws.all goodWord = true) : GoodIn big ws := by
  intro w hw
  have h1 := List.all_eq_true.mp h w hw
  rw [hp] at hw
  obtain ⟨i, -, hi⟩ := List.mem_filterMap.mp hw
  have hm : w ∈ big := by first | exact List.mem_of_getElem? hi | exact List.getElem?_mem hi
  exact ⟨hm, good_of_word h1⟩
theorem goodIn_app {big a b : List Cond} (ha : GoodIn big a) (hb : GoodIn big b) : GoodIn big (a ++ b) := fun w h => (List.mem_append.mp h).elim (ha w) (hb w)
theorem goodIn_ca {big a b : List Cond} {c : Cond} (ha : GoodIn big (c :: a)) (hb : GoodIn big b) : GoodIn big (c :: (a ++ b)) := fun w h => (List.mem_cons.mp h).elim (fun e => ha w (List.mem_cons.mpr (Or.inl e))) (fun h => (List.mem_append.mp h).elim (fun h => ha w (List.mem_cons.mpr (Or.inr h))) (hb w))
theorem goodIn_sub {big ws : List Cond} (hm : ∀ w ∈ ws, w ∈ big) (h : ws.all goodWord = true) : GoodIn big ws := fun w hw => ⟨hm w hw, good_of_word (List.all_eq_true.mp h w hw)⟩
/-! ===== END ===== -/

/-! ===== BEGIN exceptions that leave a method, and their catching by the caller (launches without stack traces) ===== -/
section VXA
/-! The laws vx_back, vx_callV, vx_callS, vx_callSW, vx_throw0, vx_throwS follow proofs of the library, with one case more: JvmDerived/Free/Laws.lean (Back.of_free), Shelf42/LK1.lean (callV, callS), Shelf/KitTraced.lean (throwNew0V, throwNewS). -/
/-- where a method has thrown q: the class by its name, the cell, what was written, the world -/
def vx_T (XC : String → State → State → Prop) (st : State) (q : Addr) (t : State) (mc ms : Nat) (free : Addr → Prop) : Prop :=
  ∃ (E : String) (ce : Cell) (L : List Loc), XC E st t ∧ t.heap[q]? = some ce ∧ ce.vm = .none ∧ st.vm.findClass E = some ce.cls ∧ st.WarmedH t.vm ∧ st.sameButNew ({ t with vm := st.vm } : State) L mc ms ∧ ∀ z ∈ L, free z.base
def vx_Q (Qc : Array Value → State → Outcome → State → Prop) (XC : String → State → State → Prop) (mc ms : Nat) (free : Addr → Prop) : Array Value → State → Outcome → State → Prop := fun a st o t =>
  (Qc a st o t ∧ ∃ L, FrameEnd st o t L mc ms ∧ ∀ q ∈ L, free q.base) ∨ ∃ q, o = .threw q ∧ vx_T XC st q t mc ms free
/-- a callee that returns or throws -/
def vx_Met (l : Launch) (y : MethodName) (ws : List Cond) (rm : Room) (Pc : Array Value → State → Prop) (Qc : Array Value → State → Outcome → State → Prop) (XC : String → State → State → Prop) (mc ms : Nat) (free : Addr → Prop) : Prop :=
  MetFree l y (headSpec ws rm) Pc (fun _ _ _ _ _ => True) (vx_Q Qc XC mc ms free)
def vx_Post (XC : String → State → State → Prop) (mc ms : Nat) (free : Addr → Prop) : Pt → Array Value → Addr → Pt → Prop := fun A a q B =>
  ∃ (g : JFrame) (mk : MethodId) (t : State) (L : List Loc) (E : String) (ce : Cell), B.U.heap = t.heap ∧ B.U.vm = t.vm ∧ XC E (A.U.calling g mk a) t ∧ t.heap[q]? = some ce ∧ ce.vm = .none ∧ A.U.vm.findClass E = some ce.cls ∧ B.locs = A.locs ++ L ∧ (∀ z ∈ L, free z.base) ∧ B.cells = A.cells + mc ∧ B.slots = A.slots + ms
def vx_Back (l : Launch) (R : Room) (p : Program) (e : Env) (below : List Frame) (s : State) (sargs : Array Value) (y : MethodName) (len W9 : Nat)
    (Pre : Pt → Array Value → Prop) (Post : Pt → Array Value → Option Value → Pt → Prop) (PostX : Pt → Array Value → Addr → Pt → Prop) : Prop :=
  ∀ (m : MethodId) (meth : Method) (c : Code) (A : Pt) (g : JFrame) (ig : Instr) (mk : MethodId) (a : Array Value),
    Stand p l e R s m sargs below meth c A.U A.locs A.cells A.slots → g.method = m → g.locals.size = c.maxLocals → decode c.code g.pc = .ok (ig, len) →
    2 * g.monitorRoom + (g.stack.map fun v => v.category).sum ≤ W9 → A.U.methodNamed? y = some mk → Pre A a →
    (∃ (v : Option Value) (B : Pt), Stand p l e R s m sargs below meth c B.U B.locs B.cells B.slots ∧ Post A a v B ∧
      Steps p.tables e below (doInvoke e (A.U.setTop g) [] mk a).1 (B.U.setTop { g with pc := g.pc + len, stack := v.toList ++ g.stack })) ∨
    (∃ (q : Addr) (B : Pt), Stand p l e R s m sargs below meth c B.U B.locs B.cells B.slots ∧ PostX A a q B ∧
      Steps p.tables e below (doInvoke e (A.U.setTop g) [] mk a).1 ((B.U.setTop g).pushFrame (.throwing q)))
section Payer
variable {l : Launch} {R : Room} {p : Program} {e : Env} {below : List Frame} {s : State} {sargs : Array Value} {y : MethodName} {len W9 : Nat}
theorem vx_back {ws : List Cond} {rm : Room} {Pc : Array Value → State → Prop} {Qc : Array Value → State → Outcome → State → Prop} {XC : String → State → State → Prop} {mc ms : Nat} {free : Addr → Prop} {bytes : ByteArray} {maxL : Nat} {ret : Option FieldType}
    (hM : vx_Met l y ws rm Pc Qc XC mc ms free) (hblind : FrameBlind Pc) (hrc : rm.cells = mc) (hrs : rm.slots = ms)
    (hframes : rm.frames + 1 ≤ R.frames) (hlocals : W9 + (maxL + 11) + rm.locals ≤ R.locals)
    (hws : ∀ w ∈ ws, ∀ a' U, s.WarmedH U.vm → w.before a' U = true) (hcode : Cond.code y bytes maxL ret ∈ ws) (hinit : ∀ a' U, s.WarmedH U.vm → (Cond.initialized y.cls).before a' U = true) :
    vx_Back l R p e below s sargs y len W9 (PreOf R mc ms Pc) (PostOf Qc mc ms free) (vx_Post XC mc ms free) := by
  intro m meth c A g ig mk a X hg hsize hdg hW hn hp
  have h1 : (headSpec ws rm).pre.before a A.U = true := atoms_intro fun w hw => hws w hw _ _ X.warmed
  have h2 : (Cond.code y bytes maxL ret).before a A.U = true := hws _ hcode _ _ X.warmed
  have h3 : (Cond.initialized y.cls).before a A.U = true := hinit _ _ X.warmed
  have h4 : A.cells + (headSpec ws rm).room.cells ≤ R.cells := by rw [show (headSpec ws rm).room.cells = mc from hrc]; exact hp.1
  have h5 : A.slots + (headSpec ws rm).room.slots ≤ R.slots := by rw [show (headSpec ws rm).room.slots = ms from hrs]; exact hp.2.1
  have hPc : Pc a (A.U.calling g mk a) := hblind _ _ _ _ hp.2.2
  obtain ⟨U, Ls, c0, s0⟩ := A
  dsimp only [Pt.U, Pt.locs, Pt.cells, Pt.slots] at h1 h2 h3 h4 h5 X hn hPc ⊢
  obtain ⟨methY, cY, hmY, hcY, -, hlY, -, -, -, -⟩ := Cond.code_spec hn h2
  obtain ⟨kY, hkY, -⟩ := className_of_methodNamed hn
  have hinitY : kY.init = .initialized := Cond.initialized_spec (findClass_of_methodNamed hn) hkY h3
  have h : At U g.method c below := by rw [hg]; exact X.here
  have hlocals9 : W9 + (maxL + 11) + (headSpec ws rm).room.locals ≤ R.locals := hlocals
  have happ : (headSpec ws rm).appliesLoose y e.platform (U.calling g mk a) = true :=
    Spec.appliesLoose_calling (g := g) h hdg hn hkY hinitY
      (X.room_calling (g := g) (R' := (headSpec ws rm).room) hsize hmY hcY hframes (by rw [hlY]; omega) h4 h5) h1
  obtain ⟨mid, hmid⟩ := h.above
  have hfr : (U.setTop g).frames = (.java g :: mid) ++ below := by rw [State.frames_setTop' g h.top, hmid]; rfl
  obtain ⟨o, s₂, hsteps, -, hend, hq⟩ := Steps.callFree hM p X.admits X.cas X.clock (acts := []) hfr happ hPc trivial
  have hq' : vx_Q Qc XC mc ms free a (U.calling g mk a) o s₂ := hq
  rw [State.frames_setTop' g h.top] at hend
  obtain ⟨g₀, hg0⟩ := Option.isSome_iff_exists.mp h.top
  obtain ⟨r, hr⟩ := State.topJava?_eq_some.mp hg0
  have hr' : (({ U with heap := s₂.heap, slotsUsed := s₂.slotsUsed } : State).setVm s₂.vm).frames = .java g₀ :: r := hr
  rcases hq' with ⟨hqc, L, hfe, hL⟩ | ⟨q, rfl, E, ce, L, hx, hce, hcv, hcl, hW₂, hsm, hL⟩
  · obtain ⟨⟨v, rfl⟩, hW₂, e2, q2, q3, q4, q5, q6⟩ := id hfe
    have e3 : s₂ = ({ (U.calling g mk a).setFrames s₂.frames with heap := s₂.heap, slotsUsed := s₂.slotsUsed } : State).setVm s₂.vm := by
      have : s₂ = ({ s₂ with vm := (U.calling g mk a).vm } : State).setVm s₂.vm := rfl
      rw [e2] at this
      exact this
    obtain ⟨c₂, i₂, len₂, hc₂, hd₂, hf₂⟩ := hend
    have hW' : U.WarmedH s₂.vm := hW₂
    have hcc : c₂ = c := by
      have h1 : s₂.code? g.method = U.code? g.method := by
        rw [State.code?_eq, State.code?_eq, hW'.alike.method?]
      exact Option.some.inj (hc₂.symm.trans (h1.trans h.code))
    subst hcc
    have hlen : len₂ = len := by rw [hdg] at hd₂; cases hd₂; rfl
    subst hlen
    have hs₂ : s₂ = (({ U with heap := s₂.heap, slotsUsed := s₂.slotsUsed } : State).setVm s₂.vm).setTop { g with pc := g.pc + len₂, stack := v.toList ++ g.stack } := by
      refine e3.trans ?_
      rw [hf₂, State.calling_eq h.top, State.setFrames_setFrames, State.setTop_of_frames _ hr', hr]
      rfl
    have hsame : U.sameButNew ({ U with heap := s₂.heap, slotsUsed := s₂.slotsUsed } : State) L mc ms := by
      refine ⟨?_, q2, q3, q4, q5, q6⟩
      obtain ⟨t, ht, -⟩ := State.frames_cons hr
      show ({ U with heap := s₂.heap, slotsUsed := s₂.slotsUsed } : State) = { U.setFrames U.frames with heap := s₂.heap, slotsUsed := s₂.slotsUsed }
      rw [State.setFrames_self ht]
    subst hg
    refine Or.inl ⟨v, ⟨(({ U with heap := s₂.heap, slotsUsed := s₂.slotsUsed } : State).setVm s₂.vm), Ls ++ L, c0 + mc, s0 + ms⟩,
      ⟨X.admits, X.cas, X.clock, X.frames, X.room, X.hears, X.method, X.code, (X.here.setHeapUsed s₂.heap s₂.slotsUsed).setVm hW'.alike, X.tail, State.WarmedH.trans X.warmed hW', X.limits, X.bytes, X.same.trans (hsame.setVm s.vm)⟩,
      ⟨g, mk, s₂, L, rfl, rfl, hqc, rfl, hL, rfl, rfl⟩, ?_⟩
    show Steps p.tables e below _ ((({ U with heap := s₂.heap, slotsUsed := s₂.slotsUsed } : State).setVm s₂.vm).setTop { g with pc := g.pc + len₂, stack := v.toList ++ g.stack })
    rw [← hs₂]
    exact hsteps
  · obtain ⟨e2, q2, q3, q4, q5, q6⟩ := id hsm
    have e3 : s₂ = ({ (U.calling g mk a).setFrames s₂.frames with heap := s₂.heap, slotsUsed := s₂.slotsUsed } : State).setVm s₂.vm := by
      have : s₂ = ({ s₂ with vm := (U.calling g mk a).vm } : State).setVm s₂.vm := rfl
      rw [e2] at this
      exact this
    have hf₂ : s₂.frames = .throwing q :: .java g :: U.frames.tail := hend
    have hW' : U.WarmedH s₂.vm := hW₂
    have hs₂ : s₂ = ((({ U with heap := s₂.heap, slotsUsed := s₂.slotsUsed } : State).setVm s₂.vm).setTop g).pushFrame (.throwing q) := by
      refine e3.trans ?_
      rw [hf₂, State.calling_eq h.top, State.setFrames_setFrames, State.pushFrame, State.frames_setTop _ hr', State.setTop_of_frames _ hr', State.setFrames_setFrames, hr]
      rfl
    have hsame : U.sameButNew ({ U with heap := s₂.heap, slotsUsed := s₂.slotsUsed } : State) L mc ms := by
      refine ⟨?_, q2, q3, q4, q5, q6⟩
      obtain ⟨t, ht, -⟩ := State.frames_cons hr
      show ({ U with heap := s₂.heap, slotsUsed := s₂.slotsUsed } : State) = { U.setFrames U.frames with heap := s₂.heap, slotsUsed := s₂.slotsUsed }
      rw [State.setFrames_self ht]
    subst hg
    refine Or.inr ⟨q, ⟨(({ U with heap := s₂.heap, slotsUsed := s₂.slotsUsed } : State).setVm s₂.vm), Ls ++ L, c0 + mc, s0 + ms⟩,
      ⟨X.admits, X.cas, X.clock, X.frames, X.room, X.hears, X.method, X.code, (X.here.setHeapUsed s₂.heap s₂.slotsUsed).setVm hW'.alike, X.tail, State.WarmedH.trans X.warmed hW', X.limits, X.bytes, X.same.trans (hsame.setVm s.vm)⟩,
      ⟨g, mk, s₂, L, E, ce, rfl, rfl, hx, hce, hcv, hcl, rfl, hL, rfl, rfl⟩, ?_⟩
    show Steps p.tables e below _ (((({ U with heap := s₂.heap, slotsUsed := s₂.slotsUsed } : State).setVm s₂.vm).setTop g).pushFrame (.throwing q))
    rw [← hs₂]
    exact hsteps
end Payer
section Calls
variable {p : Program} {l : Launch} {e : Env} {R : Room} {s : State} {m : MethodId} {args : Array Value} {below : List Frame} {meth : Method} {c : Code} {T : State} {locs : List Loc} {cells slots : Nat}
theorem vx_callV (X : Stand p l e R s m args below meth c T locs cells slots) (hexec : p.tables.exec = Jvm.exec) {own C : String} {index : Nat} {y : MethodName} {bytes : ByteArray} {maxL : Nat} {ret : Option FieldType}
    (hown : s.vm.findClass own = some m.cls) (hlink : (Cond.methodLink own index y).before args s = true) (hinst : (Cond.instanceMethod y).before args s = true) (hsel : (Cond.selects C y y).before args s = true)
    (hcode : (Cond.code y bytes maxL ret).before args s = true) (hy : y.cls ≠ "java/lang/invoke/MethodHandle" ∧ y.cls ≠ "java/lang/invoke/VarHandle")
    {W9 : Nat} {Pre : Pt → Array Value → Prop} {Post : Pt → Array Value → Option Value → Pt → Prop} {PostX : Pt → Array Value → Addr → Pt → Prop} (hK : vx_Back l R p e below s args y 3 W9 Pre Post PostX)
    {b : Addr} {cellB : Cell} (hcell : T.heap[b]? = some cellB) (hobj : cellB.vm.isStatics = false) (hcls : s.vm.findClass C = some cellB.cls)
    {g : JFrame} (hg : g.method = m) (hsize : g.locals.size = c.maxLocals) {argsL rest : List Value} (hlen : ∀ sig, parseMethodDescriptor y.desc = some sig → argsL.length = sig.parameters.length)
    (hstack : g.stack = argsL.reverse ++ .ref b :: rest) (hW : 2 * g.monitorRoom + (rest.map fun v => v.category).sum ≤ W9) (hdg : decode c.code g.pc = .ok (.invokevirtual index, 3))
    (hpre : ∀ vm₁, s.WarmedH vm₁ → Pre ⟨T.setVm vm₁, locs, cells, slots⟩ (Value.ref b :: argsL).toArray) :
    (∃ (v : Option Value) (vm₁ : Vm) (B : Pt), s.WarmedH vm₁ ∧ Stand p l e R s m args below meth c B.U B.locs B.cells B.slots ∧ Post ⟨T.setVm vm₁, locs, cells, slots⟩ (Value.ref b :: argsL).toArray v B ∧
      ∀ target, Steps p.tables e below (B.U.setTop { g with pc := g.pc + 3, stack := v.toList ++ rest }) target → Steps p.tables e below (T.setTop g) target) ∨
    (∃ (q : Addr) (vm₁ : Vm) (B : Pt), s.WarmedH vm₁ ∧ Stand p l e R s m args below meth c B.U B.locs B.cells B.slots ∧ PostX ⟨T.setVm vm₁, locs, cells, slots⟩ (Value.ref b :: argsL).toArray q B ∧
      Steps p.tables e below (T.setTop g) ((B.U.setTop { g with stack := rest }).pushFrame (.throwing q))) := by
  obtain ⟨mk, methM, hnamed, hmethM, hstM, habM⟩ := Cond.instanceMethod_spec hinst
  obtain ⟨methM', cM, hmethM', -, -, -, -, -, -, hsigM⟩ := Cond.code_spec hnamed hcode
  cases hmethM.symm.trans hmethM'
  obtain ⟨c2, r2, m2, q1, q2, q3, q4, kP, hkP, hkPi⟩ := Cond.selects_spec hsel
  cases hcls.symm.trans q1
  cases (State.methodFound?_of_named hnamed hy).symm.trans q2
  cases hnamed.symm.trans q3
  have hselP : selectMethod e.platform s.vm cellB.cls mk = .method mk := by rw [Launch.admits_selectMethod X.admits]; exact q4
  obtain ⟨vm₁, X₁, hstep₁⟩ := X.invokevirtual hexec hown hlink hnamed hmethM hstM hkP hkPi hy (a := b) (cell := cellB) hcell
    (fun z h => by rw [h] at hobj; cases hobj) hselP hmethM habM hkP hkPi (g := g) hg (argsL := argsL) (rest := rest) (hlen _ hsigM) hstack hdg
  rcases hK m meth c ⟨T.setVm vm₁, locs, cells, slots⟩ { g with stack := rest } (.invokevirtual index) mk (Value.ref b :: argsL).toArray X₁ hg hsize hdg hW (X₁.named hnamed) (hpre vm₁ X₁.warmed) with ⟨v, B, X', hpost, hsteps⟩ | ⟨q, B, X', hpost, hsteps⟩
  · exact Or.inl ⟨v, vm₁, B, X₁.warmed, X', hpost, fun target h => hstep₁ _ fun acts => by rw [doInvoke_state]; exact hsteps.trans h⟩
  · exact Or.inr ⟨q, vm₁, B, X₁.warmed, X', hpost, hstep₁ _ fun acts => by rw [doInvoke_state]; exact hsteps⟩
theorem vx_callS (X : Stand p l e R s m args below meth c T locs cells slots) (hexec : p.tables.exec = Jvm.exec) {own : String} {index : Nat} {y : MethodName} {bytes : ByteArray} {maxL : Nat} {ret : Option FieldType}
    (hown : s.vm.findClass own = some m.cls) (hlink : (Cond.methodLink own index y).before args s = true) (hstat : (Cond.static y).before args s = true) (hinit : (Cond.initialized y.cls).before args s = true)
    (hcode : (Cond.code y bytes maxL ret).before args s = true) (hy : y.cls ≠ "java/lang/invoke/MethodHandle" ∧ y.cls ≠ "java/lang/invoke/VarHandle")
    {W9 : Nat} {Pre : Pt → Array Value → Prop} {Post : Pt → Array Value → Option Value → Pt → Prop} {PostX : Pt → Array Value → Addr → Pt → Prop} (hK : vx_Back l R p e below s args y 3 W9 Pre Post PostX)
    {g : JFrame} (hg : g.method = m) (hsize : g.locals.size = c.maxLocals) {argsL rest : List Value} (hlen : ∀ sig, parseMethodDescriptor y.desc = some sig → argsL.length = sig.parameters.length)
    (hstack : g.stack = argsL.reverse ++ rest) (hW : 2 * g.monitorRoom + (rest.map fun v => v.category).sum ≤ W9) (hdg : decode c.code g.pc = .ok (.invokestatic index, 3))
    (hpre : ∀ vm₁, s.WarmedH vm₁ → Pre ⟨T.setVm vm₁, locs, cells, slots⟩ argsL.toArray) :
    (∃ (v : Option Value) (vm₁ : Vm) (B : Pt), s.WarmedH vm₁ ∧ Stand p l e R s m args below meth c B.U B.locs B.cells B.slots ∧ Post ⟨T.setVm vm₁, locs, cells, slots⟩ argsL.toArray v B ∧
      ∀ target, Steps p.tables e below (B.U.setTop { g with pc := g.pc + 3, stack := v.toList ++ rest }) target → Steps p.tables e below (T.setTop g) target) ∨
    (∃ (q : Addr) (vm₁ : Vm) (B : Pt), s.WarmedH vm₁ ∧ Stand p l e R s m args below meth c B.U B.locs B.cells B.slots ∧ PostX ⟨T.setVm vm₁, locs, cells, slots⟩ argsL.toArray q B ∧
      Steps p.tables e below (T.setTop g) ((B.U.setTop { g with stack := rest }).pushFrame (.throwing q))) := by
  obtain ⟨mk, hnamed⟩ := Cond.code_named hcode
  obtain ⟨methM, cM, hmethM, -, -, -, -, -, -, hsigM⟩ := Cond.code_spec hnamed hcode
  have hstatic : methM.isStatic = true := Cond.static_spec hnamed hmethM hstat
  obtain ⟨kP, hkP, -⟩ := className_of_methodNamed hnamed
  have hinitP : kP.init = .initialized := Cond.initialized_spec (findClass_of_methodNamed hnamed) hkP hinit
  obtain ⟨vm₁, X₁, hstep₁⟩ := X.invokestatic hexec hown hlink hnamed hmethM hstatic hkP hinitP hy (g := g) hg (argsL := argsL) (rest := rest) (hlen _ hsigM) hstack hdg
  rcases hK m meth c ⟨T.setVm vm₁, locs, cells, slots⟩ { g with stack := rest } (.invokestatic index) mk argsL.toArray X₁ hg hsize hdg hW (X₁.named hnamed) (hpre vm₁ X₁.warmed) with ⟨v, B, X', hpost, hsteps⟩ | ⟨q, B, X', hpost, hsteps⟩
  · exact Or.inl ⟨v, vm₁, B, X₁.warmed, X', hpost, fun target h => hstep₁ _ fun acts => by rw [doInvoke_state]; exact hsteps.trans h⟩
  · exact Or.inr ⟨q, vm₁, B, X₁.warmed, X', hpost, hstep₁ _ fun acts => by rw [doInvoke_state]; exact hsteps⟩
end Calls
theorem vx_cls {s : State} {T : State} {vm₁ : Vm} {E : String} {k : ClassId} (hW : s.WarmedH vm₁) (h : (T.setVm vm₁).vm.findClass E = some k) : s.vm.findClass E = some k := by
  have h1 : vm₁.findClass E = some k := h
  rw [hW.alike.findClass] at h1
  exact h1
/-- the method's frame g, with q thrown over it -/
def vx_W (p : Program) (l : Launch) (e : Env) (R : Room) (s : State) (m : MethodId) (args : Array Value) (below : List Frame) (meth : Method) (c : Code) (H : Heap) (locs : List Loc) (cells slots : Nat) (Q : State → Prop) (g : JFrame) (q : Addr) : Prop :=
  ∀ T : State, T.heap = H → Stand p l e R s m args below meth c T locs cells slots → ∃ t, Steps p.tables e below ((T.setTop g).pushFrame (.throwing q)) t ∧ Q t
def vx_Run (p : Program) (l : Launch) (e : Env) (R : Room) (s : State) (m : MethodId) (args : Array Value) (below : List Frame) (meth : Method) (c : Code) (H : Heap) (locs : List Loc) (cells slots mc ms : Nat) (g : JFrame) (rest : List Value) (Qa : State → Outcome → State → Prop) (XC : String → State → State → Prop) (free : Addr → Prop) : Prop :=
  ∀ T : State, T.heap = H → Stand p l e R s m args below meth c T locs cells slots →
    (∃ (v : Option Value) (st₀ t T' : State) (L : List Loc), st₀.heap = H ∧ Stand p l e R s m args below meth c T' (locs ++ L) (cells + mc) (slots + ms) ∧ (∀ q ∈ L, free q.base) ∧ T'.heap = t.heap ∧ T'.vm = t.vm ∧ Qa st₀ (.returned v) t ∧
      Goes p e below T g T' { g with pc := g.pc + 3, stack := v.toList ++ rest }) ∨
    (∃ (q : Addr) (st₀ t T' : State) (L : List Loc) (E : String) (ce : Cell), st₀.heap = H ∧ Stand p l e R s m args below meth c T' (locs ++ L) (cells + mc) (slots + ms) ∧ (∀ z ∈ L, free z.base) ∧ T'.heap = t.heap ∧ T'.vm = t.vm ∧ XC E st₀ t ∧ t.heap[q]? = some ce ∧ ce.vm = .none ∧ s.vm.findClass E = some ce.cls ∧
      Steps p.tables e below (T.setTop g) ((T'.setTop { g with stack := rest }).pushFrame (.throwing q)))
def vx_X {S : Type} (px : S → Prop) (B : String → S → State → Prop) (A : Nat → Prop) : String → State → State → Prop := fun E st t => ∃ u : S, px u ∧ B E u t ∧ va_F A st t
section Runs
variable {p : Program} {l : Launch} {e : Env} {R : Room} {s : State} {m : MethodId} {args : Array Value} {below : List Frame} {meth : Method} {c : Code} {H : Heap} {locs : List Loc} {cells slots : Nat}
variable {y : MethodName} {bytes cc : ByteArray} {maxL nL mc ms n index : Nat} {ret : Option FieldType} {ws : List Cond} {rm : Room} {Pc : Array Value → State → Prop} {Qc : Array Value → State → Outcome → State → Prop} {XC : String → State → State → Prop} {free : Addr → Prop} {Ts : List Cond} {own C : String} {b : Addr} {As rest : List Value} {g : JFrame}
theorem vx_callBack (cb : CallB R s args own index y bytes maxL ret ws rm mc ms n) (hM : vx_Met l y ws rm Pc Qc XC mc ms free) (hbl : FrameBlind Pc) : vx_Back l R p e below s args y 3 8 (PreOf R mc ms Pc) (PostOf Qc mc ms free) (vx_Post XC mc ms free) := by
  obtain ⟨hrc, hrs, hfr, hlo, hws, hcw, -, hini, -⟩ := cb
  exact vx_back (bytes := bytes) (maxL := maxL) (ret := ret) hM hbl hrc hrs hfr hlo hws hcw (fun a' U hW => word_at hW (Or.inl (by first | rfl | simp [Cond.onTables, Cond.keeps, Cond.steady])) hini)
theorem vx_runV (S : CallFix p m c cc nL s args Ts own) (hM : vx_Met l y ws rm Pc Qc XC mc ms free) (cw : CallW R s args own C index y bytes maxL ret ws rm mc ms n) (hp : PreV s H C b Pc As)
    (hg : g.method = m) (hn : As.length = n) (hsize : g.locals.size = nL) (hstack : g.stack = As.reverse ++ .ref b :: rest) (hW : 2 * g.monitorRoom + (rest.map fun v => v.category).sum ≤ 8) (hdg : decode cc g.pc = .ok (.invokevirtual index, 3)) (hf : cells + mc ≤ R.cells ∧ slots + ms ≤ R.slots) :
    vx_Run p l e R s m args below meth c H locs cells slots mc ms g rest (Qc (Value.ref b :: As).toArray) XC free := by
  have hK : vx_Back l R p e below s args y 3 8 (PreOf R mc ms Pc) (PostOf Qc mc ms free) (vx_Post XC mc ms free) := vx_callBack cw.1 hM hp.1
  obtain ⟨⟨-, -, -, -, -, -, hcode, -, hy, hlen, hl⟩, hin, hse⟩ := cw
  obtain ⟨hx, hb, hml, ho, -⟩ := S
  obtain ⟨-, ⟨cellB, hcB, hoB, hclB⟩, hPc⟩ := hp
  intro T hT X
  rcases vx_callV X hx (C := C) (bytes := bytes) (maxL := maxL) (ret := ret) ho hl hin hse hcode hy hK (by rw [hT]; exact hcB) hoB hclB hg (hsize.trans hml.symm) (argsL := As) (rest := rest) (fun sig h => hn.trans (hlen sig h)) hstack hW (by rw [hb]; exact hdg)
    (fun vm₁ hW₁ => ⟨hf.1, hf.2, hPc (T.setVm vm₁) hT hW₁⟩) with ⟨v, vm₁, ⟨U', l2, c2, s2⟩, hW₁, X', ⟨g', mk, t, L, e1, e2, hq, h1, hL, h2, h3⟩, st⟩ | ⟨q, vm₁, ⟨U', l2, c2, s2⟩, hW₁, X', ⟨g', mk, t, L, E, ce, e1, e2, hq, hce, hcv, hcl, h1, hL, h2, h3⟩, st⟩
  · dsimp only [Pt.U, Pt.locs, Pt.cells, Pt.slots] at X' e1 e2 h1 h2 h3 st
    subst h1; subst h2; subst h3
    exact Or.inl ⟨v, (T.setVm vm₁).calling g' mk (Value.ref b :: As).toArray, t, U', L, hT, X', hL, e1, e2, hq, st⟩
  · dsimp only [Pt.U, Pt.locs, Pt.cells, Pt.slots] at X' e1 e2 h1 h2 h3 st hcl
    subst h1; subst h2; subst h3
    exact Or.inr ⟨q, (T.setVm vm₁).calling g' mk (Value.ref b :: As).toArray, t, U', L, E, ce, hT, X', hL, e1, e2, hq, hce, hcv, vx_cls hW₁ hcl, st⟩
theorem vx_runS (S : CallFix p m c cc nL s args Ts own) (hM : vx_Met l y ws rm Pc Qc XC mc ms free) (cw : CallB R s args own index y bytes maxL ret ws rm mc ms n ∧ (Cond.static y).before args s = true) (hp : PreS s H Pc As)
    (hg : g.method = m) (hn : As.length = n) (hsize : g.locals.size = nL) (hstack : g.stack = As.reverse ++ rest) (hW : 2 * g.monitorRoom + (rest.map fun v => v.category).sum ≤ 8) (hdg : decode cc g.pc = .ok (.invokestatic index, 3)) (hf : cells + mc ≤ R.cells ∧ slots + ms ≤ R.slots) :
    vx_Run p l e R s m args below meth c H locs cells slots mc ms g rest (Qc As.toArray) XC free := by
  have hK : vx_Back l R p e below s args y 3 8 (PreOf R mc ms Pc) (PostOf Qc mc ms free) (vx_Post XC mc ms free) := vx_callBack cw.1 hM hp.1
  obtain ⟨⟨-, -, -, -, -, -, hcode, hini, hy, hlen, hl⟩, hstt⟩ := cw
  obtain ⟨hx, hb, hml, ho, -⟩ := S
  intro T hT X
  rcases vx_callS X hx (bytes := bytes) (maxL := maxL) (ret := ret) ho hl hstt hini hcode hy hK hg (hsize.trans hml.symm) (argsL := As) (rest := rest) (fun sig h => hn.trans (hlen sig h)) hstack hW (by rw [hb]; exact hdg)
    (fun vm₁ hW₁ => ⟨hf.1, hf.2, hp.2 (T.setVm vm₁) hT hW₁⟩) with ⟨v, vm₁, ⟨U', l2, c2, s2⟩, hW₁, X', ⟨g', mk, t, L, e1, e2, hq, h1, hL, h2, h3⟩, st⟩ | ⟨q, vm₁, ⟨U', l2, c2, s2⟩, hW₁, X', ⟨g', mk, t, L, E, ce, e1, e2, hq, hce, hcv, hcl, h1, hL, h2, h3⟩, st⟩
  · dsimp only [Pt.U, Pt.locs, Pt.cells, Pt.slots] at X' e1 e2 h1 h2 h3 st
    subst h1; subst h2; subst h3
    exact Or.inl ⟨v, (T.setVm vm₁).calling g' mk As.toArray, t, U', L, hT, X', hL, e1, e2, hq, st⟩
  · dsimp only [Pt.U, Pt.locs, Pt.cells, Pt.slots] at X' e1 e2 h1 h2 h3 st hcl
    subst h1; subst h2; subst h3
    exact Or.inr ⟨q, (T.setVm vm₁).calling g' mk As.toArray, t, U', L, E, ce, hT, X', hL, e1, e2, hq, hce, hcv, vx_cls hW₁ hcl, st⟩
end Runs
section Rows
variable {p : Program} {l : Launch} {e : Env} {R : Room} {s : State} {m : MethodId} {args : Array Value} {below : List Frame} {meth : Method} {c : Code} {H : Heap} {locs : List Loc} {cells slots : Nat} {Q : State → Prop}
variable {mc ms : Nat} {free : Addr → Prop} {A0 A1 : Nat → Prop} {H0 : Heap} {a : Array Value} {pc : Nat} {ls : Array Slot} {st0 rest : List Value}
theorem vx_keep {st₀ t T' : State} {L : List Loc} (h0 : st₀.heap = H) (e1 : T'.heap = t.heap) (hS : va_S A0 H0 H locs) (hA : ∀ q, q < H.size → A1 q → A0 q) (hf : ∀ q, free q → A0 q) (hL : ∀ q ∈ L, free q.base) (hF : va_F A1 st₀ t) :
    H.size ≤ T'.heap.size ∧ (∀ q : Nat, q < H.size → ¬ A1 q → T'.heap[q]? = H[q]?) ∧ va_S A0 H0 T'.heap (locs ++ L) := by
  obtain ⟨hz, hk⟩ := hF
  rw [h0] at hz hk
  exact ⟨by rw [e1]; exact hz, fun q h1 h2 => by rw [e1]; exact hk q h1 h2,
    ⟨Nat.le_trans hS.1 (by rw [e1]; exact hz), fun q h1 h2 => by rw [e1, hk q (Nat.lt_of_lt_of_le h1 hS.1) (fun z => h2 (hA q (Nat.lt_of_lt_of_le h1 hS.1) z))]; exact hS.2.1 q h1 h2, fun q hq => by
      rcases List.mem_append.mp hq with h | h
      · exact hS.2.2 q h
      · exact hf _ (hL q h)⟩⟩
theorem vx_calli {S SX : Type} {post : Int32 → S → Prop} {px : SX → Prop} {B : S → State → Prop} {BX : String → SX → State → Prop} {AX : Nat → Prop} (hr : vx_Run p l e R s m args below meth c H locs cells slots mc ms (F0 m pc ls st0) rest (va_Qi post B A1 a) (vx_X px BX AX) free) (hS : va_S A0 H0 H locs) (hA : ∀ q, q < H.size → A1 q → A0 q) (hf : ∀ q, free q → A0 q) (hAX : ∀ q, q < H.size → AX q → A0 q)
    (kx : ∀ (E : String) (ce : Cell) (q9 : Addr) (u : SX) (t : State) (H1 : Heap) (locs1 : List Loc), t.heap = H1 → s.vm.Alike t.vm → px u → BX E u t → H.size ≤ H1.size → (∀ q : Nat, q < H.size → ¬ AX q → H1[q]? = H[q]?) → va_S A0 H0 H1 locs1 → H1[q9]? = some ce → ce.vm = .none → s.vm.findClass E = some ce.cls → vx_W p l e R s m args below meth c H1 locs1 (cells + mc) (slots + ms) Q (F0 m pc ls rest) q9)
    (kk : ∀ (r : Int32) (u : S) (t : State) (H1 : Heap) (locs1 : List Loc), t.heap = H1 → s.vm.Alike t.vm → post r u → B u t → H.size ≤ H1.size → (∀ q : Nat, q < H.size → ¬ A1 q → H1[q]? = H[q]?) → va_S A0 H0 H1 locs1 → W p l e R s m args below meth c H1 locs1 (cells + mc) (slots + ms) Q (F0 m (pc + 3) ls (.int r :: rest))) : W p l e R s m args below meth c H locs cells slots Q (F0 m pc ls st0) := by
  intro T hT X
  rcases hr T hT X with ⟨v, st₀, t, T', L, h0, X', hL, e1, e2, ⟨⟨r, u, hv, hp, hb⟩, hF⟩, st⟩ | ⟨q, st₀, t, T', L, E, ce, h0, X', hL, e1, e2, ⟨u, hp, hb, hF⟩, hce, hcv, hcl, st⟩
  · cases hv
    obtain ⟨k1, k2, k3⟩ := vx_keep h0 e1 hS hA hf hL hF
    obtain ⟨t2, a1, b1⟩ := kk r u t T'.heap (locs ++ L) e1.symm (by rw [← e2]; exact X'.warmed.alike) hp hb k1 k2 k3 T' rfl X'
    exact ⟨t2, st t2 a1, b1⟩
  · obtain ⟨k1, k2, k3⟩ := vx_keep h0 e1 hS hAX hf hL hF
    obtain ⟨t2, a1, b1⟩ := kx E ce q u t T'.heap (locs ++ L) e1.symm (by rw [← e2]; exact X'.warmed.alike) hp hb k1 k2 k3 (by rw [e1]; exact hce) hcv hcl T' rfl X'
    exact ⟨t2, st.trans a1, b1⟩
theorem vx_calll {S SX : Type} {post : Int64 → S → Prop} {px : SX → Prop} {B : S → State → Prop} {BX : String → SX → State → Prop} {AX : Nat → Prop} (hr : vx_Run p l e R s m args below meth c H locs cells slots mc ms (F0 m pc ls st0) rest (va_Ql post B A1 a) (vx_X px BX AX) free) (hS : va_S A0 H0 H locs) (hA : ∀ q, q < H.size → A1 q → A0 q) (hf : ∀ q, free q → A0 q) (hAX : ∀ q, q < H.size → AX q → A0 q)
    (kx : ∀ (E : String) (ce : Cell) (q9 : Addr) (u : SX) (t : State) (H1 : Heap) (locs1 : List Loc), t.heap = H1 → s.vm.Alike t.vm → px u → BX E u t → H.size ≤ H1.size → (∀ q : Nat, q < H.size → ¬ AX q → H1[q]? = H[q]?) → va_S A0 H0 H1 locs1 → H1[q9]? = some ce → ce.vm = .none → s.vm.findClass E = some ce.cls → vx_W p l e R s m args below meth c H1 locs1 (cells + mc) (slots + ms) Q (F0 m pc ls rest) q9)
    (kk : ∀ (r : Int64) (u : S) (t : State) (H1 : Heap) (locs1 : List Loc), t.heap = H1 → s.vm.Alike t.vm → post r u → B u t → H.size ≤ H1.size → (∀ q : Nat, q < H.size → ¬ A1 q → H1[q]? = H[q]?) → va_S A0 H0 H1 locs1 → W p l e R s m args below meth c H1 locs1 (cells + mc) (slots + ms) Q (F0 m (pc + 3) ls (.long r :: rest))) : W p l e R s m args below meth c H locs cells slots Q (F0 m pc ls st0) := by
  intro T hT X
  rcases hr T hT X with ⟨v, st₀, t, T', L, h0, X', hL, e1, e2, ⟨⟨r, u, hv, hp, hb⟩, hF⟩, st⟩ | ⟨q, st₀, t, T', L, E, ce, h0, X', hL, e1, e2, ⟨u, hp, hb, hF⟩, hce, hcv, hcl, st⟩
  · cases hv
    obtain ⟨k1, k2, k3⟩ := vx_keep h0 e1 hS hA hf hL hF
    obtain ⟨t2, a1, b1⟩ := kk r u t T'.heap (locs ++ L) e1.symm (by rw [← e2]; exact X'.warmed.alike) hp hb k1 k2 k3 T' rfl X'
    exact ⟨t2, st t2 a1, b1⟩
  · obtain ⟨k1, k2, k3⟩ := vx_keep h0 e1 hS hAX hf hL hF
    obtain ⟨t2, a1, b1⟩ := kx E ce q u t T'.heap (locs ++ L) e1.symm (by rw [← e2]; exact X'.warmed.alike) hp hb k1 k2 k3 (by rw [e1]; exact hce) hcv hcl T' rfl X'
    exact ⟨t2, st.trans a1, b1⟩
theorem vx_callf {S SX : Type} {post : UInt32 → S → Prop} {px : SX → Prop} {B : S → State → Prop} {BX : String → SX → State → Prop} {AX : Nat → Prop} (hr : vx_Run p l e R s m args below meth c H locs cells slots mc ms (F0 m pc ls st0) rest (va_Qf post B A1 a) (vx_X px BX AX) free) (hS : va_S A0 H0 H locs) (hA : ∀ q, q < H.size → A1 q → A0 q) (hf : ∀ q, free q → A0 q) (hAX : ∀ q, q < H.size → AX q → A0 q)
    (kx : ∀ (E : String) (ce : Cell) (q9 : Addr) (u : SX) (t : State) (H1 : Heap) (locs1 : List Loc), t.heap = H1 → s.vm.Alike t.vm → px u → BX E u t → H.size ≤ H1.size → (∀ q : Nat, q < H.size → ¬ AX q → H1[q]? = H[q]?) → va_S A0 H0 H1 locs1 → H1[q9]? = some ce → ce.vm = .none → s.vm.findClass E = some ce.cls → vx_W p l e R s m args below meth c H1 locs1 (cells + mc) (slots + ms) Q (F0 m pc ls rest) q9)
    (kk : ∀ (r : UInt32) (u : S) (t : State) (H1 : Heap) (locs1 : List Loc), t.heap = H1 → s.vm.Alike t.vm → post r u → B u t → H.size ≤ H1.size → (∀ q : Nat, q < H.size → ¬ A1 q → H1[q]? = H[q]?) → va_S A0 H0 H1 locs1 → W p l e R s m args below meth c H1 locs1 (cells + mc) (slots + ms) Q (F0 m (pc + 3) ls (.float r :: rest))) : W p l e R s m args below meth c H locs cells slots Q (F0 m pc ls st0) := by
  intro T hT X
  rcases hr T hT X with ⟨v, st₀, t, T', L, h0, X', hL, e1, e2, ⟨⟨r, u, hv, hp, hb⟩, hF⟩, st⟩ | ⟨q, st₀, t, T', L, E, ce, h0, X', hL, e1, e2, ⟨u, hp, hb, hF⟩, hce, hcv, hcl, st⟩
  · cases hv
    obtain ⟨k1, k2, k3⟩ := vx_keep h0 e1 hS hA hf hL hF
    obtain ⟨t2, a1, b1⟩ := kk r u t T'.heap (locs ++ L) e1.symm (by rw [← e2]; exact X'.warmed.alike) hp hb k1 k2 k3 T' rfl X'
    exact ⟨t2, st t2 a1, b1⟩
  · obtain ⟨k1, k2, k3⟩ := vx_keep h0 e1 hS hAX hf hL hF
    obtain ⟨t2, a1, b1⟩ := kx E ce q u t T'.heap (locs ++ L) e1.symm (by rw [← e2]; exact X'.warmed.alike) hp hb k1 k2 k3 (by rw [e1]; exact hce) hcv hcl T' rfl X'
    exact ⟨t2, st.trans a1, b1⟩
theorem vx_calld {S SX : Type} {post : UInt64 → S → Prop} {px : SX → Prop} {B : S → State → Prop} {BX : String → SX → State → Prop} {AX : Nat → Prop} (hr : vx_Run p l e R s m args below meth c H locs cells slots mc ms (F0 m pc ls st0) rest (va_Qd post B A1 a) (vx_X px BX AX) free) (hS : va_S A0 H0 H locs) (hA : ∀ q, q < H.size → A1 q → A0 q) (hf : ∀ q, free q → A0 q) (hAX : ∀ q, q < H.size → AX q → A0 q)
    (kx : ∀ (E : String) (ce : Cell) (q9 : Addr) (u : SX) (t : State) (H1 : Heap) (locs1 : List Loc), t.heap = H1 → s.vm.Alike t.vm → px u → BX E u t → H.size ≤ H1.size → (∀ q : Nat, q < H.size → ¬ AX q → H1[q]? = H[q]?) → va_S A0 H0 H1 locs1 → H1[q9]? = some ce → ce.vm = .none → s.vm.findClass E = some ce.cls → vx_W p l e R s m args below meth c H1 locs1 (cells + mc) (slots + ms) Q (F0 m pc ls rest) q9)
    (kk : ∀ (r : UInt64) (u : S) (t : State) (H1 : Heap) (locs1 : List Loc), t.heap = H1 → s.vm.Alike t.vm → post r u → B u t → H.size ≤ H1.size → (∀ q : Nat, q < H.size → ¬ A1 q → H1[q]? = H[q]?) → va_S A0 H0 H1 locs1 → W p l e R s m args below meth c H1 locs1 (cells + mc) (slots + ms) Q (F0 m (pc + 3) ls (.double r :: rest))) : W p l e R s m args below meth c H locs cells slots Q (F0 m pc ls st0) := by
  intro T hT X
  rcases hr T hT X with ⟨v, st₀, t, T', L, h0, X', hL, e1, e2, ⟨⟨r, u, hv, hp, hb⟩, hF⟩, st⟩ | ⟨q, st₀, t, T', L, E, ce, h0, X', hL, e1, e2, ⟨u, hp, hb, hF⟩, hce, hcv, hcl, st⟩
  · cases hv
    obtain ⟨k1, k2, k3⟩ := vx_keep h0 e1 hS hA hf hL hF
    obtain ⟨t2, a1, b1⟩ := kk r u t T'.heap (locs ++ L) e1.symm (by rw [← e2]; exact X'.warmed.alike) hp hb k1 k2 k3 T' rfl X'
    exact ⟨t2, st t2 a1, b1⟩
  · obtain ⟨k1, k2, k3⟩ := vx_keep h0 e1 hS hAX hf hL hF
    obtain ⟨t2, a1, b1⟩ := kx E ce q u t T'.heap (locs ++ L) e1.symm (by rw [← e2]; exact X'.warmed.alike) hp hb k1 k2 k3 (by rw [e1]; exact hce) hcv hcl T' rfl X'
    exact ⟨t2, st.trans a1, b1⟩
theorem vx_callv {S SX : Type} {post : S → Prop} {px : SX → Prop} {B : S → State → Prop} {BX : String → SX → State → Prop} {AX : Nat → Prop} (hr : vx_Run p l e R s m args below meth c H locs cells slots mc ms (F0 m pc ls st0) rest (va_Qv post B A1 a) (vx_X px BX AX) free) (hS : va_S A0 H0 H locs) (hA : ∀ q, q < H.size → A1 q → A0 q) (hf : ∀ q, free q → A0 q) (hAX : ∀ q, q < H.size → AX q → A0 q)
    (kx : ∀ (E : String) (ce : Cell) (q9 : Addr) (u : SX) (t : State) (H1 : Heap) (locs1 : List Loc), t.heap = H1 → s.vm.Alike t.vm → px u → BX E u t → H.size ≤ H1.size → (∀ q : Nat, q < H.size → ¬ AX q → H1[q]? = H[q]?) → va_S A0 H0 H1 locs1 → H1[q9]? = some ce → ce.vm = .none → s.vm.findClass E = some ce.cls → vx_W p l e R s m args below meth c H1 locs1 (cells + mc) (slots + ms) Q (F0 m pc ls rest) q9)
    (kk : ∀ (u : S) (t : State) (H1 : Heap) (locs1 : List Loc), t.heap = H1 → s.vm.Alike t.vm → post u → B u t → H.size ≤ H1.size → (∀ q : Nat, q < H.size → ¬ A1 q → H1[q]? = H[q]?) → va_S A0 H0 H1 locs1 → W p l e R s m args below meth c H1 locs1 (cells + mc) (slots + ms) Q (F0 m (pc + 3) ls (rest))) : W p l e R s m args below meth c H locs cells slots Q (F0 m pc ls st0) := by
  intro T hT X
  rcases hr T hT X with ⟨v, st₀, t, T', L, h0, X', hL, e1, e2, ⟨⟨u, hv, hp, hb⟩, hF⟩, st⟩ | ⟨q, st₀, t, T', L, E, ce, h0, X', hL, e1, e2, ⟨u, hp, hb, hF⟩, hce, hcv, hcl, st⟩
  · cases hv
    obtain ⟨k1, k2, k3⟩ := vx_keep h0 e1 hS hA hf hL hF
    obtain ⟨t2, a1, b1⟩ := kk u t T'.heap (locs ++ L) e1.symm (by rw [← e2]; exact X'.warmed.alike) hp hb k1 k2 k3 T' rfl X'
    exact ⟨t2, st t2 a1, b1⟩
  · obtain ⟨k1, k2, k3⟩ := vx_keep h0 e1 hS hAX hf hL hF
    obtain ⟨t2, a1, b1⟩ := kx E ce q u t T'.heap (locs ++ L) e1.symm (by rw [← e2]; exact X'.warmed.alike) hp hb k1 k2 k3 (by rw [e1]; exact hce) hcv hcl T' rfl X'
    exact ⟨t2, st.trans a1, b1⟩
/-- caught by the row x of this method's table; the rows ahead don't take it -/
theorem vx_catch {own name : String} {E : String} {ce : Cell} {q : Addr} (hown : s.vm.findClass own = some m.cls) (pre : List ExceptionTableEntry) (x : ExceptionTableEntry) (suf : List ExceptionTableEntry) (hsplit : c.exceptionTable.toList = pre ++ x :: suf)
    (hpass : ∀ z ∈ pre, covers z pc = false ∨ (z.catchType ≠ 0 ∧ ∃ nm : String, (Cond.classLink own z.catchType nm).before args s = true ∧ va_Nc E nm s)) (hx : covers x pc = true) (h0 : x.catchType ≠ 0)
    (hlink : (Cond.classLink own x.catchType name).before args s = true) (hcast : (Cond.castable E name).before args s = true) (hcell : H[q]? = some ce) (hv : ce.vm = .none) (hcl : s.vm.findClass E = some ce.cls)
    (kk : W p l e R s m args below meth c H locs cells slots Q (F0 m x.handlerPc ls [.ref q])) : vx_W p l e R s m args below meth c H locs cells slots Q (F0 m pc ls rest) q := by
  intro T hT X
  have hpl : e.platform.magicAccessors = ({} : Platform).magicAccessors := by rw [X.admits.platform]
  obtain ⟨c3, c4, hc3, hc4, hasg⟩ := Cond.castable_spec hcast
  cases Option.some.inj (hc3.symm.trans hcl)
  obtain ⟨c5, hc5, hcl5⟩ := Cond.classLink_spec hown hlink e.platform hpl
  cases Option.some.inj (hc4.symm.trans hc5)
  obtain ⟨vm', X', st⟩ := X.thenCaughtThrough q (g := F0 m pc ls rest) rfl (Steps.refl _) (by rw [hT]; exact hcell) (by rw [hv]; rfl) (by obtain ⟨k9, h9, -⟩ := Vm.findClass_spec hcl; exact ⟨k9, h9⟩) pre x suf hsplit
    (fun z hz => by
      rcases hpass z hz with h | ⟨hz0, nm, hl1, hn1⟩
      · exact Or.inl h
      · obtain ⟨c6, hc6, hcl6⟩ := Cond.classLink_spec hown hl1 e.platform hpl
        obtain ⟨a8, b8, h1, h2, h3⟩ := hn1
        cases Option.some.inj (h1.symm.trans hcl)
        cases Option.some.inj (h2.symm.trans hc6)
        exact Or.inr ⟨hz0, _, hcl6, h3⟩) hx (Or.inr ⟨h0, c4, hcl5, hasg⟩)
  obtain ⟨t, a1, b1⟩ := kk (T.setVm vm') hT X'
  exact ⟨t, st.trans a1, b1⟩
end Rows
section Ends
variable {p : Program} {l : Launch} {e : Env} {R : Room} {s : State} {m : MethodId} {args : Array Value} {below : List Frame} {meth : Method} {c : Code} {H : Heap} {locs : List Loc} {cells slots : Nat} {Q : State → Prop}
variable {mc ms : Nat} {free : Addr → Prop} {A0 A1 : Nat → Prop} {H0 : Heap} {a : Array Value} {ls : Array Slot} {st0 rest : List Value}
variable {Qc : Array Value → State → Outcome → State → Prop} {XC : String → State → State → Prop}
/-- what a body that may throw owes at its end -/
def vx_MQ (below : List Frame) (Qc : Array Value → State → Outcome → State → Prop) (XC : String → State → State → Prop) (a : Array Value) (s : State) (mc ms : Nat) (free : Addr → Prop) : State → Prop := fun t =>
  ∃ o, t.status = .running ∧ Ended t below o ∧ vx_Q Qc XC mc ms free a s o t
theorem vx_ret {g : JFrame} {mc ms : Nat} (k : W p l e R s m args below meth c H locs cells slots (MQ below Qc args s mc ms free) g) : W p l e R s m args below meth c H locs cells slots (vx_MQ below Qc XC args s mc ms free) g := by
  intro T hT X
  obtain ⟨t, a1, o, b1, b2, b3, b4⟩ := k T hT X
  exact ⟨t, a1, o, b1, b2, Or.inl ⟨b3, b4⟩⟩
/-- not caught here: it goes on to the caller -/
theorem vx_widen {g : JFrame} {q : Addr} {k n : Nat} (h1 : cells ≤ k) (h2 : slots ≤ n) (kk : vx_W p l e R s m args below meth c H locs k n Q g q) : vx_W p l e R s m args below meth c H locs cells slots Q g q := fun T hT X => kk T hT (stand_widen X h1 h2)
theorem vx_out {pc : Nat} {E : String} {ce : Cell} {q : Addr} {mc ms : Nat} (hout : ∀ x ∈ c.exceptionTable.toList, covers x pc = false) (hlocks : meth.locks = false) (hcell : H[q]? = some ce) (hv : ce.vm = .none) (hcl : s.vm.findClass E = some ce.cls)
    (hx : ∀ t : State, t.heap = H → s.vm.Alike t.vm → XC E s t) (hf : ∀ z ∈ locs, free z.base) (hc : cells ≤ mc) (hs : slots ≤ ms) :
    vx_W p l e R s m args below meth c H locs cells slots (vx_MQ below Qc XC args s mc ms free) (F0 m pc ls rest) q := by
  intro T hT X
  obtain ⟨st1, hrun, hend, hW, hsm⟩ := X.leaveThrown q (g := F0 m pc ls rest) rfl rfl rfl hout hlocks
  have hcell9 : (T.setFrames (.throwing q :: below)).heap[q]? = some ce := by
    show T.heap[q]? = some ce
    rw [hT]; exact hcell
  exact ⟨_, st1, .threw q, hrun, hend, Or.inr ⟨q, rfl, E, ce, locs, hx _ hT hW.alike, hcell9, hv, hcl, hW, hsm.mono hc hs, hf⟩⟩
theorem vx_frame {U : State} {k n : Nat} (h : s.sameButNew ({ U with vm := s.vm } : State) locs k n) : s.heap.size ≤ U.heap.size ∧ ∀ q : Nat, q < s.heap.size → (∀ z ∈ locs, z.base ≠ q) → U.heap[q]? = s.heap[q]? := by
  obtain ⟨-, h2, -, -, -, h6⟩ := h
  refine ⟨h2, fun q hq hz => ?_⟩
  obtain ⟨c9, e1, e2, e3, e4⟩ := h6 q _ (Array.getElem?_eq_getElem hq)
  have hs : c9.slots = (s.heap[q]).slots := Array.ext_getElem? fun i => e4 i fun hm => hz _ hm rfl
  have h9 : c9 = s.heap[q] := by
    rw [hs] at e2
    exact e2
  have e5 : U.heap[q]? = some c9 := e1
  rw [e5, h9, Array.getElem?_eq_getElem hq]
/-- the words of a throw but the four that speak of the heap -/
def vx_no (w : Cond) : Bool := decide (w ≠ .isRef (.static Bundle.tN "UNASSIGNED_STACK" Bundle.steD)) && decide (w ≠ .isRef (.static Bundle.tN "SUPPRESSED_SENTINEL" Bundle.listD)) && decide (w ≠ .laysStatic Bundle.tN "UNASSIGNED_STACK" Bundle.steD) && decide (w ≠ .laysStatic Bundle.tN "SUPPRESSED_SENTINEL" Bundle.listD)
def vx_at0 (own : String) (ic : Nat) (X : String) (names : List String) : List Cond := (Bundle.ownAtoms0 own ic X names).filter vx_no
def vx_atS (own : String) (ic : Nat) (X : String) (names : List String) : List Cond := (Bundle.ownAtoms own ic X names).filter vx_no
/-- a word that the tables alone decide, or a good one -/
def vx_ot (w : Cond) : Bool := w.onTables || goodWord w
theorem vx_ot_at {args a' : Array Value} {s U : State} {w : Cond} (hW : s.WarmedH U.vm) (hvm : s.vm = U.vm) (hg : vx_ot w = true) (h : w.before args s = true) : w.before a' U = true := by
  simp only [vx_ot, Bool.or_eq_true] at hg
  rcases hg with hg | hg
  · exact va_tabs hg hvm h
  · exact word_at hW (good_of_word hg) h
/-- a list's words: the good ones out of the method's own list, the others by premises of their own -/
theorem vx_hat {args : Array Value} {s : State} {L B : List Cond} (h1 : ∀ w ∈ L.filter goodWord, w.before args s = true) (h2 : ∀ w ∈ L.filter (fun w => !goodWord w), w ∈ B) (h3 : ∀ w ∈ B, w.before args s = true) : ∀ w ∈ L, w.before args s = true := by
  intro w hw
  by_cases g : goodWord w = true
  · exact h1 w (List.mem_filter.mpr ⟨hw, g⟩)
  · refine h3 w (h2 w (List.mem_filter.mpr ⟨hw, ?_⟩))
    show (!goodWord w) = true
    cases hgw : goodWord w
    · rfl
    · exact absurd hgw g
theorem vx_c {args : Array Value} {s : State} {w : Cond} {B : List Cond} (h : w.before args s = true) (t : ∀ w ∈ B, w.before args s = true) : ∀ w' ∈ w :: B, w'.before args s = true := fun w' h' => (List.mem_cons.mp h').elim (fun e => by rw [e]; exact h) (t w')
theorem vx_n {args : Array Value} {s : State} : ∀ w ∈ ([] : List Cond), w.before args s = true := fun _ h => nomatch h
theorem vx_own {args : Array Value} {s : State} {L : List Cond} (h1 : ∀ w ∈ L.filter vx_no, w.before args s = true)
    (hU : (Cond.isRef (.static Bundle.tN "UNASSIGNED_STACK" Bundle.steD)).before args s = true) (hN : (Cond.isRef (.static Bundle.tN "SUPPRESSED_SENTINEL" Bundle.listD)).before args s = true)
    (lU : (Cond.laysStatic Bundle.tN "UNASSIGNED_STACK" Bundle.steD).before args s = true) (lN : (Cond.laysStatic Bundle.tN "SUPPRESSED_SENTINEL" Bundle.listD).before args s = true) : ∀ w ∈ L, w.before args s = true := by
  intro w hw
  by_cases e1 : w = .isRef (.static Bundle.tN "UNASSIGNED_STACK" Bundle.steD)
  · rw [e1]; exact hU
  · by_cases e2 : w = .isRef (.static Bundle.tN "SUPPRESSED_SENTINEL" Bundle.listD)
    · rw [e2]; exact hN
    · by_cases e3 : w = .laysStatic Bundle.tN "UNASSIGNED_STACK" Bundle.steD
      · rw [e3]; exact lU
      · by_cases e4 : w = .laysStatic Bundle.tN "SUPPRESSED_SENTINEL" Bundle.listD
        · rw [e4]; exact lN
        · exact h1 w (List.mem_filter.mpr ⟨hw, by unfold vx_no; rw [decide_eq_true e1, decide_eq_true e2, decide_eq_true e3, decide_eq_true e4]; rfl⟩)
/-- where a static field lies, its class's statics cell in H -/
def vx_L (C n d : String) (A : Nat → Prop) (U : State) (H : Heap) : Prop := ∃ (c : ClassId) (k : Class) (i : Nat) (f : Field) (a : Nat) (cell : Cell), U.vm.findClass C = some c ∧ U.fieldFound? C n d = some (c, k, i, f) ∧ f.isStatic = true ∧ k.statics = some a ∧ H[a]? = some cell ∧ cell.vm.isStatics = true ∧ cell.cls = c ∧ f.slot < cell.slots.size ∧ k.staticTypes[f.slot]? = some f.type ∧ ¬ A a
theorem vx_L.moved {C n d : String} {A : Nat → Prop} {u U : State} {H : Heap} (hvm : u.vm.Alike U.vm) (h : vx_L C n d A u H) : vx_L C n d A U H := by
  obtain ⟨c, k, i, f, a, cell, h1, h2, h3, h4, h5, h6, h7, h8, h9, h10⟩ := h
  obtain ⟨k', hi', he⟩ := State.fieldFound?_setVm hvm h2
  exact ⟨c, k', i, f, a, cell, by rw [hvm.findClass]; exact h1, hi', h3, by rw [he]; exact h4, h5, h6, h7, h8, by rw [he]; exact h9, h10⟩
theorem vx_L.kept {C n d : String} {A : Nat → Prop} {U : State} {H H1 : Heap} (h : vx_L C n d A U H) (hq : ∀ a : Nat, a < H.size → ¬ A a → H1[a]? = H[a]?) : vx_L C n d A U H1 := by
  obtain ⟨c, k, i, f, a, cell, h1, h2, h3, h4, h5, h6, h7, h8, h9, h10⟩ := h
  exact ⟨c, k, i, f, a, cell, h1, h2, h3, h4, by rw [hq a (Array.getElem?_eq_some_iff.mp h5).1 h10]; exact h5, h6, h7, h8, h9, h10⟩
theorem vx_L.narrow {C n d : String} {A B : Nat → Prop} {U : State} {H : Heap} (h : vx_L C n d A U H) (hAB : ∀ q, B q → A q) : vx_L C n d B U H := by
  obtain ⟨c, k, i, f, a, cell, h1, h2, h3, h4, h5, h6, h7, h8, h9, h10⟩ := h
  exact ⟨c, k, i, f, a, cell, h1, h2, h3, h4, h5, h6, h7, h8, h9, fun z => h10 (hAB _ z)⟩
theorem vx_L.word {C n d : String} {A : Nat → Prop} {s : State} {args : Array Value} (h : vx_L C n d A s s.heap) : (Cond.laysStatic C n d).before args s = true := by
  obtain ⟨c, k, i, f, a, cell, h1, h2, h3, h4, h5, h6, h7, h8, h9, -⟩ := h
  show (Cond.laysStatic C n d).holds args s none s [] = true
  exact Cond.laysStatic_of h1 h2 h3 h4 h5 h6 h7 h8 h9
/-- .. and what it holds: null or some reference -/
def vx_Zq (C n d : String) (A : Nat → Prop) (U : State) (H : Heap) : Prop := va_Zq C n d A U H ∧ vx_L C n d A U H
theorem vx_Zq.moved {C n d : String} {A : Nat → Prop} {u U : State} {H : Heap} (hvm : u.vm.Alike U.vm) (h : vx_Zq C n d A u H) : vx_Zq C n d A U H := ⟨va_Zq.moved hvm h.1, vx_L.moved hvm h.2⟩
theorem vx_Zq.kept {C n d : String} {A : Nat → Prop} {U : State} {H H1 : Heap} (h : vx_Zq C n d A U H) (hq : ∀ a : Nat, a < H.size → ¬ A a → H1[a]? = H[a]?) : vx_Zq C n d A U H1 := ⟨va_Zq.kept h.1 hq, vx_L.kept h.2 hq⟩
theorem vx_Zq.narrow {C n d : String} {A B : Nat → Prop} {U : State} {H : Heap} (h : vx_Zq C n d A U H) (hAB : ∀ q, B q → A q) : vx_Zq C n d B U H := ⟨va_Zq.narrow h.1 hAB, vx_L.narrow h.2 hAB⟩
theorem vx_Zqof {args : Array Value} {s : State} {C n d : String} {A : Nat → Prop} (hl : (Cond.laysStatic C n d).before args s = true) (hini : (Cond.initialized C).before args s = true) (h : (Cond.isRef (.static C n d)).before args s = true) (hA : ∀ a : Nat, a < s.heap.size → ¬ A a) : vx_Zq C n d A s s.heap := by
  refine ⟨va_Zqof hl hini h hA, ?_⟩
  obtain ⟨c, k, i, f, a, cell, h1, h2, h3, h4, h5, h6, h7, h8, h9⟩ := Cond.laysStatic_spec hl
  exact ⟨c, k, i, f, a, cell, h1, h2, h3, h4, h5, h6, h7, h8, h9, hA a (Array.getElem?_eq_some_iff.mp h5).1⟩
theorem vx_isRef {C n d : String} {v : Value} {A : Nat → Prop} {s : State} {args : Array Value} (h : va_Z C n d v A s s.heap) (hv : v.isRef = true) : (Cond.isRef (.static C n d)).before args s = true := by
  obtain ⟨cf, kf, fi, f, a, cell, h1, h2, h3, h4, h5, h6, h7, -⟩ := h
  have he : (Term.static C n d).eval args s none [] s = some v := by
    simp [Term.eval, State.fieldNamed?, h1, h2, h4, h5, h6, h7]
  simp only [Cond.before, Cond.holds, Cond.value, he]
  cases v <;> simp_all [Value.isRef]
theorem vx_isRefq {C n d : String} {A : Nat → Prop} {s : State} {args : Array Value} (h : va_Zq C n d A s s.heap) : (Cond.isRef (.static C n d)).before args s = true := by
  rcases h with h | ⟨t, h⟩
  · exact vx_isRef h rfl
  · exact vx_isRef h rfl
/-- the same frame, seen from here: as if the method were called anew in this heap -/
theorem vx_rebase {T : State} (X : Stand p l e R s m args below meth c T locs cells slots) {R' : Room} (hf : R'.frames ≤ R.frames) (hl : R'.locals ≤ R.locals) (hc : cells + R'.cells ≤ R.cells) (hs : slots + R'.slots ≤ R.slots) :
    Stand p l e R' ((T.setVm s.vm).setFrames (.invoking m args :: below)) m args below meth c T [] 0 0 := by
  have htop : (T.setVm s.vm).topJava?.isSome := X.here.top
  have hF : ((T.setVm s.vm).setFrames (.invoking m args :: below)).frames = .invoking m args :: below := State.frames_setFrames _ (State.cur_lt_of_top htop)
  obtain ⟨g₀, hg0⟩ := Option.isSome_iff_exists.mp htop
  obtain ⟨r, hr⟩ := State.topJava?_eq_some.mp hg0
  have hl9 : e.platform.stackLimits (T.setVm s.vm).me = e.platform.stackLimits s.me := X.limits
  have hb9 : (T.setVm s.vm).me.stackBytes = s.me.stackBytes := X.bytes
  refine ⟨X.admits, X.cas, X.clock, hF, ?_, X.hears, X.method, X.code, X.here, X.tail, X.warmed, ?_, ?_, ?_⟩
  · have h := X.room
    have hU : ((T.setVm s.vm).setFrames (.invoking m args :: below)).localsInUse = s.localsInUse := by
      rw [State.localsInUse_invoking hF (meth := meth) (c := c) X.method X.code, State.localsInUse_invoking X.frames X.method X.code]
    simp only [State.hasRoom, Bool.and_eq_true, decide_eq_true_eq] at h ⊢
    obtain ⟨⟨⟨⟨h1, h2, h3, h4, h5, h6⟩, h7⟩, h8⟩, h9⟩ := h
    rw [X.frames, List.length_cons] at h2 h3
    have q1 := X.heapSize
    have q2 := X.used
    simp only [hF, hU, List.length_cons, State.stackLimits_setFrames, State.stackBytes_setFrames, hl9, hb9]
    refine ⟨⟨⟨⟨by omega, by omega, by omega, by omega, by omega, h6⟩, ?_⟩, ?_⟩, X.book⟩
    · show T.heap.size + R'.cells ≤ e.platform.maxCells
      omega
    · show T.slotsUsed + R'.slots ≤ e.platform.maxSlots
      omega
  · rw [State.stackLimits_setFrames]; rfl
  · rw [State.stackBytes_setFrames]; rfl
  · refine ⟨?_, Nat.le_refl _, Nat.le_refl _, ?_, ?_, fun a c9 h9 => ⟨c9, h9, rfl, rfl, fun _ _ => rfl⟩⟩
    · obtain ⟨t, ht, -⟩ := State.frames_cons hr
      show T.setVm s.vm = { ((T.setVm s.vm).setFrames (.invoking m args :: below)).setFrames (T.setVm s.vm).frames with heap := T.heap, slotsUsed := T.slotsUsed }
      rw [State.setFrames_setFrames, State.setFrames_self ht]
      rfl
    · show T.slotsUsed = T.slotsUsed + ((T.heap.toList.drop T.heap.size).map (·.slots.size)).sum
      rw [List.drop_eq_nil_of_le (Nat.le_of_eq Array.length_toList)]
      rfl
    · show ((T.heap.toList.drop T.heap.size).map (·.slots.size)).sum ≤ 0
      rw [List.drop_eq_nil_of_le (Nat.le_of_eq Array.length_toList)]
      exact Nat.le_refl _
/-- 'throw new E()': new; dup; invokespecial; athrow -/
theorem vx_throw0 {cc : ByteArray} {pc : Nat} (hexec : p.tables.exec = Jvm.exec) (hb : c.code = cc) (hl : l.stackTraces = false) {own cls : String} {names : List String} {ik ic mc ms : Nat} {A : Nat → Prop}
    (hown : s.vm.findClass own = some m.cls) (hcls : Bundle.fit cls = true) (hnames : ∀ n ∈ names, Bundle.fit n = true)
    (hk : (Cond.classLink own ik cls).before args s = true) (hini : (Cond.initialized cls).before args s = true) (hat : ∀ w ∈ vx_at0 own ic cls names, w.before args s = true)
    (hgood : ∀ w ∈ Cond.classLink own ik cls :: Cond.initialized cls :: vx_at0 own ic cls names, vx_ot w = true)
    (hU : vx_Zq Bundle.tN "UNASSIGNED_STACK" Bundle.steD A s s.heap) (hN : vx_Zq Bundle.tN "SUPPRESSED_SENTINEL" Bundle.listD A s s.heap) (hS : va_S A s.heap H locs) (hsize : ls.size = c.maxLocals)
    (d0 : decode cc pc = .ok (.new ik, 3)) (d3 : decode cc (pc + 3) = .ok (.dup, 1)) (d4 : decode cc (pc + 4) = .ok (.invokespecial ic, 3)) (d7 : decode cc (pc + 7) = .ok (.athrow, 1))
    (hout : ∀ x ∈ c.exceptionTable.toList, covers x (pc + 7) = false)
    (hRframes : names.length + 3 < R.frames) (hRlocals : (rest.map fun v => v.category).sum + (13 * (names.length + 1) + 42) ≤ R.locals) (hRcells : cells + 1 ≤ R.cells) (hRslots : slots + 6 ≤ R.slots) (hlocks : meth.locks = false)
    (hx : ∀ t : State, s.vm.Alike t.vm → H.size ≤ t.heap.size → (∀ q : Nat, q < H.size → t.heap[q]? = H[q]?) → XC cls s t)
    (hf : ∀ z ∈ locs, free z.base) (hc : cells + 1 ≤ mc) (hs : slots + 6 ≤ ms) :
    W p l e R s m args below meth c H locs cells slots (vx_MQ below Qc XC args s mc ms free) (F0 m pc ls rest) := by
  intro T hT X
  have htr : e.platform.stackTraces = false := (show e.platform.stackTraces = l.stackTraces by rw [X.admits.platform]).trans hl
  have Y := vx_rebase X (R' := { frames := R.frames, locals := R.locals, cells := 1, slots := 6 }) (Nat.le_refl _) (Nat.le_refl _) hRcells hRslots
  obtain ⟨s', hA⟩ : ∃ z, z = (T.setVm s.vm).setFrames (.invoking m args :: below) := ⟨_, rfl⟩
  rw [← hA] at Y
  have hvm : s'.vm = s.vm := by rw [hA]; rfl
  have hhp : s'.heap = H := by rw [hA]; exact hT
  have hW0 : s.WarmedH s'.vm := by rw [hvm]; exact State.WarmedH.refl s
  have hat' : ∀ w ∈ vx_at0 own ic cls names, w.before args s' = true := fun w hw => vx_ot_at hW0 hvm.symm (hgood w (List.mem_cons_of_mem _ (List.mem_cons_of_mem _ hw))) (hat w hw)
  have hk' : (Cond.classLink own ik cls).before args s' = true := vx_ot_at hW0 hvm.symm (hgood _ List.mem_cons_self) hk
  have hini' : (Cond.initialized cls).before args s' = true := vx_ot_at hW0 hvm.symm (hgood _ (List.mem_cons_of_mem _ List.mem_cons_self)) hini
  have hU' : vx_Zq Bundle.tN "UNASSIGNED_STACK" Bundle.steD A s' s'.heap := by rw [hhp]; exact vx_Zq.moved hW0.alike (hU.kept hS.2.1)
  have hN' : vx_Zq Bundle.tN "SUPPRESSED_SENTINEL" Bundle.listD A s' s'.heap := by rw [hhp]; exact vx_Zq.moved hW0.alike (hN.kept hS.2.1)
  have h : ∀ w ∈ Bundle.ownAtoms0 own ic cls names, w.before args s' = true := vx_own hat' (vx_isRefq hU'.1) (vx_isRefq hN'.1) hU'.2.word hN'.2.word
  have hown' : s'.vm.findClass own = some m.cls := by rw [hvm]; exact hown
  have hins : (Cond.instantiable cls 6).before args s' = true := h _ (by simp [Bundle.ownAtoms0])
  obtain ⟨vm₁, cX, kX, hfX, hkX, -, -, X₁, st1⟩ := Y.newCold hexec (own := own) (C := cls) (index := ik) (n := 6) hown' hk' hins hini'
    (g := F0 m pc ls rest) rfl (by rw [hb]; exact d0) (Nat.le_refl _) (Nat.le_refl _)
  generalize hT1 : (T.setVm vm₁).pushCell { cls := cX, slots := kX.instanceTypes.map defaultValue, vm := .none } = T1 at X₁ st1
  have hcat : (Value.ref T.heap.size).category = 1 := rfl
  have hcellA : T1.heap[T.heap.size]? = some (freshCell cX kX) := by rw [← hT1]; exact State.heap_pushCell_size _ _
  have d3' : decode c.code (pc + 3) = .ok (.dup, 1) := by rw [hb]; exact d3
  obtain ⟨U, hsteps, hrun, hend, hW, hsame, ce, hce, hO⟩ := X₁.ctorThrow0 hexec htr (own := own) (cls := cls) (names := names) (ic := ic) hown' hcls hnames h (fun x hx => nomatch hx) hfX hkX hcellA (by rw [hhp, hT]; exact Nat.le_refl _)
    (g := { method := m, pc := pc + 4, locals := ls, stack := .ref T.heap.size :: .ref T.heap.size :: rest, locked := none }) rfl hsize rfl rfl (rest := rest) rfl
    (by rw [hb]; exact d4) (by rw [hb]; exact d7) hout hRframes (by simp only [List.map_cons, List.sum_cons, hcat]; omega) hlocks
  obtain ⟨f1, f2⟩ := vx_frame hsame
  rw [hhp] at f1 f2
  have hWs : s.WarmedH U.vm := State.WarmedH.trans hW0 hW
  have hcl : s.vm.findClass cls = some ce.cls := by
    have h9 := hO.cls
    rw [hvm] at h9
    exact h9
  have hall : s.sameButNew ({ U with vm := s.vm } : State) locs mc ms := by
    subst hA
    obtain ⟨e1, e2⟩ := hsame
    rw [State.setFrames_setFrames] at e1
    have h2 : (T.setVm s.vm).sameButNew ({ U with vm := s.vm } : State) [] (0 + 1) (0 + 6) := ⟨e1, e2⟩
    have h3 := X.same.trans h2
    rw [List.append_nil] at h3
    exact h3.mono hc hs
  refine ⟨U, ?_, .threw T.heap.size, hrun, hend, Or.inr ⟨T.heap.size, rfl, cls, ce, locs, hx U hWs.alike f1 (fun q hq => f2 q hq (fun z hz => nomatch hz)), hce, hO.vm, hcl, hWs, hall, hf⟩⟩
  refine st1 _ ?_
  show Steps p.tables e below (T1.setTop { method := m, pc := pc + 3, locals := ls, stack := .ref T.heap.size :: rest, locked := none }) _
  jvm_step X₁.here [X₁.here.top, hexec, d3', Value.category]
  exact hsteps
/-- 'throw new E("text")': new; dup; ldc; invokespecial; athrow -/
theorem vx_throwS {cc : ByteArray} {pc : Nat} (hexec : p.tables.exec = Jvm.exec) (hb : c.code = cc) (hl : l.stackTraces = false) {own cls text : String} {names : List String} {ik is ic mc ms sa : Nat} {A : Nat → Prop}
    (hown : s.vm.findClass own = some m.cls) (hcls : Bundle.fit cls = true) (hnames : ∀ n ∈ names, Bundle.fit n = true)
    (hk : (Cond.classLink own ik cls).before args s = true) (hini : (Cond.initialized cls).before args s = true) (hstr : vk_R own is text sa s) (hat : ∀ w ∈ vx_atS own ic cls names, w.before args s = true)
    (hgood : ∀ w ∈ Cond.classLink own ik cls :: Cond.initialized cls :: vx_atS own ic cls names, vx_ot w = true)
    (hU : vx_Zq Bundle.tN "UNASSIGNED_STACK" Bundle.steD A s s.heap) (hN : vx_Zq Bundle.tN "SUPPRESSED_SENTINEL" Bundle.listD A s s.heap) (hS : va_S A s.heap H locs) (hsize : ls.size = c.maxLocals)
    (d0 : decode cc pc = .ok (.new ik, 3)) (d3 : decode cc (pc + 3) = .ok (.dup, 1)) (d4 : decode cc (pc + 4) = .ok (.ldc is, 2)) (d6 : decode cc (pc + 6) = .ok (.invokespecial ic, 3)) (d9 : decode cc (pc + 9) = .ok (.athrow, 1))
    (hout : ∀ x ∈ c.exceptionTable.toList, covers x (pc + 9) = false)
    (hRframes : names.length + 3 < R.frames) (hRlocals : (rest.map fun v => v.category).sum + (13 * (names.length + 1) + 43) ≤ R.locals) (hRcells : cells + 1 ≤ R.cells) (hRslots : slots + 6 ≤ R.slots) (hlocks : meth.locks = false)
    (hx : ∀ t : State, s.vm.Alike t.vm → H.size ≤ t.heap.size → (∀ q : Nat, q < H.size → t.heap[q]? = H[q]?) → XC cls s t)
    (hf : ∀ z ∈ locs, free z.base) (hc : cells + 1 ≤ mc) (hs : slots + 6 ≤ ms) :
    W p l e R s m args below meth c H locs cells slots (vx_MQ below Qc XC args s mc ms free) (F0 m pc ls rest) := by
  intro T hT X
  have htr : e.platform.stackTraces = false := (show e.platform.stackTraces = l.stackTraces by rw [X.admits.platform]).trans hl
  have Y := vx_rebase X (R' := { frames := R.frames, locals := R.locals, cells := 1, slots := 6 }) (Nat.le_refl _) (Nat.le_refl _) hRcells hRslots
  obtain ⟨s', hA⟩ : ∃ z, z = (T.setVm s.vm).setFrames (.invoking m args :: below) := ⟨_, rfl⟩
  rw [← hA] at Y
  have hvm : s'.vm = s.vm := by rw [hA]; rfl
  have hhp : s'.heap = H := by rw [hA]; exact hT
  have hW0 : s.WarmedH s'.vm := by rw [hvm]; exact State.WarmedH.refl s
  have hat' : ∀ w ∈ vx_atS own ic cls names, w.before args s' = true := fun w hw => vx_ot_at hW0 hvm.symm (hgood w (List.mem_cons_of_mem _ (List.mem_cons_of_mem _ hw))) (hat w hw)
  have hk' : (Cond.classLink own ik cls).before args s' = true := vx_ot_at hW0 hvm.symm (hgood _ List.mem_cons_self) hk
  have hini' : (Cond.initialized cls).before args s' = true := vx_ot_at hW0 hvm.symm (hgood _ (List.mem_cons_of_mem _ List.mem_cons_self)) hini
  have hU' : vx_Zq Bundle.tN "UNASSIGNED_STACK" Bundle.steD A s' s'.heap := by rw [hhp]; exact vx_Zq.moved hW0.alike (hU.kept hS.2.1)
  have hN' : vx_Zq Bundle.tN "SUPPRESSED_SENTINEL" Bundle.listD A s' s'.heap := by rw [hhp]; exact vx_Zq.moved hW0.alike (hN.kept hS.2.1)
  have h : ∀ w ∈ Bundle.ownAtoms own ic cls names, w.before args s' = true := vx_own hat' (vx_isRefq hU'.1) (vx_isRefq hN'.1) hU'.2.word hN'.2.word
  have hown' : s'.vm.findClass own = some m.cls := by rw [hvm]; exact hown
  have hins : (Cond.instantiable cls 6).before args s' = true := h _ (by simp [Bundle.ownAtoms])
  obtain ⟨vm₁, cX, kX, hfX, hkX, -, -, X₁, st1⟩ := Y.newCold hexec (own := own) (C := cls) (index := ik) (n := 6) hown' hk' hins hini'
    (g := F0 m pc ls rest) rfl (by rw [hb]; exact d0) (Nat.le_refl _) (Nat.le_refl _)
  generalize hT1 : (T.setVm vm₁).pushCell { cls := cX, slots := kX.instanceTypes.map defaultValue, vm := .none } = T1 at X₁ st1
  have hcat : (Value.ref T.heap.size).category = 1 := rfl
  have hcellA : T1.heap[T.heap.size]? = some (freshCell cX kX) := by rw [← hT1]; exact State.heap_pushCell_size _ _
  have d3' : decode c.code (pc + 3) = .ok (.dup, 1) := by rw [hb]; exact d3
  have d4' : decode c.code (pc + 4) = .ok (.ldc is, 2) := by rw [hb]; exact d4
  have hstr' : vk_R own is text sa s' := vk_R.warm hW0 hstr
  obtain ⟨U, hsteps, hrun, hend, hW, hsame, ce, hce, hO⟩ := X₁.ctorThrowS hexec htr (own := own) (cls := cls) (names := names) (ic := ic) hown' hcls hnames h (fun x hx => nomatch hx) hfX hkX hcellA (by rw [hhp, hT]; exact Nat.le_refl _) (msg := .ref sa) rfl
    (g := { method := m, pc := pc + 6, locals := ls, stack := .ref sa :: .ref T.heap.size :: .ref T.heap.size :: rest, locked := none }) rfl hsize rfl rfl (rest := rest) rfl
    (by rw [hb]; exact d6) (by rw [hb]; exact d9) hout hRframes (by simp only [List.map_cons, List.sum_cons, hcat]; omega) hlocks
  obtain ⟨f1, f2⟩ := vx_frame hsame
  rw [hhp] at f1 f2
  have hWs : s.WarmedH U.vm := State.WarmedH.trans hW0 hW
  have hcl : s.vm.findClass cls = some ce.cls := by
    have h9 := hO.cls
    rw [hvm] at h9
    exact h9
  have hall : s.sameButNew ({ U with vm := s.vm } : State) locs mc ms := by
    subst hA
    obtain ⟨e1, e2⟩ := hsame
    rw [State.setFrames_setFrames] at e1
    have h2 : (T.setVm s.vm).sameButNew ({ U with vm := s.vm } : State) [] (0 + 1) (0 + 6) := ⟨e1, e2⟩
    have h3 := X.same.trans h2
    rw [List.append_nil] at h3
    exact h3.mono hc hs
  refine ⟨U, ?_, .threw T.heap.size, hrun, hend, Or.inr ⟨T.heap.size, rfl, cls, ce, locs, hx U hWs.alike f1 (fun q hq => f2 q hq (fun z hz => nomatch hz)), hce, hO.vm, hcl, hWs, hall, hf⟩⟩
  refine st1 _ ?_
  show Steps p.tables e below (T1.setTop { method := m, pc := pc + 3, locals := ls, stack := .ref T.heap.size :: rest, locked := none }) _
  jvm_step X₁.here [X₁.here.top, hexec, d3', Value.category]
  exact X₁.ldcString hexec (own := own) (text := text) (index := is) (a := sa) hown' hstr'.1 hstr'.2
    (g := { method := m, pc := pc + 4, locals := ls, stack := .ref T.heap.size :: .ref T.heap.size :: rest, locked := none }) rfl d4' _ hsteps
/-- 'throw new E("text")', the text by a wide index -/
theorem vx_throwSW {cc : ByteArray} {pc : Nat} (hexec : p.tables.exec = Jvm.exec) (hb : c.code = cc) (hl : l.stackTraces = false) {own cls text : String} {names : List String} {ik is ic mc ms sa : Nat} {A : Nat → Prop}
    (hown : s.vm.findClass own = some m.cls) (hcls : Bundle.fit cls = true) (hnames : ∀ n ∈ names, Bundle.fit n = true)
    (hk : (Cond.classLink own ik cls).before args s = true) (hini : (Cond.initialized cls).before args s = true) (hstr : vk_R own is text sa s) (hat : ∀ w ∈ vx_atS own ic cls names, w.before args s = true)
    (hgood : ∀ w ∈ Cond.classLink own ik cls :: Cond.initialized cls :: vx_atS own ic cls names, vx_ot w = true)
    (hU : vx_Zq Bundle.tN "UNASSIGNED_STACK" Bundle.steD A s s.heap) (hN : vx_Zq Bundle.tN "SUPPRESSED_SENTINEL" Bundle.listD A s s.heap) (hS : va_S A s.heap H locs) (hsize : ls.size = c.maxLocals)
    (d0 : decode cc pc = .ok (.new ik, 3)) (d3 : decode cc (pc + 3) = .ok (.dup, 1)) (d4 : decode cc (pc + 4) = .ok (.ldc_w is, 3)) (d7 : decode cc (pc + 7) = .ok (.invokespecial ic, 3)) (d10 : decode cc (pc + 10) = .ok (.athrow, 1))
    (hout : ∀ x ∈ c.exceptionTable.toList, covers x (pc + 10) = false)
    (hRframes : names.length + 3 < R.frames) (hRlocals : (rest.map fun v => v.category).sum + (13 * (names.length + 1) + 43) ≤ R.locals) (hRcells : cells + 1 ≤ R.cells) (hRslots : slots + 6 ≤ R.slots) (hlocks : meth.locks = false)
    (hx : ∀ t : State, s.vm.Alike t.vm → H.size ≤ t.heap.size → (∀ q : Nat, q < H.size → t.heap[q]? = H[q]?) → XC cls s t)
    (hf : ∀ z ∈ locs, free z.base) (hc : cells + 1 ≤ mc) (hs : slots + 6 ≤ ms) :
    W p l e R s m args below meth c H locs cells slots (vx_MQ below Qc XC args s mc ms free) (F0 m pc ls rest) := by
  intro T hT X
  have htr : e.platform.stackTraces = false := (show e.platform.stackTraces = l.stackTraces by rw [X.admits.platform]).trans hl
  have Y := vx_rebase X (R' := { frames := R.frames, locals := R.locals, cells := 1, slots := 6 }) (Nat.le_refl _) (Nat.le_refl _) hRcells hRslots
  obtain ⟨s', hA⟩ : ∃ z, z = (T.setVm s.vm).setFrames (.invoking m args :: below) := ⟨_, rfl⟩
  rw [← hA] at Y
  have hvm : s'.vm = s.vm := by rw [hA]; rfl
  have hhp : s'.heap = H := by rw [hA]; exact hT
  have hW0 : s.WarmedH s'.vm := by rw [hvm]; exact State.WarmedH.refl s
  have hat' : ∀ w ∈ vx_atS own ic cls names, w.before args s' = true := fun w hw => vx_ot_at hW0 hvm.symm (hgood w (List.mem_cons_of_mem _ (List.mem_cons_of_mem _ hw))) (hat w hw)
  have hk' : (Cond.classLink own ik cls).before args s' = true := vx_ot_at hW0 hvm.symm (hgood _ List.mem_cons_self) hk
  have hini' : (Cond.initialized cls).before args s' = true := vx_ot_at hW0 hvm.symm (hgood _ (List.mem_cons_of_mem _ List.mem_cons_self)) hini
  have hU' : vx_Zq Bundle.tN "UNASSIGNED_STACK" Bundle.steD A s' s'.heap := by rw [hhp]; exact vx_Zq.moved hW0.alike (hU.kept hS.2.1)
  have hN' : vx_Zq Bundle.tN "SUPPRESSED_SENTINEL" Bundle.listD A s' s'.heap := by rw [hhp]; exact vx_Zq.moved hW0.alike (hN.kept hS.2.1)
  have h : ∀ w ∈ Bundle.ownAtoms own ic cls names, w.before args s' = true := vx_own hat' (vx_isRefq hU'.1) (vx_isRefq hN'.1) hU'.2.word hN'.2.word
  have hown' : s'.vm.findClass own = some m.cls := by rw [hvm]; exact hown
  have hins : (Cond.instantiable cls 6).before args s' = true := h _ (by simp [Bundle.ownAtoms])
  obtain ⟨vm₁, cX, kX, hfX, hkX, -, -, X₁, st1⟩ := Y.newCold hexec (own := own) (C := cls) (index := ik) (n := 6) hown' hk' hins hini'
    (g := F0 m pc ls rest) rfl (by rw [hb]; exact d0) (Nat.le_refl _) (Nat.le_refl _)
  generalize hT1 : (T.setVm vm₁).pushCell { cls := cX, slots := kX.instanceTypes.map defaultValue, vm := .none } = T1 at X₁ st1
  have hcat : (Value.ref T.heap.size).category = 1 := rfl
  have hcellA : T1.heap[T.heap.size]? = some (freshCell cX kX) := by rw [← hT1]; exact State.heap_pushCell_size _ _
  have d3' : decode c.code (pc + 3) = .ok (.dup, 1) := by rw [hb]; exact d3
  have d4' : decode c.code (pc + 4) = .ok (.ldc_w is, 3) := by rw [hb]; exact d4
  have hstr' : vk_R own is text sa s' := vk_R.warm hW0 hstr
  obtain ⟨U, hsteps, hrun, hend, hW, hsame, ce, hce, hO⟩ := X₁.ctorThrowS hexec htr (own := own) (cls := cls) (names := names) (ic := ic) hown' hcls hnames h (fun x hx => nomatch hx) hfX hkX hcellA (by rw [hhp, hT]; exact Nat.le_refl _) (msg := .ref sa) rfl
    (g := { method := m, pc := pc + 7, locals := ls, stack := .ref sa :: .ref T.heap.size :: .ref T.heap.size :: rest, locked := none }) rfl hsize rfl rfl (rest := rest) rfl
    (by rw [hb]; exact d7) (by rw [hb]; exact d10) hout hRframes (by simp only [List.map_cons, List.sum_cons, hcat]; omega) hlocks
  obtain ⟨f1, f2⟩ := vx_frame hsame
  rw [hhp] at f1 f2
  have hWs : s.WarmedH U.vm := State.WarmedH.trans hW0 hW
  have hcl : s.vm.findClass cls = some ce.cls := by
    have h9 := hO.cls
    rw [hvm] at h9
    exact h9
  have hall : s.sameButNew ({ U with vm := s.vm } : State) locs mc ms := by
    subst hA
    obtain ⟨e1, e2⟩ := hsame
    rw [State.setFrames_setFrames] at e1
    have h2 : (T.setVm s.vm).sameButNew ({ U with vm := s.vm } : State) [] (0 + 1) (0 + 6) := ⟨e1, e2⟩
    have h3 := X.same.trans h2
    rw [List.append_nil] at h3
    exact h3.mono hc hs
  refine ⟨U, ?_, .threw T.heap.size, hrun, hend, Or.inr ⟨T.heap.size, rfl, cls, ce, locs, hx U hWs.alike f1 (fun q hq => f2 q hq (fun z hz => nomatch hz)), hce, hO.vm, hcl, hWs, hall, hf⟩⟩
  refine st1 _ ?_
  show Steps p.tables e below (T1.setTop { method := m, pc := pc + 3, locals := ls, stack := .ref T.heap.size :: rest, locked := none }) _
  jvm_step X₁.here [X₁.here.top, hexec, d3', Value.category]
  exact X₁.ldcStringW hexec (own := own) (text := text) (index := is) (a := sa) hown' hstr'.1 hstr'.2
    (g := { method := m, pc := pc + 4, locals := ls, stack := .ref T.heap.size :: .ref T.heap.size :: rest, locked := none }) rfl d4' _ hsteps
end Ends
section Bodies
variable {l : Launch}
theorem vx_ofW {y : MethodName} {ws ws' : List Cond} {rm : Room} {Pc : Array Value → State → Prop} {Qc : Array Value → State → Outcome → State → Prop} {XC : String → State → State → Prop} {mc ms : Nat} {free : Addr → Prop} {cc : ByteArray} {maxL : Nat} {ret : Option FieldType}
    (hy : plainName y.cls = true) (hw : ws = Cond.code y cc maxL ret :: ws')
    (body : ∀ p e s m args below meth c s₁, BodyLoose p l y (headSpec ws rm) cc maxL ret e s m args below meth c s₁ → c.maxLocals = maxL → (∀ x ∈ c.exceptionTable.toList, False) → Pc args s →
      W p l e (headSpec ws rm).room s m args below meth c s.heap [] 0 0 (vx_MQ below Qc XC args s mc ms free) (entryFrame m args maxL)) : vx_Met l y ws rm Pc Qc XC mc ms free := by
  refine MetFree.of_bodyS (code := cc) (maxLocals := maxL) (ret := ret) hy ?_ ?_
  · intro args s m h hn
    obtain ⟨meth, c, h1, h2, h3, h4, h5, h6, -, -⟩ := Cond.code_spec hn (atoms_spec (ws := ws) h _ (by rw [hw]; exact List.mem_cons_self))
    exact ⟨meth, c, h1, h2, h3, h4, h5, h6⟩
  · intro p e s m args below meth c s₁ B hml hP _
    have hh0 : s₁.heap = s.heap := by rw [B.state]; rfl
    have ht : ∀ x ∈ c.exceptionTable.toList, False := by
      obtain ⟨meth9, c9, h1, h2, -, -, -, -, h7, -⟩ := Cond.code_spec B.named (atoms_spec (ws := ws) B.pre _ (by rw [hw]; exact List.mem_cons_self))
      cases Option.some.inj (h1.symm.trans B.method)
      cases Option.some.inj (h2.symm.trans (Stand.of_body B).code)
      intro x hx
      rw [Array.isEmpty_iff.mp h7] at hx
      cases hx
    obtain ⟨t, a1, o, b1, b2, b3⟩ := body p e s m args below meth c s₁ B hml ht hP s₁ hh0 (Stand.of_body B)
    exact ⟨t, o, a1, b1, b2, b3⟩
/-- the table of a body with handlers -/
theorem vx_table {p : Program} {x y : MethodName} {S : Spec} {cc bytes : ByteArray} {maxL maxL' : Nat} {ret ret' : Option FieldType} {e : Env} {s s₁ : State} {m : MethodId} {args : Array Value} {below : List Frame} {meth : Method} {c : Code} {hh : List (Nat × Nat × Nat × Nat)}
    (B : BodyLoose p l y S cc maxL ret e s m args below meth c s₁) (h : (Cond.codeWith y bytes maxL' ret' hh).before args s = true) : c.exceptionTable.toList = tableOf hh := by
  obtain ⟨m9, meth9, c9, hn9, h1, h2, -, -, h6, -⟩ := Cond.codeWith_spec h
  cases Option.some.inj (hn9.symm.trans B.named)
  cases Option.some.inj (h1.symm.trans B.method)
  cases Option.some.inj (h2.symm.trans (Stand.of_body B).code)
  rw [← h6, table_eq]
end Bodies
end VXA
/-! ===== END ===== -/
/-! ===== BEGIN a static call of a method with an exception table ===== -/
section VXS
variable {p : Program} {l : Launch} {e : Env} {R : Room} {s : State} {m : MethodId} {args : Array Value} {below : List Frame} {meth : Method} {c : Code} {T : State} {H : Heap} {locs : List Loc} {cells slots : Nat}
abbrev vx_CSW (R : Room) (s : State) (args : Array Value) (own : String) (index : Nat) (y : MethodName) (bytes : ByteArray) (maxL : Nat) (ret : Option FieldType) (hh : List (Nat × Nat × Nat × Nat)) (ws : List Cond) (rm : Room) (mc ms n : Nat) : Prop :=
  (rm.cells = mc ∧ rm.slots = ms ∧ rm.frames + 1 ≤ R.frames ∧ 8 + (maxL + 11) + rm.locals ≤ R.locals ∧ (∀ w ∈ ws, ∀ (a' : Array Value) (U : State), s.WarmedH U.vm → w.before a' U = true) ∧ Cond.codeWith y bytes maxL ret hh ∈ ws) ∧
  (Cond.codeWith y bytes maxL ret hh).before args s = true ∧ (Cond.initialized y.cls).before args s = true ∧ (y.cls ≠ "java/lang/invoke/MethodHandle" ∧ y.cls ≠ "java/lang/invoke/VarHandle") ∧
  (∀ sig, parseMethodDescriptor y.desc = some sig → n = sig.parameters.length) ∧ (Cond.methodLink own index y).before args s = true ∧ (Cond.static y).before args s = true
theorem vx_cwSW {own : String} {index maxL mc ms : Nat} {y : MethodName} {bytes : ByteArray} {ret : Option FieldType} {hh : List (Nat × Nat × Nat × Nat)} {Ts ws ws' : List Cond} {rm : Room} (n : Nat) (ht : ∀ w ∈ Ts, w.before args s = true) (hT : GoodIn Ts (va_wsS own index y ws)) (hw : ws = Cond.codeWith y bytes maxL ret hh :: ws') (hrc : rm.cells = mc) (hrs : rm.slots = ms)
    (hd : y.cls ≠ "java/lang/invoke/MethodHandle" ∧ y.cls ≠ "java/lang/invoke/VarHandle" ∧ (parseMethodDescriptor y.desc).map (fun d => d.parameters.length) = some n) (hR : rm.frames + 1 ≤ R.frames ∧ 8 + (maxL + 11) + rm.locals ≤ R.locals) :
    vx_CSW R s args own index y bytes maxL ret hh ws rm mc ms n := by
  have ok : ∀ w ∈ va_wsS own index y ws, w.before args s = true := fun w h => ht w (hT w h).1
  have hG : GoodIn Ts ws := fun w h => hT w (by unfold va_wsS; exact List.mem_append_right _ h)
  have hc : Cond.codeWith y bytes maxL ret hh ∈ ws := by rw [hw]; exact List.mem_cons_self
  refine ⟨⟨hrc, hrs, hR.1, hR.2, pay_in ht hG, hc⟩, ht _ (hG _ hc).1, ok _ (by simp [va_wsS]), ⟨hd.1, hd.2.1⟩, fun sig h => ?_, ok _ (by simp [va_wsS]), ok _ (by simp [va_wsS])⟩
  have h2 := hd.2.2
  rw [h] at h2
  exact (Option.some.inj h2).symm
theorem vx_callSW (X : Stand p l e R s m args below meth c T locs cells slots) (hexec : p.tables.exec = Jvm.exec) {own : String} {index : Nat} {y : MethodName} {bytes : ByteArray} {maxL : Nat} {ret : Option FieldType} {hh : List (Nat × Nat × Nat × Nat)}
    (hown : s.vm.findClass own = some m.cls) (hlink : (Cond.methodLink own index y).before args s = true) (hstat : (Cond.static y).before args s = true) (hinit : (Cond.initialized y.cls).before args s = true)
    (hcode : (Cond.codeWith y bytes maxL ret hh).before args s = true) (hy : y.cls ≠ "java/lang/invoke/MethodHandle" ∧ y.cls ≠ "java/lang/invoke/VarHandle")
    {W9 : Nat} {Pre : Pt → Array Value → Prop} {Post : Pt → Array Value → Option Value → Pt → Prop} (hK : Back l R p e below s args y 3 W9 Pre Post)
    {g : JFrame} (hg : g.method = m) (hsize : g.locals.size = c.maxLocals) {argsL rest : List Value} (hlen : ∀ sig, parseMethodDescriptor y.desc = some sig → argsL.length = sig.parameters.length)
    (hstack : g.stack = argsL.reverse ++ rest) (hW : 2 * g.monitorRoom + (rest.map fun v => v.category).sum ≤ W9) (hdg : decode c.code g.pc = .ok (.invokestatic index, 3))
    (hpre : ∀ vm₁, s.WarmedH vm₁ → Pre ⟨T.setVm vm₁, locs, cells, slots⟩ argsL.toArray) :
    ∃ (v : Option Value) (vm₁ : Vm) (B : Pt), s.WarmedH vm₁ ∧ Stand p l e R s m args below meth c B.U B.locs B.cells B.slots ∧ Post ⟨T.setVm vm₁, locs, cells, slots⟩ argsL.toArray v B ∧
      ∀ target, Steps p.tables e below (B.U.setTop { g with pc := g.pc + 3, stack := v.toList ++ rest }) target → Steps p.tables e below (T.setTop g) target := by
  obtain ⟨mk, methM, cM, hnamed, hmethM, -, -, -, -, -, -, hsigM⟩ := Cond.codeWith_spec hcode
  have hstatic : methM.isStatic = true := Cond.static_spec hnamed hmethM hstat
  obtain ⟨kP, hkP, -⟩ := className_of_methodNamed hnamed
  have hinitP : kP.init = .initialized := Cond.initialized_spec (findClass_of_methodNamed hnamed) hkP hinit
  obtain ⟨vm₁, X₁, hstep₁⟩ := X.invokestatic hexec hown hlink hnamed hmethM hstatic hkP hinitP hy (g := g) hg (argsL := argsL) (rest := rest) (hlen _ hsigM) hstack hdg
  obtain ⟨v, B, X', hpost, hsteps⟩ := hK m meth c ⟨T.setVm vm₁, locs, cells, slots⟩ { g with stack := rest } (.invokestatic index) mk argsL.toArray X₁ hg hsize hdg hW (X₁.named hnamed) (hpre vm₁ X₁.warmed)
  exact ⟨v, vm₁, B, X₁.warmed, X', hpost, fun target h => hstep₁ _ fun acts => by rw [doInvoke_state]; exact hsteps.trans h⟩
theorem vx_runSW {y : MethodName} {bytes cc : ByteArray} {maxL nL mc ms n index : Nat} {ret : Option FieldType} {hh : List (Nat × Nat × Nat × Nat)} {ws : List Cond} {rm : Room} {Pc : Array Value → State → Prop} {Qc : Array Value → State → Outcome → State → Prop} {free : Addr → Prop} {Ts : List Cond} {own : String} {As rest : List Value} {g : JFrame}
    (S : CallFix p m c cc nL s args Ts own) (hM : Met l y ws rm Pc Qc mc ms free) (cw : vx_CSW R s args own index y bytes maxL ret hh ws rm mc ms n) (hp : PreS s H Pc As)
    (hg : g.method = m) (hn : As.length = n) (hsize : g.locals.size = nL) (hstack : g.stack = As.reverse ++ rest) (hW : 2 * g.monitorRoom + (rest.map fun v => v.category).sum ≤ 8) (hdg : decode cc g.pc = .ok (.invokestatic index, 3)) (hf : cells + mc ≤ R.cells ∧ slots + ms ≤ R.slots) :
    va_Run p l e R s m args below meth c H locs cells slots mc ms g rest (Qc As.toArray) (free) := by
  obtain ⟨⟨hrc, hrs, hfr, hlo, hws, hcw⟩, hcode, hini, hy, hlen, hl, hstt⟩ := cw
  have hK : Back l R p e below s args y 3 8 (PreOf R mc ms Pc) (PostOf Qc mc ms free) := va_backW (hh := hh) (bytes := bytes) (maxL := maxL) (ret := ret) hM hp.1 hrc hrs hfr hlo hws hcw (fun a' U hW => word_at hW (Or.inl (by first | rfl | simp [Cond.onTables, Cond.keeps, Cond.steady])) hini)
  obtain ⟨hx, hb, hml, ho, -⟩ := S
  intro T hT X
  obtain ⟨v, vm₁, ⟨U', l2, c2, s2⟩, hW₁, X', ⟨g', mk, t, L, e1, e2, hq, h1, hL, h2, h3⟩, st⟩ := vx_callSW X hx (hh := hh) (bytes := bytes) (maxL := maxL) (ret := ret) ho hl hstt hini hcode hy hK hg (hsize.trans hml.symm) (argsL := As) (rest := rest) (fun sig h => hn.trans (hlen sig h)) hstack hW (by rw [hb]; exact hdg)
    (fun vm₁ hW₁ => ⟨hf.1, hf.2, hp.2 (T.setVm vm₁) hT hW₁⟩)
  dsimp only [Pt.U, Pt.locs, Pt.cells, Pt.slots] at X' e1 e2 h1 h2 h3 st
  subst h1; subst h2; subst h3
  exact ⟨v, (T.setVm vm₁).calling g' mk As.toArray, t, U', L, hT, X', hL, e1, e2, hq, st⟩
/-- not caught here, past rows that name other classes: it goes on to the caller -/
theorem vx_outP {p : Program} {l : Launch} {e : Env} {R : Room} {s : State} {m : MethodId} {args : Array Value} {below : List Frame} {meth : Method} {c : Code} {H : Heap} {locs : List Loc} {cells slots : Nat} {free : Addr → Prop} {ls : Array Slot} {rest : List Value} {Qc : Array Value → State → Outcome → State → Prop} {XC : String → State → State → Prop}
    {pc : Nat} {own E : String} {ce : Cell} {q : Addr} {mc ms : Nat} (hown : s.vm.findClass own = some m.cls) (hlocks : meth.locks = false)
    (hpass : ∀ z ∈ c.exceptionTable.toList, covers z pc = false ∨ (z.catchType ≠ 0 ∧ ∃ nm : String, (Cond.classLink own z.catchType nm).before args s = true ∧ va_Nc E nm s)) (hcell : H[q]? = some ce) (hv : ce.vm = .none) (hcl : s.vm.findClass E = some ce.cls)
    (hx : ∀ t : State, t.heap = H → s.vm.Alike t.vm → XC E s t) (hf : ∀ z ∈ locs, free z.base) (hc : cells ≤ mc) (hs : slots ≤ ms) :
    vx_W p l e R s m args below meth c H locs cells slots (vx_MQ below Qc XC args s mc ms free) (F0 m pc ls rest) q := by
  intro T hT X
  have hpl : e.platform.magicAccessors = ({} : Platform).magicAccessors := by rw [X.admits.platform]
  obtain ⟨vm', hW', X', st⟩ := X.outThrough hlocks q (g := F0 m pc ls rest) rfl rfl rfl (cell := ce) (by rw [hT]; exact hcell) (by rw [hv]; rfl)
    (by obtain ⟨k9, h9, -⟩ := Vm.findClass_spec hcl; exact ⟨k9, h9⟩) (fun z hz => by
      rcases hpass z hz with h | ⟨hz0, nm, hl1, hn1⟩
      · exact Or.inl h
      · obtain ⟨c6, hc6, hcl6⟩ := Cond.classLink_spec hown hl1 e.platform hpl
        obtain ⟨a8, b8, h1, h2, h3⟩ := hn1
        cases Option.some.inj (h1.symm.trans hcl)
        cases Option.some.inj (h2.symm.trans hc6)
        exact Or.inr ⟨hz0, _, hcl6, h3⟩)
  obtain ⟨g₀, hfr⟩ := X'.frames_eq
  have hcell9 : ((T.setVm vm').setFrames (.throwing q :: below)).heap[q]? = some ce := by
    show T.heap[q]? = some ce
    rw [hT]; exact hcell
  have hend : Ended ((T.setVm vm').setFrames (.throwing q :: below)) below (.threw q) := State.frames_setFrames _ (State.cur_lt_of_frames hfr)
  refine ⟨(T.setVm vm').setFrames (.throwing q :: below), ?_, .threw q, X'.here.running, hend, Or.inr ⟨q, rfl, E, ce, locs, hx _ hT (X'.ends _).1.alike, hcell9, hv, hcl, (X'.ends _).1, (X'.ends _).2.mono hc hs, hf⟩⟩
  rw [X.pushThrowing_eq]
  exact st
/-- a thing of a world lies in the heap -/
theorem vx_lt {D : va_G} {cl : List vw_C} {ws : va_W} {H1 : Heap} (h : va_P D cl ws H1) {k : Nat} {q : Nat × va_E} (hk : ws[k]? = some q) : q.1 < H1.size := (h k q hk).lt
end VXS
/-! ===== END ===== -/
/-! ===== BEGIN methods with a table of their own: called by a name, returning or throwing ===== -/
section VXH
/-! vx_backW, vx_callVX, vx_callSX, vx_callVW, vx_runVW, vx_runVX, vx_runSX, vx_ofWH follow the same proofs as their sisters above (Free/Laws.lean, Shelf42/LK1.lean); vx_outP calls Shelf42/NT130.lean (outThrough). -/
section
variable {l : Launch} {R : Room} {p : Program} {e : Env} {below : List Frame} {s : State} {sargs : Array Value} {y : MethodName} {len W9 : Nat}
theorem vx_backW {ws : List Cond} {rm : Room} {Pc : Array Value → State → Prop} {Qc : Array Value → State → Outcome → State → Prop} {XC : String → State → State → Prop} {mc ms : Nat} {free : Addr → Prop} {bytes : ByteArray} {maxL : Nat} {ret : Option FieldType} {hh : List (Nat × Nat × Nat × Nat)}
    (hM : vx_Met l y ws rm Pc Qc XC mc ms free) (hblind : FrameBlind Pc) (hrc : rm.cells = mc) (hrs : rm.slots = ms)
    (hframes : rm.frames + 1 ≤ R.frames) (hlocals : W9 + (maxL + 11) + rm.locals ≤ R.locals)
    (hws : ∀ w ∈ ws, ∀ a' U, s.WarmedH U.vm → w.before a' U = true) (hcode : Cond.codeWith y bytes maxL ret hh ∈ ws) (hinit : ∀ a' U, s.WarmedH U.vm → (Cond.initialized y.cls).before a' U = true) :
    vx_Back l R p e below s sargs y len W9 (PreOf R mc ms Pc) (PostOf Qc mc ms free) (vx_Post XC mc ms free) := by
  intro m meth c A g ig mk a X hg hsize hdg hW hn hp
  have h1 : (headSpec ws rm).pre.before a A.U = true := atoms_intro fun w hw => hws w hw _ _ X.warmed
  have h2 : (Cond.codeWith y bytes maxL ret hh).before a A.U = true := hws _ hcode _ _ X.warmed
  have h3 : (Cond.initialized y.cls).before a A.U = true := hinit _ _ X.warmed
  have h4 : A.cells + (headSpec ws rm).room.cells ≤ R.cells := by rw [show (headSpec ws rm).room.cells = mc from hrc]; exact hp.1
  have h5 : A.slots + (headSpec ws rm).room.slots ≤ R.slots := by rw [show (headSpec ws rm).room.slots = ms from hrs]; exact hp.2.1
  have hPc : Pc a (A.U.calling g mk a) := hblind _ _ _ _ hp.2.2
  obtain ⟨U, Ls, c0, s0⟩ := A
  dsimp only [Pt.U, Pt.locs, Pt.cells, Pt.slots] at h1 h2 h3 h4 h5 X hn hPc ⊢
  obtain ⟨m9, methY, cY, hn9, hmY, hcY, -, hlY, -⟩ := Cond.codeWith_spec h2
  cases Option.some.inj (hn9.symm.trans hn)
  obtain ⟨kY, hkY, -⟩ := className_of_methodNamed hn
  have hinitY : kY.init = .initialized := Cond.initialized_spec (findClass_of_methodNamed hn) hkY h3
  have h : At U g.method c below := by rw [hg]; exact X.here
  have hlocals9 : W9 + (maxL + 11) + (headSpec ws rm).room.locals ≤ R.locals := hlocals
  have happ : (headSpec ws rm).appliesLoose y e.platform (U.calling g mk a) = true :=
    Spec.appliesLoose_calling (g := g) h hdg hn hkY hinitY
      (X.room_calling (g := g) (R' := (headSpec ws rm).room) hsize hmY hcY hframes (by rw [hlY]; omega) h4 h5) h1
  obtain ⟨mid, hmid⟩ := h.above
  have hfr : (U.setTop g).frames = (.java g :: mid) ++ below := by rw [State.frames_setTop' g h.top, hmid]; rfl
  obtain ⟨o, s₂, hsteps, -, hend, hq⟩ := Steps.callFree hM p X.admits X.cas X.clock (acts := []) hfr happ hPc trivial
  have hq' : vx_Q Qc XC mc ms free a (U.calling g mk a) o s₂ := hq
  rw [State.frames_setTop' g h.top] at hend
  obtain ⟨g₀, hg0⟩ := Option.isSome_iff_exists.mp h.top
  obtain ⟨r, hr⟩ := State.topJava?_eq_some.mp hg0
  have hr' : (({ U with heap := s₂.heap, slotsUsed := s₂.slotsUsed } : State).setVm s₂.vm).frames = .java g₀ :: r := hr
  rcases hq' with ⟨hqc, L, hfe, hL⟩ | ⟨q, rfl, E, ce, L, hx, hce, hcv, hcl, hW₂, hsm, hL⟩
  · obtain ⟨⟨v, rfl⟩, hW₂, e2, q2, q3, q4, q5, q6⟩ := id hfe
    have e3 : s₂ = ({ (U.calling g mk a).setFrames s₂.frames with heap := s₂.heap, slotsUsed := s₂.slotsUsed } : State).setVm s₂.vm := by
      have : s₂ = ({ s₂ with vm := (U.calling g mk a).vm } : State).setVm s₂.vm := rfl
      rw [e2] at this
      exact this
    obtain ⟨c₂, i₂, len₂, hc₂, hd₂, hf₂⟩ := hend
    have hW' : U.WarmedH s₂.vm := hW₂
    have hcc : c₂ = c := by
      have h1 : s₂.code? g.method = U.code? g.method := by
        rw [State.code?_eq, State.code?_eq, hW'.alike.method?]
      exact Option.some.inj (hc₂.symm.trans (h1.trans h.code))
    subst hcc
    have hlen : len₂ = len := by rw [hdg] at hd₂; cases hd₂; rfl
    subst hlen
    have hs₂ : s₂ = (({ U with heap := s₂.heap, slotsUsed := s₂.slotsUsed } : State).setVm s₂.vm).setTop { g with pc := g.pc + len₂, stack := v.toList ++ g.stack } := by
      refine e3.trans ?_
      rw [hf₂, State.calling_eq h.top, State.setFrames_setFrames, State.setTop_of_frames _ hr', hr]
      rfl
    have hsame : U.sameButNew ({ U with heap := s₂.heap, slotsUsed := s₂.slotsUsed } : State) L mc ms := by
      refine ⟨?_, q2, q3, q4, q5, q6⟩
      obtain ⟨t, ht, -⟩ := State.frames_cons hr
      show ({ U with heap := s₂.heap, slotsUsed := s₂.slotsUsed } : State) = { U.setFrames U.frames with heap := s₂.heap, slotsUsed := s₂.slotsUsed }
      rw [State.setFrames_self ht]
    subst hg
    refine Or.inl ⟨v, ⟨(({ U with heap := s₂.heap, slotsUsed := s₂.slotsUsed } : State).setVm s₂.vm), Ls ++ L, c0 + mc, s0 + ms⟩,
      ⟨X.admits, X.cas, X.clock, X.frames, X.room, X.hears, X.method, X.code, (X.here.setHeapUsed s₂.heap s₂.slotsUsed).setVm hW'.alike, X.tail, State.WarmedH.trans X.warmed hW', X.limits, X.bytes, X.same.trans (hsame.setVm s.vm)⟩,
      ⟨g, mk, s₂, L, rfl, rfl, hqc, rfl, hL, rfl, rfl⟩, ?_⟩
    show Steps p.tables e below _ ((({ U with heap := s₂.heap, slotsUsed := s₂.slotsUsed } : State).setVm s₂.vm).setTop { g with pc := g.pc + len₂, stack := v.toList ++ g.stack })
    rw [← hs₂]
    exact hsteps
  · obtain ⟨e2, q2, q3, q4, q5, q6⟩ := id hsm
    have e3 : s₂ = ({ (U.calling g mk a).setFrames s₂.frames with heap := s₂.heap, slotsUsed := s₂.slotsUsed } : State).setVm s₂.vm := by
      have : s₂ = ({ s₂ with vm := (U.calling g mk a).vm } : State).setVm s₂.vm := rfl
      rw [e2] at this
      exact this
    have hf₂ : s₂.frames = .throwing q :: .java g :: U.frames.tail := hend
    have hW' : U.WarmedH s₂.vm := hW₂
    have hs₂ : s₂ = ((({ U with heap := s₂.heap, slotsUsed := s₂.slotsUsed } : State).setVm s₂.vm).setTop g).pushFrame (.throwing q) := by
      refine e3.trans ?_
      rw [hf₂, State.calling_eq h.top, State.setFrames_setFrames, State.pushFrame, State.frames_setTop _ hr', State.setTop_of_frames _ hr', State.setFrames_setFrames, hr]
      rfl
    have hsame : U.sameButNew ({ U with heap := s₂.heap, slotsUsed := s₂.slotsUsed } : State) L mc ms := by
      refine ⟨?_, q2, q3, q4, q5, q6⟩
      obtain ⟨t, ht, -⟩ := State.frames_cons hr
      show ({ U with heap := s₂.heap, slotsUsed := s₂.slotsUsed } : State) = { U.setFrames U.frames with heap := s₂.heap, slotsUsed := s₂.slotsUsed }
      rw [State.setFrames_self ht]
    subst hg
    refine Or.inr ⟨q, ⟨(({ U with heap := s₂.heap, slotsUsed := s₂.slotsUsed } : State).setVm s₂.vm), Ls ++ L, c0 + mc, s0 + ms⟩,
      ⟨X.admits, X.cas, X.clock, X.frames, X.room, X.hears, X.method, X.code, (X.here.setHeapUsed s₂.heap s₂.slotsUsed).setVm hW'.alike, X.tail, State.WarmedH.trans X.warmed hW', X.limits, X.bytes, X.same.trans (hsame.setVm s.vm)⟩,
      ⟨g, mk, s₂, L, E, ce, rfl, rfl, hx, hce, hcv, hcl, rfl, hL, rfl, rfl⟩, ?_⟩
    show Steps p.tables e below _ (((({ U with heap := s₂.heap, slotsUsed := s₂.slotsUsed } : State).setVm s₂.vm).setTop g).pushFrame (.throwing q))
    rw [← hs₂]
    exact hsteps
end
variable {p : Program} {l : Launch} {e : Env} {R : Room} {s : State} {m : MethodId} {args : Array Value} {below : List Frame} {meth : Method} {c : Code} {T : State} {H : Heap} {locs : List Loc} {cells slots : Nat}
theorem vx_callVX (X : Stand p l e R s m args below meth c T locs cells slots) (hexec : p.tables.exec = Jvm.exec) {own C : String} {index : Nat} {y : MethodName} {bytes : ByteArray} {maxL : Nat} {ret : Option FieldType} {hh : List (Nat × Nat × Nat × Nat)}
    (hown : s.vm.findClass own = some m.cls) (hlink : (Cond.methodLink own index y).before args s = true) (hinst : (Cond.instanceMethod y).before args s = true) (hsel : (Cond.selects C y y).before args s = true)
    (hcode : (Cond.codeWith y bytes maxL ret hh).before args s = true) (hy : y.cls ≠ "java/lang/invoke/MethodHandle" ∧ y.cls ≠ "java/lang/invoke/VarHandle")
    {W9 : Nat} {Pre : Pt → Array Value → Prop} {Post : Pt → Array Value → Option Value → Pt → Prop} {PostX : Pt → Array Value → Addr → Pt → Prop} (hK : vx_Back l R p e below s args y 3 W9 Pre Post PostX)
    {b : Addr} {cellB : Cell} (hcell : T.heap[b]? = some cellB) (hobj : cellB.vm.isStatics = false) (hcls : s.vm.findClass C = some cellB.cls)
    {g : JFrame} (hg : g.method = m) (hsize : g.locals.size = c.maxLocals) {argsL rest : List Value} (hlen : ∀ sig, parseMethodDescriptor y.desc = some sig → argsL.length = sig.parameters.length)
    (hstack : g.stack = argsL.reverse ++ .ref b :: rest) (hW : 2 * g.monitorRoom + (rest.map fun v => v.category).sum ≤ W9) (hdg : decode c.code g.pc = .ok (.invokevirtual index, 3))
    (hpre : ∀ vm₁, s.WarmedH vm₁ → Pre ⟨T.setVm vm₁, locs, cells, slots⟩ (Value.ref b :: argsL).toArray) :
    (∃ (v : Option Value) (vm₁ : Vm) (B : Pt), s.WarmedH vm₁ ∧ Stand p l e R s m args below meth c B.U B.locs B.cells B.slots ∧ Post ⟨T.setVm vm₁, locs, cells, slots⟩ (Value.ref b :: argsL).toArray v B ∧
      ∀ target, Steps p.tables e below (B.U.setTop { g with pc := g.pc + 3, stack := v.toList ++ rest }) target → Steps p.tables e below (T.setTop g) target) ∨
    (∃ (q : Addr) (vm₁ : Vm) (B : Pt), s.WarmedH vm₁ ∧ Stand p l e R s m args below meth c B.U B.locs B.cells B.slots ∧ PostX ⟨T.setVm vm₁, locs, cells, slots⟩ (Value.ref b :: argsL).toArray q B ∧
      Steps p.tables e below (T.setTop g) ((B.U.setTop { g with stack := rest }).pushFrame (.throwing q))) := by
  obtain ⟨mk, methM, hnamed, hmethM, hstM, habM⟩ := Cond.instanceMethod_spec hinst
  obtain ⟨m8, methM', cM, hn8, hmethM', -, -, -, -, -, -, hsigM⟩ := Cond.codeWith_spec hcode
  cases Option.some.inj (hn8.symm.trans hnamed)
  cases hmethM.symm.trans hmethM'
  obtain ⟨c2, r2, m2, q1, q2, q3, q4, kP, hkP, hkPi⟩ := Cond.selects_spec hsel
  cases hcls.symm.trans q1
  cases (State.methodFound?_of_named hnamed hy).symm.trans q2
  cases hnamed.symm.trans q3
  have hselP : selectMethod e.platform s.vm cellB.cls mk = .method mk := by rw [Launch.admits_selectMethod X.admits]; exact q4
  obtain ⟨vm₁, X₁, hstep₁⟩ := X.invokevirtual hexec hown hlink hnamed hmethM hstM hkP hkPi hy (a := b) (cell := cellB) hcell
    (fun z h => by rw [h] at hobj; cases hobj) hselP hmethM habM hkP hkPi (g := g) hg (argsL := argsL) (rest := rest) (hlen _ hsigM) hstack hdg
  rcases hK m meth c ⟨T.setVm vm₁, locs, cells, slots⟩ { g with stack := rest } (.invokevirtual index) mk (Value.ref b :: argsL).toArray X₁ hg hsize hdg hW (X₁.named hnamed) (hpre vm₁ X₁.warmed) with ⟨v, B, X', hpost, hsteps⟩ | ⟨q, B, X', hpost, hsteps⟩
  · exact Or.inl ⟨v, vm₁, B, X₁.warmed, X', hpost, fun target h => hstep₁ _ fun acts => by rw [doInvoke_state]; exact hsteps.trans h⟩
  · exact Or.inr ⟨q, vm₁, B, X₁.warmed, X', hpost, hstep₁ _ fun acts => by rw [doInvoke_state]; exact hsteps⟩
theorem vx_callSX (X : Stand p l e R s m args below meth c T locs cells slots) (hexec : p.tables.exec = Jvm.exec) {own : String} {index : Nat} {y : MethodName} {bytes : ByteArray} {maxL : Nat} {ret : Option FieldType} {hh : List (Nat × Nat × Nat × Nat)}
    (hown : s.vm.findClass own = some m.cls) (hlink : (Cond.methodLink own index y).before args s = true) (hstat : (Cond.static y).before args s = true) (hinit : (Cond.initialized y.cls).before args s = true)
    (hcode : (Cond.codeWith y bytes maxL ret hh).before args s = true) (hy : y.cls ≠ "java/lang/invoke/MethodHandle" ∧ y.cls ≠ "java/lang/invoke/VarHandle")
    {W9 : Nat} {Pre : Pt → Array Value → Prop} {Post : Pt → Array Value → Option Value → Pt → Prop} {PostX : Pt → Array Value → Addr → Pt → Prop} (hK : vx_Back l R p e below s args y 3 W9 Pre Post PostX)
    {g : JFrame} (hg : g.method = m) (hsize : g.locals.size = c.maxLocals) {argsL rest : List Value} (hlen : ∀ sig, parseMethodDescriptor y.desc = some sig → argsL.length = sig.parameters.length)
    (hstack : g.stack = argsL.reverse ++ rest) (hW : 2 * g.monitorRoom + (rest.map fun v => v.category).sum ≤ W9) (hdg : decode c.code g.pc = .ok (.invokestatic index, 3))
    (hpre : ∀ vm₁, s.WarmedH vm₁ → Pre ⟨T.setVm vm₁, locs, cells, slots⟩ argsL.toArray) :
    (∃ (v : Option Value) (vm₁ : Vm) (B : Pt), s.WarmedH vm₁ ∧ Stand p l e R s m args below meth c B.U B.locs B.cells B.slots ∧ Post ⟨T.setVm vm₁, locs, cells, slots⟩ argsL.toArray v B ∧
      ∀ target, Steps p.tables e below (B.U.setTop { g with pc := g.pc + 3, stack := v.toList ++ rest }) target → Steps p.tables e below (T.setTop g) target) ∨
    (∃ (q : Addr) (vm₁ : Vm) (B : Pt), s.WarmedH vm₁ ∧ Stand p l e R s m args below meth c B.U B.locs B.cells B.slots ∧ PostX ⟨T.setVm vm₁, locs, cells, slots⟩ argsL.toArray q B ∧
      Steps p.tables e below (T.setTop g) ((B.U.setTop { g with stack := rest }).pushFrame (.throwing q))) := by
  obtain ⟨mk, methM, cM, hnamed, hmethM, -, -, -, -, -, -, hsigM⟩ := Cond.codeWith_spec hcode
  have hstatic : methM.isStatic = true := Cond.static_spec hnamed hmethM hstat
  obtain ⟨kP, hkP, -⟩ := className_of_methodNamed hnamed
  have hinitP : kP.init = .initialized := Cond.initialized_spec (findClass_of_methodNamed hnamed) hkP hinit
  obtain ⟨vm₁, X₁, hstep₁⟩ := X.invokestatic hexec hown hlink hnamed hmethM hstatic hkP hinitP hy (g := g) hg (argsL := argsL) (rest := rest) (hlen _ hsigM) hstack hdg
  rcases hK m meth c ⟨T.setVm vm₁, locs, cells, slots⟩ { g with stack := rest } (.invokestatic index) mk argsL.toArray X₁ hg hsize hdg hW (X₁.named hnamed) (hpre vm₁ X₁.warmed) with ⟨v, B, X', hpost, hsteps⟩ | ⟨q, B, X', hpost, hsteps⟩
  · exact Or.inl ⟨v, vm₁, B, X₁.warmed, X', hpost, fun target h => hstep₁ _ fun acts => by rw [doInvoke_state]; exact hsteps.trans h⟩
  · exact Or.inr ⟨q, vm₁, B, X₁.warmed, X', hpost, hstep₁ _ fun acts => by rw [doInvoke_state]; exact hsteps⟩
theorem vx_callVW (X : Stand p l e R s m args below meth c T locs cells slots) (hexec : p.tables.exec = Jvm.exec) {own C : String} {index : Nat} {y : MethodName} {bytes : ByteArray} {maxL : Nat} {ret : Option FieldType} {hh : List (Nat × Nat × Nat × Nat)}
    (hown : s.vm.findClass own = some m.cls) (hlink : (Cond.methodLink own index y).before args s = true) (hinst : (Cond.instanceMethod y).before args s = true) (hsel : (Cond.selects C y y).before args s = true)
    (hcode : (Cond.codeWith y bytes maxL ret hh).before args s = true) (hy : y.cls ≠ "java/lang/invoke/MethodHandle" ∧ y.cls ≠ "java/lang/invoke/VarHandle")
    {W9 : Nat} {Pre : Pt → Array Value → Prop} {Post : Pt → Array Value → Option Value → Pt → Prop} (hK : Back l R p e below s args y 3 W9 Pre Post)
    {b : Addr} {cellB : Cell} (hcell : T.heap[b]? = some cellB) (hobj : cellB.vm.isStatics = false) (hcls : s.vm.findClass C = some cellB.cls)
    {g : JFrame} (hg : g.method = m) (hsize : g.locals.size = c.maxLocals) {argsL rest : List Value} (hlen : ∀ sig, parseMethodDescriptor y.desc = some sig → argsL.length = sig.parameters.length)
    (hstack : g.stack = argsL.reverse ++ .ref b :: rest) (hW : 2 * g.monitorRoom + (rest.map fun v => v.category).sum ≤ W9) (hdg : decode c.code g.pc = .ok (.invokevirtual index, 3))
    (hpre : ∀ vm₁, s.WarmedH vm₁ → Pre ⟨T.setVm vm₁, locs, cells, slots⟩ (Value.ref b :: argsL).toArray) :
    ∃ (v : Option Value) (vm₁ : Vm) (B : Pt), s.WarmedH vm₁ ∧ Stand p l e R s m args below meth c B.U B.locs B.cells B.slots ∧ Post ⟨T.setVm vm₁, locs, cells, slots⟩ (Value.ref b :: argsL).toArray v B ∧
      ∀ target, Steps p.tables e below (B.U.setTop { g with pc := g.pc + 3, stack := v.toList ++ rest }) target → Steps p.tables e below (T.setTop g) target := by
  obtain ⟨mk, methM, hnamed, hmethM, hstM, habM⟩ := Cond.instanceMethod_spec hinst
  obtain ⟨m8, methM', cM, hn8, hmethM', -, -, -, -, -, -, hsigM⟩ := Cond.codeWith_spec hcode
  cases Option.some.inj (hn8.symm.trans hnamed)
  cases hmethM.symm.trans hmethM'
  obtain ⟨c2, r2, m2, q1, q2, q3, q4, kP, hkP, hkPi⟩ := Cond.selects_spec hsel
  cases hcls.symm.trans q1
  cases (State.methodFound?_of_named hnamed hy).symm.trans q2
  cases hnamed.symm.trans q3
  have hselP : selectMethod e.platform s.vm cellB.cls mk = .method mk := by rw [Launch.admits_selectMethod X.admits]; exact q4
  obtain ⟨vm₁, X₁, hstep₁⟩ := X.invokevirtual hexec hown hlink hnamed hmethM hstM hkP hkPi hy (a := b) (cell := cellB) hcell
    (fun z h => by rw [h] at hobj; cases hobj) hselP hmethM habM hkP hkPi (g := g) hg (argsL := argsL) (rest := rest) (hlen _ hsigM) hstack hdg
  obtain ⟨v, B, X', hpost, hsteps⟩ := hK m meth c ⟨T.setVm vm₁, locs, cells, slots⟩ { g with stack := rest } (.invokevirtual index) mk (Value.ref b :: argsL).toArray X₁ hg hsize hdg hW (X₁.named hnamed) (hpre vm₁ X₁.warmed)
  exact ⟨v, vm₁, B, X₁.warmed, X', hpost, fun target h => hstep₁ _ fun acts => by rw [doInvoke_state]; exact hsteps.trans h⟩
abbrev vx_CVW (R : Room) (s : State) (args : Array Value) (own C : String) (index : Nat) (y : MethodName) (bytes : ByteArray) (maxL : Nat) (ret : Option FieldType) (hh : List (Nat × Nat × Nat × Nat)) (ws : List Cond) (rm : Room) (mc ms n : Nat) : Prop :=
  (rm.cells = mc ∧ rm.slots = ms ∧ rm.frames + 1 ≤ R.frames ∧ 8 + (maxL + 11) + rm.locals ≤ R.locals ∧ (∀ w ∈ ws, ∀ (a' : Array Value) (U : State), s.WarmedH U.vm → w.before a' U = true) ∧ Cond.codeWith y bytes maxL ret hh ∈ ws) ∧
  (Cond.codeWith y bytes maxL ret hh).before args s = true ∧ (Cond.initialized y.cls).before args s = true ∧ (y.cls ≠ "java/lang/invoke/MethodHandle" ∧ y.cls ≠ "java/lang/invoke/VarHandle") ∧
  (∀ sig, parseMethodDescriptor y.desc = some sig → n = sig.parameters.length) ∧ (Cond.methodLink own index y).before args s = true ∧ (Cond.instanceMethod y).before args s = true ∧ (Cond.selects C y y).before args s = true
theorem vx_cwVW {own C : String} {index maxL mc ms : Nat} {y : MethodName} {bytes : ByteArray} {ret : Option FieldType} {hh : List (Nat × Nat × Nat × Nat)} {Ts ws ws' : List Cond} {rm : Room} (n : Nat) (ht : ∀ w ∈ Ts, w.before args s = true) (hT : GoodIn Ts (wsV own index C y ws)) (hw : ws = Cond.codeWith y bytes maxL ret hh :: ws') (hrc : rm.cells = mc) (hrs : rm.slots = ms)
    (hd : y.cls = C ∧ y.cls ≠ "java/lang/invoke/MethodHandle" ∧ y.cls ≠ "java/lang/invoke/VarHandle" ∧ (parseMethodDescriptor y.desc).map (fun d => d.parameters.length) = some n) (hR : rm.frames + 1 ≤ R.frames ∧ 8 + (maxL + 11) + rm.locals ≤ R.locals) :
    vx_CVW R s args own C index y bytes maxL ret hh ws rm mc ms n := by
  obtain ⟨hC, hd⟩ := hd
  subst hC
  have ok : ∀ w ∈ wsV own index y.cls y ws, w.before args s = true := fun w h => ht w (hT w h).1
  have hG : GoodIn Ts ws := fun w h => hT w (by unfold wsV; exact List.mem_append_right _ h)
  have hc : Cond.codeWith y bytes maxL ret hh ∈ ws := by rw [hw]; exact List.mem_cons_self
  refine ⟨⟨hrc, hrs, hR.1, hR.2, pay_in ht hG, hc⟩, ht _ (hG _ hc).1, ok _ (by simp [wsV]), ⟨hd.1, hd.2.1⟩, fun sig h => ?_, ok _ (by simp [wsV]), ok _ (by simp [wsV]), ok _ (by simp [wsV])⟩
  have h2 := hd.2.2
  rw [h] at h2
  exact (Option.some.inj h2).symm
theorem vx_runVW {y : MethodName} {bytes cc : ByteArray} {maxL nL mc ms n index : Nat} {ret : Option FieldType} {hh : List (Nat × Nat × Nat × Nat)} {ws : List Cond} {rm : Room} {Pc : Array Value → State → Prop} {Qc : Array Value → State → Outcome → State → Prop} {free : Addr → Prop} {Ts : List Cond} {own C : String} {b : Addr} {As rest : List Value} {g : JFrame}
    (S : CallFix p m c cc nL s args Ts own) (hM : Met l y ws rm Pc Qc mc ms free) (cw : vx_CVW R s args own C index y bytes maxL ret hh ws rm mc ms n) (hp : PreV s H C b Pc As)
    (hg : g.method = m) (hn : As.length = n) (hsize : g.locals.size = nL) (hstack : g.stack = As.reverse ++ .ref b :: rest) (hW : 2 * g.monitorRoom + (rest.map fun v => v.category).sum ≤ 8) (hdg : decode cc g.pc = .ok (.invokevirtual index, 3)) (hf : cells + mc ≤ R.cells ∧ slots + ms ≤ R.slots) :
    va_Run p l e R s m args below meth c H locs cells slots mc ms g rest (Qc (Value.ref b :: As).toArray) free := by
  obtain ⟨⟨hrc, hrs, hfr, hlo, hws, hcw⟩, hcode, hini, hy, hlen, hl, hin, hse⟩ := cw
  have hK : Back l R p e below s args y 3 8 (PreOf R mc ms Pc) (PostOf Qc mc ms free) := va_backW (hh := hh) (bytes := bytes) (maxL := maxL) (ret := ret) hM hp.1 hrc hrs hfr hlo hws hcw (fun a' U hW => word_at hW (Or.inl (by first | rfl | simp [Cond.onTables, Cond.keeps, Cond.steady])) hini)
  obtain ⟨hx, hb, hml, ho, -⟩ := S
  obtain ⟨-, ⟨cellB, hcB, hoB, hclB⟩, hPc⟩ := hp
  intro T hT X
  obtain ⟨v, vm₁, ⟨U', l2, c2, s2⟩, hW₁, X', ⟨g', mk, t, L, e1, e2, hq, h1, hL, h2, h3⟩, st⟩ := vx_callVW X hx (C := C) (hh := hh) (bytes := bytes) (maxL := maxL) (ret := ret) ho hl hin hse hcode hy hK (by rw [hT]; exact hcB) hoB hclB hg (hsize.trans hml.symm) (argsL := As) (rest := rest) (fun sig h => hn.trans (hlen sig h)) hstack hW (by rw [hb]; exact hdg)
    (fun vm₁ hW₁ => ⟨hf.1, hf.2, hPc (T.setVm vm₁) hT hW₁⟩)
  dsimp only [Pt.U, Pt.locs, Pt.cells, Pt.slots] at X' e1 e2 h1 h2 h3 st
  subst h1; subst h2; subst h3
  exact ⟨v, (T.setVm vm₁).calling g' mk (Value.ref b :: As).toArray, t, U', L, hT, X', hL, e1, e2, hq, st⟩
section
variable {y : MethodName} {bytes cc : ByteArray} {maxL nL mc ms n index : Nat} {ret : Option FieldType} {ws : List Cond} {rm : Room} {Pc : Array Value → State → Prop} {Qc : Array Value → State → Outcome → State → Prop} {XC : String → State → State → Prop} {free : Addr → Prop} {Ts : List Cond} {own C : String} {b : Addr} {As rest : List Value} {g : JFrame}
theorem vx_runVX {hh : List (Nat × Nat × Nat × Nat)} (S : CallFix p m c cc nL s args Ts own) (hM : vx_Met l y ws rm Pc Qc XC mc ms free) (cw : vx_CVW R s args own C index y bytes maxL ret hh ws rm mc ms n) (hp : PreV s H C b Pc As)
    (hg : g.method = m) (hn : As.length = n) (hsize : g.locals.size = nL) (hstack : g.stack = As.reverse ++ .ref b :: rest) (hW : 2 * g.monitorRoom + (rest.map fun v => v.category).sum ≤ 8) (hdg : decode cc g.pc = .ok (.invokevirtual index, 3)) (hf : cells + mc ≤ R.cells ∧ slots + ms ≤ R.slots) :
    vx_Run p l e R s m args below meth c H locs cells slots mc ms g rest (Qc (Value.ref b :: As).toArray) XC free := by
  obtain ⟨⟨hrc, hrs, hfr, hlo, hws, hcw⟩, hcode, hini, hy, hlen, hl, hin, hse⟩ := cw
  have hK : vx_Back l R p e below s args y 3 8 (PreOf R mc ms Pc) (PostOf Qc mc ms free) (vx_Post XC mc ms free) := vx_backW (hh := hh) (bytes := bytes) (maxL := maxL) (ret := ret) hM hp.1 hrc hrs hfr hlo hws hcw (fun a' U hW => word_at hW (Or.inl (by first | rfl | simp [Cond.onTables, Cond.keeps, Cond.steady])) hini)
  obtain ⟨hx, hb, hml, ho, -⟩ := S
  obtain ⟨-, ⟨cellB, hcB, hoB, hclB⟩, hPc⟩ := hp
  intro T hT X
  rcases vx_callVX X hx (C := C) (hh := hh) (bytes := bytes) (maxL := maxL) (ret := ret) ho hl hin hse hcode hy hK (by rw [hT]; exact hcB) hoB hclB hg (hsize.trans hml.symm) (argsL := As) (rest := rest) (fun sig h => hn.trans (hlen sig h)) hstack hW (by rw [hb]; exact hdg)
    (fun vm₁ hW₁ => ⟨hf.1, hf.2, hPc (T.setVm vm₁) hT hW₁⟩) with ⟨v, vm₁, ⟨U', l2, c2, s2⟩, hW₁, X', ⟨g', mk, t, L, e1, e2, hq, h1, hL, h2, h3⟩, st⟩ | ⟨q, vm₁, ⟨U', l2, c2, s2⟩, hW₁, X', ⟨g', mk, t, L, E, ce, e1, e2, hq, hce, hcv, hcl, h1, hL, h2, h3⟩, st⟩
  · dsimp only [Pt.U, Pt.locs, Pt.cells, Pt.slots] at X' e1 e2 h1 h2 h3 st
    subst h1; subst h2; subst h3
    exact Or.inl ⟨v, (T.setVm vm₁).calling g' mk (Value.ref b :: As).toArray, t, U', L, hT, X', hL, e1, e2, hq, st⟩
  · dsimp only [Pt.U, Pt.locs, Pt.cells, Pt.slots] at X' e1 e2 h1 h2 h3 st hcl
    subst h1; subst h2; subst h3
    exact Or.inr ⟨q, (T.setVm vm₁).calling g' mk (Value.ref b :: As).toArray, t, U', L, E, ce, hT, X', hL, e1, e2, hq, hce, hcv, vx_cls hW₁ hcl, st⟩
theorem vx_runSX {hh : List (Nat × Nat × Nat × Nat)} (S : CallFix p m c cc nL s args Ts own) (hM : vx_Met l y ws rm Pc Qc XC mc ms free) (cw : vx_CSW R s args own index y bytes maxL ret hh ws rm mc ms n) (hp : PreS s H Pc As)
    (hg : g.method = m) (hn : As.length = n) (hsize : g.locals.size = nL) (hstack : g.stack = As.reverse ++ rest) (hW : 2 * g.monitorRoom + (rest.map fun v => v.category).sum ≤ 8) (hdg : decode cc g.pc = .ok (.invokestatic index, 3)) (hf : cells + mc ≤ R.cells ∧ slots + ms ≤ R.slots) :
    vx_Run p l e R s m args below meth c H locs cells slots mc ms g rest (Qc As.toArray) XC free := by
  obtain ⟨⟨hrc, hrs, hfr, hlo, hws, hcw⟩, hcode, hini, hy, hlen, hl, hstt⟩ := cw
  have hK : vx_Back l R p e below s args y 3 8 (PreOf R mc ms Pc) (PostOf Qc mc ms free) (vx_Post XC mc ms free) := vx_backW (hh := hh) (bytes := bytes) (maxL := maxL) (ret := ret) hM hp.1 hrc hrs hfr hlo hws hcw (fun a' U hW => word_at hW (Or.inl (by first | rfl | simp [Cond.onTables, Cond.keeps, Cond.steady])) hini)
  obtain ⟨hx, hb, hml, ho, -⟩ := S
  intro T hT X
  rcases vx_callSX X hx (hh := hh) (bytes := bytes) (maxL := maxL) (ret := ret) ho hl hstt hini hcode hy hK hg (hsize.trans hml.symm) (argsL := As) (rest := rest) (fun sig h => hn.trans (hlen sig h)) hstack hW (by rw [hb]; exact hdg)
    (fun vm₁ hW₁ => ⟨hf.1, hf.2, hp.2 (T.setVm vm₁) hT hW₁⟩) with ⟨v, vm₁, ⟨U', l2, c2, s2⟩, hW₁, X', ⟨g', mk, t, L, e1, e2, hq, h1, hL, h2, h3⟩, st⟩ | ⟨q, vm₁, ⟨U', l2, c2, s2⟩, hW₁, X', ⟨g', mk, t, L, E, ce, e1, e2, hq, hce, hcv, hcl, h1, hL, h2, h3⟩, st⟩
  · dsimp only [Pt.U, Pt.locs, Pt.cells, Pt.slots] at X' e1 e2 h1 h2 h3 st
    subst h1; subst h2; subst h3
    exact Or.inl ⟨v, (T.setVm vm₁).calling g' mk As.toArray, t, U', L, hT, X', hL, e1, e2, hq, st⟩
  · dsimp only [Pt.U, Pt.locs, Pt.cells, Pt.slots] at X' e1 e2 h1 h2 h3 st hcl
    subst h1; subst h2; subst h3
    exact Or.inr ⟨q, (T.setVm vm₁).calling g' mk As.toArray, t, U', L, E, ce, hT, X', hL, e1, e2, hq, hce, hcv, vx_cls hW₁ hcl, st⟩
end
end VXH
theorem vx_ofWH {l : Launch} {y : MethodName} {ws ws' : List Cond} {rm : Room} {Pc : Array Value → State → Prop} {Qc : Array Value → State → Outcome → State → Prop} {XC : String → State → State → Prop} {mc ms : Nat} {free : Addr → Prop} {cc : ByteArray} {maxL : Nat} {ret : Option FieldType} {hh : List (Nat × Nat × Nat × Nat)}
    (hy : plainName y.cls = true) (hw : ws = Cond.codeWith y cc maxL ret hh :: ws')
    (body : ∀ p e s m args below meth c s₁, BodyLoose p l y (headSpec ws rm) cc maxL ret e s m args below meth c s₁ → c.maxLocals = maxL → Pc args s →
      W p l e (headSpec ws rm).room s m args below meth c s.heap [] 0 0 (vx_MQ below Qc XC args s mc ms free) (entryFrame m args maxL)) : vx_Met l y ws rm Pc Qc XC mc ms free := by
  refine MetFree.of_bodyS (code := cc) (maxLocals := maxL) (ret := ret) hy ?_ ?_
  · intro args s m h hn
    obtain ⟨m9, meth, c, hn9, h1, h2, h3, h4, -, h5, h6, -⟩ := Cond.codeWith_spec (atoms_spec (ws := ws) h _ (by rw [hw]; exact List.mem_cons_self))
    cases hn.symm.trans hn9
    exact ⟨meth, c, h1, h2, h3, h4, h5, h6⟩
  · intro p e s m args below meth c s₁ B hml hP _
    have hh0 : s₁.heap = s.heap := by rw [B.state]; rfl
    obtain ⟨t, a1, o, b1, b2, b3⟩ := body p e s m args below meth c s₁ B hml hP s₁ hh0 (Stand.of_body B)
    exact ⟨t, o, a1, b1, b2, b3⟩
/-! ===== END ===== -/
end
section
def RX0 : String := "SpiralDominoes$Game"
def TX0 : u_T := fun k => match k with
  | 0 => ("SpiralDominoes$Game", "rounds", "I", false)
  | 1 => ("SpiralDominoes$Game", "refused", "I", false)
  | 2 => ("SpiralDominoes$Game", "laidInAll", "I", false)
  | 3 => ("SpiralDominoes$Game", "phase", "I", false)
  | 4 => ("SpiralDominoes$Game", "players", "I", false)
  | 5 => ("SpiralDominoes$Game", "turn", "I", false)
  | 6 => ("SpiralDominoes$Game", "passes", "I", false)
  | 7 => ("SpiralDominoes$Game", "row", "[I", true)
  | 8 => ("SpiralDominoes$Game", "heapBegin", "I", false)
  | 9 => ("SpiralDominoes$Game", "holders", "[I", true)
  | 10 => ("SpiralDominoes$Game", "scores", "[I", true)
  | 11 => ("SpiralDominoes$Game", "wins", "[I", true)
  | _ => ("SpiralDominoes$Game", "line", "LSpiralDominoes$Line;", true)
def tyX0 : Nat → FieldType := fun k => match k with
  | 0 => .int
  | 1 => .int
  | 2 => .int
  | 3 => .int
  | 4 => .int
  | 5 => .int
  | 6 => .int
  | 7 => .array .int
  | 8 => .int
  | 9 => .array .int
  | 10 => .array .int
  | 11 => .array .int
  | _ => .object "SpiralDominoes$Line"
abbrev wsX00 : List Cond := u_ws RX0 TX0 13
theorem nmX0 : ∀ a, a < 13 → ∀ b, b < 13 → a ≠ b → (TX0 a).2.1 ≠ (TX0 b).2.1 := by decide +kernel
theorem tyX0_ok : ∀ k, k < 13 → parseFieldDescriptor (TX0 k).2.2.1 = some (tyX0 k) := by decide +kernel
abbrev cX0_init : ByteArray := prog_2_method_1_code
def yX0_init : MethodName := ⟨RX0, "<init>", "()V"⟩
abbrev cX0_becomeNew : ByteArray := prog_2_method_2_code
def yX0_becomeNew : MethodName := ⟨RX0, "becomeNew", "()V"⟩
abbrev cX0_becomeLike : ByteArray := prog_2_method_3_code
def yX0_becomeLike : MethodName := ⟨RX0, "becomeLike", "(LSpiralDominoes$Game;)V"⟩
abbrev cX0_line : ByteArray := prog_2_method_4_code
def yX0_line : MethodName := ⟨RX0, "line", "()LSpiralDominoes$Line;"⟩
abbrev cX0_roundsSoFar : ByteArray := prog_2_method_5_code
def yX0_roundsSoFar : MethodName := ⟨RX0, "roundsSoFar", "()I"⟩
abbrev cX0_isPlayed : ByteArray := prog_2_method_6_code
def yX0_isPlayed : MethodName := ⟨RX0, "isPlayed", "()Z"⟩
abbrev cX0_playerToMove : ByteArray := prog_2_method_7_code
def yX0_playerToMove : MethodName := ⟨RX0, "playerToMove", "()I"⟩
abbrev cX0_heapSize : ByteArray := prog_2_method_8_code
def yX0_heapSize : MethodName := ⟨RX0, "heapSize", "()I"⟩
abbrev cX0_numberOfGame : ByteArray := prog_2_method_9_code
def yX0_numberOfGame : MethodName := ⟨RX0, "numberOfGame", "(I)I"⟩
abbrev cX0_numberOfTile : ByteArray := prog_2_method_10_code
def yX0_numberOfTile : MethodName := ⟨RX0, "numberOfTile", "(II)I"⟩
abbrev cX0_numberOfPlayer : ByteArray := prog_2_method_11_code
def yX0_numberOfPlayer : MethodName := ⟨RX0, "numberOfPlayer", "(II)I"⟩
abbrev cX0_tilesOf : ByteArray := prog_2_method_12_code
def yX0_tilesOf : MethodName := ⟨RX0, "tilesOf", "(I)I"⟩
abbrev cX0_startRound : ByteArray := prog_2_method_13_code
def yX0_startRound : MethodName := ⟨RX0, "startRound", "(IJ)Z"⟩
abbrev cX0_shuffle : ByteArray := prog_2_method_14_code
def yX0_shuffle : MethodName := ⟨RX0, "shuffle", "(J)V"⟩
abbrev cX0_reasonAgainst : ByteArray := prog_2_method_15_code
def yX0_reasonAgainst : MethodName := ⟨RX0, "reasonAgainst", "(I)I"⟩
abbrev cX0_layOrRefuse : ByteArray := prog_2_method_16_code
def yX0_layOrRefuse : MethodName := ⟨RX0, "layOrRefuse", "(IZ)I"⟩
abbrev cX0_layIfPossible : ByteArray := prog_2_method_17_code
def yX0_layIfPossible : MethodName := ⟨RX0, "layIfPossible", "(IZ)Z"⟩
abbrev cX0_layHeaviest : ByteArray := prog_2_method_18_code
def yX0_layHeaviest : MethodName := ⟨RX0, "layHeaviest", "(I)Z"⟩
abbrev cX0_canTakeFromHeap : ByteArray := prog_2_method_19_code
def yX0_canTakeFromHeap : MethodName := ⟨RX0, "canTakeFromHeap", "()Z"⟩
abbrev cX0_takeFromHeap : ByteArray := prog_2_method_20_code
def yX0_takeFromHeap : MethodName := ⟨RX0, "takeFromHeap", "()I"⟩
abbrev cX0_canSkipTurn : ByteArray := prog_2_method_21_code
def yX0_canSkipTurn : MethodName := ⟨RX0, "canSkipTurn", "()Z"⟩
abbrev cX0_skipTurn : ByteArray := prog_2_method_22_code
def yX0_skipTurn : MethodName := ⟨RX0, "skipTurn", "()I"⟩
abbrev cX0_goToNextPlayer : ByteArray := prog_2_method_23_code
def yX0_goToNextPlayer : MethodName := ⟨RX0, "goToNextPlayer", "()V"⟩
abbrev cX0_playerWithFewestPips : ByteArray := prog_2_method_24_code
def yX0_playerWithFewestPips : MethodName := ⟨RX0, "playerWithFewestPips", "()I"⟩
abbrev cX0_winRound : ByteArray := prog_2_method_25_code
def yX0_winRound : MethodName := ⟨RX0, "winRound", "(I)V"⟩
abbrev cX0_playable : ByteArray := prog_2_method_26_code
def yX0_playable : MethodName := ⟨RX0, "playable", "()I"⟩
abbrev cX0_heaviestPlayable : ByteArray := prog_2_method_27_code
def yX0_heaviestPlayable : MethodName := ⟨RX0, "heaviestPlayable", "()I"⟩
abbrev cX0_longestChainOf : ByteArray := prog_2_method_28_code
def yX0_longestChainOf : MethodName := ⟨RX0, "longestChainOf", "(II)I"⟩
abbrev cX0_mostFromAnyTile : ByteArray := prog_2_method_29_code
def yX0_mostFromAnyTile : MethodName := ⟨RX0, "mostFromAnyTile", "(II)I"⟩
abbrev cX0_mostBehind : ByteArray := prog_2_method_30_code
def yX0_mostBehind : MethodName := ⟨RX0, "mostBehind", "(III)I"⟩
abbrev cX0_holderOf : ByteArray := prog_2_method_31_code
def yX0_holderOf : MethodName := ⟨RX0, "holderOf", "(I)I"⟩
abbrev cX0_giveTo : ByteArray := prog_2_method_32_code
def yX0_giveTo : MethodName := ⟨RX0, "giveTo", "(II)V"⟩
abbrev cX0_handOf : ByteArray := prog_2_method_33_code
def yX0_handOf : MethodName := ⟨RX0, "handOf", "(I)I"⟩
abbrev cX0_pipsOf : ByteArray := prog_2_method_34_code
def yX0_pipsOf : MethodName := ⟨RX0, "pipsOf", "(I)I"⟩
abbrev cX0_placeInHeap : ByteArray := prog_2_method_35_code
def yX0_placeInHeap : MethodName := ⟨RX0, "placeInHeap", "(I)I"⟩
def RX1 : String := "SpiralDominoes$History"
def TX1 : u_T := fun k => match k with
  | 0 => ("SpiralDominoes$History", "states", "[LSpiralDominoes$Game;", true)
  | 1 => ("SpiralDominoes$History", "begin", "I", false)
  | _ => ("SpiralDominoes$History", "size", "I", false)
def tyX1 : Nat → FieldType := fun k => match k with
  | 0 => .array (.object "SpiralDominoes$Game")
  | 1 => .int
  | _ => .int
abbrev wsX10 : List Cond := u_ws RX1 TX1 3
theorem nmX1 : ∀ a, a < 3 → ∀ b, b < 3 → a ≠ b → (TX1 a).2.1 ≠ (TX1 b).2.1 := by decide +kernel
theorem tyX1_ok : ∀ k, k < 3 → parseFieldDescriptor (TX1 k).2.2.1 = some (tyX1 k) := by decide +kernel
abbrev cX1_init : ByteArray := prog_3_method_1_code
def yX1_init : MethodName := ⟨RX1, "<init>", "()V"⟩
abbrev cX1_size : ByteArray := prog_3_method_2_code
def yX1_size : MethodName := ⟨RX1, "size", "()I"⟩
abbrev cX1_forget : ByteArray := prog_3_method_3_code
def yX1_forget : MethodName := ⟨RX1, "forget", "()V"⟩
abbrev cX1_remember : ByteArray := prog_3_method_4_code
def yX1_remember : MethodName := ⟨RX1, "remember", "(LSpiralDominoes$Game;)V"⟩
abbrev cX1_takeBack : ByteArray := prog_3_method_5_code
def yX1_takeBack : MethodName := ⟨RX1, "takeBack", "(LSpiralDominoes$Game;)I"⟩
abbrev cX1_stateOf : ByteArray := prog_3_method_6_code
def yX1_stateOf : MethodName := ⟨RX1, "stateOf", "(I)LSpiralDominoes$Game;"⟩
def RX2 : String := "SpiralDominoes$Line"
def TX2 : u_T := fun k => match k with
  | 0 => ("SpiralDominoes$Line", "size", "I", false)
  | 1 => ("SpiralDominoes$Line", "end", "I", false)
  | 2 => ("SpiralDominoes$Line", "direction", "I", false)
  | 3 => ("SpiralDominoes$Line", "nextX", "I", false)
  | 4 => ("SpiralDominoes$Line", "nextY", "I", false)
  | 5 => ("SpiralDominoes$Line", "tiles", "[I", true)
  | 6 => ("SpiralDominoes$Line", "xs", "[I", true)
  | 7 => ("SpiralDominoes$Line", "ys", "[I", true)
  | 8 => ("SpiralDominoes$Line", "ways", "[I", true)
  | 9 => ("SpiralDominoes$Line", "firsts", "[I", true)
  | _ => ("SpiralDominoes$Line", "covered", "[I", true)
def tyX2 : Nat → FieldType := fun k => match k with
  | 0 => .int
  | 1 => .int
  | 2 => .int
  | 3 => .int
  | 4 => .int
  | 5 => .array .int
  | 6 => .array .int
  | 7 => .array .int
  | 8 => .array .int
  | 9 => .array .int
  | _ => .array .int
abbrev wsX20 : List Cond := u_ws RX2 TX2 11
theorem nmX2 : ∀ a, a < 11 → ∀ b, b < 11 → a ≠ b → (TX2 a).2.1 ≠ (TX2 b).2.1 := by decide +kernel
theorem tyX2_ok : ∀ k, k < 11 → parseFieldDescriptor (TX2 k).2.2.1 = some (tyX2 k) := by decide +kernel
abbrev cX2_init : ByteArray := prog_4_method_1_code
def yX2_init : MethodName := ⟨RX2, "<init>", "()V"⟩
abbrev cX2_size : ByteArray := prog_4_method_2_code
def yX2_size : MethodName := ⟨RX2, "size", "()I"⟩
abbrev cX2_endOfNow : ByteArray := prog_4_method_3_code
def yX2_endOfNow : MethodName := ⟨RX2, "endOfNow", "()I"⟩
abbrev cX2_directionOfNow : ByteArray := prog_4_method_4_code
def yX2_directionOfNow : MethodName := ⟨RX2, "directionOfNow", "()I"⟩
abbrev cX2_becomeEmpty : ByteArray := prog_4_method_5_code
def yX2_becomeEmpty : MethodName := ⟨RX2, "becomeEmpty", "()V"⟩
abbrev cX2_becomeLike : ByteArray := prog_4_method_6_code
def yX2_becomeLike : MethodName := ⟨RX2, "becomeLike", "(LSpiralDominoes$Line;)V"⟩
abbrev cX2_fits : ByteArray := prog_4_method_7_code
def yX2_fits : MethodName := ⟨RX2, "fits", "(I)Z"⟩
abbrev cX2_hasRoom : ByteArray := prog_4_method_8_code
def yX2_hasRoom : MethodName := ⟨RX2, "hasRoom", "()Z"⟩
abbrev cX2_add : ByteArray := prog_4_method_9_code
def yX2_add : MethodName := ⟨RX2, "add", "(IZ)V"⟩
abbrev cX2_placeOf : ByteArray := prog_4_method_10_code
def yX2_placeOf : MethodName := ⟨RX2, "placeOf", "(I)I"⟩
abbrev cX2_numberOfPlace : ByteArray := prog_4_method_11_code
def yX2_numberOfPlace : MethodName := ⟨RX2, "numberOfPlace", "(II)I"⟩
abbrev cX2_pips : ByteArray := prog_4_method_12_code
def yX2_pips : MethodName := ⟨RX2, "pips", "()I"⟩
abbrev cX2_pipsAt : ByteArray := prog_4_method_13_code
def yX2_pipsAt : MethodName := ⟨RX2, "pipsAt", "(II)I"⟩
abbrev cX2_freeByCells : ByteArray := prog_4_method_14_code
def yX2_freeByCells : MethodName := ⟨RX2, "freeByCells", "()I"⟩
abbrev cX2_freeByTiles : ByteArray := prog_4_method_15_code
def yX2_freeByTiles : MethodName := ⟨RX2, "freeByTiles", "()I"⟩
abbrev cX2_numberOfReach : ByteArray := prog_4_method_16_code
def yX2_numberOfReach : MethodName := ⟨RX2, "numberOfReach", "(I)I"⟩
abbrev cX2_least : ByteArray := prog_4_method_17_code
def yX2_least : MethodName := ⟨RX2, "least", "(Z)I"⟩
abbrev cX2_greatest : ByteArray := prog_4_method_18_code
def yX2_greatest : MethodName := ⟨RX2, "greatest", "(Z)I"⟩
abbrev cX2_step : ByteArray := prog_4_method_19_code
def yX2_step : MethodName := ⟨RX2, "step", "(IZ)I"⟩
abbrev cX2_turnsTo : ByteArray := prog_4_method_20_code
def yX2_turnsTo : MethodName := ⟨RX2, "turnsTo", "(I)I"⟩
abbrev cX2_isFree : ByteArray := prog_4_method_21_code
def yX2_isFree : MethodName := ⟨RX2, "isFree", "(II)Z"⟩
abbrev cX2_cover : ByteArray := prog_4_method_22_code
def yX2_cover : MethodName := ⟨RX2, "cover", "(II)V"⟩
def RX3 : String := "SpiralDominoes$Slot"
def TX3 : u_T := fun k => match k with
  | 0 => ("SpiralDominoes$Slot", "kept", "LSpiralDominoes$Game;", true)
  | _ => ("SpiralDominoes$Slot", "full", "Z", false)
def tyX3 : Nat → FieldType := fun k => match k with
  | 0 => .object "SpiralDominoes$Game"
  | _ => .boolean
abbrev wsX30 : List Cond := u_ws RX3 TX3 2
theorem nmX3 : ∀ a, a < 2 → ∀ b, b < 2 → a ≠ b → (TX3 a).2.1 ≠ (TX3 b).2.1 := by decide +kernel
theorem tyX3_ok : ∀ k, k < 2 → parseFieldDescriptor (TX3 k).2.2.1 = some (tyX3 k) := by decide +kernel
abbrev cX3_init : ByteArray := prog_5_method_1_code
def yX3_init : MethodName := ⟨RX3, "<init>", "()V"⟩
abbrev cX3_isFull : ByteArray := prog_5_method_2_code
def yX3_isFull : MethodName := ⟨RX3, "isFull", "()Z"⟩
abbrev cX3_becomeEmpty : ByteArray := prog_5_method_3_code
def yX3_becomeEmpty : MethodName := ⟨RX3, "becomeEmpty", "()V"⟩
abbrev cX3_keep : ByteArray := prog_5_method_4_code
def yX3_keep : MethodName := ⟨RX3, "keep", "(LSpiralDominoes$Game;)V"⟩
abbrev cX3_giveBack : ByteArray := prog_5_method_5_code
def yX3_giveBack : MethodName := ⟨RX3, "giveBack", "(LSpiralDominoes$Game;)V"⟩
def RX4 : String := "SpiralDominoes$Text"
def TX4 : u_T := fun k => match k with
  | 0 => ("SpiralDominoes$Text", "signs", "[I", true)
  | _ => ("SpiralDominoes$Text", "length", "I", false)
def tyX4 : Nat → FieldType := fun k => match k with
  | 0 => .array .int
  | _ => .int
abbrev wsX40 : List Cond := u_ws RX4 TX4 2
theorem nmX4 : ∀ a, a < 2 → ∀ b, b < 2 → a ≠ b → (TX4 a).2.1 ≠ (TX4 b).2.1 := by decide +kernel
theorem tyX4_ok : ∀ k, k < 2 → parseFieldDescriptor (TX4 k).2.2.1 = some (tyX4 k) := by decide +kernel
abbrev cX4_init : ByteArray := prog_6_method_1_code
def yX4_init : MethodName := ⟨RX4, "<init>", "()V"⟩
abbrev cX4_isFull : ByteArray := prog_6_method_2_code
def yX4_isFull : MethodName := ⟨RX4, "isFull", "()Z"⟩
abbrev cX4_size : ByteArray := prog_6_method_3_code
def yX4_size : MethodName := ⟨RX4, "size", "()I"⟩
abbrev cX4_add : ByteArray := prog_6_method_4_code
def yX4_add : MethodName := ⟨RX4, "add", "(I)I"⟩
abbrev cX4_signAt : ByteArray := prog_6_method_6_code
def yX4_signAt : MethodName := ⟨RX4, "signAt", "(I)I"⟩
abbrev cX4_digitAt : ByteArray := prog_6_method_7_code
def yX4_digitAt : MethodName := ⟨RX4, "digitAt", "(I)I"⟩
abbrev cX4_numberAt : ByteArray := prog_6_method_8_code
def yX4_numberAt : MethodName := ⟨RX4, "numberAt", "(I)I"⟩
abbrev cX4_firstError : ByteArray := prog_6_method_9_code
def yX4_firstError : MethodName := ⟨RX4, "firstError", "()I"⟩
abbrev cX4_isEndOfCommand : ByteArray := prog_6_method_10_code
def yX4_isEndOfCommand : MethodName := ⟨RX4, "isEndOfCommand", "(II)Z"⟩
abbrev cX4_lengthOfCommand : ByteArray := prog_6_method_11_code
def yX4_lengthOfCommand : MethodName := ⟨RX4, "lengthOfCommand", "(I)I"⟩
abbrev cX4_isAllowed : ByteArray := prog_6_method_12_code
def yX4_isAllowed : MethodName := ⟨RX4, "isAllowed", "(II)Z"⟩
abbrev cX4_isDigit : ByteArray := prog_6_method_13_code
def yX4_isDigit : MethodName := ⟨RX4, "isDigit", "(III)Z"⟩
def RX5 : String := "SpiralDominoes"
def TX5 : u_T := fun k => match k with
  | 0 => ("SpiralDominoes", "text", "LSpiralDominoes$Text;", true)
  | 1 => ("SpiralDominoes", "now", "LSpiralDominoes$Game;", true)
  | 2 => ("SpiralDominoes", "trial", "LSpiralDominoes$Game;", true)
  | 3 => ("SpiralDominoes", "history", "LSpiralDominoes$History;", true)
  | 4 => ("SpiralDominoes", "firstSlot", "LSpiralDominoes$Slot;", true)
  | _ => ("SpiralDominoes", "secondSlot", "LSpiralDominoes$Slot;", true)
def tyX5 : Nat → FieldType := fun k => match k with
  | 0 => .object "SpiralDominoes$Text"
  | 1 => .object "SpiralDominoes$Game"
  | 2 => .object "SpiralDominoes$Game"
  | 3 => .object "SpiralDominoes$History"
  | 4 => .object "SpiralDominoes$Slot"
  | _ => .object "SpiralDominoes$Slot"
abbrev wsX50 : List Cond := u_ws RX5 TX5 6
theorem nmX5 : ∀ a, a < 6 → ∀ b, b < 6 → a ≠ b → (TX5 a).2.1 ≠ (TX5 b).2.1 := by decide +kernel
theorem tyX5_ok : ∀ k, k < 6 → parseFieldDescriptor (TX5 k).2.2.1 = some (tyX5 k) := by decide +kernel
abbrev cX5_init : ByteArray := prog_1_method_1_code
def yX5_init : MethodName := ⟨RX5, "<init>", "()V"⟩
abbrev cX5_append : ByteArray := prog_1_method_2_code
def yX5_append : MethodName := ⟨RX5, "append", "(I)I"⟩
abbrev cX5_load : ByteArray := prog_1_method_5_code
def yX5_load : MethodName := ⟨RX5, "load", "()I"⟩
abbrev cX5_doCommandsOfText : ByteArray := prog_1_method_6_code
def yX5_doCommandsOfText : MethodName := ⟨RX5, "doCommandsOfText", "()I"⟩
abbrev cX5_doCommandAt : ByteArray := prog_1_method_7_code
def yX5_doCommandAt : MethodName := ⟨RX5, "doCommandAt", "(I)Z"⟩
abbrev cX5_about : ByteArray := prog_1_method_8_code
def yX5_about : MethodName := ⟨RX5, "about", "(I)I"⟩
abbrev cX5_tileOf : ByteArray := prog_1_method_9_code
def yX5_tileOf : MethodName := ⟨RX5, "tileOf", "(II)I"⟩
abbrev cX5_laid : ByteArray := prog_1_method_10_code
def yX5_laid : MethodName := ⟨RX5, "laid", "(II)I"⟩
abbrev cX5_playerOf : ByteArray := prog_1_method_11_code
def yX5_playerOf : MethodName := ⟨RX5, "playerOf", "(II)I"⟩
abbrev cX5_at : ByteArray := prog_1_method_12_code
def yX5_at : MethodName := ⟨RX5, "at", "(II)I"⟩
abbrev cX5_free : ByteArray := prog_1_method_13_code
def yX5_free : MethodName := ⟨RX5, "free", "(I)I"⟩
abbrev cX5_deal : ByteArray := prog_1_method_14_code
def yX5_deal : MethodName := ⟨RX5, "deal", "(IJ)I"⟩
abbrev cX5_play : ByteArray := prog_1_method_15_code
def yX5_play : MethodName := ⟨RX5, "play", "(IZ)I"⟩
abbrev cX5_draw : ByteArray := prog_1_method_16_code
def yX5_draw : MethodName := ⟨RX5, "draw", "()I"⟩
abbrev cX5_pass : ByteArray := prog_1_method_17_code
def yX5_pass : MethodName := ⟨RX5, "pass", "()I"⟩
abbrev cX5_undo : ByteArray := prog_1_method_18_code
def yX5_undo : MethodName := ⟨RX5, "undo", "()I"⟩
abbrev cX5_why : ByteArray := prog_1_method_19_code
def yX5_why : MethodName := ⟨RX5, "why", "(I)I"⟩
abbrev cX5_legal : ByteArray := prog_1_method_20_code
def yX5_legal : MethodName := ⟨RX5, "legal", "()I"⟩
abbrev cX5_best : ByteArray := prog_1_method_21_code
def yX5_best : MethodName := ⟨RX5, "best", "()I"⟩
abbrev cX5_chain : ByteArray := prog_1_method_22_code
def yX5_chain : MethodName := ⟨RX5, "chain", "(II)I"⟩
abbrev cX5_reach : ByteArray := prog_1_method_23_code
def yX5_reach : MethodName := ⟨RX5, "reach", "(I)I"⟩
abbrev cX5_runScript : ByteArray := prog_1_method_24_code
def yX5_runScript : MethodName := ⟨RX5, "runScript", "(IJ)I"⟩
abbrev cX5_withoutGroups : ByteArray := prog_1_method_25_code
def yX5_withoutGroups : MethodName := ⟨RX5, "withoutGroups", "(JI)J"⟩
abbrev cX5_succeeds : ByteArray := prog_1_method_26_code
def yX5_succeeds : MethodName := ⟨RX5, "succeeds", "(I)Z"⟩
abbrev cX5_simulate : ByteArray := prog_1_method_27_code
def yX5_simulate : MethodName := ⟨RX5, "simulate", "(JI)I"⟩
abbrev cX5_simulateTurn : ByteArray := prog_1_method_28_code
def yX5_simulateTurn : MethodName := ⟨RX5, "simulateTurn", "(I)V"⟩
abbrev cX5_memberOf : ByteArray := prog_1_method_29_code
def yX5_memberOf : MethodName := ⟨RX5, "memberOf", "(II)I"⟩
abbrev cX5_save : ByteArray := prog_1_method_30_code
def yX5_save : MethodName := ⟨RX5, "save", "(I)I"⟩
abbrev cX5_restore : ByteArray := prog_1_method_31_code
def yX5_restore : MethodName := ⟨RX5, "restore", "(I)I"⟩
abbrev cX5_slotOf : ByteArray := prog_1_method_32_code
def yX5_slotOf : MethodName := ⟨RX5, "slotOf", "(I)LSpiralDominoes$Slot;"⟩
abbrev cX5_isTile : ByteArray := prog_1_method_33_code
def yX5_isTile : MethodName := ⟨RX5, "isTile", "(I)Z"⟩
abbrev cX5_isPlayer : ByteArray := prog_1_method_34_code
def yX5_isPlayer : MethodName := ⟨RX5, "isPlayer", "(I)Z"⟩
abbrev cX5_isNumberOfPlayers : ByteArray := prog_1_method_35_code
def yX5_isNumberOfPlayers : MethodName := ⟨RX5, "isNumberOfPlayers", "(I)Z"⟩
abbrev cX5_isCell : ByteArray := prog_1_method_36_code
def yX5_isCell : MethodName := ⟨RX5, "isCell", "(II)Z"⟩
abbrev cX5_lowOf : ByteArray := prog_1_method_37_code
def yX5_lowOf : MethodName := ⟨RX5, "lowOf", "(I)I"⟩
abbrev cX5_highOf : ByteArray := prog_1_method_38_code
def yX5_highOf : MethodName := ⟨RX5, "highOf", "(I)I"⟩
abbrev cX5_pipsOn : ByteArray := prog_1_method_39_code
def yX5_pipsOn : MethodName := ⟨RX5, "pipsOn", "(I)I"⟩
abbrev cX5_tileWith : ByteArray := prog_1_method_40_code
def yX5_tileWith : MethodName := ⟨RX5, "tileWith", "(II)I"⟩
abbrev cX5_stepX : ByteArray := prog_1_method_41_code
def yX5_stepX : MethodName := ⟨RX5, "stepX", "(I)I"⟩
abbrev cX5_stepY : ByteArray := prog_1_method_42_code
def yX5_stepY : MethodName := ⟨RX5, "stepY", "(I)I"⟩
def RX6 : String := "SpiralDominoesModel"
def TX6 : u_T := fun k => match k with
  | _ => ("", "", "", false)
def tyX6 : Nat → FieldType := fun k => match k with
  | _ => .int
abbrev wsX60 : List Cond := u_ws RX6 TX6 0
theorem nmX6 : ∀ a, a < 0 → ∀ b, b < 0 → a ≠ b → (TX6 a).2.1 ≠ (TX6 b).2.1 := by decide +kernel
theorem tyX6_ok : ∀ k, k < 0 → parseFieldDescriptor (TX6 k).2.2.1 = some (tyX6 k) := by decide +kernel
def RJx145de : String := "java/io/Serializable"
def TJx145de : u_T := fun k => match k with
  | _ => ("", "", "", false)
def tyJx145de : Nat → FieldType := fun k => match k with
  | _ => .int
abbrev wsJx145de0 : List Cond := u_ws RJx145de TJx145de 0
theorem nmJx145de : ∀ a, a < 0 → ∀ b, b < 0 → a ≠ b → (TJx145de a).2.1 ≠ (TJx145de b).2.1 := by decide +kernel
theorem tyJx145de_ok : ∀ k, k < 0 → parseFieldDescriptor (TJx145de k).2.2.1 = some (tyJx145de k) := by decide +kernel
def RJ6 : String := "java/lang/Integer"
def TJ6 : u_T := fun k => match k with
  | _ => ("", "", "", false)
def tyJ6 : Nat → FieldType := fun k => match k with
  | _ => .int
abbrev wsJ60 : List Cond := u_ws RJ6 TJ6 0
theorem nmJ6 : ∀ a, a < 0 → ∀ b, b < 0 → a ≠ b → (TJ6 a).2.1 ≠ (TJ6 b).2.1 := by decide +kernel
theorem tyJ6_ok : ∀ k, k < 0 → parseFieldDescriptor (TJ6 k).2.2.1 = some (tyJ6 k) := by decide +kernel
abbrev cJ6_bitCount_0f7a4 : ByteArray := prog_13_method_49_code
def yJ6_bitCount_0f7a4 : MethodName := ⟨RJ6, "bitCount", "(I)I"⟩
def RJ9 : String := "java/lang/Math"
def TJ9 : u_T := fun k => match k with
  | _ => ("", "", "", false)
def tyJ9 : Nat → FieldType := fun k => match k with
  | _ => .int
abbrev wsJ90 : List Cond := u_ws RJ9 TJ9 0
theorem nmJ9 : ∀ a, a < 0 → ∀ b, b < 0 → a ≠ b → (TJ9 a).2.1 ≠ (TJ9 b).2.1 := by decide +kernel
theorem tyJ9_ok : ∀ k, k < 0 → parseFieldDescriptor (TJ9 k).2.2.1 = some (tyJ9 k) := by decide +kernel
abbrev cJ9_floorMod_7cf53 : ByteArray := prog_14_method_50_code
def yJ9_floorMod_7cf53 : MethodName := ⟨RJ9, "floorMod", "(II)I"⟩
abbrev cJ9_max_7cf53 : ByteArray := prog_14_method_65_code
def yJ9_max_7cf53 : MethodName := ⟨RJ9, "max", "(II)I"⟩
abbrev cJ9_min_7cf53 : ByteArray := prog_14_method_69_code
def yJ9_min_7cf53 : MethodName := ⟨RJ9, "min", "(II)I"⟩
def RJ0 : String := "java/lang/String"
def TJ0 : u_T := fun k => match k with
  | _ => ("", "", "", false)
def tyJ0 : Nat → FieldType := fun k => match k with
  | _ => .int
abbrev wsJ00 : List Cond := u_ws RJ0 TJ0 0
theorem nmJ0 : ∀ a, a < 0 → ∀ b, b < 0 → a ≠ b → (TJ0 a).2.1 ≠ (TJ0 b).2.1 := by decide +kernel
theorem tyJ0_ok : ∀ k, k < 0 → parseFieldDescriptor (TJ0 k).2.2.1 = some (tyJ0 k) := by decide +kernel
def RJ10 : String := "java/lang/System"
def TJ10 : u_T := fun k => match k with
  | _ => ("", "", "", false)
def tyJ10 : Nat → FieldType := fun k => match k with
  | _ => .int
abbrev wsJ100 : List Cond := u_ws RJ10 TJ10 0
theorem nmJ10 : ∀ a, a < 0 → ∀ b, b < 0 → a ≠ b → (TJ10 a).2.1 ≠ (TJ10 b).2.1 := by decide +kernel
theorem tyJ10_ok : ∀ k, k < 0 → parseFieldDescriptor (TJ10 k).2.2.1 = some (tyJ10 k) := by decide +kernel
def RJ7 : String := "java/util/Arrays"
def TJ7 : u_T := fun k => match k with
  | _ => ("", "", "", false)
def tyJ7 : Nat → FieldType := fun k => match k with
  | _ => .int
abbrev wsJ70 : List Cond := u_ws RJ7 TJ7 0
theorem nmJ7 : ∀ a, a < 0 → ∀ b, b < 0 → a ≠ b → (TJ7 a).2.1 ≠ (TJ7 b).2.1 := by decide +kernel
theorem tyJ7_ok : ∀ k, k < 0 → parseFieldDescriptor (TJ7 k).2.2.1 = some (tyJ7 k) := by decide +kernel
abbrev cJ7_fill_53178 : ByteArray := prog_19_method_103_code
def yJ7_fill_53178 : MethodName := ⟨RJ7, "fill", "([II)V"⟩
def RL : String := "SpiralDominoesLaw"
abbrev cL_deals : ByteArray := method_2_code
def yL_deals : MethodName := ⟨RL, "deals", "(LSpiralDominoes;IJ)I"⟩
abbrev cL_plays : ByteArray := method_3_code
def yL_plays : MethodName := ⟨RL, "plays", "(LSpiralDominoes;IZ)I"⟩
abbrev cL_doScript : ByteArray := method_4_code
def yL_doScript : MethodName := ⟨RL, "doScript", "(LSpiralDominoes;IJ)I"⟩
abbrev cL_doSimulate : ByteArray := method_5_code
def yL_doSimulate : MethodName := ⟨RL, "doSimulate", "(LSpiralDominoes;JI)I"⟩
abbrev cL_tryAppend : ByteArray := method_6_code
def yL_tryAppend : MethodName := ⟨RL, "tryAppend", "(LSpiralDominoes;I)I"⟩
abbrev cL_tryLoad : ByteArray := method_7_code
def yL_tryLoad : MethodName := ⟨RL, "tryLoad", "(LSpiralDominoes;)I"⟩
abbrev cL_tryAbout : ByteArray := method_8_code
def yL_tryAbout : MethodName := ⟨RL, "tryAbout", "(LSpiralDominoes;I)I"⟩
abbrev cL_tryTile : ByteArray := method_9_code
def yL_tryTile : MethodName := ⟨RL, "tryTile", "(LSpiralDominoes;II)I"⟩
abbrev cL_tryLaid : ByteArray := method_10_code
def yL_tryLaid : MethodName := ⟨RL, "tryLaid", "(LSpiralDominoes;II)I"⟩
abbrev cL_tryPlayer : ByteArray := method_11_code
def yL_tryPlayer : MethodName := ⟨RL, "tryPlayer", "(LSpiralDominoes;II)I"⟩
abbrev cL_tryAt : ByteArray := method_12_code
def yL_tryAt : MethodName := ⟨RL, "tryAt", "(LSpiralDominoes;II)I"⟩
abbrev cL_tryFree : ByteArray := method_13_code
def yL_tryFree : MethodName := ⟨RL, "tryFree", "(LSpiralDominoes;I)I"⟩
abbrev cL_tryDraw : ByteArray := method_14_code
def yL_tryDraw : MethodName := ⟨RL, "tryDraw", "(LSpiralDominoes;)I"⟩
abbrev cL_tryPass : ByteArray := method_15_code
def yL_tryPass : MethodName := ⟨RL, "tryPass", "(LSpiralDominoes;)I"⟩
abbrev cL_tryUndo : ByteArray := method_16_code
def yL_tryUndo : MethodName := ⟨RL, "tryUndo", "(LSpiralDominoes;)I"⟩
abbrev cL_tryWhy : ByteArray := method_17_code
def yL_tryWhy : MethodName := ⟨RL, "tryWhy", "(LSpiralDominoes;I)I"⟩
abbrev cL_tryChain : ByteArray := method_18_code
def yL_tryChain : MethodName := ⟨RL, "tryChain", "(LSpiralDominoes;II)I"⟩
abbrev cL_tryReach : ByteArray := method_19_code
def yL_tryReach : MethodName := ⟨RL, "tryReach", "(LSpiralDominoes;I)I"⟩
abbrev cL_tryKeep : ByteArray := method_20_code
def yL_tryKeep : MethodName := ⟨RL, "tryKeep", "(LSpiralDominoes;I)I"⟩
abbrev cL_tryBack : ByteArray := method_21_code
def yL_tryBack : MethodName := ⟨RL, "tryBack", "(LSpiralDominoes;I)I"⟩
abbrev cL_call : ByteArray := method_22_code
def yL_call : MethodName := ⟨RL, "call", "(LSpiralDominoes;IIII)I"⟩
abbrev cL_cell : ByteArray := method_23_code
def yL_cell : MethodName := ⟨RL, "cell", "([II)I"⟩
abbrev cL_thrown : ByteArray := method_24_code
def yL_thrown : MethodName := ⟨RL, "thrown", "(I)Z"⟩
abbrev cL_refuses : ByteArray := method_25_code
def yL_refuses : MethodName := ⟨RL, "refuses", "(LSpiralDominoes;I)Z"⟩
abbrev cL_holds : ByteArray := method_26_code
def yL_holds : MethodName := ⟨RL, "holds", "(LSpiralDominoes;I)Z"⟩
abbrev cL_next : ByteArray := method_27_code
def yL_next : MethodName := ⟨RL, "next", "(LSpiralDominoes;IIIIZ)Z"⟩
abbrev cL_act : ByteArray := method_28_code
def yL_act : MethodName := ⟨RL, "act", "(LSpiralDominoes;I)I"⟩
abbrev cL_alike : ByteArray := method_29_code
def yL_alike : MethodName := ⟨RL, "alike", "(LSpiralDominoes;LSpiralDominoes;I)Z"⟩
abbrev cL_law : ByteArray := code
def yL_law : MethodName := ⟨RL, "law", "([I)Z"⟩
abbrev cL_lays : ByteArray := method_31_code
def yL_lays : MethodName := ⟨RL, "lays", "(LSpiralDominoes;LSpiralDominoes;I)Z"⟩
abbrev vwCl : List vw_C := [(RX0, TX0, 13), (RX1, TX1, 3), (RX2, TX2, 11), (RX3, TX3, 2), (RX4, TX4, 2), (RX5, TX5, 6)]
end
section
theorem dX0_init_0 : decode cX0_init 0 = .ok (.aload_n 0, 1) := by decide +kernel
theorem dX0_init_1 : decode cX0_init 1 = .ok (.invokespecial 3, 3) := by decide +kernel
theorem dX0_init_4 : decode cX0_init 4 = .ok (.aload_n 0, 1) := by decide +kernel
theorem dX0_init_5 : decode cX0_init 5 = .ok (.bipush 28, 2) := by decide +kernel
theorem dX0_init_7 : decode cX0_init 7 = .ok (.newarray .int, 2) := by decide +kernel
theorem dX0_init_9 : decode cX0_init 9 = .ok (.putfield 9, 3) := by decide +kernel
theorem dX0_init_12 : decode cX0_init 12 = .ok (.aload_n 0, 1) := by decide +kernel
theorem dX0_init_13 : decode cX0_init 13 = .ok (.bipush 28, 2) := by decide +kernel
theorem dX0_init_15 : decode cX0_init 15 = .ok (.newarray .int, 2) := by decide +kernel
theorem dX0_init_17 : decode cX0_init 17 = .ok (.putfield 15, 3) := by decide +kernel
theorem dX0_init_20 : decode cX0_init 20 = .ok (.aload_n 0, 1) := by decide +kernel
theorem dX0_init_21 : decode cX0_init 21 = .ok (.iconst 4, 1) := by decide +kernel
theorem dX0_init_22 : decode cX0_init 22 = .ok (.newarray .int, 2) := by decide +kernel
theorem dX0_init_24 : decode cX0_init 24 = .ok (.putfield 18, 3) := by decide +kernel
theorem dX0_init_27 : decode cX0_init 27 = .ok (.aload_n 0, 1) := by decide +kernel
theorem dX0_init_28 : decode cX0_init 28 = .ok (.iconst 4, 1) := by decide +kernel
theorem dX0_init_29 : decode cX0_init 29 = .ok (.newarray .int, 2) := by decide +kernel
theorem dX0_init_31 : decode cX0_init 31 = .ok (.putfield 21, 3) := by decide +kernel
theorem dX0_init_34 : decode cX0_init 34 = .ok (.aload_n 0, 1) := by decide +kernel
theorem dX0_init_35 : decode cX0_init 35 = .ok (.new 24, 3) := by decide +kernel
theorem dX0_init_38 : decode cX0_init 38 = .ok (.dup, 1) := by decide +kernel
theorem dX0_init_39 : decode cX0_init 39 = .ok (.invokespecial 26, 3) := by decide +kernel
theorem dX0_init_42 : decode cX0_init 42 = .ok (.putfield 27, 3) := by decide +kernel
theorem dX0_init_45 : decode cX0_init 45 = .ok (.aload_n 0, 1) := by decide +kernel
theorem dX0_init_46 : decode cX0_init 46 = .ok (.invokevirtual 31, 3) := by decide +kernel
theorem dX0_init_49 : decode cX0_init 49 = .ok (.return_, 1) := by decide +kernel
theorem dX0_becomeNew_0 : decode cX0_becomeNew 0 = .ok (.aload_n 0, 1) := by decide +kernel
theorem dX0_becomeNew_1 : decode cX0_becomeNew 1 = .ok (.iconst 0, 1) := by decide +kernel
theorem dX0_becomeNew_2 : decode cX0_becomeNew 2 = .ok (.putfield 34, 3) := by decide +kernel
theorem dX0_becomeNew_5 : decode cX0_becomeNew 5 = .ok (.aload_n 0, 1) := by decide +kernel
theorem dX0_becomeNew_6 : decode cX0_becomeNew 6 = .ok (.iconst 0, 1) := by decide +kernel
theorem dX0_becomeNew_7 : decode cX0_becomeNew 7 = .ok (.putfield 38, 3) := by decide +kernel
theorem dX0_becomeNew_10 : decode cX0_becomeNew 10 = .ok (.aload_n 0, 1) := by decide +kernel
theorem dX0_becomeNew_11 : decode cX0_becomeNew 11 = .ok (.iconst 0, 1) := by decide +kernel
theorem dX0_becomeNew_12 : decode cX0_becomeNew 12 = .ok (.putfield 41, 3) := by decide +kernel
theorem dX0_becomeNew_15 : decode cX0_becomeNew 15 = .ok (.aload_n 0, 1) := by decide +kernel
theorem dX0_becomeNew_16 : decode cX0_becomeNew 16 = .ok (.iconst 0, 1) := by decide +kernel
theorem dX0_becomeNew_17 : decode cX0_becomeNew 17 = .ok (.putfield 44, 3) := by decide +kernel
theorem dX0_becomeNew_20 : decode cX0_becomeNew 20 = .ok (.aload_n 0, 1) := by decide +kernel
theorem dX0_becomeNew_21 : decode cX0_becomeNew 21 = .ok (.iconst 0, 1) := by decide +kernel
theorem dX0_becomeNew_22 : decode cX0_becomeNew 22 = .ok (.putfield 47, 3) := by decide +kernel
theorem dX0_becomeNew_25 : decode cX0_becomeNew 25 = .ok (.aload_n 0, 1) := by decide +kernel
theorem dX0_becomeNew_26 : decode cX0_becomeNew 26 = .ok (.iconst 0, 1) := by decide +kernel
theorem dX0_becomeNew_27 : decode cX0_becomeNew 27 = .ok (.putfield 50, 3) := by decide +kernel
theorem dX0_becomeNew_30 : decode cX0_becomeNew 30 = .ok (.aload_n 0, 1) := by decide +kernel
theorem dX0_becomeNew_31 : decode cX0_becomeNew 31 = .ok (.iconst 0, 1) := by decide +kernel
theorem dX0_becomeNew_32 : decode cX0_becomeNew 32 = .ok (.putfield 53, 3) := by decide +kernel
theorem dX0_becomeNew_35 : decode cX0_becomeNew 35 = .ok (.aload_n 0, 1) := by decide +kernel
theorem dX0_becomeNew_36 : decode cX0_becomeNew 36 = .ok (.bipush 28, 2) := by decide +kernel
theorem dX0_becomeNew_38 : decode cX0_becomeNew 38 = .ok (.putfield 56, 3) := by decide +kernel
theorem dX0_becomeNew_41 : decode cX0_becomeNew 41 = .ok (.aload_n 0, 1) := by decide +kernel
theorem dX0_becomeNew_42 : decode cX0_becomeNew 42 = .ok (.getfield 15, 3) := by decide +kernel
theorem dX0_becomeNew_45 : decode cX0_becomeNew 45 = .ok (.iconst (-1), 1) := by decide +kernel
theorem dX0_becomeNew_46 : decode cX0_becomeNew 46 = .ok (.invokestatic 59, 3) := by decide +kernel
theorem dX0_becomeNew_49 : decode cX0_becomeNew 49 = .ok (.aload_n 0, 1) := by decide +kernel
theorem dX0_becomeNew_50 : decode cX0_becomeNew 50 = .ok (.getfield 18, 3) := by decide +kernel
theorem dX0_becomeNew_53 : decode cX0_becomeNew 53 = .ok (.iconst 0, 1) := by decide +kernel
theorem dX0_becomeNew_54 : decode cX0_becomeNew 54 = .ok (.invokestatic 59, 3) := by decide +kernel
theorem dX0_becomeNew_57 : decode cX0_becomeNew 57 = .ok (.aload_n 0, 1) := by decide +kernel
theorem dX0_becomeNew_58 : decode cX0_becomeNew 58 = .ok (.getfield 21, 3) := by decide +kernel
theorem dX0_becomeNew_61 : decode cX0_becomeNew 61 = .ok (.iconst 0, 1) := by decide +kernel
theorem dX0_becomeNew_62 : decode cX0_becomeNew 62 = .ok (.invokestatic 59, 3) := by decide +kernel
theorem dX0_becomeNew_65 : decode cX0_becomeNew 65 = .ok (.aload_n 0, 1) := by decide +kernel
theorem dX0_becomeNew_66 : decode cX0_becomeNew 66 = .ok (.getfield 27, 3) := by decide +kernel
theorem dX0_becomeNew_69 : decode cX0_becomeNew 69 = .ok (.invokevirtual 65, 3) := by decide +kernel
theorem dX0_becomeNew_72 : decode cX0_becomeNew 72 = .ok (.return_, 1) := by decide +kernel
theorem dX0_becomeLike_0 : decode cX0_becomeLike 0 = .ok (.aload_n 0, 1) := by decide +kernel
theorem dX0_becomeLike_1 : decode cX0_becomeLike 1 = .ok (.aload_n 1, 1) := by decide +kernel
theorem dX0_becomeLike_2 : decode cX0_becomeLike 2 = .ok (.getfield 34, 3) := by decide +kernel
theorem dX0_becomeLike_5 : decode cX0_becomeLike 5 = .ok (.putfield 34, 3) := by decide +kernel
theorem dX0_becomeLike_8 : decode cX0_becomeLike 8 = .ok (.aload_n 0, 1) := by decide +kernel
theorem dX0_becomeLike_9 : decode cX0_becomeLike 9 = .ok (.aload_n 1, 1) := by decide +kernel
theorem dX0_becomeLike_10 : decode cX0_becomeLike 10 = .ok (.getfield 38, 3) := by decide +kernel
theorem dX0_becomeLike_13 : decode cX0_becomeLike 13 = .ok (.putfield 38, 3) := by decide +kernel
theorem dX0_becomeLike_16 : decode cX0_becomeLike 16 = .ok (.aload_n 0, 1) := by decide +kernel
theorem dX0_becomeLike_17 : decode cX0_becomeLike 17 = .ok (.aload_n 1, 1) := by decide +kernel
theorem dX0_becomeLike_18 : decode cX0_becomeLike 18 = .ok (.getfield 41, 3) := by decide +kernel
theorem dX0_becomeLike_21 : decode cX0_becomeLike 21 = .ok (.putfield 41, 3) := by decide +kernel
theorem dX0_becomeLike_24 : decode cX0_becomeLike 24 = .ok (.aload_n 0, 1) := by decide +kernel
theorem dX0_becomeLike_25 : decode cX0_becomeLike 25 = .ok (.aload_n 1, 1) := by decide +kernel
theorem dX0_becomeLike_26 : decode cX0_becomeLike 26 = .ok (.getfield 44, 3) := by decide +kernel
theorem dX0_becomeLike_29 : decode cX0_becomeLike 29 = .ok (.putfield 44, 3) := by decide +kernel
theorem dX0_becomeLike_32 : decode cX0_becomeLike 32 = .ok (.aload_n 0, 1) := by decide +kernel
theorem dX0_becomeLike_33 : decode cX0_becomeLike 33 = .ok (.aload_n 1, 1) := by decide +kernel
theorem dX0_becomeLike_34 : decode cX0_becomeLike 34 = .ok (.getfield 47, 3) := by decide +kernel
theorem dX0_becomeLike_37 : decode cX0_becomeLike 37 = .ok (.putfield 47, 3) := by decide +kernel
theorem dX0_becomeLike_40 : decode cX0_becomeLike 40 = .ok (.aload_n 0, 1) := by decide +kernel
theorem dX0_becomeLike_41 : decode cX0_becomeLike 41 = .ok (.aload_n 1, 1) := by decide +kernel
theorem dX0_becomeLike_42 : decode cX0_becomeLike 42 = .ok (.getfield 50, 3) := by decide +kernel
theorem dX0_becomeLike_45 : decode cX0_becomeLike 45 = .ok (.putfield 50, 3) := by decide +kernel
theorem dX0_becomeLike_48 : decode cX0_becomeLike 48 = .ok (.aload_n 0, 1) := by decide +kernel
theorem dX0_becomeLike_49 : decode cX0_becomeLike 49 = .ok (.aload_n 1, 1) := by decide +kernel
theorem dX0_becomeLike_50 : decode cX0_becomeLike 50 = .ok (.getfield 53, 3) := by decide +kernel
theorem dX0_becomeLike_53 : decode cX0_becomeLike 53 = .ok (.putfield 53, 3) := by decide +kernel
theorem dX0_becomeLike_56 : decode cX0_becomeLike 56 = .ok (.aload_n 0, 1) := by decide +kernel
theorem dX0_becomeLike_57 : decode cX0_becomeLike 57 = .ok (.aload_n 1, 1) := by decide +kernel
theorem dX0_becomeLike_58 : decode cX0_becomeLike 58 = .ok (.getfield 56, 3) := by decide +kernel
theorem dX0_becomeLike_61 : decode cX0_becomeLike 61 = .ok (.putfield 56, 3) := by decide +kernel
theorem dX0_becomeLike_64 : decode cX0_becomeLike 64 = .ok (.aload_n 1, 1) := by decide +kernel
theorem dX0_becomeLike_65 : decode cX0_becomeLike 65 = .ok (.getfield 9, 3) := by decide +kernel
theorem dX0_becomeLike_68 : decode cX0_becomeLike 68 = .ok (.iconst 0, 1) := by decide +kernel
theorem dX0_becomeLike_69 : decode cX0_becomeLike 69 = .ok (.aload_n 0, 1) := by decide +kernel
theorem dX0_becomeLike_70 : decode cX0_becomeLike 70 = .ok (.getfield 9, 3) := by decide +kernel
theorem dX0_becomeLike_73 : decode cX0_becomeLike 73 = .ok (.iconst 0, 1) := by decide +kernel
theorem dX0_becomeLike_74 : decode cX0_becomeLike 74 = .ok (.bipush 28, 2) := by decide +kernel
theorem dX0_becomeLike_76 : decode cX0_becomeLike 76 = .ok (.invokestatic 68, 3) := by decide +kernel
theorem dX0_becomeLike_79 : decode cX0_becomeLike 79 = .ok (.aload_n 1, 1) := by decide +kernel
theorem dX0_becomeLike_80 : decode cX0_becomeLike 80 = .ok (.getfield 15, 3) := by decide +kernel
theorem dX0_becomeLike_83 : decode cX0_becomeLike 83 = .ok (.iconst 0, 1) := by decide +kernel
theorem dX0_becomeLike_84 : decode cX0_becomeLike 84 = .ok (.aload_n 0, 1) := by decide +kernel
theorem dX0_becomeLike_85 : decode cX0_becomeLike 85 = .ok (.getfield 15, 3) := by decide +kernel
theorem dX0_becomeLike_88 : decode cX0_becomeLike 88 = .ok (.iconst 0, 1) := by decide +kernel
theorem dX0_becomeLike_89 : decode cX0_becomeLike 89 = .ok (.bipush 28, 2) := by decide +kernel
theorem dX0_becomeLike_91 : decode cX0_becomeLike 91 = .ok (.invokestatic 68, 3) := by decide +kernel
theorem dX0_becomeLike_94 : decode cX0_becomeLike 94 = .ok (.aload_n 1, 1) := by decide +kernel
theorem dX0_becomeLike_95 : decode cX0_becomeLike 95 = .ok (.getfield 18, 3) := by decide +kernel
theorem dX0_becomeLike_98 : decode cX0_becomeLike 98 = .ok (.iconst 0, 1) := by decide +kernel
theorem dX0_becomeLike_99 : decode cX0_becomeLike 99 = .ok (.aload_n 0, 1) := by decide +kernel
theorem dX0_becomeLike_100 : decode cX0_becomeLike 100 = .ok (.getfield 18, 3) := by decide +kernel
theorem dX0_becomeLike_103 : decode cX0_becomeLike 103 = .ok (.iconst 0, 1) := by decide +kernel
theorem dX0_becomeLike_104 : decode cX0_becomeLike 104 = .ok (.iconst 4, 1) := by decide +kernel
theorem dX0_becomeLike_105 : decode cX0_becomeLike 105 = .ok (.invokestatic 68, 3) := by decide +kernel
theorem dX0_becomeLike_108 : decode cX0_becomeLike 108 = .ok (.aload_n 1, 1) := by decide +kernel
theorem dX0_becomeLike_109 : decode cX0_becomeLike 109 = .ok (.getfield 21, 3) := by decide +kernel
theorem dX0_becomeLike_112 : decode cX0_becomeLike 112 = .ok (.iconst 0, 1) := by decide +kernel
theorem dX0_becomeLike_113 : decode cX0_becomeLike 113 = .ok (.aload_n 0, 1) := by decide +kernel
theorem dX0_becomeLike_114 : decode cX0_becomeLike 114 = .ok (.getfield 21, 3) := by decide +kernel
theorem dX0_becomeLike_117 : decode cX0_becomeLike 117 = .ok (.iconst 0, 1) := by decide +kernel
theorem dX0_becomeLike_118 : decode cX0_becomeLike 118 = .ok (.iconst 4, 1) := by decide +kernel
theorem dX0_becomeLike_119 : decode cX0_becomeLike 119 = .ok (.invokestatic 68, 3) := by decide +kernel
theorem dX0_becomeLike_122 : decode cX0_becomeLike 122 = .ok (.aload_n 0, 1) := by decide +kernel
theorem dX0_becomeLike_123 : decode cX0_becomeLike 123 = .ok (.getfield 27, 3) := by decide +kernel
theorem dX0_becomeLike_126 : decode cX0_becomeLike 126 = .ok (.aload_n 1, 1) := by decide +kernel
theorem dX0_becomeLike_127 : decode cX0_becomeLike 127 = .ok (.getfield 27, 3) := by decide +kernel
theorem dX0_becomeLike_130 : decode cX0_becomeLike 130 = .ok (.invokevirtual 74, 3) := by decide +kernel
theorem dX0_becomeLike_133 : decode cX0_becomeLike 133 = .ok (.return_, 1) := by decide +kernel
theorem dX0_line_0 : decode cX0_line 0 = .ok (.aload_n 0, 1) := by decide +kernel
theorem dX0_line_1 : decode cX0_line 1 = .ok (.getfield 27, 3) := by decide +kernel
theorem dX0_line_4 : decode cX0_line 4 = .ok (.areturn, 1) := by decide +kernel
theorem dX0_roundsSoFar_0 : decode cX0_roundsSoFar 0 = .ok (.aload_n 0, 1) := by decide +kernel
theorem dX0_roundsSoFar_1 : decode cX0_roundsSoFar 1 = .ok (.getfield 34, 3) := by decide +kernel
theorem dX0_roundsSoFar_4 : decode cX0_roundsSoFar 4 = .ok (.ireturn, 1) := by decide +kernel
theorem dX0_isPlayed_0 : decode cX0_isPlayed 0 = .ok (.aload_n 0, 1) := by decide +kernel
theorem dX0_isPlayed_1 : decode cX0_isPlayed 1 = .ok (.getfield 44, 3) := by decide +kernel
theorem dX0_isPlayed_4 : decode cX0_isPlayed 4 = .ok (.iconst 1, 1) := by decide +kernel
theorem dX0_isPlayed_5 : decode cX0_isPlayed 5 = .ok (.if_icmp .ne 7, 3) := by decide +kernel
theorem dX0_isPlayed_8 : decode cX0_isPlayed 8 = .ok (.iconst 1, 1) := by decide +kernel
theorem dX0_isPlayed_9 : decode cX0_isPlayed 9 = .ok (.goto 4, 3) := by decide +kernel
theorem dX0_isPlayed_12 : decode cX0_isPlayed 12 = .ok (.iconst 0, 1) := by decide +kernel
theorem dX0_isPlayed_13 : decode cX0_isPlayed 13 = .ok (.ireturn, 1) := by decide +kernel
theorem dX0_playerToMove_0 : decode cX0_playerToMove 0 = .ok (.aload_n 0, 1) := by decide +kernel
theorem dX0_playerToMove_1 : decode cX0_playerToMove 1 = .ok (.invokevirtual 78, 3) := by decide +kernel
theorem dX0_playerToMove_4 : decode cX0_playerToMove 4 = .ok (.ifCond .eq 10, 3) := by decide +kernel
theorem dX0_playerToMove_7 : decode cX0_playerToMove 7 = .ok (.aload_n 0, 1) := by decide +kernel
theorem dX0_playerToMove_8 : decode cX0_playerToMove 8 = .ok (.getfield 50, 3) := by decide +kernel
theorem dX0_playerToMove_11 : decode cX0_playerToMove 11 = .ok (.goto 4, 3) := by decide +kernel
theorem dX0_playerToMove_14 : decode cX0_playerToMove 14 = .ok (.iconst (-1), 1) := by decide +kernel
theorem dX0_playerToMove_15 : decode cX0_playerToMove 15 = .ok (.ireturn, 1) := by decide +kernel
theorem dX0_heapSize_0 : decode cX0_heapSize 0 = .ok (.bipush 28, 2) := by decide +kernel
theorem dX0_heapSize_2 : decode cX0_heapSize 2 = .ok (.aload_n 0, 1) := by decide +kernel
theorem dX0_heapSize_3 : decode cX0_heapSize 3 = .ok (.getfield 56, 3) := by decide +kernel
theorem dX0_heapSize_6 : decode cX0_heapSize 6 = .ok (.isub, 1) := by decide +kernel
theorem dX0_heapSize_7 : decode cX0_heapSize 7 = .ok (.ireturn, 1) := by decide +kernel
theorem dX0_numberOfGame_0 : decode cX0_numberOfGame 0 = .ok (.iload_n 1, 1) := by decide +kernel
theorem dX0_numberOfGame_1 : decode cX0_numberOfGame 1 = .ok (.tableswitch 126 0 10 #[59, 64, 69, 74, 79, 84, 92, 100, 108, 113, 121], 59) := by decide +kernel
theorem dX0_numberOfGame_60 : decode cX0_numberOfGame 60 = .ok (.aload_n 0, 1) := by decide +kernel
theorem dX0_numberOfGame_61 : decode cX0_numberOfGame 61 = .ok (.getfield 34, 3) := by decide +kernel
theorem dX0_numberOfGame_64 : decode cX0_numberOfGame 64 = .ok (.ireturn, 1) := by decide +kernel
theorem dX0_numberOfGame_65 : decode cX0_numberOfGame 65 = .ok (.aload_n 0, 1) := by decide +kernel
theorem dX0_numberOfGame_66 : decode cX0_numberOfGame 66 = .ok (.getfield 44, 3) := by decide +kernel
theorem dX0_numberOfGame_69 : decode cX0_numberOfGame 69 = .ok (.ireturn, 1) := by decide +kernel
theorem dX0_numberOfGame_70 : decode cX0_numberOfGame 70 = .ok (.aload_n 0, 1) := by decide +kernel
theorem dX0_numberOfGame_71 : decode cX0_numberOfGame 71 = .ok (.getfield 47, 3) := by decide +kernel
theorem dX0_numberOfGame_74 : decode cX0_numberOfGame 74 = .ok (.ireturn, 1) := by decide +kernel
theorem dX0_numberOfGame_75 : decode cX0_numberOfGame 75 = .ok (.aload_n 0, 1) := by decide +kernel
theorem dX0_numberOfGame_76 : decode cX0_numberOfGame 76 = .ok (.invokevirtual 82, 3) := by decide +kernel
theorem dX0_numberOfGame_79 : decode cX0_numberOfGame 79 = .ok (.ireturn, 1) := by decide +kernel
theorem dX0_numberOfGame_80 : decode cX0_numberOfGame 80 = .ok (.aload_n 0, 1) := by decide +kernel
theorem dX0_numberOfGame_81 : decode cX0_numberOfGame 81 = .ok (.invokevirtual 86, 3) := by decide +kernel
theorem dX0_numberOfGame_84 : decode cX0_numberOfGame 84 = .ok (.ireturn, 1) := by decide +kernel
theorem dX0_numberOfGame_85 : decode cX0_numberOfGame 85 = .ok (.aload_n 0, 1) := by decide +kernel
theorem dX0_numberOfGame_86 : decode cX0_numberOfGame 86 = .ok (.getfield 27, 3) := by decide +kernel
theorem dX0_numberOfGame_89 : decode cX0_numberOfGame 89 = .ok (.invokevirtual 89, 3) := by decide +kernel
theorem dX0_numberOfGame_92 : decode cX0_numberOfGame 92 = .ok (.ireturn, 1) := by decide +kernel
theorem dX0_numberOfGame_93 : decode cX0_numberOfGame 93 = .ok (.aload_n 0, 1) := by decide +kernel
theorem dX0_numberOfGame_94 : decode cX0_numberOfGame 94 = .ok (.getfield 27, 3) := by decide +kernel
theorem dX0_numberOfGame_97 : decode cX0_numberOfGame 97 = .ok (.invokevirtual 92, 3) := by decide +kernel
theorem dX0_numberOfGame_100 : decode cX0_numberOfGame 100 = .ok (.ireturn, 1) := by decide +kernel
theorem dX0_numberOfGame_101 : decode cX0_numberOfGame 101 = .ok (.aload_n 0, 1) := by decide +kernel
theorem dX0_numberOfGame_102 : decode cX0_numberOfGame 102 = .ok (.getfield 27, 3) := by decide +kernel
theorem dX0_numberOfGame_105 : decode cX0_numberOfGame 105 = .ok (.invokevirtual 95, 3) := by decide +kernel
theorem dX0_numberOfGame_108 : decode cX0_numberOfGame 108 = .ok (.ireturn, 1) := by decide +kernel
theorem dX0_numberOfGame_109 : decode cX0_numberOfGame 109 = .ok (.aload_n 0, 1) := by decide +kernel
theorem dX0_numberOfGame_110 : decode cX0_numberOfGame 110 = .ok (.getfield 53, 3) := by decide +kernel
theorem dX0_numberOfGame_113 : decode cX0_numberOfGame 113 = .ok (.ireturn, 1) := by decide +kernel
theorem dX0_numberOfGame_114 : decode cX0_numberOfGame 114 = .ok (.aload_n 0, 1) := by decide +kernel
theorem dX0_numberOfGame_115 : decode cX0_numberOfGame 115 = .ok (.getfield 27, 3) := by decide +kernel
theorem dX0_numberOfGame_118 : decode cX0_numberOfGame 118 = .ok (.invokevirtual 98, 3) := by decide +kernel
theorem dX0_numberOfGame_121 : decode cX0_numberOfGame 121 = .ok (.ireturn, 1) := by decide +kernel
theorem dX0_numberOfGame_122 : decode cX0_numberOfGame 122 = .ok (.aload_n 0, 1) := by decide +kernel
theorem dX0_numberOfGame_123 : decode cX0_numberOfGame 123 = .ok (.getfield 38, 3) := by decide +kernel
theorem dX0_numberOfGame_126 : decode cX0_numberOfGame 126 = .ok (.ireturn, 1) := by decide +kernel
theorem dX0_numberOfGame_127 : decode cX0_numberOfGame 127 = .ok (.aload_n 0, 1) := by decide +kernel
theorem dX0_numberOfGame_128 : decode cX0_numberOfGame 128 = .ok (.getfield 41, 3) := by decide +kernel
theorem dX0_numberOfGame_131 : decode cX0_numberOfGame 131 = .ok (.ireturn, 1) := by decide +kernel
theorem dX0_numberOfTile_0 : decode cX0_numberOfTile 0 = .ok (.iload_n 2, 1) := by decide +kernel
theorem dX0_numberOfTile_1 : decode cX0_numberOfTile 1 = .ok (.tableswitch 56 0 3 #[31, 36, 41, 47], 31) := by decide +kernel
theorem dX0_numberOfTile_32 : decode cX0_numberOfTile 32 = .ok (.iload_n 1, 1) := by decide +kernel
theorem dX0_numberOfTile_33 : decode cX0_numberOfTile 33 = .ok (.invokestatic 101, 3) := by decide +kernel
theorem dX0_numberOfTile_36 : decode cX0_numberOfTile 36 = .ok (.ireturn, 1) := by decide +kernel
theorem dX0_numberOfTile_37 : decode cX0_numberOfTile 37 = .ok (.iload_n 1, 1) := by decide +kernel
theorem dX0_numberOfTile_38 : decode cX0_numberOfTile 38 = .ok (.invokestatic 105, 3) := by decide +kernel
theorem dX0_numberOfTile_41 : decode cX0_numberOfTile 41 = .ok (.ireturn, 1) := by decide +kernel
theorem dX0_numberOfTile_42 : decode cX0_numberOfTile 42 = .ok (.aload_n 0, 1) := by decide +kernel
theorem dX0_numberOfTile_43 : decode cX0_numberOfTile 43 = .ok (.iload_n 1, 1) := by decide +kernel
theorem dX0_numberOfTile_44 : decode cX0_numberOfTile 44 = .ok (.invokevirtual 108, 3) := by decide +kernel
theorem dX0_numberOfTile_47 : decode cX0_numberOfTile 47 = .ok (.ireturn, 1) := by decide +kernel
theorem dX0_numberOfTile_48 : decode cX0_numberOfTile 48 = .ok (.aload_n 0, 1) := by decide +kernel
theorem dX0_numberOfTile_49 : decode cX0_numberOfTile 49 = .ok (.getfield 27, 3) := by decide +kernel
theorem dX0_numberOfTile_52 : decode cX0_numberOfTile 52 = .ok (.iload_n 1, 1) := by decide +kernel
theorem dX0_numberOfTile_53 : decode cX0_numberOfTile 53 = .ok (.invokevirtual 111, 3) := by decide +kernel
theorem dX0_numberOfTile_56 : decode cX0_numberOfTile 56 = .ok (.ireturn, 1) := by decide +kernel
theorem dX0_numberOfTile_57 : decode cX0_numberOfTile 57 = .ok (.aload_n 0, 1) := by decide +kernel
theorem dX0_numberOfTile_58 : decode cX0_numberOfTile 58 = .ok (.iload_n 1, 1) := by decide +kernel
theorem dX0_numberOfTile_59 : decode cX0_numberOfTile 59 = .ok (.invokevirtual 114, 3) := by decide +kernel
theorem dX0_numberOfTile_62 : decode cX0_numberOfTile 62 = .ok (.ireturn, 1) := by decide +kernel
theorem dX0_numberOfPlayer_0 : decode cX0_numberOfPlayer 0 = .ok (.iload_n 1, 1) := by decide +kernel
theorem dX0_numberOfPlayer_1 : decode cX0_numberOfPlayer 1 = .ok (.invokestatic 117, 3) := by decide +kernel
theorem dX0_numberOfPlayer_4 : decode cX0_numberOfPlayer 4 = .ok (.ifCond .ne 5, 3) := by decide +kernel
theorem dX0_numberOfPlayer_7 : decode cX0_numberOfPlayer 7 = .ok (.iconst (-1), 1) := by decide +kernel
theorem dX0_numberOfPlayer_8 : decode cX0_numberOfPlayer 8 = .ok (.ireturn, 1) := by decide +kernel
theorem dX0_numberOfPlayer_9 : decode cX0_numberOfPlayer 9 = .ok (.iload_n 2, 1) := by decide +kernel
theorem dX0_numberOfPlayer_10 : decode cX0_numberOfPlayer 10 = .ok (.tableswitch 45 0 2 #[26, 32, 38], 26) := by decide +kernel
theorem dX0_numberOfPlayer_36 : decode cX0_numberOfPlayer 36 = .ok (.aload_n 0, 1) := by decide +kernel
theorem dX0_numberOfPlayer_37 : decode cX0_numberOfPlayer 37 = .ok (.iload_n 1, 1) := by decide +kernel
theorem dX0_numberOfPlayer_38 : decode cX0_numberOfPlayer 38 = .ok (.invokevirtual 121, 3) := by decide +kernel
theorem dX0_numberOfPlayer_41 : decode cX0_numberOfPlayer 41 = .ok (.ireturn, 1) := by decide +kernel
theorem dX0_numberOfPlayer_42 : decode cX0_numberOfPlayer 42 = .ok (.aload_n 0, 1) := by decide +kernel
theorem dX0_numberOfPlayer_43 : decode cX0_numberOfPlayer 43 = .ok (.iload_n 1, 1) := by decide +kernel
theorem dX0_numberOfPlayer_44 : decode cX0_numberOfPlayer 44 = .ok (.invokevirtual 124, 3) := by decide +kernel
theorem dX0_numberOfPlayer_47 : decode cX0_numberOfPlayer 47 = .ok (.ireturn, 1) := by decide +kernel
theorem dX0_numberOfPlayer_48 : decode cX0_numberOfPlayer 48 = .ok (.aload_n 0, 1) := by decide +kernel
theorem dX0_numberOfPlayer_49 : decode cX0_numberOfPlayer 49 = .ok (.getfield 18, 3) := by decide +kernel
theorem dX0_numberOfPlayer_52 : decode cX0_numberOfPlayer 52 = .ok (.iload_n 1, 1) := by decide +kernel
theorem dX0_numberOfPlayer_53 : decode cX0_numberOfPlayer 53 = .ok (.iaload, 1) := by decide +kernel
theorem dX0_numberOfPlayer_54 : decode cX0_numberOfPlayer 54 = .ok (.ireturn, 1) := by decide +kernel
theorem dX0_numberOfPlayer_55 : decode cX0_numberOfPlayer 55 = .ok (.aload_n 0, 1) := by decide +kernel
theorem dX0_numberOfPlayer_56 : decode cX0_numberOfPlayer 56 = .ok (.getfield 21, 3) := by decide +kernel
theorem dX0_numberOfPlayer_59 : decode cX0_numberOfPlayer 59 = .ok (.iload_n 1, 1) := by decide +kernel
theorem dX0_numberOfPlayer_60 : decode cX0_numberOfPlayer 60 = .ok (.iaload, 1) := by decide +kernel
theorem dX0_numberOfPlayer_61 : decode cX0_numberOfPlayer 61 = .ok (.ireturn, 1) := by decide +kernel
theorem dX0_tilesOf_0 : decode cX0_tilesOf 0 = .ok (.aload_n 0, 1) := by decide +kernel
theorem dX0_tilesOf_1 : decode cX0_tilesOf 1 = .ok (.iload_n 1, 1) := by decide +kernel
theorem dX0_tilesOf_2 : decode cX0_tilesOf 2 = .ok (.invokevirtual 127, 3) := by decide +kernel
theorem dX0_tilesOf_5 : decode cX0_tilesOf 5 = .ok (.invokestatic 130, 3) := by decide +kernel
theorem dX0_tilesOf_8 : decode cX0_tilesOf 8 = .ok (.ireturn, 1) := by decide +kernel
theorem dX0_startRound_0 : decode cX0_startRound 0 = .ok (.iload_n 1, 1) := by decide +kernel
theorem dX0_startRound_1 : decode cX0_startRound 1 = .ok (.iconst 2, 1) := by decide +kernel
theorem dX0_startRound_2 : decode cX0_startRound 2 = .ok (.if_icmp .lt 8, 3) := by decide +kernel
theorem dX0_startRound_5 : decode cX0_startRound 5 = .ok (.iload_n 1, 1) := by decide +kernel
theorem dX0_startRound_6 : decode cX0_startRound 6 = .ok (.iconst 4, 1) := by decide +kernel
theorem dX0_startRound_7 : decode cX0_startRound 7 = .ok (.if_icmp .le 5, 3) := by decide +kernel
theorem dX0_startRound_10 : decode cX0_startRound 10 = .ok (.iconst 0, 1) := by decide +kernel
theorem dX0_startRound_11 : decode cX0_startRound 11 = .ok (.ireturn, 1) := by decide +kernel
theorem dX0_startRound_12 : decode cX0_startRound 12 = .ok (.aload_n 0, 1) := by decide +kernel
theorem dX0_startRound_13 : decode cX0_startRound 13 = .ok (.lload_n 2, 1) := by decide +kernel
theorem dX0_startRound_14 : decode cX0_startRound 14 = .ok (.invokevirtual 135, 3) := by decide +kernel
theorem dX0_startRound_17 : decode cX0_startRound 17 = .ok (.aload_n 0, 1) := by decide +kernel
theorem dX0_startRound_18 : decode cX0_startRound 18 = .ok (.getfield 15, 3) := by decide +kernel
theorem dX0_startRound_21 : decode cX0_startRound 21 = .ok (.iconst (-1), 1) := by decide +kernel
theorem dX0_startRound_22 : decode cX0_startRound 22 = .ok (.invokestatic 59, 3) := by decide +kernel
theorem dX0_startRound_25 : decode cX0_startRound 25 = .ok (.aload_n 0, 1) := by decide +kernel
theorem dX0_startRound_26 : decode cX0_startRound 26 = .ok (.iload_n 1, 1) := by decide +kernel
theorem dX0_startRound_27 : decode cX0_startRound 27 = .ok (.iconst 5, 1) := by decide +kernel
theorem dX0_startRound_28 : decode cX0_startRound 28 = .ok (.imul, 1) := by decide +kernel
theorem dX0_startRound_29 : decode cX0_startRound 29 = .ok (.putfield 56, 3) := by decide +kernel
theorem dX0_startRound_32 : decode cX0_startRound 32 = .ok (.iconst 0, 1) := by decide +kernel
theorem dX0_startRound_33 : decode cX0_startRound 33 = .ok (.istore 4, 2) := by decide +kernel
theorem dX0_startRound_35 : decode cX0_startRound 35 = .ok (.iload 4, 2) := by decide +kernel
theorem dX0_startRound_37 : decode cX0_startRound 37 = .ok (.aload_n 0, 1) := by decide +kernel
theorem dX0_startRound_38 : decode cX0_startRound 38 = .ok (.getfield 56, 3) := by decide +kernel
theorem dX0_startRound_41 : decode cX0_startRound 41 = .ok (.if_icmp .ge 31, 3) := by decide +kernel
theorem dX0_startRound_44 : decode cX0_startRound 44 = .ok (.iload 4, 2) := by decide +kernel
theorem dX0_startRound_46 : decode cX0_startRound 46 = .ok (.bipush 28, 2) := by decide +kernel
theorem dX0_startRound_48 : decode cX0_startRound 48 = .ok (.if_icmp .ge 24, 3) := by decide +kernel
theorem dX0_startRound_51 : decode cX0_startRound 51 = .ok (.aload_n 0, 1) := by decide +kernel
theorem dX0_startRound_52 : decode cX0_startRound 52 = .ok (.aload_n 0, 1) := by decide +kernel
theorem dX0_startRound_53 : decode cX0_startRound 53 = .ok (.getfield 9, 3) := by decide +kernel
theorem dX0_startRound_56 : decode cX0_startRound 56 = .ok (.iload 4, 2) := by decide +kernel
theorem dX0_startRound_58 : decode cX0_startRound 58 = .ok (.iaload, 1) := by decide +kernel
theorem dX0_startRound_59 : decode cX0_startRound 59 = .ok (.iload 4, 2) := by decide +kernel
theorem dX0_startRound_61 : decode cX0_startRound 61 = .ok (.iconst 5, 1) := by decide +kernel
theorem dX0_startRound_62 : decode cX0_startRound 62 = .ok (.idiv, 1) := by decide +kernel
theorem dX0_startRound_63 : decode cX0_startRound 63 = .ok (.invokevirtual 139, 3) := by decide +kernel
theorem dX0_startRound_66 : decode cX0_startRound 66 = .ok (.iinc 4 1, 3) := by decide +kernel
theorem dX0_startRound_69 : decode cX0_startRound 69 = .ok (.goto (-34), 3) := by decide +kernel
theorem dX0_startRound_72 : decode cX0_startRound 72 = .ok (.aload_n 0, 1) := by decide +kernel
theorem dX0_startRound_73 : decode cX0_startRound 73 = .ok (.getfield 27, 3) := by decide +kernel
theorem dX0_startRound_76 : decode cX0_startRound 76 = .ok (.invokevirtual 65, 3) := by decide +kernel
theorem dX0_startRound_79 : decode cX0_startRound 79 = .ok (.aload_n 0, 1) := by decide +kernel
theorem dX0_startRound_80 : decode cX0_startRound 80 = .ok (.iload_n 1, 1) := by decide +kernel
theorem dX0_startRound_81 : decode cX0_startRound 81 = .ok (.putfield 47, 3) := by decide +kernel
theorem dX0_startRound_84 : decode cX0_startRound 84 = .ok (.aload_n 0, 1) := by decide +kernel
theorem dX0_startRound_85 : decode cX0_startRound 85 = .ok (.aload_n 0, 1) := by decide +kernel
theorem dX0_startRound_86 : decode cX0_startRound 86 = .ok (.getfield 34, 3) := by decide +kernel
theorem dX0_startRound_89 : decode cX0_startRound 89 = .ok (.iload_n 1, 1) := by decide +kernel
theorem dX0_startRound_90 : decode cX0_startRound 90 = .ok (.irem, 1) := by decide +kernel
theorem dX0_startRound_91 : decode cX0_startRound 91 = .ok (.putfield 50, 3) := by decide +kernel
theorem dX0_startRound_94 : decode cX0_startRound 94 = .ok (.aload_n 0, 1) := by decide +kernel
theorem dX0_startRound_95 : decode cX0_startRound 95 = .ok (.iconst 0, 1) := by decide +kernel
theorem dX0_startRound_96 : decode cX0_startRound 96 = .ok (.putfield 53, 3) := by decide +kernel
theorem dX0_startRound_99 : decode cX0_startRound 99 = .ok (.aload_n 0, 1) := by decide +kernel
theorem dX0_startRound_100 : decode cX0_startRound 100 = .ok (.iconst 1, 1) := by decide +kernel
theorem dX0_startRound_101 : decode cX0_startRound 101 = .ok (.putfield 44, 3) := by decide +kernel
theorem dX0_startRound_104 : decode cX0_startRound 104 = .ok (.aload_n 0, 1) := by decide +kernel
theorem dX0_startRound_105 : decode cX0_startRound 105 = .ok (.dup, 1) := by decide +kernel
theorem dX0_startRound_106 : decode cX0_startRound 106 = .ok (.getfield 34, 3) := by decide +kernel
theorem dX0_startRound_109 : decode cX0_startRound 109 = .ok (.iconst 1, 1) := by decide +kernel
theorem dX0_startRound_110 : decode cX0_startRound 110 = .ok (.iadd, 1) := by decide +kernel
theorem dX0_startRound_111 : decode cX0_startRound 111 = .ok (.putfield 34, 3) := by decide +kernel
theorem dX0_startRound_114 : decode cX0_startRound 114 = .ok (.iconst 1, 1) := by decide +kernel
theorem dX0_startRound_115 : decode cX0_startRound 115 = .ok (.ireturn, 1) := by decide +kernel
theorem dX0_shuffle_0 : decode cX0_shuffle 0 = .ok (.iconst 0, 1) := by decide +kernel
theorem dX0_shuffle_1 : decode cX0_shuffle 1 = .ok (.istore_n 3, 1) := by decide +kernel
theorem dX0_shuffle_2 : decode cX0_shuffle 2 = .ok (.iload_n 3, 1) := by decide +kernel
theorem dX0_shuffle_3 : decode cX0_shuffle 3 = .ok (.bipush 28, 2) := by decide +kernel
theorem dX0_shuffle_5 : decode cX0_shuffle 5 = .ok (.if_icmp .ge 16, 3) := by decide +kernel
theorem dX0_shuffle_8 : decode cX0_shuffle 8 = .ok (.aload_n 0, 1) := by decide +kernel
theorem dX0_shuffle_9 : decode cX0_shuffle 9 = .ok (.getfield 9, 3) := by decide +kernel
theorem dX0_shuffle_12 : decode cX0_shuffle 12 = .ok (.iload_n 3, 1) := by decide +kernel
theorem dX0_shuffle_13 : decode cX0_shuffle 13 = .ok (.iload_n 3, 1) := by decide +kernel
theorem dX0_shuffle_14 : decode cX0_shuffle 14 = .ok (.iastore, 1) := by decide +kernel
theorem dX0_shuffle_15 : decode cX0_shuffle 15 = .ok (.iinc 3 1, 3) := by decide +kernel
theorem dX0_shuffle_18 : decode cX0_shuffle 18 = .ok (.goto (-16), 3) := by decide +kernel
theorem dX0_shuffle_21 : decode cX0_shuffle 21 = .ok (.lload_n 1, 1) := by decide +kernel
theorem dX0_shuffle_22 : decode cX0_shuffle 22 = .ok (.lstore_n 3, 1) := by decide +kernel
theorem dX0_shuffle_23 : decode cX0_shuffle 23 = .ok (.bipush 27, 2) := by decide +kernel
theorem dX0_shuffle_25 : decode cX0_shuffle 25 = .ok (.istore 5, 2) := by decide +kernel
theorem dX0_shuffle_27 : decode cX0_shuffle 27 = .ok (.iload 5, 2) := by decide +kernel
theorem dX0_shuffle_29 : decode cX0_shuffle 29 = .ok (.iconst 1, 1) := by decide +kernel
theorem dX0_shuffle_30 : decode cX0_shuffle 30 = .ok (.if_icmp .lt 63, 3) := by decide +kernel
theorem dX0_shuffle_33 : decode cX0_shuffle 33 = .ok (.lload_n 3, 1) := by decide +kernel
theorem dX0_shuffle_34 : decode cX0_shuffle 34 = .ok (.ldc2_w 143, 3) := by decide +kernel
theorem dX0_shuffle_37 : decode cX0_shuffle 37 = .ok (.lmul, 1) := by decide +kernel
theorem dX0_shuffle_38 : decode cX0_shuffle 38 = .ok (.ldc2_w 145, 3) := by decide +kernel
theorem dX0_shuffle_41 : decode cX0_shuffle 41 = .ok (.ladd, 1) := by decide +kernel
theorem dX0_shuffle_42 : decode cX0_shuffle 42 = .ok (.lstore_n 3, 1) := by decide +kernel
theorem dX0_shuffle_43 : decode cX0_shuffle 43 = .ok (.lload_n 3, 1) := by decide +kernel
theorem dX0_shuffle_44 : decode cX0_shuffle 44 = .ok (.bipush 33, 2) := by decide +kernel
theorem dX0_shuffle_46 : decode cX0_shuffle 46 = .ok (.lushr, 1) := by decide +kernel
theorem dX0_shuffle_47 : decode cX0_shuffle 47 = .ok (.l2i, 1) := by decide +kernel
theorem dX0_shuffle_48 : decode cX0_shuffle 48 = .ok (.iload 5, 2) := by decide +kernel
theorem dX0_shuffle_50 : decode cX0_shuffle 50 = .ok (.iconst 1, 1) := by decide +kernel
theorem dX0_shuffle_51 : decode cX0_shuffle 51 = .ok (.iadd, 1) := by decide +kernel
theorem dX0_shuffle_52 : decode cX0_shuffle 52 = .ok (.irem, 1) := by decide +kernel
theorem dX0_shuffle_53 : decode cX0_shuffle 53 = .ok (.istore 6, 2) := by decide +kernel
theorem dX0_shuffle_55 : decode cX0_shuffle 55 = .ok (.aload_n 0, 1) := by decide +kernel
theorem dX0_shuffle_56 : decode cX0_shuffle 56 = .ok (.getfield 9, 3) := by decide +kernel
theorem dX0_shuffle_59 : decode cX0_shuffle 59 = .ok (.iload 5, 2) := by decide +kernel
theorem dX0_shuffle_61 : decode cX0_shuffle 61 = .ok (.iaload, 1) := by decide +kernel
theorem dX0_shuffle_62 : decode cX0_shuffle 62 = .ok (.istore 7, 2) := by decide +kernel
theorem dX0_shuffle_64 : decode cX0_shuffle 64 = .ok (.aload_n 0, 1) := by decide +kernel
theorem dX0_shuffle_65 : decode cX0_shuffle 65 = .ok (.getfield 9, 3) := by decide +kernel
theorem dX0_shuffle_68 : decode cX0_shuffle 68 = .ok (.iload 5, 2) := by decide +kernel
theorem dX0_shuffle_70 : decode cX0_shuffle 70 = .ok (.aload_n 0, 1) := by decide +kernel
theorem dX0_shuffle_71 : decode cX0_shuffle 71 = .ok (.getfield 9, 3) := by decide +kernel
theorem dX0_shuffle_74 : decode cX0_shuffle 74 = .ok (.iload 6, 2) := by decide +kernel
theorem dX0_shuffle_76 : decode cX0_shuffle 76 = .ok (.iaload, 1) := by decide +kernel
theorem dX0_shuffle_77 : decode cX0_shuffle 77 = .ok (.iastore, 1) := by decide +kernel
theorem dX0_shuffle_78 : decode cX0_shuffle 78 = .ok (.aload_n 0, 1) := by decide +kernel
theorem dX0_shuffle_79 : decode cX0_shuffle 79 = .ok (.getfield 9, 3) := by decide +kernel
theorem dX0_shuffle_82 : decode cX0_shuffle 82 = .ok (.iload 6, 2) := by decide +kernel
theorem dX0_shuffle_84 : decode cX0_shuffle 84 = .ok (.iload 7, 2) := by decide +kernel
theorem dX0_shuffle_86 : decode cX0_shuffle 86 = .ok (.iastore, 1) := by decide +kernel
theorem dX0_shuffle_87 : decode cX0_shuffle 87 = .ok (.iinc 5 (-1), 3) := by decide +kernel
theorem dX0_shuffle_90 : decode cX0_shuffle 90 = .ok (.goto (-63), 3) := by decide +kernel
theorem dX0_shuffle_93 : decode cX0_shuffle 93 = .ok (.return_, 1) := by decide +kernel
theorem dX0_reasonAgainst_0 : decode cX0_reasonAgainst 0 = .ok (.aload_n 0, 1) := by decide +kernel
theorem dX0_reasonAgainst_1 : decode cX0_reasonAgainst 1 = .ok (.invokevirtual 78, 3) := by decide +kernel
theorem dX0_reasonAgainst_4 : decode cX0_reasonAgainst 4 = .ok (.ifCond .ne 5, 3) := by decide +kernel
theorem dX0_reasonAgainst_7 : decode cX0_reasonAgainst 7 = .ok (.iconst (-1), 1) := by decide +kernel
theorem dX0_reasonAgainst_8 : decode cX0_reasonAgainst 8 = .ok (.ireturn, 1) := by decide +kernel
theorem dX0_reasonAgainst_9 : decode cX0_reasonAgainst 9 = .ok (.aload_n 0, 1) := by decide +kernel
theorem dX0_reasonAgainst_10 : decode cX0_reasonAgainst 10 = .ok (.iload_n 1, 1) := by decide +kernel
theorem dX0_reasonAgainst_11 : decode cX0_reasonAgainst 11 = .ok (.invokevirtual 108, 3) := by decide +kernel
theorem dX0_reasonAgainst_14 : decode cX0_reasonAgainst 14 = .ok (.aload_n 0, 1) := by decide +kernel
theorem dX0_reasonAgainst_15 : decode cX0_reasonAgainst 15 = .ok (.getfield 50, 3) := by decide +kernel
theorem dX0_reasonAgainst_18 : decode cX0_reasonAgainst 18 = .ok (.if_icmp .eq 5, 3) := by decide +kernel
theorem dX0_reasonAgainst_21 : decode cX0_reasonAgainst 21 = .ok (.iconst 1, 1) := by decide +kernel
theorem dX0_reasonAgainst_22 : decode cX0_reasonAgainst 22 = .ok (.ireturn, 1) := by decide +kernel
theorem dX0_reasonAgainst_23 : decode cX0_reasonAgainst 23 = .ok (.aload_n 0, 1) := by decide +kernel
theorem dX0_reasonAgainst_24 : decode cX0_reasonAgainst 24 = .ok (.getfield 27, 3) := by decide +kernel
theorem dX0_reasonAgainst_27 : decode cX0_reasonAgainst 27 = .ok (.iload_n 1, 1) := by decide +kernel
theorem dX0_reasonAgainst_28 : decode cX0_reasonAgainst 28 = .ok (.invokevirtual 147, 3) := by decide +kernel
theorem dX0_reasonAgainst_31 : decode cX0_reasonAgainst 31 = .ok (.ifCond .ne 5, 3) := by decide +kernel
theorem dX0_reasonAgainst_34 : decode cX0_reasonAgainst 34 = .ok (.iconst 2, 1) := by decide +kernel
theorem dX0_reasonAgainst_35 : decode cX0_reasonAgainst 35 = .ok (.ireturn, 1) := by decide +kernel
theorem dX0_reasonAgainst_36 : decode cX0_reasonAgainst 36 = .ok (.aload_n 0, 1) := by decide +kernel
theorem dX0_reasonAgainst_37 : decode cX0_reasonAgainst 37 = .ok (.getfield 27, 3) := by decide +kernel
theorem dX0_reasonAgainst_40 : decode cX0_reasonAgainst 40 = .ok (.invokevirtual 150, 3) := by decide +kernel
theorem dX0_reasonAgainst_43 : decode cX0_reasonAgainst 43 = .ok (.ifCond .eq 7, 3) := by decide +kernel
theorem dX0_reasonAgainst_46 : decode cX0_reasonAgainst 46 = .ok (.iconst 0, 1) := by decide +kernel
theorem dX0_reasonAgainst_47 : decode cX0_reasonAgainst 47 = .ok (.goto 4, 3) := by decide +kernel
theorem dX0_reasonAgainst_50 : decode cX0_reasonAgainst 50 = .ok (.iconst 3, 1) := by decide +kernel
theorem dX0_reasonAgainst_51 : decode cX0_reasonAgainst 51 = .ok (.ireturn, 1) := by decide +kernel
theorem dX0_layOrRefuse_0 : decode cX0_layOrRefuse 0 = .ok (.aload_n 0, 1) := by decide +kernel
theorem dX0_layOrRefuse_1 : decode cX0_layOrRefuse 1 = .ok (.iload_n 1, 1) := by decide +kernel
theorem dX0_layOrRefuse_2 : decode cX0_layOrRefuse 2 = .ok (.invokevirtual 153, 3) := by decide +kernel
theorem dX0_layOrRefuse_5 : decode cX0_layOrRefuse 5 = .ok (.istore_n 3, 1) := by decide +kernel
theorem dX0_layOrRefuse_6 : decode cX0_layOrRefuse 6 = .ok (.aload_n 0, 1) := by decide +kernel
theorem dX0_layOrRefuse_7 : decode cX0_layOrRefuse 7 = .ok (.iload_n 1, 1) := by decide +kernel
theorem dX0_layOrRefuse_8 : decode cX0_layOrRefuse 8 = .ok (.iload_n 2, 1) := by decide +kernel
theorem dX0_layOrRefuse_9 : decode cX0_layOrRefuse 9 = .ok (.invokevirtual 156, 3) := by decide +kernel
theorem dX0_layOrRefuse_12 : decode cX0_layOrRefuse 12 = .ok (.ifCond .ne 13, 3) := by decide +kernel
theorem dX0_layOrRefuse_15 : decode cX0_layOrRefuse 15 = .ok (.aload_n 0, 1) := by decide +kernel
theorem dX0_layOrRefuse_16 : decode cX0_layOrRefuse 16 = .ok (.dup, 1) := by decide +kernel
theorem dX0_layOrRefuse_17 : decode cX0_layOrRefuse 17 = .ok (.getfield 38, 3) := by decide +kernel
theorem dX0_layOrRefuse_20 : decode cX0_layOrRefuse 20 = .ok (.iconst 1, 1) := by decide +kernel
theorem dX0_layOrRefuse_21 : decode cX0_layOrRefuse 21 = .ok (.iadd, 1) := by decide +kernel
theorem dX0_layOrRefuse_22 : decode cX0_layOrRefuse 22 = .ok (.putfield 38, 3) := by decide +kernel
theorem dX0_layOrRefuse_25 : decode cX0_layOrRefuse 25 = .ok (.iload_n 3, 1) := by decide +kernel
theorem dX0_layOrRefuse_26 : decode cX0_layOrRefuse 26 = .ok (.ireturn, 1) := by decide +kernel
theorem dX0_layIfPossible_0 : decode cX0_layIfPossible 0 = .ok (.aload_n 0, 1) := by decide +kernel
theorem dX0_layIfPossible_1 : decode cX0_layIfPossible 1 = .ok (.iload_n 1, 1) := by decide +kernel
theorem dX0_layIfPossible_2 : decode cX0_layIfPossible 2 = .ok (.invokevirtual 153, 3) := by decide +kernel
theorem dX0_layIfPossible_5 : decode cX0_layIfPossible 5 = .ok (.ifCond .eq 5, 3) := by decide +kernel
theorem dX0_layIfPossible_8 : decode cX0_layIfPossible 8 = .ok (.iconst 0, 1) := by decide +kernel
theorem dX0_layIfPossible_9 : decode cX0_layIfPossible 9 = .ok (.ireturn, 1) := by decide +kernel
theorem dX0_layIfPossible_10 : decode cX0_layIfPossible 10 = .ok (.aload_n 0, 1) := by decide +kernel
theorem dX0_layIfPossible_11 : decode cX0_layIfPossible 11 = .ok (.getfield 27, 3) := by decide +kernel
theorem dX0_layIfPossible_14 : decode cX0_layIfPossible 14 = .ok (.iload_n 1, 1) := by decide +kernel
theorem dX0_layIfPossible_15 : decode cX0_layIfPossible 15 = .ok (.iload_n 2, 1) := by decide +kernel
theorem dX0_layIfPossible_16 : decode cX0_layIfPossible 16 = .ok (.invokevirtual 160, 3) := by decide +kernel
theorem dX0_layIfPossible_19 : decode cX0_layIfPossible 19 = .ok (.aload_n 0, 1) := by decide +kernel
theorem dX0_layIfPossible_20 : decode cX0_layIfPossible 20 = .ok (.iload_n 1, 1) := by decide +kernel
theorem dX0_layIfPossible_21 : decode cX0_layIfPossible 21 = .ok (.iconst (-1), 1) := by decide +kernel
theorem dX0_layIfPossible_22 : decode cX0_layIfPossible 22 = .ok (.invokevirtual 139, 3) := by decide +kernel
theorem dX0_layIfPossible_25 : decode cX0_layIfPossible 25 = .ok (.aload_n 0, 1) := by decide +kernel
theorem dX0_layIfPossible_26 : decode cX0_layIfPossible 26 = .ok (.dup, 1) := by decide +kernel
theorem dX0_layIfPossible_27 : decode cX0_layIfPossible 27 = .ok (.getfield 41, 3) := by decide +kernel
theorem dX0_layIfPossible_30 : decode cX0_layIfPossible 30 = .ok (.iconst 1, 1) := by decide +kernel
theorem dX0_layIfPossible_31 : decode cX0_layIfPossible 31 = .ok (.iadd, 1) := by decide +kernel
theorem dX0_layIfPossible_32 : decode cX0_layIfPossible 32 = .ok (.putfield 41, 3) := by decide +kernel
theorem dX0_layIfPossible_35 : decode cX0_layIfPossible 35 = .ok (.aload_n 0, 1) := by decide +kernel
theorem dX0_layIfPossible_36 : decode cX0_layIfPossible 36 = .ok (.iconst 0, 1) := by decide +kernel
theorem dX0_layIfPossible_37 : decode cX0_layIfPossible 37 = .ok (.putfield 53, 3) := by decide +kernel
theorem dX0_layIfPossible_40 : decode cX0_layIfPossible 40 = .ok (.aload_n 0, 1) := by decide +kernel
theorem dX0_layIfPossible_41 : decode cX0_layIfPossible 41 = .ok (.aload_n 0, 1) := by decide +kernel
theorem dX0_layIfPossible_42 : decode cX0_layIfPossible 42 = .ok (.getfield 50, 3) := by decide +kernel
theorem dX0_layIfPossible_45 : decode cX0_layIfPossible 45 = .ok (.invokevirtual 121, 3) := by decide +kernel
theorem dX0_layIfPossible_48 : decode cX0_layIfPossible 48 = .ok (.ifCond .ne 14, 3) := by decide +kernel
theorem dX0_layIfPossible_51 : decode cX0_layIfPossible 51 = .ok (.aload_n 0, 1) := by decide +kernel
theorem dX0_layIfPossible_52 : decode cX0_layIfPossible 52 = .ok (.aload_n 0, 1) := by decide +kernel
theorem dX0_layIfPossible_53 : decode cX0_layIfPossible 53 = .ok (.getfield 50, 3) := by decide +kernel
theorem dX0_layIfPossible_56 : decode cX0_layIfPossible 56 = .ok (.invokevirtual 164, 3) := by decide +kernel
theorem dX0_layIfPossible_59 : decode cX0_layIfPossible 59 = .ok (.goto 7, 3) := by decide +kernel
theorem dX0_layIfPossible_62 : decode cX0_layIfPossible 62 = .ok (.aload_n 0, 1) := by decide +kernel
theorem dX0_layIfPossible_63 : decode cX0_layIfPossible 63 = .ok (.invokevirtual 168, 3) := by decide +kernel
theorem dX0_layIfPossible_66 : decode cX0_layIfPossible 66 = .ok (.iconst 1, 1) := by decide +kernel
theorem dX0_layIfPossible_67 : decode cX0_layIfPossible 67 = .ok (.ireturn, 1) := by decide +kernel
theorem dX0_layHeaviest_0 : decode cX0_layHeaviest 0 = .ok (.iconst 0, 1) := by decide +kernel
theorem dX0_layHeaviest_1 : decode cX0_layHeaviest 1 = .ok (.istore_n 2, 1) := by decide +kernel
theorem dX0_layHeaviest_2 : decode cX0_layHeaviest 2 = .ok (.iload_n 2, 1) := by decide +kernel
theorem dX0_layHeaviest_3 : decode cX0_layHeaviest 3 = .ok (.iload_n 1, 1) := by decide +kernel
theorem dX0_layHeaviest_4 : decode cX0_layHeaviest 4 = .ok (.if_icmp .ge 23, 3) := by decide +kernel
theorem dX0_layHeaviest_7 : decode cX0_layHeaviest 7 = .ok (.aload_n 0, 1) := by decide +kernel
theorem dX0_layHeaviest_8 : decode cX0_layHeaviest 8 = .ok (.aload_n 0, 1) := by decide +kernel
theorem dX0_layHeaviest_9 : decode cX0_layHeaviest 9 = .ok (.invokevirtual 171, 3) := by decide +kernel
theorem dX0_layHeaviest_12 : decode cX0_layHeaviest 12 = .ok (.iconst 0, 1) := by decide +kernel
theorem dX0_layHeaviest_13 : decode cX0_layHeaviest 13 = .ok (.invokevirtual 156, 3) := by decide +kernel
theorem dX0_layHeaviest_16 : decode cX0_layHeaviest 16 = .ok (.ifCond .ne 5, 3) := by decide +kernel
theorem dX0_layHeaviest_19 : decode cX0_layHeaviest 19 = .ok (.iconst 0, 1) := by decide +kernel
theorem dX0_layHeaviest_20 : decode cX0_layHeaviest 20 = .ok (.ireturn, 1) := by decide +kernel
theorem dX0_layHeaviest_21 : decode cX0_layHeaviest 21 = .ok (.iinc 2 1, 3) := by decide +kernel
theorem dX0_layHeaviest_24 : decode cX0_layHeaviest 24 = .ok (.goto (-22), 3) := by decide +kernel
theorem dX0_layHeaviest_27 : decode cX0_layHeaviest 27 = .ok (.iconst 1, 1) := by decide +kernel
theorem dX0_layHeaviest_28 : decode cX0_layHeaviest 28 = .ok (.ireturn, 1) := by decide +kernel
theorem dX0_canTakeFromHeap_0 : decode cX0_canTakeFromHeap 0 = .ok (.aload_n 0, 1) := by decide +kernel
theorem dX0_canTakeFromHeap_1 : decode cX0_canTakeFromHeap 1 = .ok (.invokevirtual 78, 3) := by decide +kernel
theorem dX0_canTakeFromHeap_4 : decode cX0_canTakeFromHeap 4 = .ok (.ifCond .eq 16, 3) := by decide +kernel
theorem dX0_canTakeFromHeap_7 : decode cX0_canTakeFromHeap 7 = .ok (.aload_n 0, 1) := by decide +kernel
theorem dX0_canTakeFromHeap_8 : decode cX0_canTakeFromHeap 8 = .ok (.getfield 56, 3) := by decide +kernel
theorem dX0_canTakeFromHeap_11 : decode cX0_canTakeFromHeap 11 = .ok (.bipush 28, 2) := by decide +kernel
theorem dX0_canTakeFromHeap_13 : decode cX0_canTakeFromHeap 13 = .ok (.if_icmp .ge 7, 3) := by decide +kernel
theorem dX0_canTakeFromHeap_16 : decode cX0_canTakeFromHeap 16 = .ok (.iconst 1, 1) := by decide +kernel
theorem dX0_canTakeFromHeap_17 : decode cX0_canTakeFromHeap 17 = .ok (.goto 4, 3) := by decide +kernel
theorem dX0_canTakeFromHeap_20 : decode cX0_canTakeFromHeap 20 = .ok (.iconst 0, 1) := by decide +kernel
theorem dX0_canTakeFromHeap_21 : decode cX0_canTakeFromHeap 21 = .ok (.ireturn, 1) := by decide +kernel
theorem dX0_takeFromHeap_0 : decode cX0_takeFromHeap 0 = .ok (.aload_n 0, 1) := by decide +kernel
theorem dX0_takeFromHeap_1 : decode cX0_takeFromHeap 1 = .ok (.invokevirtual 174, 3) := by decide +kernel
theorem dX0_takeFromHeap_4 : decode cX0_takeFromHeap 4 = .ok (.ifCond .eq 10, 3) := by decide +kernel
theorem dX0_takeFromHeap_7 : decode cX0_takeFromHeap 7 = .ok (.aload_n 0, 1) := by decide +kernel
theorem dX0_takeFromHeap_8 : decode cX0_takeFromHeap 8 = .ok (.getfield 56, 3) := by decide +kernel
theorem dX0_takeFromHeap_11 : decode cX0_takeFromHeap 11 = .ok (.ifCond .ge 5, 3) := by decide +kernel
theorem dX0_takeFromHeap_14 : decode cX0_takeFromHeap 14 = .ok (.iconst (-1), 1) := by decide +kernel
theorem dX0_takeFromHeap_15 : decode cX0_takeFromHeap 15 = .ok (.ireturn, 1) := by decide +kernel
theorem dX0_takeFromHeap_16 : decode cX0_takeFromHeap 16 = .ok (.aload_n 0, 1) := by decide +kernel
theorem dX0_takeFromHeap_17 : decode cX0_takeFromHeap 17 = .ok (.getfield 9, 3) := by decide +kernel
theorem dX0_takeFromHeap_20 : decode cX0_takeFromHeap 20 = .ok (.aload_n 0, 1) := by decide +kernel
theorem dX0_takeFromHeap_21 : decode cX0_takeFromHeap 21 = .ok (.getfield 56, 3) := by decide +kernel
theorem dX0_takeFromHeap_24 : decode cX0_takeFromHeap 24 = .ok (.iaload, 1) := by decide +kernel
theorem dX0_takeFromHeap_25 : decode cX0_takeFromHeap 25 = .ok (.istore_n 1, 1) := by decide +kernel
theorem dX0_takeFromHeap_26 : decode cX0_takeFromHeap 26 = .ok (.aload_n 0, 1) := by decide +kernel
theorem dX0_takeFromHeap_27 : decode cX0_takeFromHeap 27 = .ok (.dup, 1) := by decide +kernel
theorem dX0_takeFromHeap_28 : decode cX0_takeFromHeap 28 = .ok (.getfield 56, 3) := by decide +kernel
theorem dX0_takeFromHeap_31 : decode cX0_takeFromHeap 31 = .ok (.iconst 1, 1) := by decide +kernel
theorem dX0_takeFromHeap_32 : decode cX0_takeFromHeap 32 = .ok (.iadd, 1) := by decide +kernel
theorem dX0_takeFromHeap_33 : decode cX0_takeFromHeap 33 = .ok (.putfield 56, 3) := by decide +kernel
theorem dX0_takeFromHeap_36 : decode cX0_takeFromHeap 36 = .ok (.aload_n 0, 1) := by decide +kernel
theorem dX0_takeFromHeap_37 : decode cX0_takeFromHeap 37 = .ok (.iload_n 1, 1) := by decide +kernel
theorem dX0_takeFromHeap_38 : decode cX0_takeFromHeap 38 = .ok (.aload_n 0, 1) := by decide +kernel
theorem dX0_takeFromHeap_39 : decode cX0_takeFromHeap 39 = .ok (.getfield 50, 3) := by decide +kernel
theorem dX0_takeFromHeap_42 : decode cX0_takeFromHeap 42 = .ok (.invokevirtual 139, 3) := by decide +kernel
theorem dX0_takeFromHeap_45 : decode cX0_takeFromHeap 45 = .ok (.aload_n 0, 1) := by decide +kernel
theorem dX0_takeFromHeap_46 : decode cX0_takeFromHeap 46 = .ok (.iconst 0, 1) := by decide +kernel
theorem dX0_takeFromHeap_47 : decode cX0_takeFromHeap 47 = .ok (.putfield 53, 3) := by decide +kernel
theorem dX0_takeFromHeap_50 : decode cX0_takeFromHeap 50 = .ok (.iload_n 1, 1) := by decide +kernel
theorem dX0_takeFromHeap_51 : decode cX0_takeFromHeap 51 = .ok (.ireturn, 1) := by decide +kernel
theorem dX0_canSkipTurn_0 : decode cX0_canSkipTurn 0 = .ok (.aload_n 0, 1) := by decide +kernel
theorem dX0_canSkipTurn_1 : decode cX0_canSkipTurn 1 = .ok (.invokevirtual 78, 3) := by decide +kernel
theorem dX0_canSkipTurn_4 : decode cX0_canSkipTurn 4 = .ok (.ifCond .eq 16, 3) := by decide +kernel
theorem dX0_canSkipTurn_7 : decode cX0_canSkipTurn 7 = .ok (.aload_n 0, 1) := by decide +kernel
theorem dX0_canSkipTurn_8 : decode cX0_canSkipTurn 8 = .ok (.getfield 56, 3) := by decide +kernel
theorem dX0_canSkipTurn_11 : decode cX0_canSkipTurn 11 = .ok (.bipush 28, 2) := by decide +kernel
theorem dX0_canSkipTurn_13 : decode cX0_canSkipTurn 13 = .ok (.if_icmp .lt 7, 3) := by decide +kernel
theorem dX0_canSkipTurn_16 : decode cX0_canSkipTurn 16 = .ok (.iconst 1, 1) := by decide +kernel
theorem dX0_canSkipTurn_17 : decode cX0_canSkipTurn 17 = .ok (.goto 4, 3) := by decide +kernel
theorem dX0_canSkipTurn_20 : decode cX0_canSkipTurn 20 = .ok (.iconst 0, 1) := by decide +kernel
theorem dX0_canSkipTurn_21 : decode cX0_canSkipTurn 21 = .ok (.ireturn, 1) := by decide +kernel
theorem dX0_skipTurn_0 : decode cX0_skipTurn 0 = .ok (.aload_n 0, 1) := by decide +kernel
theorem dX0_skipTurn_1 : decode cX0_skipTurn 1 = .ok (.invokevirtual 177, 3) := by decide +kernel
theorem dX0_skipTurn_4 : decode cX0_skipTurn 4 = .ok (.ifCond .ne 5, 3) := by decide +kernel
theorem dX0_skipTurn_7 : decode cX0_skipTurn 7 = .ok (.iconst (-1), 1) := by decide +kernel
theorem dX0_skipTurn_8 : decode cX0_skipTurn 8 = .ok (.ireturn, 1) := by decide +kernel
theorem dX0_skipTurn_9 : decode cX0_skipTurn 9 = .ok (.aload_n 0, 1) := by decide +kernel
theorem dX0_skipTurn_10 : decode cX0_skipTurn 10 = .ok (.dup, 1) := by decide +kernel
theorem dX0_skipTurn_11 : decode cX0_skipTurn 11 = .ok (.getfield 53, 3) := by decide +kernel
theorem dX0_skipTurn_14 : decode cX0_skipTurn 14 = .ok (.iconst 1, 1) := by decide +kernel
theorem dX0_skipTurn_15 : decode cX0_skipTurn 15 = .ok (.iadd, 1) := by decide +kernel
theorem dX0_skipTurn_16 : decode cX0_skipTurn 16 = .ok (.putfield 53, 3) := by decide +kernel
theorem dX0_skipTurn_19 : decode cX0_skipTurn 19 = .ok (.aload_n 0, 1) := by decide +kernel
theorem dX0_skipTurn_20 : decode cX0_skipTurn 20 = .ok (.getfield 53, 3) := by decide +kernel
theorem dX0_skipTurn_23 : decode cX0_skipTurn 23 = .ok (.aload_n 0, 1) := by decide +kernel
theorem dX0_skipTurn_24 : decode cX0_skipTurn 24 = .ok (.getfield 47, 3) := by decide +kernel
theorem dX0_skipTurn_27 : decode cX0_skipTurn 27 = .ok (.if_icmp .lt 14, 3) := by decide +kernel
theorem dX0_skipTurn_30 : decode cX0_skipTurn 30 = .ok (.aload_n 0, 1) := by decide +kernel
theorem dX0_skipTurn_31 : decode cX0_skipTurn 31 = .ok (.aload_n 0, 1) := by decide +kernel
theorem dX0_skipTurn_32 : decode cX0_skipTurn 32 = .ok (.invokevirtual 180, 3) := by decide +kernel
theorem dX0_skipTurn_35 : decode cX0_skipTurn 35 = .ok (.invokevirtual 164, 3) := by decide +kernel
theorem dX0_skipTurn_38 : decode cX0_skipTurn 38 = .ok (.goto 7, 3) := by decide +kernel
theorem dX0_skipTurn_41 : decode cX0_skipTurn 41 = .ok (.aload_n 0, 1) := by decide +kernel
theorem dX0_skipTurn_42 : decode cX0_skipTurn 42 = .ok (.invokevirtual 168, 3) := by decide +kernel
theorem dX0_skipTurn_45 : decode cX0_skipTurn 45 = .ok (.aload_n 0, 1) := by decide +kernel
theorem dX0_skipTurn_46 : decode cX0_skipTurn 46 = .ok (.getfield 44, 3) := by decide +kernel
theorem dX0_skipTurn_49 : decode cX0_skipTurn 49 = .ok (.ireturn, 1) := by decide +kernel
theorem dX0_goToNextPlayer_0 : decode cX0_goToNextPlayer 0 = .ok (.aload_n 0, 1) := by decide +kernel
theorem dX0_goToNextPlayer_1 : decode cX0_goToNextPlayer 1 = .ok (.aload_n 0, 1) := by decide +kernel
theorem dX0_goToNextPlayer_2 : decode cX0_goToNextPlayer 2 = .ok (.getfield 50, 3) := by decide +kernel
theorem dX0_goToNextPlayer_5 : decode cX0_goToNextPlayer 5 = .ok (.iconst 1, 1) := by decide +kernel
theorem dX0_goToNextPlayer_6 : decode cX0_goToNextPlayer 6 = .ok (.iadd, 1) := by decide +kernel
theorem dX0_goToNextPlayer_7 : decode cX0_goToNextPlayer 7 = .ok (.aload_n 0, 1) := by decide +kernel
theorem dX0_goToNextPlayer_8 : decode cX0_goToNextPlayer 8 = .ok (.getfield 47, 3) := by decide +kernel
theorem dX0_goToNextPlayer_11 : decode cX0_goToNextPlayer 11 = .ok (.if_icmp .ge 12, 3) := by decide +kernel
theorem dX0_goToNextPlayer_14 : decode cX0_goToNextPlayer 14 = .ok (.aload_n 0, 1) := by decide +kernel
theorem dX0_goToNextPlayer_15 : decode cX0_goToNextPlayer 15 = .ok (.getfield 50, 3) := by decide +kernel
theorem dX0_goToNextPlayer_18 : decode cX0_goToNextPlayer 18 = .ok (.iconst 1, 1) := by decide +kernel
theorem dX0_goToNextPlayer_19 : decode cX0_goToNextPlayer 19 = .ok (.iadd, 1) := by decide +kernel
theorem dX0_goToNextPlayer_20 : decode cX0_goToNextPlayer 20 = .ok (.goto 4, 3) := by decide +kernel
theorem dX0_goToNextPlayer_23 : decode cX0_goToNextPlayer 23 = .ok (.iconst 0, 1) := by decide +kernel
theorem dX0_goToNextPlayer_24 : decode cX0_goToNextPlayer 24 = .ok (.putfield 50, 3) := by decide +kernel
theorem dX0_goToNextPlayer_27 : decode cX0_goToNextPlayer 27 = .ok (.return_, 1) := by decide +kernel
theorem dX0_playerWithFewestPips_0 : decode cX0_playerWithFewestPips 0 = .ok (.iconst 0, 1) := by decide +kernel
theorem dX0_playerWithFewestPips_1 : decode cX0_playerWithFewestPips 1 = .ok (.istore_n 1, 1) := by decide +kernel
theorem dX0_playerWithFewestPips_2 : decode cX0_playerWithFewestPips 2 = .ok (.iconst 1, 1) := by decide +kernel
theorem dX0_playerWithFewestPips_3 : decode cX0_playerWithFewestPips 3 = .ok (.istore_n 2, 1) := by decide +kernel
theorem dX0_playerWithFewestPips_4 : decode cX0_playerWithFewestPips 4 = .ok (.iload_n 2, 1) := by decide +kernel
theorem dX0_playerWithFewestPips_5 : decode cX0_playerWithFewestPips 5 = .ok (.aload_n 0, 1) := by decide +kernel
theorem dX0_playerWithFewestPips_6 : decode cX0_playerWithFewestPips 6 = .ok (.getfield 47, 3) := by decide +kernel
theorem dX0_playerWithFewestPips_9 : decode cX0_playerWithFewestPips 9 = .ok (.if_icmp .ge 24, 3) := by decide +kernel
theorem dX0_playerWithFewestPips_12 : decode cX0_playerWithFewestPips 12 = .ok (.aload_n 0, 1) := by decide +kernel
theorem dX0_playerWithFewestPips_13 : decode cX0_playerWithFewestPips 13 = .ok (.iload_n 2, 1) := by decide +kernel
theorem dX0_playerWithFewestPips_14 : decode cX0_playerWithFewestPips 14 = .ok (.invokevirtual 124, 3) := by decide +kernel
theorem dX0_playerWithFewestPips_17 : decode cX0_playerWithFewestPips 17 = .ok (.aload_n 0, 1) := by decide +kernel
theorem dX0_playerWithFewestPips_18 : decode cX0_playerWithFewestPips 18 = .ok (.iload_n 1, 1) := by decide +kernel
theorem dX0_playerWithFewestPips_19 : decode cX0_playerWithFewestPips 19 = .ok (.invokevirtual 124, 3) := by decide +kernel
theorem dX0_playerWithFewestPips_22 : decode cX0_playerWithFewestPips 22 = .ok (.if_icmp .ge 5, 3) := by decide +kernel
theorem dX0_playerWithFewestPips_25 : decode cX0_playerWithFewestPips 25 = .ok (.iload_n 2, 1) := by decide +kernel
theorem dX0_playerWithFewestPips_26 : decode cX0_playerWithFewestPips 26 = .ok (.istore_n 1, 1) := by decide +kernel
theorem dX0_playerWithFewestPips_27 : decode cX0_playerWithFewestPips 27 = .ok (.iinc 2 1, 3) := by decide +kernel
theorem dX0_playerWithFewestPips_30 : decode cX0_playerWithFewestPips 30 = .ok (.goto (-26), 3) := by decide +kernel
theorem dX0_playerWithFewestPips_33 : decode cX0_playerWithFewestPips 33 = .ok (.iload_n 1, 1) := by decide +kernel
theorem dX0_playerWithFewestPips_34 : decode cX0_playerWithFewestPips 34 = .ok (.ireturn, 1) := by decide +kernel
theorem dX0_winRound_0 : decode cX0_winRound 0 = .ok (.iload_n 1, 1) := by decide +kernel
theorem dX0_winRound_1 : decode cX0_winRound 1 = .ok (.invokestatic 117, 3) := by decide +kernel
theorem dX0_winRound_4 : decode cX0_winRound 4 = .ok (.ifCond .eq 57, 3) := by decide +kernel
theorem dX0_winRound_7 : decode cX0_winRound 7 = .ok (.iconst 0, 1) := by decide +kernel
theorem dX0_winRound_8 : decode cX0_winRound 8 = .ok (.istore_n 2, 1) := by decide +kernel
theorem dX0_winRound_9 : decode cX0_winRound 9 = .ok (.iconst 0, 1) := by decide +kernel
theorem dX0_winRound_10 : decode cX0_winRound 10 = .ok (.istore_n 3, 1) := by decide +kernel
theorem dX0_winRound_11 : decode cX0_winRound 11 = .ok (.iload_n 3, 1) := by decide +kernel
theorem dX0_winRound_12 : decode cX0_winRound 12 = .ok (.aload_n 0, 1) := by decide +kernel
theorem dX0_winRound_13 : decode cX0_winRound 13 = .ok (.getfield 47, 3) := by decide +kernel
theorem dX0_winRound_16 : decode cX0_winRound 16 = .ok (.if_icmp .ge 17, 3) := by decide +kernel
theorem dX0_winRound_19 : decode cX0_winRound 19 = .ok (.iload_n 2, 1) := by decide +kernel
theorem dX0_winRound_20 : decode cX0_winRound 20 = .ok (.aload_n 0, 1) := by decide +kernel
theorem dX0_winRound_21 : decode cX0_winRound 21 = .ok (.iload_n 3, 1) := by decide +kernel
theorem dX0_winRound_22 : decode cX0_winRound 22 = .ok (.invokevirtual 124, 3) := by decide +kernel
theorem dX0_winRound_25 : decode cX0_winRound 25 = .ok (.iadd, 1) := by decide +kernel
theorem dX0_winRound_26 : decode cX0_winRound 26 = .ok (.istore_n 2, 1) := by decide +kernel
theorem dX0_winRound_27 : decode cX0_winRound 27 = .ok (.iinc 3 1, 3) := by decide +kernel
theorem dX0_winRound_30 : decode cX0_winRound 30 = .ok (.goto (-19), 3) := by decide +kernel
theorem dX0_winRound_33 : decode cX0_winRound 33 = .ok (.aload_n 0, 1) := by decide +kernel
theorem dX0_winRound_34 : decode cX0_winRound 34 = .ok (.getfield 18, 3) := by decide +kernel
theorem dX0_winRound_37 : decode cX0_winRound 37 = .ok (.iload_n 1, 1) := by decide +kernel
theorem dX0_winRound_38 : decode cX0_winRound 38 = .ok (.dup2, 1) := by decide +kernel
theorem dX0_winRound_39 : decode cX0_winRound 39 = .ok (.iaload, 1) := by decide +kernel
theorem dX0_winRound_40 : decode cX0_winRound 40 = .ok (.iload_n 2, 1) := by decide +kernel
theorem dX0_winRound_41 : decode cX0_winRound 41 = .ok (.iconst 2, 1) := by decide +kernel
theorem dX0_winRound_42 : decode cX0_winRound 42 = .ok (.aload_n 0, 1) := by decide +kernel
theorem dX0_winRound_43 : decode cX0_winRound 43 = .ok (.iload_n 1, 1) := by decide +kernel
theorem dX0_winRound_44 : decode cX0_winRound 44 = .ok (.invokevirtual 124, 3) := by decide +kernel
theorem dX0_winRound_47 : decode cX0_winRound 47 = .ok (.imul, 1) := by decide +kernel
theorem dX0_winRound_48 : decode cX0_winRound 48 = .ok (.isub, 1) := by decide +kernel
theorem dX0_winRound_49 : decode cX0_winRound 49 = .ok (.iadd, 1) := by decide +kernel
theorem dX0_winRound_50 : decode cX0_winRound 50 = .ok (.iastore, 1) := by decide +kernel
theorem dX0_winRound_51 : decode cX0_winRound 51 = .ok (.aload_n 0, 1) := by decide +kernel
theorem dX0_winRound_52 : decode cX0_winRound 52 = .ok (.getfield 21, 3) := by decide +kernel
theorem dX0_winRound_55 : decode cX0_winRound 55 = .ok (.iload_n 1, 1) := by decide +kernel
theorem dX0_winRound_56 : decode cX0_winRound 56 = .ok (.dup2, 1) := by decide +kernel
theorem dX0_winRound_57 : decode cX0_winRound 57 = .ok (.iaload, 1) := by decide +kernel
theorem dX0_winRound_58 : decode cX0_winRound 58 = .ok (.iconst 1, 1) := by decide +kernel
theorem dX0_winRound_59 : decode cX0_winRound 59 = .ok (.iadd, 1) := by decide +kernel
theorem dX0_winRound_60 : decode cX0_winRound 60 = .ok (.iastore, 1) := by decide +kernel
theorem dX0_winRound_61 : decode cX0_winRound 61 = .ok (.aload_n 0, 1) := by decide +kernel
theorem dX0_winRound_62 : decode cX0_winRound 62 = .ok (.iconst 2, 1) := by decide +kernel
theorem dX0_winRound_63 : decode cX0_winRound 63 = .ok (.putfield 44, 3) := by decide +kernel
theorem dX0_winRound_66 : decode cX0_winRound 66 = .ok (.return_, 1) := by decide +kernel
theorem dX0_playable_0 : decode cX0_playable 0 = .ok (.iconst 0, 1) := by decide +kernel
theorem dX0_playable_1 : decode cX0_playable 1 = .ok (.istore_n 1, 1) := by decide +kernel
theorem dX0_playable_2 : decode cX0_playable 2 = .ok (.iconst 0, 1) := by decide +kernel
theorem dX0_playable_3 : decode cX0_playable 3 = .ok (.istore_n 2, 1) := by decide +kernel
theorem dX0_playable_4 : decode cX0_playable 4 = .ok (.iload_n 2, 1) := by decide +kernel
theorem dX0_playable_5 : decode cX0_playable 5 = .ok (.bipush 28, 2) := by decide +kernel
theorem dX0_playable_7 : decode cX0_playable 7 = .ok (.if_icmp .ge 23, 3) := by decide +kernel
theorem dX0_playable_10 : decode cX0_playable 10 = .ok (.aload_n 0, 1) := by decide +kernel
theorem dX0_playable_11 : decode cX0_playable 11 = .ok (.iload_n 2, 1) := by decide +kernel
theorem dX0_playable_12 : decode cX0_playable 12 = .ok (.invokevirtual 153, 3) := by decide +kernel
theorem dX0_playable_15 : decode cX0_playable 15 = .ok (.ifCond .ne 9, 3) := by decide +kernel
theorem dX0_playable_18 : decode cX0_playable 18 = .ok (.iload_n 1, 1) := by decide +kernel
theorem dX0_playable_19 : decode cX0_playable 19 = .ok (.iconst 1, 1) := by decide +kernel
theorem dX0_playable_20 : decode cX0_playable 20 = .ok (.iload_n 2, 1) := by decide +kernel
theorem dX0_playable_21 : decode cX0_playable 21 = .ok (.ishl, 1) := by decide +kernel
theorem dX0_playable_22 : decode cX0_playable 22 = .ok (.ior, 1) := by decide +kernel
theorem dX0_playable_23 : decode cX0_playable 23 = .ok (.istore_n 1, 1) := by decide +kernel
theorem dX0_playable_24 : decode cX0_playable 24 = .ok (.iinc 2 1, 3) := by decide +kernel
theorem dX0_playable_27 : decode cX0_playable 27 = .ok (.goto (-23), 3) := by decide +kernel
theorem dX0_playable_30 : decode cX0_playable 30 = .ok (.iload_n 1, 1) := by decide +kernel
theorem dX0_playable_31 : decode cX0_playable 31 = .ok (.ireturn, 1) := by decide +kernel
theorem dX0_heaviestPlayable_0 : decode cX0_heaviestPlayable 0 = .ok (.iconst (-1), 1) := by decide +kernel
theorem dX0_heaviestPlayable_1 : decode cX0_heaviestPlayable 1 = .ok (.istore_n 1, 1) := by decide +kernel
theorem dX0_heaviestPlayable_2 : decode cX0_heaviestPlayable 2 = .ok (.iconst 0, 1) := by decide +kernel
theorem dX0_heaviestPlayable_3 : decode cX0_heaviestPlayable 3 = .ok (.istore_n 2, 1) := by decide +kernel
theorem dX0_heaviestPlayable_4 : decode cX0_heaviestPlayable 4 = .ok (.iload_n 2, 1) := by decide +kernel
theorem dX0_heaviestPlayable_5 : decode cX0_heaviestPlayable 5 = .ok (.bipush 28, 2) := by decide +kernel
theorem dX0_heaviestPlayable_7 : decode cX0_heaviestPlayable 7 = .ok (.if_icmp .ge 35, 3) := by decide +kernel
theorem dX0_heaviestPlayable_10 : decode cX0_heaviestPlayable 10 = .ok (.aload_n 0, 1) := by decide +kernel
theorem dX0_heaviestPlayable_11 : decode cX0_heaviestPlayable 11 = .ok (.iload_n 2, 1) := by decide +kernel
theorem dX0_heaviestPlayable_12 : decode cX0_heaviestPlayable 12 = .ok (.invokevirtual 153, 3) := by decide +kernel
theorem dX0_heaviestPlayable_15 : decode cX0_heaviestPlayable 15 = .ok (.ifCond .ne 21, 3) := by decide +kernel
theorem dX0_heaviestPlayable_18 : decode cX0_heaviestPlayable 18 = .ok (.iload_n 1, 1) := by decide +kernel
theorem dX0_heaviestPlayable_19 : decode cX0_heaviestPlayable 19 = .ok (.iconst (-1), 1) := by decide +kernel
theorem dX0_heaviestPlayable_20 : decode cX0_heaviestPlayable 20 = .ok (.if_icmp .eq 14, 3) := by decide +kernel
theorem dX0_heaviestPlayable_23 : decode cX0_heaviestPlayable 23 = .ok (.iload_n 2, 1) := by decide +kernel
theorem dX0_heaviestPlayable_24 : decode cX0_heaviestPlayable 24 = .ok (.invokestatic 183, 3) := by decide +kernel
theorem dX0_heaviestPlayable_27 : decode cX0_heaviestPlayable 27 = .ok (.iload_n 1, 1) := by decide +kernel
theorem dX0_heaviestPlayable_28 : decode cX0_heaviestPlayable 28 = .ok (.invokestatic 183, 3) := by decide +kernel
theorem dX0_heaviestPlayable_31 : decode cX0_heaviestPlayable 31 = .ok (.if_icmp .le 5, 3) := by decide +kernel
theorem dX0_heaviestPlayable_34 : decode cX0_heaviestPlayable 34 = .ok (.iload_n 2, 1) := by decide +kernel
theorem dX0_heaviestPlayable_35 : decode cX0_heaviestPlayable 35 = .ok (.istore_n 1, 1) := by decide +kernel
theorem dX0_heaviestPlayable_36 : decode cX0_heaviestPlayable 36 = .ok (.iinc 2 1, 3) := by decide +kernel
theorem dX0_heaviestPlayable_39 : decode cX0_heaviestPlayable 39 = .ok (.goto (-35), 3) := by decide +kernel
theorem dX0_heaviestPlayable_42 : decode cX0_heaviestPlayable 42 = .ok (.iload_n 1, 1) := by decide +kernel
theorem dX0_heaviestPlayable_43 : decode cX0_heaviestPlayable 43 = .ok (.ireturn, 1) := by decide +kernel
theorem dX0_longestChainOf_0 : decode cX0_longestChainOf 0 = .ok (.aload_n 0, 1) := by decide +kernel
theorem dX0_longestChainOf_1 : decode cX0_longestChainOf 1 = .ok (.invokevirtual 78, 3) := by decide +kernel
theorem dX0_longestChainOf_4 : decode cX0_longestChainOf 4 = .ok (.ifCond .ne 5, 3) := by decide +kernel
theorem dX0_longestChainOf_7 : decode cX0_longestChainOf 7 = .ok (.iconst 0, 1) := by decide +kernel
theorem dX0_longestChainOf_8 : decode cX0_longestChainOf 8 = .ok (.ireturn, 1) := by decide +kernel
theorem dX0_longestChainOf_9 : decode cX0_longestChainOf 9 = .ok (.aload_n 0, 1) := by decide +kernel
theorem dX0_longestChainOf_10 : decode cX0_longestChainOf 10 = .ok (.iload_n 1, 1) := by decide +kernel
theorem dX0_longestChainOf_11 : decode cX0_longestChainOf 11 = .ok (.invokevirtual 127, 3) := by decide +kernel
theorem dX0_longestChainOf_14 : decode cX0_longestChainOf 14 = .ok (.istore_n 3, 1) := by decide +kernel
theorem dX0_longestChainOf_15 : decode cX0_longestChainOf 15 = .ok (.aload_n 0, 1) := by decide +kernel
theorem dX0_longestChainOf_16 : decode cX0_longestChainOf 16 = .ok (.getfield 27, 3) := by decide +kernel
theorem dX0_longestChainOf_19 : decode cX0_longestChainOf 19 = .ok (.invokevirtual 89, 3) := by decide +kernel
theorem dX0_longestChainOf_22 : decode cX0_longestChainOf 22 = .ok (.ifCond .le 18, 3) := by decide +kernel
theorem dX0_longestChainOf_25 : decode cX0_longestChainOf 25 = .ok (.iload_n 3, 1) := by decide +kernel
theorem dX0_longestChainOf_26 : decode cX0_longestChainOf 26 = .ok (.aload_n 0, 1) := by decide +kernel
theorem dX0_longestChainOf_27 : decode cX0_longestChainOf 27 = .ok (.getfield 27, 3) := by decide +kernel
theorem dX0_longestChainOf_30 : decode cX0_longestChainOf 30 = .ok (.invokevirtual 92, 3) := by decide +kernel
theorem dX0_longestChainOf_33 : decode cX0_longestChainOf 33 = .ok (.iload_n 2, 1) := by decide +kernel
theorem dX0_longestChainOf_34 : decode cX0_longestChainOf 34 = .ok (.invokestatic 186, 3) := by decide +kernel
theorem dX0_longestChainOf_37 : decode cX0_longestChainOf 37 = .ok (.goto 8, 3) := by decide +kernel
theorem dX0_longestChainOf_40 : decode cX0_longestChainOf 40 = .ok (.iload_n 3, 1) := by decide +kernel
theorem dX0_longestChainOf_41 : decode cX0_longestChainOf 41 = .ok (.iload_n 2, 1) := by decide +kernel
theorem dX0_longestChainOf_42 : decode cX0_longestChainOf 42 = .ok (.invokestatic 190, 3) := by decide +kernel
theorem dX0_longestChainOf_45 : decode cX0_longestChainOf 45 = .ok (.ireturn, 1) := by decide +kernel
theorem dX0_mostFromAnyTile_0 : decode cX0_mostFromAnyTile 0 = .ok (.iconst 0, 1) := by decide +kernel
theorem dX0_mostFromAnyTile_1 : decode cX0_mostFromAnyTile 1 = .ok (.istore_n 2, 1) := by decide +kernel
theorem dX0_mostFromAnyTile_2 : decode cX0_mostFromAnyTile 2 = .ok (.iconst 0, 1) := by decide +kernel
theorem dX0_mostFromAnyTile_3 : decode cX0_mostFromAnyTile 3 = .ok (.istore_n 3, 1) := by decide +kernel
theorem dX0_mostFromAnyTile_4 : decode cX0_mostFromAnyTile 4 = .ok (.iload_n 3, 1) := by decide +kernel
theorem dX0_mostFromAnyTile_5 : decode cX0_mostFromAnyTile 5 = .ok (.bipush 28, 2) := by decide +kernel
theorem dX0_mostFromAnyTile_7 : decode cX0_mostFromAnyTile 7 = .ok (.if_icmp .ge 46, 3) := by decide +kernel
theorem dX0_mostFromAnyTile_10 : decode cX0_mostFromAnyTile 10 = .ok (.iload_n 2, 1) := by decide +kernel
theorem dX0_mostFromAnyTile_11 : decode cX0_mostFromAnyTile 11 = .ok (.iload_n 1, 1) := by decide +kernel
theorem dX0_mostFromAnyTile_12 : decode cX0_mostFromAnyTile 12 = .ok (.if_icmp .ge 41, 3) := by decide +kernel
theorem dX0_mostFromAnyTile_15 : decode cX0_mostFromAnyTile 15 = .ok (.iload_n 0, 1) := by decide +kernel
theorem dX0_mostFromAnyTile_16 : decode cX0_mostFromAnyTile 16 = .ok (.iload_n 3, 1) := by decide +kernel
theorem dX0_mostFromAnyTile_17 : decode cX0_mostFromAnyTile 17 = .ok (.iushr, 1) := by decide +kernel
theorem dX0_mostFromAnyTile_18 : decode cX0_mostFromAnyTile 18 = .ok (.iconst 1, 1) := by decide +kernel
theorem dX0_mostFromAnyTile_19 : decode cX0_mostFromAnyTile 19 = .ok (.iand, 1) := by decide +kernel
theorem dX0_mostFromAnyTile_20 : decode cX0_mostFromAnyTile 20 = .ok (.ifCond .eq 27, 3) := by decide +kernel
theorem dX0_mostFromAnyTile_23 : decode cX0_mostFromAnyTile 23 = .ok (.iload_n 2, 1) := by decide +kernel
theorem dX0_mostFromAnyTile_24 : decode cX0_mostFromAnyTile 24 = .ok (.iconst 1, 1) := by decide +kernel
theorem dX0_mostFromAnyTile_25 : decode cX0_mostFromAnyTile 25 = .ok (.iload_n 0, 1) := by decide +kernel
theorem dX0_mostFromAnyTile_26 : decode cX0_mostFromAnyTile 26 = .ok (.iconst 1, 1) := by decide +kernel
theorem dX0_mostFromAnyTile_27 : decode cX0_mostFromAnyTile 27 = .ok (.iload_n 3, 1) := by decide +kernel
theorem dX0_mostFromAnyTile_28 : decode cX0_mostFromAnyTile 28 = .ok (.ishl, 1) := by decide +kernel
theorem dX0_mostFromAnyTile_29 : decode cX0_mostFromAnyTile 29 = .ok (.iconst (-1), 1) := by decide +kernel
theorem dX0_mostFromAnyTile_30 : decode cX0_mostFromAnyTile 30 = .ok (.ixor, 1) := by decide +kernel
theorem dX0_mostFromAnyTile_31 : decode cX0_mostFromAnyTile 31 = .ok (.iand, 1) := by decide +kernel
theorem dX0_mostFromAnyTile_32 : decode cX0_mostFromAnyTile 32 = .ok (.iload_n 3, 1) := by decide +kernel
theorem dX0_mostFromAnyTile_33 : decode cX0_mostFromAnyTile 33 = .ok (.invokestatic 105, 3) := by decide +kernel
theorem dX0_mostFromAnyTile_36 : decode cX0_mostFromAnyTile 36 = .ok (.iload_n 1, 1) := by decide +kernel
theorem dX0_mostFromAnyTile_37 : decode cX0_mostFromAnyTile 37 = .ok (.iconst 1, 1) := by decide +kernel
theorem dX0_mostFromAnyTile_38 : decode cX0_mostFromAnyTile 38 = .ok (.isub, 1) := by decide +kernel
theorem dX0_mostFromAnyTile_39 : decode cX0_mostFromAnyTile 39 = .ok (.invokestatic 186, 3) := by decide +kernel
theorem dX0_mostFromAnyTile_42 : decode cX0_mostFromAnyTile 42 = .ok (.iadd, 1) := by decide +kernel
theorem dX0_mostFromAnyTile_43 : decode cX0_mostFromAnyTile 43 = .ok (.invokestatic 194, 3) := by decide +kernel
theorem dX0_mostFromAnyTile_46 : decode cX0_mostFromAnyTile 46 = .ok (.istore_n 2, 1) := by decide +kernel
theorem dX0_mostFromAnyTile_47 : decode cX0_mostFromAnyTile 47 = .ok (.iinc 3 1, 3) := by decide +kernel
theorem dX0_mostFromAnyTile_50 : decode cX0_mostFromAnyTile 50 = .ok (.goto (-46), 3) := by decide +kernel
theorem dX0_mostFromAnyTile_53 : decode cX0_mostFromAnyTile 53 = .ok (.iload_n 2, 1) := by decide +kernel
theorem dX0_mostFromAnyTile_54 : decode cX0_mostFromAnyTile 54 = .ok (.ireturn, 1) := by decide +kernel
theorem dX0_mostBehind_0 : decode cX0_mostBehind 0 = .ok (.iconst 0, 1) := by decide +kernel
theorem dX0_mostBehind_1 : decode cX0_mostBehind 1 = .ok (.istore_n 3, 1) := by decide +kernel
theorem dX0_mostBehind_2 : decode cX0_mostBehind 2 = .ok (.iconst 0, 1) := by decide +kernel
theorem dX0_mostBehind_3 : decode cX0_mostBehind 3 = .ok (.istore 4, 2) := by decide +kernel
theorem dX0_mostBehind_5 : decode cX0_mostBehind 5 = .ok (.iload 4, 2) := by decide +kernel
theorem dX0_mostBehind_7 : decode cX0_mostBehind 7 = .ok (.bipush 6, 2) := by decide +kernel
theorem dX0_mostBehind_9 : decode cX0_mostBehind 9 = .ok (.if_icmp .gt 54, 3) := by decide +kernel
theorem dX0_mostBehind_12 : decode cX0_mostBehind 12 = .ok (.iload_n 3, 1) := by decide +kernel
theorem dX0_mostBehind_13 : decode cX0_mostBehind 13 = .ok (.iload_n 2, 1) := by decide +kernel
theorem dX0_mostBehind_14 : decode cX0_mostBehind 14 = .ok (.if_icmp .ge 49, 3) := by decide +kernel
theorem dX0_mostBehind_17 : decode cX0_mostBehind 17 = .ok (.iload_n 1, 1) := by decide +kernel
theorem dX0_mostBehind_18 : decode cX0_mostBehind 18 = .ok (.iload 4, 2) := by decide +kernel
theorem dX0_mostBehind_20 : decode cX0_mostBehind 20 = .ok (.invokestatic 199, 3) := by decide +kernel
theorem dX0_mostBehind_23 : decode cX0_mostBehind 23 = .ok (.istore 5, 2) := by decide +kernel
theorem dX0_mostBehind_25 : decode cX0_mostBehind 25 = .ok (.iload_n 0, 1) := by decide +kernel
theorem dX0_mostBehind_26 : decode cX0_mostBehind 26 = .ok (.iload 5, 2) := by decide +kernel
theorem dX0_mostBehind_28 : decode cX0_mostBehind 28 = .ok (.iushr, 1) := by decide +kernel
theorem dX0_mostBehind_29 : decode cX0_mostBehind 29 = .ok (.iconst 1, 1) := by decide +kernel
theorem dX0_mostBehind_30 : decode cX0_mostBehind 30 = .ok (.iand, 1) := by decide +kernel
theorem dX0_mostBehind_31 : decode cX0_mostBehind 31 = .ok (.ifCond .eq 26, 3) := by decide +kernel
theorem dX0_mostBehind_34 : decode cX0_mostBehind 34 = .ok (.iload_n 3, 1) := by decide +kernel
theorem dX0_mostBehind_35 : decode cX0_mostBehind 35 = .ok (.iconst 1, 1) := by decide +kernel
theorem dX0_mostBehind_36 : decode cX0_mostBehind 36 = .ok (.iload_n 0, 1) := by decide +kernel
theorem dX0_mostBehind_37 : decode cX0_mostBehind 37 = .ok (.iconst 1, 1) := by decide +kernel
theorem dX0_mostBehind_38 : decode cX0_mostBehind 38 = .ok (.iload 5, 2) := by decide +kernel
theorem dX0_mostBehind_40 : decode cX0_mostBehind 40 = .ok (.ishl, 1) := by decide +kernel
theorem dX0_mostBehind_41 : decode cX0_mostBehind 41 = .ok (.iconst (-1), 1) := by decide +kernel
theorem dX0_mostBehind_42 : decode cX0_mostBehind 42 = .ok (.ixor, 1) := by decide +kernel
theorem dX0_mostBehind_43 : decode cX0_mostBehind 43 = .ok (.iand, 1) := by decide +kernel
theorem dX0_mostBehind_44 : decode cX0_mostBehind 44 = .ok (.iload 4, 2) := by decide +kernel
theorem dX0_mostBehind_46 : decode cX0_mostBehind 46 = .ok (.iload_n 2, 1) := by decide +kernel
theorem dX0_mostBehind_47 : decode cX0_mostBehind 47 = .ok (.iconst 1, 1) := by decide +kernel
theorem dX0_mostBehind_48 : decode cX0_mostBehind 48 = .ok (.isub, 1) := by decide +kernel
theorem dX0_mostBehind_49 : decode cX0_mostBehind 49 = .ok (.invokestatic 186, 3) := by decide +kernel
theorem dX0_mostBehind_52 : decode cX0_mostBehind 52 = .ok (.iadd, 1) := by decide +kernel
theorem dX0_mostBehind_53 : decode cX0_mostBehind 53 = .ok (.invokestatic 194, 3) := by decide +kernel
theorem dX0_mostBehind_56 : decode cX0_mostBehind 56 = .ok (.istore_n 3, 1) := by decide +kernel
theorem dX0_mostBehind_57 : decode cX0_mostBehind 57 = .ok (.iinc 4 1, 3) := by decide +kernel
theorem dX0_mostBehind_60 : decode cX0_mostBehind 60 = .ok (.goto (-55), 3) := by decide +kernel
theorem dX0_mostBehind_63 : decode cX0_mostBehind 63 = .ok (.iload_n 3, 1) := by decide +kernel
theorem dX0_mostBehind_64 : decode cX0_mostBehind 64 = .ok (.ireturn, 1) := by decide +kernel
theorem dX0_holderOf_0 : decode cX0_holderOf 0 = .ok (.iload_n 1, 1) := by decide +kernel
theorem dX0_holderOf_1 : decode cX0_holderOf 1 = .ok (.invokestatic 202, 3) := by decide +kernel
theorem dX0_holderOf_4 : decode cX0_holderOf 4 = .ok (.ifCond .eq 12, 3) := by decide +kernel
theorem dX0_holderOf_7 : decode cX0_holderOf 7 = .ok (.aload_n 0, 1) := by decide +kernel
theorem dX0_holderOf_8 : decode cX0_holderOf 8 = .ok (.getfield 15, 3) := by decide +kernel
theorem dX0_holderOf_11 : decode cX0_holderOf 11 = .ok (.iload_n 1, 1) := by decide +kernel
theorem dX0_holderOf_12 : decode cX0_holderOf 12 = .ok (.iaload, 1) := by decide +kernel
theorem dX0_holderOf_13 : decode cX0_holderOf 13 = .ok (.goto 4, 3) := by decide +kernel
theorem dX0_holderOf_16 : decode cX0_holderOf 16 = .ok (.iconst (-1), 1) := by decide +kernel
theorem dX0_holderOf_17 : decode cX0_holderOf 17 = .ok (.ireturn, 1) := by decide +kernel
theorem dX0_giveTo_0 : decode cX0_giveTo 0 = .ok (.iload_n 1, 1) := by decide +kernel
theorem dX0_giveTo_1 : decode cX0_giveTo 1 = .ok (.invokestatic 202, 3) := by decide +kernel
theorem dX0_giveTo_4 : decode cX0_giveTo 4 = .ok (.ifCond .eq 10, 3) := by decide +kernel
theorem dX0_giveTo_7 : decode cX0_giveTo 7 = .ok (.aload_n 0, 1) := by decide +kernel
theorem dX0_giveTo_8 : decode cX0_giveTo 8 = .ok (.getfield 15, 3) := by decide +kernel
theorem dX0_giveTo_11 : decode cX0_giveTo 11 = .ok (.iload_n 1, 1) := by decide +kernel
theorem dX0_giveTo_12 : decode cX0_giveTo 12 = .ok (.iload_n 2, 1) := by decide +kernel
theorem dX0_giveTo_13 : decode cX0_giveTo 13 = .ok (.iastore, 1) := by decide +kernel
theorem dX0_giveTo_14 : decode cX0_giveTo 14 = .ok (.return_, 1) := by decide +kernel
theorem dX0_handOf_0 : decode cX0_handOf 0 = .ok (.iconst 0, 1) := by decide +kernel
theorem dX0_handOf_1 : decode cX0_handOf 1 = .ok (.istore_n 2, 1) := by decide +kernel
theorem dX0_handOf_2 : decode cX0_handOf 2 = .ok (.iconst 0, 1) := by decide +kernel
theorem dX0_handOf_3 : decode cX0_handOf 3 = .ok (.istore_n 3, 1) := by decide +kernel
theorem dX0_handOf_4 : decode cX0_handOf 4 = .ok (.iload_n 3, 1) := by decide +kernel
theorem dX0_handOf_5 : decode cX0_handOf 5 = .ok (.bipush 28, 2) := by decide +kernel
theorem dX0_handOf_7 : decode cX0_handOf 7 = .ok (.if_icmp .ge 25, 3) := by decide +kernel
theorem dX0_handOf_10 : decode cX0_handOf 10 = .ok (.aload_n 0, 1) := by decide +kernel
theorem dX0_handOf_11 : decode cX0_handOf 11 = .ok (.getfield 15, 3) := by decide +kernel
theorem dX0_handOf_14 : decode cX0_handOf 14 = .ok (.iload_n 3, 1) := by decide +kernel
theorem dX0_handOf_15 : decode cX0_handOf 15 = .ok (.iaload, 1) := by decide +kernel
theorem dX0_handOf_16 : decode cX0_handOf 16 = .ok (.iload_n 1, 1) := by decide +kernel
theorem dX0_handOf_17 : decode cX0_handOf 17 = .ok (.if_icmp .ne 9, 3) := by decide +kernel
theorem dX0_handOf_20 : decode cX0_handOf 20 = .ok (.iload_n 2, 1) := by decide +kernel
theorem dX0_handOf_21 : decode cX0_handOf 21 = .ok (.iconst 1, 1) := by decide +kernel
theorem dX0_handOf_22 : decode cX0_handOf 22 = .ok (.iload_n 3, 1) := by decide +kernel
theorem dX0_handOf_23 : decode cX0_handOf 23 = .ok (.ishl, 1) := by decide +kernel
theorem dX0_handOf_24 : decode cX0_handOf 24 = .ok (.ior, 1) := by decide +kernel
theorem dX0_handOf_25 : decode cX0_handOf 25 = .ok (.istore_n 2, 1) := by decide +kernel
theorem dX0_handOf_26 : decode cX0_handOf 26 = .ok (.iinc 3 1, 3) := by decide +kernel
theorem dX0_handOf_29 : decode cX0_handOf 29 = .ok (.goto (-25), 3) := by decide +kernel
theorem dX0_handOf_32 : decode cX0_handOf 32 = .ok (.iload_n 2, 1) := by decide +kernel
theorem dX0_handOf_33 : decode cX0_handOf 33 = .ok (.ireturn, 1) := by decide +kernel
theorem dX0_pipsOf_0 : decode cX0_pipsOf 0 = .ok (.iconst 0, 1) := by decide +kernel
theorem dX0_pipsOf_1 : decode cX0_pipsOf 1 = .ok (.istore_n 2, 1) := by decide +kernel
theorem dX0_pipsOf_2 : decode cX0_pipsOf 2 = .ok (.iconst 0, 1) := by decide +kernel
theorem dX0_pipsOf_3 : decode cX0_pipsOf 3 = .ok (.istore_n 3, 1) := by decide +kernel
theorem dX0_pipsOf_4 : decode cX0_pipsOf 4 = .ok (.iload_n 3, 1) := by decide +kernel
theorem dX0_pipsOf_5 : decode cX0_pipsOf 5 = .ok (.bipush 28, 2) := by decide +kernel
theorem dX0_pipsOf_7 : decode cX0_pipsOf 7 = .ok (.if_icmp .ge 33, 3) := by decide +kernel
theorem dX0_pipsOf_10 : decode cX0_pipsOf 10 = .ok (.aload_n 0, 1) := by decide +kernel
theorem dX0_pipsOf_11 : decode cX0_pipsOf 11 = .ok (.getfield 15, 3) := by decide +kernel
theorem dX0_pipsOf_14 : decode cX0_pipsOf 14 = .ok (.iload_n 3, 1) := by decide +kernel
theorem dX0_pipsOf_15 : decode cX0_pipsOf 15 = .ok (.iaload, 1) := by decide +kernel
theorem dX0_pipsOf_16 : decode cX0_pipsOf 16 = .ok (.iload_n 1, 1) := by decide +kernel
theorem dX0_pipsOf_17 : decode cX0_pipsOf 17 = .ok (.if_icmp .ne 17, 3) := by decide +kernel
theorem dX0_pipsOf_20 : decode cX0_pipsOf 20 = .ok (.iload_n 2, 1) := by decide +kernel
theorem dX0_pipsOf_21 : decode cX0_pipsOf 21 = .ok (.getstatic 205, 3) := by decide +kernel
theorem dX0_pipsOf_24 : decode cX0_pipsOf 24 = .ok (.iload_n 3, 1) := by decide +kernel
theorem dX0_pipsOf_25 : decode cX0_pipsOf 25 = .ok (.iaload, 1) := by decide +kernel
theorem dX0_pipsOf_26 : decode cX0_pipsOf 26 = .ok (.getstatic 208, 3) := by decide +kernel
theorem dX0_pipsOf_29 : decode cX0_pipsOf 29 = .ok (.iload_n 3, 1) := by decide +kernel
theorem dX0_pipsOf_30 : decode cX0_pipsOf 30 = .ok (.iaload, 1) := by decide +kernel
theorem dX0_pipsOf_31 : decode cX0_pipsOf 31 = .ok (.iadd, 1) := by decide +kernel
theorem dX0_pipsOf_32 : decode cX0_pipsOf 32 = .ok (.iadd, 1) := by decide +kernel
theorem dX0_pipsOf_33 : decode cX0_pipsOf 33 = .ok (.istore_n 2, 1) := by decide +kernel
theorem dX0_pipsOf_34 : decode cX0_pipsOf 34 = .ok (.iinc 3 1, 3) := by decide +kernel
theorem dX0_pipsOf_37 : decode cX0_pipsOf 37 = .ok (.goto (-33), 3) := by decide +kernel
theorem dX0_pipsOf_40 : decode cX0_pipsOf 40 = .ok (.iload_n 2, 1) := by decide +kernel
theorem dX0_pipsOf_41 : decode cX0_pipsOf 41 = .ok (.ireturn, 1) := by decide +kernel
theorem dX0_placeInHeap_0 : decode cX0_placeInHeap 0 = .ok (.iconst 0, 1) := by decide +kernel
theorem dX0_placeInHeap_1 : decode cX0_placeInHeap 1 = .ok (.istore_n 2, 1) := by decide +kernel
theorem dX0_placeInHeap_2 : decode cX0_placeInHeap 2 = .ok (.iload_n 2, 1) := by decide +kernel
theorem dX0_placeInHeap_3 : decode cX0_placeInHeap 3 = .ok (.bipush 28, 2) := by decide +kernel
theorem dX0_placeInHeap_5 : decode cX0_placeInHeap 5 = .ok (.if_icmp .ge 34, 3) := by decide +kernel
theorem dX0_placeInHeap_8 : decode cX0_placeInHeap 8 = .ok (.iload_n 2, 1) := by decide +kernel
theorem dX0_placeInHeap_9 : decode cX0_placeInHeap 9 = .ok (.aload_n 0, 1) := by decide +kernel
theorem dX0_placeInHeap_10 : decode cX0_placeInHeap 10 = .ok (.getfield 56, 3) := by decide +kernel
theorem dX0_placeInHeap_13 : decode cX0_placeInHeap 13 = .ok (.if_icmp .lt 20, 3) := by decide +kernel
theorem dX0_placeInHeap_16 : decode cX0_placeInHeap 16 = .ok (.aload_n 0, 1) := by decide +kernel
theorem dX0_placeInHeap_17 : decode cX0_placeInHeap 17 = .ok (.getfield 9, 3) := by decide +kernel
theorem dX0_placeInHeap_20 : decode cX0_placeInHeap 20 = .ok (.iload_n 2, 1) := by decide +kernel
theorem dX0_placeInHeap_21 : decode cX0_placeInHeap 21 = .ok (.iaload, 1) := by decide +kernel
theorem dX0_placeInHeap_22 : decode cX0_placeInHeap 22 = .ok (.iload_n 1, 1) := by decide +kernel
theorem dX0_placeInHeap_23 : decode cX0_placeInHeap 23 = .ok (.if_icmp .ne 10, 3) := by decide +kernel
theorem dX0_placeInHeap_26 : decode cX0_placeInHeap 26 = .ok (.iload_n 2, 1) := by decide +kernel
theorem dX0_placeInHeap_27 : decode cX0_placeInHeap 27 = .ok (.aload_n 0, 1) := by decide +kernel
theorem dX0_placeInHeap_28 : decode cX0_placeInHeap 28 = .ok (.getfield 56, 3) := by decide +kernel
theorem dX0_placeInHeap_31 : decode cX0_placeInHeap 31 = .ok (.isub, 1) := by decide +kernel
theorem dX0_placeInHeap_32 : decode cX0_placeInHeap 32 = .ok (.ireturn, 1) := by decide +kernel
theorem dX0_placeInHeap_33 : decode cX0_placeInHeap 33 = .ok (.iinc 2 1, 3) := by decide +kernel
theorem dX0_placeInHeap_36 : decode cX0_placeInHeap 36 = .ok (.goto (-34), 3) := by decide +kernel
theorem dX0_placeInHeap_39 : decode cX0_placeInHeap 39 = .ok (.iconst (-1), 1) := by decide +kernel
theorem dX0_placeInHeap_40 : decode cX0_placeInHeap 40 = .ok (.ireturn, 1) := by decide +kernel
theorem dX1_init_0 : decode cX1_init 0 = .ok (.aload_n 0, 1) := by decide +kernel
theorem dX1_init_1 : decode cX1_init 1 = .ok (.invokespecial 3, 3) := by decide +kernel
theorem dX1_init_4 : decode cX1_init 4 = .ok (.aload_n 0, 1) := by decide +kernel
theorem dX1_init_5 : decode cX1_init 5 = .ok (.bipush 14, 2) := by decide +kernel
theorem dX1_init_7 : decode cX1_init 7 = .ok (.anewarray 9, 3) := by decide +kernel
theorem dX1_init_10 : decode cX1_init 10 = .ok (.putfield 11, 3) := by decide +kernel
theorem dX1_init_13 : decode cX1_init 13 = .ok (.iconst 0, 1) := by decide +kernel
theorem dX1_init_14 : decode cX1_init 14 = .ok (.istore_n 1, 1) := by decide +kernel
theorem dX1_init_15 : decode cX1_init 15 = .ok (.iload_n 1, 1) := by decide +kernel
theorem dX1_init_16 : decode cX1_init 16 = .ok (.bipush 14, 2) := by decide +kernel
theorem dX1_init_18 : decode cX1_init 18 = .ok (.if_icmp .ge 22, 3) := by decide +kernel
theorem dX1_init_21 : decode cX1_init 21 = .ok (.aload_n 0, 1) := by decide +kernel
theorem dX1_init_22 : decode cX1_init 22 = .ok (.getfield 11, 3) := by decide +kernel
theorem dX1_init_25 : decode cX1_init 25 = .ok (.iload_n 1, 1) := by decide +kernel
theorem dX1_init_26 : decode cX1_init 26 = .ok (.new 9, 3) := by decide +kernel
theorem dX1_init_29 : decode cX1_init 29 = .ok (.dup, 1) := by decide +kernel
theorem dX1_init_30 : decode cX1_init 30 = .ok (.invokespecial 17, 3) := by decide +kernel
theorem dX1_init_33 : decode cX1_init 33 = .ok (.aastore, 1) := by decide +kernel
theorem dX1_init_34 : decode cX1_init 34 = .ok (.iinc 1 1, 3) := by decide +kernel
theorem dX1_init_37 : decode cX1_init 37 = .ok (.goto (-22), 3) := by decide +kernel
theorem dX1_init_40 : decode cX1_init 40 = .ok (.return_, 1) := by decide +kernel
theorem dX1_size_0 : decode cX1_size 0 = .ok (.aload_n 0, 1) := by decide +kernel
theorem dX1_size_1 : decode cX1_size 1 = .ok (.getfield 18, 3) := by decide +kernel
theorem dX1_size_4 : decode cX1_size 4 = .ok (.ireturn, 1) := by decide +kernel
theorem dX1_forget_0 : decode cX1_forget 0 = .ok (.aload_n 0, 1) := by decide +kernel
theorem dX1_forget_1 : decode cX1_forget 1 = .ok (.iconst 0, 1) := by decide +kernel
theorem dX1_forget_2 : decode cX1_forget 2 = .ok (.putfield 22, 3) := by decide +kernel
theorem dX1_forget_5 : decode cX1_forget 5 = .ok (.aload_n 0, 1) := by decide +kernel
theorem dX1_forget_6 : decode cX1_forget 6 = .ok (.iconst 0, 1) := by decide +kernel
theorem dX1_forget_7 : decode cX1_forget 7 = .ok (.putfield 18, 3) := by decide +kernel
theorem dX1_forget_10 : decode cX1_forget 10 = .ok (.return_, 1) := by decide +kernel
theorem dX1_remember_0 : decode cX1_remember 0 = .ok (.aload_n 0, 1) := by decide +kernel
theorem dX1_remember_1 : decode cX1_remember 1 = .ok (.aload_n 0, 1) := by decide +kernel
theorem dX1_remember_2 : decode cX1_remember 2 = .ok (.getfield 18, 3) := by decide +kernel
theorem dX1_remember_5 : decode cX1_remember 5 = .ok (.invokevirtual 25, 3) := by decide +kernel
theorem dX1_remember_8 : decode cX1_remember 8 = .ok (.astore_n 2, 1) := by decide +kernel
theorem dX1_remember_9 : decode cX1_remember 9 = .ok (.aload_n 2, 1) := by decide +kernel
theorem dX1_remember_10 : decode cX1_remember 10 = .ok (.ifnull 8, 3) := by decide +kernel
theorem dX1_remember_13 : decode cX1_remember 13 = .ok (.aload_n 2, 1) := by decide +kernel
theorem dX1_remember_14 : decode cX1_remember 14 = .ok (.aload_n 1, 1) := by decide +kernel
theorem dX1_remember_15 : decode cX1_remember 15 = .ok (.invokevirtual 29, 3) := by decide +kernel
theorem dX1_remember_18 : decode cX1_remember 18 = .ok (.aload_n 0, 1) := by decide +kernel
theorem dX1_remember_19 : decode cX1_remember 19 = .ok (.getfield 18, 3) := by decide +kernel
theorem dX1_remember_22 : decode cX1_remember 22 = .ok (.bipush 14, 2) := by decide +kernel
theorem dX1_remember_24 : decode cX1_remember 24 = .ok (.if_icmp .ge 16, 3) := by decide +kernel
theorem dX1_remember_27 : decode cX1_remember 27 = .ok (.aload_n 0, 1) := by decide +kernel
theorem dX1_remember_28 : decode cX1_remember 28 = .ok (.dup, 1) := by decide +kernel
theorem dX1_remember_29 : decode cX1_remember 29 = .ok (.getfield 18, 3) := by decide +kernel
theorem dX1_remember_32 : decode cX1_remember 32 = .ok (.iconst 1, 1) := by decide +kernel
theorem dX1_remember_33 : decode cX1_remember 33 = .ok (.iadd, 1) := by decide +kernel
theorem dX1_remember_34 : decode cX1_remember 34 = .ok (.putfield 18, 3) := by decide +kernel
theorem dX1_remember_37 : decode cX1_remember 37 = .ok (.goto 16, 3) := by decide +kernel
theorem dX1_remember_40 : decode cX1_remember 40 = .ok (.aload_n 0, 1) := by decide +kernel
theorem dX1_remember_41 : decode cX1_remember 41 = .ok (.aload_n 0, 1) := by decide +kernel
theorem dX1_remember_42 : decode cX1_remember 42 = .ok (.getfield 22, 3) := by decide +kernel
theorem dX1_remember_45 : decode cX1_remember 45 = .ok (.iconst 1, 1) := by decide +kernel
theorem dX1_remember_46 : decode cX1_remember 46 = .ok (.iadd, 1) := by decide +kernel
theorem dX1_remember_47 : decode cX1_remember 47 = .ok (.bipush 14, 2) := by decide +kernel
theorem dX1_remember_49 : decode cX1_remember 49 = .ok (.irem, 1) := by decide +kernel
theorem dX1_remember_50 : decode cX1_remember 50 = .ok (.putfield 22, 3) := by decide +kernel
theorem dX1_remember_53 : decode cX1_remember 53 = .ok (.return_, 1) := by decide +kernel
theorem dX1_takeBack_0 : decode cX1_takeBack 0 = .ok (.aload_n 0, 1) := by decide +kernel
theorem dX1_takeBack_1 : decode cX1_takeBack 1 = .ok (.getfield 18, 3) := by decide +kernel
theorem dX1_takeBack_4 : decode cX1_takeBack 4 = .ok (.ifCond .le 31, 3) := by decide +kernel
theorem dX1_takeBack_7 : decode cX1_takeBack 7 = .ok (.aload_n 0, 1) := by decide +kernel
theorem dX1_takeBack_8 : decode cX1_takeBack 8 = .ok (.dup, 1) := by decide +kernel
theorem dX1_takeBack_9 : decode cX1_takeBack 9 = .ok (.getfield 18, 3) := by decide +kernel
theorem dX1_takeBack_12 : decode cX1_takeBack 12 = .ok (.iconst 1, 1) := by decide +kernel
theorem dX1_takeBack_13 : decode cX1_takeBack 13 = .ok (.isub, 1) := by decide +kernel
theorem dX1_takeBack_14 : decode cX1_takeBack 14 = .ok (.putfield 18, 3) := by decide +kernel
theorem dX1_takeBack_17 : decode cX1_takeBack 17 = .ok (.aload_n 0, 1) := by decide +kernel
theorem dX1_takeBack_18 : decode cX1_takeBack 18 = .ok (.aload_n 0, 1) := by decide +kernel
theorem dX1_takeBack_19 : decode cX1_takeBack 19 = .ok (.getfield 18, 3) := by decide +kernel
theorem dX1_takeBack_22 : decode cX1_takeBack 22 = .ok (.invokevirtual 25, 3) := by decide +kernel
theorem dX1_takeBack_25 : decode cX1_takeBack 25 = .ok (.astore_n 2, 1) := by decide +kernel
theorem dX1_takeBack_26 : decode cX1_takeBack 26 = .ok (.aload_n 2, 1) := by decide +kernel
theorem dX1_takeBack_27 : decode cX1_takeBack 27 = .ok (.ifnull 8, 3) := by decide +kernel
theorem dX1_takeBack_30 : decode cX1_takeBack 30 = .ok (.aload_n 1, 1) := by decide +kernel
theorem dX1_takeBack_31 : decode cX1_takeBack 31 = .ok (.aload_n 2, 1) := by decide +kernel
theorem dX1_takeBack_32 : decode cX1_takeBack 32 = .ok (.invokevirtual 29, 3) := by decide +kernel
theorem dX1_takeBack_35 : decode cX1_takeBack 35 = .ok (.aload_n 0, 1) := by decide +kernel
theorem dX1_takeBack_36 : decode cX1_takeBack 36 = .ok (.getfield 18, 3) := by decide +kernel
theorem dX1_takeBack_39 : decode cX1_takeBack 39 = .ok (.ireturn, 1) := by decide +kernel
theorem dX1_stateOf_0 : decode cX1_stateOf 0 = .ok (.aload_n 0, 1) := by decide +kernel
theorem dX1_stateOf_1 : decode cX1_stateOf 1 = .ok (.getfield 22, 3) := by decide +kernel
theorem dX1_stateOf_4 : decode cX1_stateOf 4 = .ok (.iload_n 1, 1) := by decide +kernel
theorem dX1_stateOf_5 : decode cX1_stateOf 5 = .ok (.iadd, 1) := by decide +kernel
theorem dX1_stateOf_6 : decode cX1_stateOf 6 = .ok (.bipush 14, 2) := by decide +kernel
theorem dX1_stateOf_8 : decode cX1_stateOf 8 = .ok (.invokestatic 33, 3) := by decide +kernel
theorem dX1_stateOf_11 : decode cX1_stateOf 11 = .ok (.istore_n 2, 1) := by decide +kernel
theorem dX1_stateOf_12 : decode cX1_stateOf 12 = .ok (.iload_n 2, 1) := by decide +kernel
theorem dX1_stateOf_13 : decode cX1_stateOf 13 = .ok (.aload_n 0, 1) := by decide +kernel
theorem dX1_stateOf_14 : decode cX1_stateOf 14 = .ok (.getfield 11, 3) := by decide +kernel
theorem dX1_stateOf_17 : decode cX1_stateOf 17 = .ok (.arraylength, 1) := by decide +kernel
theorem dX1_stateOf_18 : decode cX1_stateOf 18 = .ok (.if_icmp .ge 12, 3) := by decide +kernel
theorem dX1_stateOf_21 : decode cX1_stateOf 21 = .ok (.aload_n 0, 1) := by decide +kernel
theorem dX1_stateOf_22 : decode cX1_stateOf 22 = .ok (.getfield 11, 3) := by decide +kernel
theorem dX1_stateOf_25 : decode cX1_stateOf 25 = .ok (.iload_n 2, 1) := by decide +kernel
theorem dX1_stateOf_26 : decode cX1_stateOf 26 = .ok (.aaload, 1) := by decide +kernel
theorem dX1_stateOf_27 : decode cX1_stateOf 27 = .ok (.goto 4, 3) := by decide +kernel
theorem dX1_stateOf_30 : decode cX1_stateOf 30 = .ok (.aconst_null, 1) := by decide +kernel
theorem dX1_stateOf_31 : decode cX1_stateOf 31 = .ok (.areturn, 1) := by decide +kernel
theorem dX2_init_0 : decode cX2_init 0 = .ok (.aload_n 0, 1) := by decide +kernel
theorem dX2_init_1 : decode cX2_init 1 = .ok (.invokespecial 3, 3) := by decide +kernel
theorem dX2_init_4 : decode cX2_init 4 = .ok (.aload_n 0, 1) := by decide +kernel
theorem dX2_init_5 : decode cX2_init 5 = .ok (.iconst (-1), 1) := by decide +kernel
theorem dX2_init_6 : decode cX2_init 6 = .ok (.putfield 9, 3) := by decide +kernel
theorem dX2_init_9 : decode cX2_init 9 = .ok (.aload_n 0, 1) := by decide +kernel
theorem dX2_init_10 : decode cX2_init 10 = .ok (.bipush 12, 2) := by decide +kernel
theorem dX2_init_12 : decode cX2_init 12 = .ok (.putfield 15, 3) := by decide +kernel
theorem dX2_init_15 : decode cX2_init 15 = .ok (.aload_n 0, 1) := by decide +kernel
theorem dX2_init_16 : decode cX2_init 16 = .ok (.bipush 12, 2) := by decide +kernel
theorem dX2_init_18 : decode cX2_init 18 = .ok (.putfield 18, 3) := by decide +kernel
theorem dX2_init_21 : decode cX2_init 21 = .ok (.aload_n 0, 1) := by decide +kernel
theorem dX2_init_22 : decode cX2_init 22 = .ok (.bipush 28, 2) := by decide +kernel
theorem dX2_init_24 : decode cX2_init 24 = .ok (.newarray .int, 2) := by decide +kernel
theorem dX2_init_26 : decode cX2_init 26 = .ok (.putfield 21, 3) := by decide +kernel
theorem dX2_init_29 : decode cX2_init 29 = .ok (.aload_n 0, 1) := by decide +kernel
theorem dX2_init_30 : decode cX2_init 30 = .ok (.bipush 28, 2) := by decide +kernel
theorem dX2_init_32 : decode cX2_init 32 = .ok (.newarray .int, 2) := by decide +kernel
theorem dX2_init_34 : decode cX2_init 34 = .ok (.putfield 25, 3) := by decide +kernel
theorem dX2_init_37 : decode cX2_init 37 = .ok (.aload_n 0, 1) := by decide +kernel
theorem dX2_init_38 : decode cX2_init 38 = .ok (.bipush 28, 2) := by decide +kernel
theorem dX2_init_40 : decode cX2_init 40 = .ok (.newarray .int, 2) := by decide +kernel
theorem dX2_init_42 : decode cX2_init 42 = .ok (.putfield 28, 3) := by decide +kernel
theorem dX2_init_45 : decode cX2_init 45 = .ok (.aload_n 0, 1) := by decide +kernel
theorem dX2_init_46 : decode cX2_init 46 = .ok (.bipush 28, 2) := by decide +kernel
theorem dX2_init_48 : decode cX2_init 48 = .ok (.newarray .int, 2) := by decide +kernel
theorem dX2_init_50 : decode cX2_init 50 = .ok (.putfield 31, 3) := by decide +kernel
theorem dX2_init_53 : decode cX2_init 53 = .ok (.aload_n 0, 1) := by decide +kernel
theorem dX2_init_54 : decode cX2_init 54 = .ok (.bipush 28, 2) := by decide +kernel
theorem dX2_init_56 : decode cX2_init 56 = .ok (.newarray .int, 2) := by decide +kernel
theorem dX2_init_58 : decode cX2_init 58 = .ok (.putfield 34, 3) := by decide +kernel
theorem dX2_init_61 : decode cX2_init 61 = .ok (.aload_n 0, 1) := by decide +kernel
theorem dX2_init_62 : decode cX2_init 62 = .ok (.bipush 25, 2) := by decide +kernel
theorem dX2_init_64 : decode cX2_init 64 = .ok (.newarray .int, 2) := by decide +kernel
theorem dX2_init_66 : decode cX2_init 66 = .ok (.putfield 37, 3) := by decide +kernel
theorem dX2_init_69 : decode cX2_init 69 = .ok (.return_, 1) := by decide +kernel
theorem dX2_size_0 : decode cX2_size 0 = .ok (.aload_n 0, 1) := by decide +kernel
theorem dX2_size_1 : decode cX2_size 1 = .ok (.getfield 40, 3) := by decide +kernel
theorem dX2_size_4 : decode cX2_size 4 = .ok (.ireturn, 1) := by decide +kernel
theorem dX2_endOfNow_0 : decode cX2_endOfNow 0 = .ok (.aload_n 0, 1) := by decide +kernel
theorem dX2_endOfNow_1 : decode cX2_endOfNow 1 = .ok (.getfield 9, 3) := by decide +kernel
theorem dX2_endOfNow_4 : decode cX2_endOfNow 4 = .ok (.ireturn, 1) := by decide +kernel
theorem dX2_directionOfNow_0 : decode cX2_directionOfNow 0 = .ok (.aload_n 0, 1) := by decide +kernel
theorem dX2_directionOfNow_1 : decode cX2_directionOfNow 1 = .ok (.getfield 43, 3) := by decide +kernel
theorem dX2_directionOfNow_4 : decode cX2_directionOfNow 4 = .ok (.ireturn, 1) := by decide +kernel
theorem dX2_becomeEmpty_0 : decode cX2_becomeEmpty 0 = .ok (.aload_n 0, 1) := by decide +kernel
theorem dX2_becomeEmpty_1 : decode cX2_becomeEmpty 1 = .ok (.iconst 0, 1) := by decide +kernel
theorem dX2_becomeEmpty_2 : decode cX2_becomeEmpty 2 = .ok (.putfield 40, 3) := by decide +kernel
theorem dX2_becomeEmpty_5 : decode cX2_becomeEmpty 5 = .ok (.aload_n 0, 1) := by decide +kernel
theorem dX2_becomeEmpty_6 : decode cX2_becomeEmpty 6 = .ok (.iconst (-1), 1) := by decide +kernel
theorem dX2_becomeEmpty_7 : decode cX2_becomeEmpty 7 = .ok (.putfield 9, 3) := by decide +kernel
theorem dX2_becomeEmpty_10 : decode cX2_becomeEmpty 10 = .ok (.aload_n 0, 1) := by decide +kernel
theorem dX2_becomeEmpty_11 : decode cX2_becomeEmpty 11 = .ok (.iconst 0, 1) := by decide +kernel
theorem dX2_becomeEmpty_12 : decode cX2_becomeEmpty 12 = .ok (.putfield 43, 3) := by decide +kernel
theorem dX2_becomeEmpty_15 : decode cX2_becomeEmpty 15 = .ok (.aload_n 0, 1) := by decide +kernel
theorem dX2_becomeEmpty_16 : decode cX2_becomeEmpty 16 = .ok (.bipush 12, 2) := by decide +kernel
theorem dX2_becomeEmpty_18 : decode cX2_becomeEmpty 18 = .ok (.putfield 15, 3) := by decide +kernel
theorem dX2_becomeEmpty_21 : decode cX2_becomeEmpty 21 = .ok (.aload_n 0, 1) := by decide +kernel
theorem dX2_becomeEmpty_22 : decode cX2_becomeEmpty 22 = .ok (.bipush 12, 2) := by decide +kernel
theorem dX2_becomeEmpty_24 : decode cX2_becomeEmpty 24 = .ok (.putfield 18, 3) := by decide +kernel
theorem dX2_becomeEmpty_27 : decode cX2_becomeEmpty 27 = .ok (.aload_n 0, 1) := by decide +kernel
theorem dX2_becomeEmpty_28 : decode cX2_becomeEmpty 28 = .ok (.getfield 37, 3) := by decide +kernel
theorem dX2_becomeEmpty_31 : decode cX2_becomeEmpty 31 = .ok (.iconst 0, 1) := by decide +kernel
theorem dX2_becomeEmpty_32 : decode cX2_becomeEmpty 32 = .ok (.invokestatic 46, 3) := by decide +kernel
theorem dX2_becomeEmpty_35 : decode cX2_becomeEmpty 35 = .ok (.return_, 1) := by decide +kernel
theorem dX2_becomeLike_0 : decode cX2_becomeLike 0 = .ok (.aload_n 0, 1) := by decide +kernel
theorem dX2_becomeLike_1 : decode cX2_becomeLike 1 = .ok (.aload_n 1, 1) := by decide +kernel
theorem dX2_becomeLike_2 : decode cX2_becomeLike 2 = .ok (.getfield 40, 3) := by decide +kernel
theorem dX2_becomeLike_5 : decode cX2_becomeLike 5 = .ok (.putfield 40, 3) := by decide +kernel
theorem dX2_becomeLike_8 : decode cX2_becomeLike 8 = .ok (.aload_n 0, 1) := by decide +kernel
theorem dX2_becomeLike_9 : decode cX2_becomeLike 9 = .ok (.aload_n 1, 1) := by decide +kernel
theorem dX2_becomeLike_10 : decode cX2_becomeLike 10 = .ok (.getfield 9, 3) := by decide +kernel
theorem dX2_becomeLike_13 : decode cX2_becomeLike 13 = .ok (.putfield 9, 3) := by decide +kernel
theorem dX2_becomeLike_16 : decode cX2_becomeLike 16 = .ok (.aload_n 0, 1) := by decide +kernel
theorem dX2_becomeLike_17 : decode cX2_becomeLike 17 = .ok (.aload_n 1, 1) := by decide +kernel
theorem dX2_becomeLike_18 : decode cX2_becomeLike 18 = .ok (.getfield 43, 3) := by decide +kernel
theorem dX2_becomeLike_21 : decode cX2_becomeLike 21 = .ok (.putfield 43, 3) := by decide +kernel
theorem dX2_becomeLike_24 : decode cX2_becomeLike 24 = .ok (.aload_n 0, 1) := by decide +kernel
theorem dX2_becomeLike_25 : decode cX2_becomeLike 25 = .ok (.aload_n 1, 1) := by decide +kernel
theorem dX2_becomeLike_26 : decode cX2_becomeLike 26 = .ok (.getfield 15, 3) := by decide +kernel
theorem dX2_becomeLike_29 : decode cX2_becomeLike 29 = .ok (.putfield 15, 3) := by decide +kernel
theorem dX2_becomeLike_32 : decode cX2_becomeLike 32 = .ok (.aload_n 0, 1) := by decide +kernel
theorem dX2_becomeLike_33 : decode cX2_becomeLike 33 = .ok (.aload_n 1, 1) := by decide +kernel
theorem dX2_becomeLike_34 : decode cX2_becomeLike 34 = .ok (.getfield 18, 3) := by decide +kernel
theorem dX2_becomeLike_37 : decode cX2_becomeLike 37 = .ok (.putfield 18, 3) := by decide +kernel
theorem dX2_becomeLike_40 : decode cX2_becomeLike 40 = .ok (.aload_n 1, 1) := by decide +kernel
theorem dX2_becomeLike_41 : decode cX2_becomeLike 41 = .ok (.getfield 21, 3) := by decide +kernel
theorem dX2_becomeLike_44 : decode cX2_becomeLike 44 = .ok (.iconst 0, 1) := by decide +kernel
theorem dX2_becomeLike_45 : decode cX2_becomeLike 45 = .ok (.aload_n 0, 1) := by decide +kernel
theorem dX2_becomeLike_46 : decode cX2_becomeLike 46 = .ok (.getfield 21, 3) := by decide +kernel
theorem dX2_becomeLike_49 : decode cX2_becomeLike 49 = .ok (.iconst 0, 1) := by decide +kernel
theorem dX2_becomeLike_50 : decode cX2_becomeLike 50 = .ok (.bipush 28, 2) := by decide +kernel
theorem dX2_becomeLike_52 : decode cX2_becomeLike 52 = .ok (.invokestatic 52, 3) := by decide +kernel
theorem dX2_becomeLike_55 : decode cX2_becomeLike 55 = .ok (.aload_n 1, 1) := by decide +kernel
theorem dX2_becomeLike_56 : decode cX2_becomeLike 56 = .ok (.getfield 25, 3) := by decide +kernel
theorem dX2_becomeLike_59 : decode cX2_becomeLike 59 = .ok (.iconst 0, 1) := by decide +kernel
theorem dX2_becomeLike_60 : decode cX2_becomeLike 60 = .ok (.aload_n 0, 1) := by decide +kernel
theorem dX2_becomeLike_61 : decode cX2_becomeLike 61 = .ok (.getfield 25, 3) := by decide +kernel
theorem dX2_becomeLike_64 : decode cX2_becomeLike 64 = .ok (.iconst 0, 1) := by decide +kernel
theorem dX2_becomeLike_65 : decode cX2_becomeLike 65 = .ok (.bipush 28, 2) := by decide +kernel
theorem dX2_becomeLike_67 : decode cX2_becomeLike 67 = .ok (.invokestatic 52, 3) := by decide +kernel
theorem dX2_becomeLike_70 : decode cX2_becomeLike 70 = .ok (.aload_n 1, 1) := by decide +kernel
theorem dX2_becomeLike_71 : decode cX2_becomeLike 71 = .ok (.getfield 28, 3) := by decide +kernel
theorem dX2_becomeLike_74 : decode cX2_becomeLike 74 = .ok (.iconst 0, 1) := by decide +kernel
theorem dX2_becomeLike_75 : decode cX2_becomeLike 75 = .ok (.aload_n 0, 1) := by decide +kernel
theorem dX2_becomeLike_76 : decode cX2_becomeLike 76 = .ok (.getfield 28, 3) := by decide +kernel
theorem dX2_becomeLike_79 : decode cX2_becomeLike 79 = .ok (.iconst 0, 1) := by decide +kernel
theorem dX2_becomeLike_80 : decode cX2_becomeLike 80 = .ok (.bipush 28, 2) := by decide +kernel
theorem dX2_becomeLike_82 : decode cX2_becomeLike 82 = .ok (.invokestatic 52, 3) := by decide +kernel
theorem dX2_becomeLike_85 : decode cX2_becomeLike 85 = .ok (.aload_n 1, 1) := by decide +kernel
theorem dX2_becomeLike_86 : decode cX2_becomeLike 86 = .ok (.getfield 31, 3) := by decide +kernel
theorem dX2_becomeLike_89 : decode cX2_becomeLike 89 = .ok (.iconst 0, 1) := by decide +kernel
theorem dX2_becomeLike_90 : decode cX2_becomeLike 90 = .ok (.aload_n 0, 1) := by decide +kernel
theorem dX2_becomeLike_91 : decode cX2_becomeLike 91 = .ok (.getfield 31, 3) := by decide +kernel
theorem dX2_becomeLike_94 : decode cX2_becomeLike 94 = .ok (.iconst 0, 1) := by decide +kernel
theorem dX2_becomeLike_95 : decode cX2_becomeLike 95 = .ok (.bipush 28, 2) := by decide +kernel
theorem dX2_becomeLike_97 : decode cX2_becomeLike 97 = .ok (.invokestatic 52, 3) := by decide +kernel
theorem dX2_becomeLike_100 : decode cX2_becomeLike 100 = .ok (.aload_n 1, 1) := by decide +kernel
theorem dX2_becomeLike_101 : decode cX2_becomeLike 101 = .ok (.getfield 34, 3) := by decide +kernel
theorem dX2_becomeLike_104 : decode cX2_becomeLike 104 = .ok (.iconst 0, 1) := by decide +kernel
theorem dX2_becomeLike_105 : decode cX2_becomeLike 105 = .ok (.aload_n 0, 1) := by decide +kernel
theorem dX2_becomeLike_106 : decode cX2_becomeLike 106 = .ok (.getfield 34, 3) := by decide +kernel
theorem dX2_becomeLike_109 : decode cX2_becomeLike 109 = .ok (.iconst 0, 1) := by decide +kernel
theorem dX2_becomeLike_110 : decode cX2_becomeLike 110 = .ok (.bipush 28, 2) := by decide +kernel
theorem dX2_becomeLike_112 : decode cX2_becomeLike 112 = .ok (.invokestatic 52, 3) := by decide +kernel
theorem dX2_becomeLike_115 : decode cX2_becomeLike 115 = .ok (.aload_n 1, 1) := by decide +kernel
theorem dX2_becomeLike_116 : decode cX2_becomeLike 116 = .ok (.getfield 37, 3) := by decide +kernel
theorem dX2_becomeLike_119 : decode cX2_becomeLike 119 = .ok (.iconst 0, 1) := by decide +kernel
theorem dX2_becomeLike_120 : decode cX2_becomeLike 120 = .ok (.aload_n 0, 1) := by decide +kernel
theorem dX2_becomeLike_121 : decode cX2_becomeLike 121 = .ok (.getfield 37, 3) := by decide +kernel
theorem dX2_becomeLike_124 : decode cX2_becomeLike 124 = .ok (.iconst 0, 1) := by decide +kernel
theorem dX2_becomeLike_125 : decode cX2_becomeLike 125 = .ok (.bipush 25, 2) := by decide +kernel
theorem dX2_becomeLike_127 : decode cX2_becomeLike 127 = .ok (.invokestatic 52, 3) := by decide +kernel
theorem dX2_becomeLike_130 : decode cX2_becomeLike 130 = .ok (.return_, 1) := by decide +kernel
theorem dX2_fits_0 : decode cX2_fits 0 = .ok (.aload_n 0, 1) := by decide +kernel
theorem dX2_fits_1 : decode cX2_fits 1 = .ok (.getfield 40, 3) := by decide +kernel
theorem dX2_fits_4 : decode cX2_fits 4 = .ok (.ifCond .eq 25, 3) := by decide +kernel
theorem dX2_fits_7 : decode cX2_fits 7 = .ok (.iload_n 1, 1) := by decide +kernel
theorem dX2_fits_8 : decode cX2_fits 8 = .ok (.invokestatic 58, 3) := by decide +kernel
theorem dX2_fits_11 : decode cX2_fits 11 = .ok (.aload_n 0, 1) := by decide +kernel
theorem dX2_fits_12 : decode cX2_fits 12 = .ok (.getfield 9, 3) := by decide +kernel
theorem dX2_fits_15 : decode cX2_fits 15 = .ok (.if_icmp .eq 14, 3) := by decide +kernel
theorem dX2_fits_18 : decode cX2_fits 18 = .ok (.iload_n 1, 1) := by decide +kernel
theorem dX2_fits_19 : decode cX2_fits 19 = .ok (.invokestatic 62, 3) := by decide +kernel
theorem dX2_fits_22 : decode cX2_fits 22 = .ok (.aload_n 0, 1) := by decide +kernel
theorem dX2_fits_23 : decode cX2_fits 23 = .ok (.getfield 9, 3) := by decide +kernel
theorem dX2_fits_26 : decode cX2_fits 26 = .ok (.if_icmp .ne 7, 3) := by decide +kernel
theorem dX2_fits_29 : decode cX2_fits 29 = .ok (.iconst 1, 1) := by decide +kernel
theorem dX2_fits_30 : decode cX2_fits 30 = .ok (.goto 4, 3) := by decide +kernel
theorem dX2_fits_33 : decode cX2_fits 33 = .ok (.iconst 0, 1) := by decide +kernel
theorem dX2_fits_34 : decode cX2_fits 34 = .ok (.ireturn, 1) := by decide +kernel
theorem dX2_hasRoom_0 : decode cX2_hasRoom 0 = .ok (.aload_n 0, 1) := by decide +kernel
theorem dX2_hasRoom_1 : decode cX2_hasRoom 1 = .ok (.aload_n 0, 1) := by decide +kernel
theorem dX2_hasRoom_2 : decode cX2_hasRoom 2 = .ok (.getfield 15, 3) := by decide +kernel
theorem dX2_hasRoom_5 : decode cX2_hasRoom 5 = .ok (.aload_n 0, 1) := by decide +kernel
theorem dX2_hasRoom_6 : decode cX2_hasRoom 6 = .ok (.getfield 18, 3) := by decide +kernel
theorem dX2_hasRoom_9 : decode cX2_hasRoom 9 = .ok (.invokevirtual 65, 3) := by decide +kernel
theorem dX2_hasRoom_12 : decode cX2_hasRoom 12 = .ok (.ifCond .eq 38, 3) := by decide +kernel
theorem dX2_hasRoom_15 : decode cX2_hasRoom 15 = .ok (.aload_n 0, 1) := by decide +kernel
theorem dX2_hasRoom_16 : decode cX2_hasRoom 16 = .ok (.aload_n 0, 1) := by decide +kernel
theorem dX2_hasRoom_17 : decode cX2_hasRoom 17 = .ok (.getfield 15, 3) := by decide +kernel
theorem dX2_hasRoom_20 : decode cX2_hasRoom 20 = .ok (.aload_n 0, 1) := by decide +kernel
theorem dX2_hasRoom_21 : decode cX2_hasRoom 21 = .ok (.getfield 43, 3) := by decide +kernel
theorem dX2_hasRoom_24 : decode cX2_hasRoom 24 = .ok (.invokestatic 69, 3) := by decide +kernel
theorem dX2_hasRoom_27 : decode cX2_hasRoom 27 = .ok (.iadd, 1) := by decide +kernel
theorem dX2_hasRoom_28 : decode cX2_hasRoom 28 = .ok (.aload_n 0, 1) := by decide +kernel
theorem dX2_hasRoom_29 : decode cX2_hasRoom 29 = .ok (.getfield 18, 3) := by decide +kernel
theorem dX2_hasRoom_32 : decode cX2_hasRoom 32 = .ok (.aload_n 0, 1) := by decide +kernel
theorem dX2_hasRoom_33 : decode cX2_hasRoom 33 = .ok (.getfield 43, 3) := by decide +kernel
theorem dX2_hasRoom_36 : decode cX2_hasRoom 36 = .ok (.invokestatic 72, 3) := by decide +kernel
theorem dX2_hasRoom_39 : decode cX2_hasRoom 39 = .ok (.iadd, 1) := by decide +kernel
theorem dX2_hasRoom_40 : decode cX2_hasRoom 40 = .ok (.invokevirtual 65, 3) := by decide +kernel
theorem dX2_hasRoom_43 : decode cX2_hasRoom 43 = .ok (.ifCond .eq 7, 3) := by decide +kernel
theorem dX2_hasRoom_46 : decode cX2_hasRoom 46 = .ok (.iconst 1, 1) := by decide +kernel
theorem dX2_hasRoom_47 : decode cX2_hasRoom 47 = .ok (.goto 4, 3) := by decide +kernel
theorem dX2_hasRoom_50 : decode cX2_hasRoom 50 = .ok (.iconst 0, 1) := by decide +kernel
theorem dX2_hasRoom_51 : decode cX2_hasRoom 51 = .ok (.ireturn, 1) := by decide +kernel
theorem dX2_add_0 : decode cX2_add 0 = .ok (.aload_n 0, 1) := by decide +kernel
theorem dX2_add_1 : decode cX2_add 1 = .ok (.getfield 40, 3) := by decide +kernel
theorem dX2_add_4 : decode cX2_add 4 = .ok (.ifCond .lt 12, 3) := by decide +kernel
theorem dX2_add_7 : decode cX2_add 7 = .ok (.aload_n 0, 1) := by decide +kernel
theorem dX2_add_8 : decode cX2_add 8 = .ok (.getfield 40, 3) := by decide +kernel
theorem dX2_add_11 : decode cX2_add 11 = .ok (.bipush 28, 2) := by decide +kernel
theorem dX2_add_13 : decode cX2_add 13 = .ok (.if_icmp .lt 4, 3) := by decide +kernel
theorem dX2_add_16 : decode cX2_add 16 = .ok (.return_, 1) := by decide +kernel
theorem dX2_add_17 : decode cX2_add 17 = .ok (.aload_n 0, 1) := by decide +kernel
theorem dX2_add_18 : decode cX2_add 18 = .ok (.getfield 40, 3) := by decide +kernel
theorem dX2_add_21 : decode cX2_add 21 = .ok (.ifCond .ne 10, 3) := by decide +kernel
theorem dX2_add_24 : decode cX2_add 24 = .ok (.iload_n 1, 1) := by decide +kernel
theorem dX2_add_25 : decode cX2_add 25 = .ok (.invokestatic 58, 3) := by decide +kernel
theorem dX2_add_28 : decode cX2_add 28 = .ok (.goto 7, 3) := by decide +kernel
theorem dX2_add_31 : decode cX2_add 31 = .ok (.aload_n 0, 1) := by decide +kernel
theorem dX2_add_32 : decode cX2_add 32 = .ok (.getfield 9, 3) := by decide +kernel
theorem dX2_add_35 : decode cX2_add 35 = .ok (.istore_n 3, 1) := by decide +kernel
theorem dX2_add_36 : decode cX2_add 36 = .ok (.aload_n 0, 1) := by decide +kernel
theorem dX2_add_37 : decode cX2_add 37 = .ok (.getfield 15, 3) := by decide +kernel
theorem dX2_add_40 : decode cX2_add 40 = .ok (.aload_n 0, 1) := by decide +kernel
theorem dX2_add_41 : decode cX2_add 41 = .ok (.getfield 43, 3) := by decide +kernel
theorem dX2_add_44 : decode cX2_add 44 = .ok (.invokestatic 69, 3) := by decide +kernel
theorem dX2_add_47 : decode cX2_add 47 = .ok (.iadd, 1) := by decide +kernel
theorem dX2_add_48 : decode cX2_add 48 = .ok (.istore 4, 2) := by decide +kernel
theorem dX2_add_50 : decode cX2_add 50 = .ok (.aload_n 0, 1) := by decide +kernel
theorem dX2_add_51 : decode cX2_add 51 = .ok (.getfield 18, 3) := by decide +kernel
theorem dX2_add_54 : decode cX2_add 54 = .ok (.aload_n 0, 1) := by decide +kernel
theorem dX2_add_55 : decode cX2_add 55 = .ok (.getfield 43, 3) := by decide +kernel
theorem dX2_add_58 : decode cX2_add 58 = .ok (.invokestatic 72, 3) := by decide +kernel
theorem dX2_add_61 : decode cX2_add 61 = .ok (.iadd, 1) := by decide +kernel
theorem dX2_add_62 : decode cX2_add 62 = .ok (.istore 5, 2) := by decide +kernel
theorem dX2_add_64 : decode cX2_add 64 = .ok (.aload_n 0, 1) := by decide +kernel
theorem dX2_add_65 : decode cX2_add 65 = .ok (.getfield 21, 3) := by decide +kernel
theorem dX2_add_68 : decode cX2_add 68 = .ok (.aload_n 0, 1) := by decide +kernel
theorem dX2_add_69 : decode cX2_add 69 = .ok (.getfield 40, 3) := by decide +kernel
theorem dX2_add_72 : decode cX2_add 72 = .ok (.iload_n 1, 1) := by decide +kernel
theorem dX2_add_73 : decode cX2_add 73 = .ok (.iastore, 1) := by decide +kernel
theorem dX2_add_74 : decode cX2_add 74 = .ok (.aload_n 0, 1) := by decide +kernel
theorem dX2_add_75 : decode cX2_add 75 = .ok (.getfield 25, 3) := by decide +kernel
theorem dX2_add_78 : decode cX2_add 78 = .ok (.aload_n 0, 1) := by decide +kernel
theorem dX2_add_79 : decode cX2_add 79 = .ok (.getfield 40, 3) := by decide +kernel
theorem dX2_add_82 : decode cX2_add 82 = .ok (.aload_n 0, 1) := by decide +kernel
theorem dX2_add_83 : decode cX2_add 83 = .ok (.getfield 15, 3) := by decide +kernel
theorem dX2_add_86 : decode cX2_add 86 = .ok (.iastore, 1) := by decide +kernel
theorem dX2_add_87 : decode cX2_add 87 = .ok (.aload_n 0, 1) := by decide +kernel
theorem dX2_add_88 : decode cX2_add 88 = .ok (.getfield 28, 3) := by decide +kernel
theorem dX2_add_91 : decode cX2_add 91 = .ok (.aload_n 0, 1) := by decide +kernel
theorem dX2_add_92 : decode cX2_add 92 = .ok (.getfield 40, 3) := by decide +kernel
theorem dX2_add_95 : decode cX2_add 95 = .ok (.aload_n 0, 1) := by decide +kernel
theorem dX2_add_96 : decode cX2_add 96 = .ok (.getfield 18, 3) := by decide +kernel
theorem dX2_add_99 : decode cX2_add 99 = .ok (.iastore, 1) := by decide +kernel
theorem dX2_add_100 : decode cX2_add 100 = .ok (.aload_n 0, 1) := by decide +kernel
theorem dX2_add_101 : decode cX2_add 101 = .ok (.getfield 31, 3) := by decide +kernel
theorem dX2_add_104 : decode cX2_add 104 = .ok (.aload_n 0, 1) := by decide +kernel
theorem dX2_add_105 : decode cX2_add 105 = .ok (.getfield 40, 3) := by decide +kernel
theorem dX2_add_108 : decode cX2_add 108 = .ok (.aload_n 0, 1) := by decide +kernel
theorem dX2_add_109 : decode cX2_add 109 = .ok (.getfield 43, 3) := by decide +kernel
theorem dX2_add_112 : decode cX2_add 112 = .ok (.iastore, 1) := by decide +kernel
theorem dX2_add_113 : decode cX2_add 113 = .ok (.aload_n 0, 1) := by decide +kernel
theorem dX2_add_114 : decode cX2_add 114 = .ok (.getfield 34, 3) := by decide +kernel
theorem dX2_add_117 : decode cX2_add 117 = .ok (.aload_n 0, 1) := by decide +kernel
theorem dX2_add_118 : decode cX2_add 118 = .ok (.getfield 40, 3) := by decide +kernel
theorem dX2_add_121 : decode cX2_add 121 = .ok (.iload_n 3, 1) := by decide +kernel
theorem dX2_add_122 : decode cX2_add 122 = .ok (.iastore, 1) := by decide +kernel
theorem dX2_add_123 : decode cX2_add 123 = .ok (.aload_n 0, 1) := by decide +kernel
theorem dX2_add_124 : decode cX2_add 124 = .ok (.dup, 1) := by decide +kernel
theorem dX2_add_125 : decode cX2_add 125 = .ok (.getfield 40, 3) := by decide +kernel
theorem dX2_add_128 : decode cX2_add 128 = .ok (.iconst 1, 1) := by decide +kernel
theorem dX2_add_129 : decode cX2_add 129 = .ok (.iadd, 1) := by decide +kernel
theorem dX2_add_130 : decode cX2_add 130 = .ok (.putfield 40, 3) := by decide +kernel
theorem dX2_add_133 : decode cX2_add 133 = .ok (.aload_n 0, 1) := by decide +kernel
theorem dX2_add_134 : decode cX2_add 134 = .ok (.aload_n 0, 1) := by decide +kernel
theorem dX2_add_135 : decode cX2_add 135 = .ok (.getfield 15, 3) := by decide +kernel
theorem dX2_add_138 : decode cX2_add 138 = .ok (.aload_n 0, 1) := by decide +kernel
theorem dX2_add_139 : decode cX2_add 139 = .ok (.getfield 18, 3) := by decide +kernel
theorem dX2_add_142 : decode cX2_add 142 = .ok (.invokevirtual 75, 3) := by decide +kernel
theorem dX2_add_145 : decode cX2_add 145 = .ok (.aload_n 0, 1) := by decide +kernel
theorem dX2_add_146 : decode cX2_add 146 = .ok (.iload 4, 2) := by decide +kernel
theorem dX2_add_148 : decode cX2_add 148 = .ok (.iload 5, 2) := by decide +kernel
theorem dX2_add_150 : decode cX2_add 150 = .ok (.invokevirtual 75, 3) := by decide +kernel
theorem dX2_add_153 : decode cX2_add 153 = .ok (.aload_n 0, 1) := by decide +kernel
theorem dX2_add_154 : decode cX2_add 154 = .ok (.iload_n 1, 1) := by decide +kernel
theorem dX2_add_155 : decode cX2_add 155 = .ok (.invokestatic 79, 3) := by decide +kernel
theorem dX2_add_158 : decode cX2_add 158 = .ok (.iload_n 3, 1) := by decide +kernel
theorem dX2_add_159 : decode cX2_add 159 = .ok (.isub, 1) := by decide +kernel
theorem dX2_add_160 : decode cX2_add 160 = .ok (.putfield 9, 3) := by decide +kernel
theorem dX2_add_163 : decode cX2_add 163 = .ok (.iload_n 1, 1) := by decide +kernel
theorem dX2_add_164 : decode cX2_add 164 = .ok (.invokestatic 58, 3) := by decide +kernel
theorem dX2_add_167 : decode cX2_add 167 = .ok (.iload_n 1, 1) := by decide +kernel
theorem dX2_add_168 : decode cX2_add 168 = .ok (.invokestatic 62, 3) := by decide +kernel
theorem dX2_add_171 : decode cX2_add 171 = .ok (.if_icmp .ne 23, 3) := by decide +kernel
theorem dX2_add_174 : decode cX2_add 174 = .ok (.aload_n 0, 1) := by decide +kernel
theorem dX2_add_175 : decode cX2_add 175 = .ok (.aload_n 0, 1) := by decide +kernel
theorem dX2_add_176 : decode cX2_add 176 = .ok (.getfield 43, 3) := by decide +kernel
theorem dX2_add_179 : decode cX2_add 179 = .ok (.iload_n 2, 1) := by decide +kernel
theorem dX2_add_180 : decode cX2_add 180 = .ok (.ifCond .eq 7, 3) := by decide +kernel
theorem dX2_add_183 : decode cX2_add 183 = .ok (.iconst 3, 1) := by decide +kernel
theorem dX2_add_184 : decode cX2_add 184 = .ok (.goto 4, 3) := by decide +kernel
theorem dX2_add_187 : decode cX2_add 187 = .ok (.iconst 1, 1) := by decide +kernel
theorem dX2_add_188 : decode cX2_add 188 = .ok (.iadd, 1) := by decide +kernel
theorem dX2_add_189 : decode cX2_add 189 = .ok (.iconst 3, 1) := by decide +kernel
theorem dX2_add_190 : decode cX2_add 190 = .ok (.iand, 1) := by decide +kernel
theorem dX2_add_191 : decode cX2_add 191 = .ok (.putfield 43, 3) := by decide +kernel
theorem dX2_add_194 : decode cX2_add 194 = .ok (.aload_n 0, 1) := by decide +kernel
theorem dX2_add_195 : decode cX2_add 195 = .ok (.iload 4, 2) := by decide +kernel
theorem dX2_add_197 : decode cX2_add 197 = .ok (.aload_n 0, 1) := by decide +kernel
theorem dX2_add_198 : decode cX2_add 198 = .ok (.getfield 43, 3) := by decide +kernel
theorem dX2_add_201 : decode cX2_add 201 = .ok (.invokestatic 69, 3) := by decide +kernel
theorem dX2_add_204 : decode cX2_add 204 = .ok (.iadd, 1) := by decide +kernel
theorem dX2_add_205 : decode cX2_add 205 = .ok (.putfield 15, 3) := by decide +kernel
theorem dX2_add_208 : decode cX2_add 208 = .ok (.aload_n 0, 1) := by decide +kernel
theorem dX2_add_209 : decode cX2_add 209 = .ok (.iload 5, 2) := by decide +kernel
theorem dX2_add_211 : decode cX2_add 211 = .ok (.aload_n 0, 1) := by decide +kernel
theorem dX2_add_212 : decode cX2_add 212 = .ok (.getfield 43, 3) := by decide +kernel
theorem dX2_add_215 : decode cX2_add 215 = .ok (.invokestatic 72, 3) := by decide +kernel
theorem dX2_add_218 : decode cX2_add 218 = .ok (.iadd, 1) := by decide +kernel
theorem dX2_add_219 : decode cX2_add 219 = .ok (.putfield 18, 3) := by decide +kernel
theorem dX2_add_222 : decode cX2_add 222 = .ok (.return_, 1) := by decide +kernel
theorem dX2_placeOf_0 : decode cX2_placeOf 0 = .ok (.iconst 0, 1) := by decide +kernel
theorem dX2_placeOf_1 : decode cX2_placeOf 1 = .ok (.istore_n 2, 1) := by decide +kernel
theorem dX2_placeOf_2 : decode cX2_placeOf 2 = .ok (.iload_n 2, 1) := by decide +kernel
theorem dX2_placeOf_3 : decode cX2_placeOf 3 = .ok (.aload_n 0, 1) := by decide +kernel
theorem dX2_placeOf_4 : decode cX2_placeOf 4 = .ok (.getfield 40, 3) := by decide +kernel
theorem dX2_placeOf_7 : decode cX2_placeOf 7 = .ok (.if_icmp .ge 27, 3) := by decide +kernel
theorem dX2_placeOf_10 : decode cX2_placeOf 10 = .ok (.iload_n 2, 1) := by decide +kernel
theorem dX2_placeOf_11 : decode cX2_placeOf 11 = .ok (.bipush 28, 2) := by decide +kernel
theorem dX2_placeOf_13 : decode cX2_placeOf 13 = .ok (.if_icmp .ge 21, 3) := by decide +kernel
theorem dX2_placeOf_16 : decode cX2_placeOf 16 = .ok (.aload_n 0, 1) := by decide +kernel
theorem dX2_placeOf_17 : decode cX2_placeOf 17 = .ok (.getfield 21, 3) := by decide +kernel
theorem dX2_placeOf_20 : decode cX2_placeOf 20 = .ok (.iload_n 2, 1) := by decide +kernel
theorem dX2_placeOf_21 : decode cX2_placeOf 21 = .ok (.iaload, 1) := by decide +kernel
theorem dX2_placeOf_22 : decode cX2_placeOf 22 = .ok (.iload_n 1, 1) := by decide +kernel
theorem dX2_placeOf_23 : decode cX2_placeOf 23 = .ok (.if_icmp .ne 5, 3) := by decide +kernel
theorem dX2_placeOf_26 : decode cX2_placeOf 26 = .ok (.iload_n 2, 1) := by decide +kernel
theorem dX2_placeOf_27 : decode cX2_placeOf 27 = .ok (.ireturn, 1) := by decide +kernel
theorem dX2_placeOf_28 : decode cX2_placeOf 28 = .ok (.iinc 2 1, 3) := by decide +kernel
theorem dX2_placeOf_31 : decode cX2_placeOf 31 = .ok (.goto (-29), 3) := by decide +kernel
theorem dX2_placeOf_34 : decode cX2_placeOf 34 = .ok (.iconst (-1), 1) := by decide +kernel
theorem dX2_placeOf_35 : decode cX2_placeOf 35 = .ok (.ireturn, 1) := by decide +kernel
theorem dX2_numberOfPlace_0 : decode cX2_numberOfPlace 0 = .ok (.iload_n 1, 1) := by decide +kernel
theorem dX2_numberOfPlace_1 : decode cX2_numberOfPlace 1 = .ok (.ifCond .lt 17, 3) := by decide +kernel
theorem dX2_numberOfPlace_4 : decode cX2_numberOfPlace 4 = .ok (.iload_n 1, 1) := by decide +kernel
theorem dX2_numberOfPlace_5 : decode cX2_numberOfPlace 5 = .ok (.aload_n 0, 1) := by decide +kernel
theorem dX2_numberOfPlace_6 : decode cX2_numberOfPlace 6 = .ok (.getfield 40, 3) := by decide +kernel
theorem dX2_numberOfPlace_9 : decode cX2_numberOfPlace 9 = .ok (.if_icmp .ge 9, 3) := by decide +kernel
theorem dX2_numberOfPlace_12 : decode cX2_numberOfPlace 12 = .ok (.iload_n 1, 1) := by decide +kernel
theorem dX2_numberOfPlace_13 : decode cX2_numberOfPlace 13 = .ok (.bipush 28, 2) := by decide +kernel
theorem dX2_numberOfPlace_15 : decode cX2_numberOfPlace 15 = .ok (.if_icmp .lt 5, 3) := by decide +kernel
theorem dX2_numberOfPlace_18 : decode cX2_numberOfPlace 18 = .ok (.iconst (-1), 1) := by decide +kernel
theorem dX2_numberOfPlace_19 : decode cX2_numberOfPlace 19 = .ok (.ireturn, 1) := by decide +kernel
theorem dX2_numberOfPlace_20 : decode cX2_numberOfPlace 20 = .ok (.iload_n 2, 1) := by decide +kernel
theorem dX2_numberOfPlace_21 : decode cX2_numberOfPlace 21 = .ok (.tableswitch 70 0 4 #[35, 42, 49, 56, 63], 35) := by decide +kernel
theorem dX2_numberOfPlace_56 : decode cX2_numberOfPlace 56 = .ok (.aload_n 0, 1) := by decide +kernel
theorem dX2_numberOfPlace_57 : decode cX2_numberOfPlace 57 = .ok (.getfield 21, 3) := by decide +kernel
theorem dX2_numberOfPlace_60 : decode cX2_numberOfPlace 60 = .ok (.iload_n 1, 1) := by decide +kernel
theorem dX2_numberOfPlace_61 : decode cX2_numberOfPlace 61 = .ok (.iaload, 1) := by decide +kernel
theorem dX2_numberOfPlace_62 : decode cX2_numberOfPlace 62 = .ok (.ireturn, 1) := by decide +kernel
theorem dX2_numberOfPlace_63 : decode cX2_numberOfPlace 63 = .ok (.aload_n 0, 1) := by decide +kernel
theorem dX2_numberOfPlace_64 : decode cX2_numberOfPlace 64 = .ok (.getfield 25, 3) := by decide +kernel
theorem dX2_numberOfPlace_67 : decode cX2_numberOfPlace 67 = .ok (.iload_n 1, 1) := by decide +kernel
theorem dX2_numberOfPlace_68 : decode cX2_numberOfPlace 68 = .ok (.iaload, 1) := by decide +kernel
theorem dX2_numberOfPlace_69 : decode cX2_numberOfPlace 69 = .ok (.ireturn, 1) := by decide +kernel
theorem dX2_numberOfPlace_70 : decode cX2_numberOfPlace 70 = .ok (.aload_n 0, 1) := by decide +kernel
theorem dX2_numberOfPlace_71 : decode cX2_numberOfPlace 71 = .ok (.getfield 28, 3) := by decide +kernel
theorem dX2_numberOfPlace_74 : decode cX2_numberOfPlace 74 = .ok (.iload_n 1, 1) := by decide +kernel
theorem dX2_numberOfPlace_75 : decode cX2_numberOfPlace 75 = .ok (.iaload, 1) := by decide +kernel
theorem dX2_numberOfPlace_76 : decode cX2_numberOfPlace 76 = .ok (.ireturn, 1) := by decide +kernel
theorem dX2_numberOfPlace_77 : decode cX2_numberOfPlace 77 = .ok (.aload_n 0, 1) := by decide +kernel
theorem dX2_numberOfPlace_78 : decode cX2_numberOfPlace 78 = .ok (.getfield 31, 3) := by decide +kernel
theorem dX2_numberOfPlace_81 : decode cX2_numberOfPlace 81 = .ok (.iload_n 1, 1) := by decide +kernel
theorem dX2_numberOfPlace_82 : decode cX2_numberOfPlace 82 = .ok (.iaload, 1) := by decide +kernel
theorem dX2_numberOfPlace_83 : decode cX2_numberOfPlace 83 = .ok (.ireturn, 1) := by decide +kernel
theorem dX2_numberOfPlace_84 : decode cX2_numberOfPlace 84 = .ok (.aload_n 0, 1) := by decide +kernel
theorem dX2_numberOfPlace_85 : decode cX2_numberOfPlace 85 = .ok (.getfield 34, 3) := by decide +kernel
theorem dX2_numberOfPlace_88 : decode cX2_numberOfPlace 88 = .ok (.iload_n 1, 1) := by decide +kernel
theorem dX2_numberOfPlace_89 : decode cX2_numberOfPlace 89 = .ok (.iaload, 1) := by decide +kernel
theorem dX2_numberOfPlace_90 : decode cX2_numberOfPlace 90 = .ok (.ireturn, 1) := by decide +kernel
theorem dX2_numberOfPlace_91 : decode cX2_numberOfPlace 91 = .ok (.aload_n 0, 1) := by decide +kernel
theorem dX2_numberOfPlace_92 : decode cX2_numberOfPlace 92 = .ok (.getfield 21, 3) := by decide +kernel
theorem dX2_numberOfPlace_95 : decode cX2_numberOfPlace 95 = .ok (.iload_n 1, 1) := by decide +kernel
theorem dX2_numberOfPlace_96 : decode cX2_numberOfPlace 96 = .ok (.iaload, 1) := by decide +kernel
theorem dX2_numberOfPlace_97 : decode cX2_numberOfPlace 97 = .ok (.invokestatic 79, 3) := by decide +kernel
theorem dX2_numberOfPlace_100 : decode cX2_numberOfPlace 100 = .ok (.aload_n 0, 1) := by decide +kernel
theorem dX2_numberOfPlace_101 : decode cX2_numberOfPlace 101 = .ok (.getfield 34, 3) := by decide +kernel
theorem dX2_numberOfPlace_104 : decode cX2_numberOfPlace 104 = .ok (.iload_n 1, 1) := by decide +kernel
theorem dX2_numberOfPlace_105 : decode cX2_numberOfPlace 105 = .ok (.iaload, 1) := by decide +kernel
theorem dX2_numberOfPlace_106 : decode cX2_numberOfPlace 106 = .ok (.isub, 1) := by decide +kernel
theorem dX2_numberOfPlace_107 : decode cX2_numberOfPlace 107 = .ok (.ireturn, 1) := by decide +kernel
theorem dX2_pips_0 : decode cX2_pips 0 = .ok (.iconst 0, 1) := by decide +kernel
theorem dX2_pips_1 : decode cX2_pips 1 = .ok (.istore_n 1, 1) := by decide +kernel
theorem dX2_pips_2 : decode cX2_pips 2 = .ok (.iconst 0, 1) := by decide +kernel
theorem dX2_pips_3 : decode cX2_pips 3 = .ok (.istore_n 2, 1) := by decide +kernel
theorem dX2_pips_4 : decode cX2_pips 4 = .ok (.iload_n 2, 1) := by decide +kernel
theorem dX2_pips_5 : decode cX2_pips 5 = .ok (.aload_n 0, 1) := by decide +kernel
theorem dX2_pips_6 : decode cX2_pips 6 = .ok (.getfield 40, 3) := by decide +kernel
theorem dX2_pips_9 : decode cX2_pips 9 = .ok (.if_icmp .ge 27, 3) := by decide +kernel
theorem dX2_pips_12 : decode cX2_pips 12 = .ok (.iload_n 2, 1) := by decide +kernel
theorem dX2_pips_13 : decode cX2_pips 13 = .ok (.bipush 28, 2) := by decide +kernel
theorem dX2_pips_15 : decode cX2_pips 15 = .ok (.if_icmp .ge 21, 3) := by decide +kernel
theorem dX2_pips_18 : decode cX2_pips 18 = .ok (.iload_n 1, 1) := by decide +kernel
theorem dX2_pips_19 : decode cX2_pips 19 = .ok (.aload_n 0, 1) := by decide +kernel
theorem dX2_pips_20 : decode cX2_pips 20 = .ok (.getfield 21, 3) := by decide +kernel
theorem dX2_pips_23 : decode cX2_pips 23 = .ok (.iload_n 2, 1) := by decide +kernel
theorem dX2_pips_24 : decode cX2_pips 24 = .ok (.iaload, 1) := by decide +kernel
theorem dX2_pips_25 : decode cX2_pips 25 = .ok (.invokestatic 79, 3) := by decide +kernel
theorem dX2_pips_28 : decode cX2_pips 28 = .ok (.iadd, 1) := by decide +kernel
theorem dX2_pips_29 : decode cX2_pips 29 = .ok (.istore_n 1, 1) := by decide +kernel
theorem dX2_pips_30 : decode cX2_pips 30 = .ok (.iinc 2 1, 3) := by decide +kernel
theorem dX2_pips_33 : decode cX2_pips 33 = .ok (.goto (-29), 3) := by decide +kernel
theorem dX2_pips_36 : decode cX2_pips 36 = .ok (.iload_n 1, 1) := by decide +kernel
theorem dX2_pips_37 : decode cX2_pips 37 = .ok (.ireturn, 1) := by decide +kernel
theorem dX2_pipsAt_0 : decode cX2_pipsAt 0 = .ok (.iconst 0, 1) := by decide +kernel
theorem dX2_pipsAt_1 : decode cX2_pipsAt 1 = .ok (.istore_n 3, 1) := by decide +kernel
theorem dX2_pipsAt_2 : decode cX2_pipsAt 2 = .ok (.iload_n 3, 1) := by decide +kernel
theorem dX2_pipsAt_3 : decode cX2_pipsAt 3 = .ok (.aload_n 0, 1) := by decide +kernel
theorem dX2_pipsAt_4 : decode cX2_pipsAt 4 = .ok (.getfield 40, 3) := by decide +kernel
theorem dX2_pipsAt_7 : decode cX2_pipsAt 7 = .ok (.if_icmp .ge 99, 3) := by decide +kernel
theorem dX2_pipsAt_10 : decode cX2_pipsAt 10 = .ok (.iload_n 3, 1) := by decide +kernel
theorem dX2_pipsAt_11 : decode cX2_pipsAt 11 = .ok (.bipush 28, 2) := by decide +kernel
theorem dX2_pipsAt_13 : decode cX2_pipsAt 13 = .ok (.if_icmp .ge 93, 3) := by decide +kernel
theorem dX2_pipsAt_16 : decode cX2_pipsAt 16 = .ok (.aload_n 0, 1) := by decide +kernel
theorem dX2_pipsAt_17 : decode cX2_pipsAt 17 = .ok (.getfield 25, 3) := by decide +kernel
theorem dX2_pipsAt_20 : decode cX2_pipsAt 20 = .ok (.iload_n 3, 1) := by decide +kernel
theorem dX2_pipsAt_21 : decode cX2_pipsAt 21 = .ok (.iaload, 1) := by decide +kernel
theorem dX2_pipsAt_22 : decode cX2_pipsAt 22 = .ok (.iload_n 1, 1) := by decide +kernel
theorem dX2_pipsAt_23 : decode cX2_pipsAt 23 = .ok (.if_icmp .ne 20, 3) := by decide +kernel
theorem dX2_pipsAt_26 : decode cX2_pipsAt 26 = .ok (.aload_n 0, 1) := by decide +kernel
theorem dX2_pipsAt_27 : decode cX2_pipsAt 27 = .ok (.getfield 28, 3) := by decide +kernel
theorem dX2_pipsAt_30 : decode cX2_pipsAt 30 = .ok (.iload_n 3, 1) := by decide +kernel
theorem dX2_pipsAt_31 : decode cX2_pipsAt 31 = .ok (.iaload, 1) := by decide +kernel
theorem dX2_pipsAt_32 : decode cX2_pipsAt 32 = .ok (.iload_n 2, 1) := by decide +kernel
theorem dX2_pipsAt_33 : decode cX2_pipsAt 33 = .ok (.if_icmp .ne 10, 3) := by decide +kernel
theorem dX2_pipsAt_36 : decode cX2_pipsAt 36 = .ok (.aload_n 0, 1) := by decide +kernel
theorem dX2_pipsAt_37 : decode cX2_pipsAt 37 = .ok (.getfield 34, 3) := by decide +kernel
theorem dX2_pipsAt_40 : decode cX2_pipsAt 40 = .ok (.iload_n 3, 1) := by decide +kernel
theorem dX2_pipsAt_41 : decode cX2_pipsAt 41 = .ok (.iaload, 1) := by decide +kernel
theorem dX2_pipsAt_42 : decode cX2_pipsAt 42 = .ok (.ireturn, 1) := by decide +kernel
theorem dX2_pipsAt_43 : decode cX2_pipsAt 43 = .ok (.aload_n 0, 1) := by decide +kernel
theorem dX2_pipsAt_44 : decode cX2_pipsAt 44 = .ok (.getfield 25, 3) := by decide +kernel
theorem dX2_pipsAt_47 : decode cX2_pipsAt 47 = .ok (.iload_n 3, 1) := by decide +kernel
theorem dX2_pipsAt_48 : decode cX2_pipsAt 48 = .ok (.iaload, 1) := by decide +kernel
theorem dX2_pipsAt_49 : decode cX2_pipsAt 49 = .ok (.aload_n 0, 1) := by decide +kernel
theorem dX2_pipsAt_50 : decode cX2_pipsAt 50 = .ok (.getfield 31, 3) := by decide +kernel
theorem dX2_pipsAt_53 : decode cX2_pipsAt 53 = .ok (.iload_n 3, 1) := by decide +kernel
theorem dX2_pipsAt_54 : decode cX2_pipsAt 54 = .ok (.iaload, 1) := by decide +kernel
theorem dX2_pipsAt_55 : decode cX2_pipsAt 55 = .ok (.invokestatic 69, 3) := by decide +kernel
theorem dX2_pipsAt_58 : decode cX2_pipsAt 58 = .ok (.iadd, 1) := by decide +kernel
theorem dX2_pipsAt_59 : decode cX2_pipsAt 59 = .ok (.iload_n 1, 1) := by decide +kernel
theorem dX2_pipsAt_60 : decode cX2_pipsAt 60 = .ok (.if_icmp .ne 40, 3) := by decide +kernel
theorem dX2_pipsAt_63 : decode cX2_pipsAt 63 = .ok (.aload_n 0, 1) := by decide +kernel
theorem dX2_pipsAt_64 : decode cX2_pipsAt 64 = .ok (.getfield 28, 3) := by decide +kernel
theorem dX2_pipsAt_67 : decode cX2_pipsAt 67 = .ok (.iload_n 3, 1) := by decide +kernel
theorem dX2_pipsAt_68 : decode cX2_pipsAt 68 = .ok (.iaload, 1) := by decide +kernel
theorem dX2_pipsAt_69 : decode cX2_pipsAt 69 = .ok (.aload_n 0, 1) := by decide +kernel
theorem dX2_pipsAt_70 : decode cX2_pipsAt 70 = .ok (.getfield 31, 3) := by decide +kernel
theorem dX2_pipsAt_73 : decode cX2_pipsAt 73 = .ok (.iload_n 3, 1) := by decide +kernel
theorem dX2_pipsAt_74 : decode cX2_pipsAt 74 = .ok (.iaload, 1) := by decide +kernel
theorem dX2_pipsAt_75 : decode cX2_pipsAt 75 = .ok (.invokestatic 72, 3) := by decide +kernel
theorem dX2_pipsAt_78 : decode cX2_pipsAt 78 = .ok (.iadd, 1) := by decide +kernel
theorem dX2_pipsAt_79 : decode cX2_pipsAt 79 = .ok (.iload_n 2, 1) := by decide +kernel
theorem dX2_pipsAt_80 : decode cX2_pipsAt 80 = .ok (.if_icmp .ne 20, 3) := by decide +kernel
theorem dX2_pipsAt_83 : decode cX2_pipsAt 83 = .ok (.aload_n 0, 1) := by decide +kernel
theorem dX2_pipsAt_84 : decode cX2_pipsAt 84 = .ok (.getfield 21, 3) := by decide +kernel
theorem dX2_pipsAt_87 : decode cX2_pipsAt 87 = .ok (.iload_n 3, 1) := by decide +kernel
theorem dX2_pipsAt_88 : decode cX2_pipsAt 88 = .ok (.iaload, 1) := by decide +kernel
theorem dX2_pipsAt_89 : decode cX2_pipsAt 89 = .ok (.invokestatic 79, 3) := by decide +kernel
theorem dX2_pipsAt_92 : decode cX2_pipsAt 92 = .ok (.aload_n 0, 1) := by decide +kernel
theorem dX2_pipsAt_93 : decode cX2_pipsAt 93 = .ok (.getfield 34, 3) := by decide +kernel
theorem dX2_pipsAt_96 : decode cX2_pipsAt 96 = .ok (.iload_n 3, 1) := by decide +kernel
theorem dX2_pipsAt_97 : decode cX2_pipsAt 97 = .ok (.iaload, 1) := by decide +kernel
theorem dX2_pipsAt_98 : decode cX2_pipsAt 98 = .ok (.isub, 1) := by decide +kernel
theorem dX2_pipsAt_99 : decode cX2_pipsAt 99 = .ok (.ireturn, 1) := by decide +kernel
theorem dX2_pipsAt_100 : decode cX2_pipsAt 100 = .ok (.iinc 3 1, 3) := by decide +kernel
theorem dX2_pipsAt_103 : decode cX2_pipsAt 103 = .ok (.goto (-101), 3) := by decide +kernel
theorem dX2_pipsAt_106 : decode cX2_pipsAt 106 = .ok (.iconst (-1), 1) := by decide +kernel
theorem dX2_pipsAt_107 : decode cX2_pipsAt 107 = .ok (.ireturn, 1) := by decide +kernel
theorem dX2_freeByCells_0 : decode cX2_freeByCells 0 = .ok (.iconst 0, 1) := by decide +kernel
theorem dX2_freeByCells_1 : decode cX2_freeByCells 1 = .ok (.istore_n 1, 1) := by decide +kernel
theorem dX2_freeByCells_2 : decode cX2_freeByCells 2 = .ok (.iconst 0, 1) := by decide +kernel
theorem dX2_freeByCells_3 : decode cX2_freeByCells 3 = .ok (.istore_n 2, 1) := by decide +kernel
theorem dX2_freeByCells_4 : decode cX2_freeByCells 4 = .ok (.iload_n 2, 1) := by decide +kernel
theorem dX2_freeByCells_5 : decode cX2_freeByCells 5 = .ok (.bipush 25, 2) := by decide +kernel
theorem dX2_freeByCells_7 : decode cX2_freeByCells 7 = .ok (.if_icmp .ge 35, 3) := by decide +kernel
theorem dX2_freeByCells_10 : decode cX2_freeByCells 10 = .ok (.iconst 0, 1) := by decide +kernel
theorem dX2_freeByCells_11 : decode cX2_freeByCells 11 = .ok (.istore_n 3, 1) := by decide +kernel
theorem dX2_freeByCells_12 : decode cX2_freeByCells 12 = .ok (.iload_n 3, 1) := by decide +kernel
theorem dX2_freeByCells_13 : decode cX2_freeByCells 13 = .ok (.bipush 25, 2) := by decide +kernel
theorem dX2_freeByCells_15 : decode cX2_freeByCells 15 = .ok (.if_icmp .ge 21, 3) := by decide +kernel
theorem dX2_freeByCells_18 : decode cX2_freeByCells 18 = .ok (.aload_n 0, 1) := by decide +kernel
theorem dX2_freeByCells_19 : decode cX2_freeByCells 19 = .ok (.iload_n 3, 1) := by decide +kernel
theorem dX2_freeByCells_20 : decode cX2_freeByCells 20 = .ok (.iload_n 2, 1) := by decide +kernel
theorem dX2_freeByCells_21 : decode cX2_freeByCells 21 = .ok (.invokevirtual 65, 3) := by decide +kernel
theorem dX2_freeByCells_24 : decode cX2_freeByCells 24 = .ok (.ifCond .eq 6, 3) := by decide +kernel
theorem dX2_freeByCells_27 : decode cX2_freeByCells 27 = .ok (.iinc 1 1, 3) := by decide +kernel
theorem dX2_freeByCells_30 : decode cX2_freeByCells 30 = .ok (.iinc 3 1, 3) := by decide +kernel
theorem dX2_freeByCells_33 : decode cX2_freeByCells 33 = .ok (.goto (-21), 3) := by decide +kernel
theorem dX2_freeByCells_36 : decode cX2_freeByCells 36 = .ok (.iinc 2 1, 3) := by decide +kernel
theorem dX2_freeByCells_39 : decode cX2_freeByCells 39 = .ok (.goto (-35), 3) := by decide +kernel
theorem dX2_freeByCells_42 : decode cX2_freeByCells 42 = .ok (.iload_n 1, 1) := by decide +kernel
theorem dX2_freeByCells_43 : decode cX2_freeByCells 43 = .ok (.ireturn, 1) := by decide +kernel
theorem dX2_freeByTiles_0 : decode cX2_freeByTiles 0 = .ok (.sipush 625, 3) := by decide +kernel
theorem dX2_freeByTiles_3 : decode cX2_freeByTiles 3 = .ok (.iconst 2, 1) := by decide +kernel
theorem dX2_freeByTiles_4 : decode cX2_freeByTiles 4 = .ok (.aload_n 0, 1) := by decide +kernel
theorem dX2_freeByTiles_5 : decode cX2_freeByTiles 5 = .ok (.getfield 40, 3) := by decide +kernel
theorem dX2_freeByTiles_8 : decode cX2_freeByTiles 8 = .ok (.imul, 1) := by decide +kernel
theorem dX2_freeByTiles_9 : decode cX2_freeByTiles 9 = .ok (.isub, 1) := by decide +kernel
theorem dX2_freeByTiles_10 : decode cX2_freeByTiles 10 = .ok (.ireturn, 1) := by decide +kernel
theorem dX2_numberOfReach_0 : decode cX2_numberOfReach 0 = .ok (.iload_n 1, 1) := by decide +kernel
theorem dX2_numberOfReach_1 : decode cX2_numberOfReach 1 = .ok (.tableswitch 65 0 4 #[35, 41, 47, 53, 59], 35) := by decide +kernel
theorem dX2_numberOfReach_36 : decode cX2_numberOfReach 36 = .ok (.aload_n 0, 1) := by decide +kernel
theorem dX2_numberOfReach_37 : decode cX2_numberOfReach 37 = .ok (.iconst 1, 1) := by decide +kernel
theorem dX2_numberOfReach_38 : decode cX2_numberOfReach 38 = .ok (.invokevirtual 82, 3) := by decide +kernel
theorem dX2_numberOfReach_41 : decode cX2_numberOfReach 41 = .ok (.ireturn, 1) := by decide +kernel
theorem dX2_numberOfReach_42 : decode cX2_numberOfReach 42 = .ok (.aload_n 0, 1) := by decide +kernel
theorem dX2_numberOfReach_43 : decode cX2_numberOfReach 43 = .ok (.iconst 1, 1) := by decide +kernel
theorem dX2_numberOfReach_44 : decode cX2_numberOfReach 44 = .ok (.invokevirtual 86, 3) := by decide +kernel
theorem dX2_numberOfReach_47 : decode cX2_numberOfReach 47 = .ok (.ireturn, 1) := by decide +kernel
theorem dX2_numberOfReach_48 : decode cX2_numberOfReach 48 = .ok (.aload_n 0, 1) := by decide +kernel
theorem dX2_numberOfReach_49 : decode cX2_numberOfReach 49 = .ok (.iconst 0, 1) := by decide +kernel
theorem dX2_numberOfReach_50 : decode cX2_numberOfReach 50 = .ok (.invokevirtual 82, 3) := by decide +kernel
theorem dX2_numberOfReach_53 : decode cX2_numberOfReach 53 = .ok (.ireturn, 1) := by decide +kernel
theorem dX2_numberOfReach_54 : decode cX2_numberOfReach 54 = .ok (.aload_n 0, 1) := by decide +kernel
theorem dX2_numberOfReach_55 : decode cX2_numberOfReach 55 = .ok (.iconst 0, 1) := by decide +kernel
theorem dX2_numberOfReach_56 : decode cX2_numberOfReach 56 = .ok (.invokevirtual 86, 3) := by decide +kernel
theorem dX2_numberOfReach_59 : decode cX2_numberOfReach 59 = .ok (.ireturn, 1) := by decide +kernel
theorem dX2_numberOfReach_60 : decode cX2_numberOfReach 60 = .ok (.aload_n 0, 1) := by decide +kernel
theorem dX2_numberOfReach_61 : decode cX2_numberOfReach 61 = .ok (.iconst 1, 1) := by decide +kernel
theorem dX2_numberOfReach_62 : decode cX2_numberOfReach 62 = .ok (.invokevirtual 89, 3) := by decide +kernel
theorem dX2_numberOfReach_65 : decode cX2_numberOfReach 65 = .ok (.ireturn, 1) := by decide +kernel
theorem dX2_numberOfReach_66 : decode cX2_numberOfReach 66 = .ok (.aload_n 0, 1) := by decide +kernel
theorem dX2_numberOfReach_67 : decode cX2_numberOfReach 67 = .ok (.iconst 3, 1) := by decide +kernel
theorem dX2_numberOfReach_68 : decode cX2_numberOfReach 68 = .ok (.invokevirtual 89, 3) := by decide +kernel
theorem dX2_numberOfReach_71 : decode cX2_numberOfReach 71 = .ok (.ireturn, 1) := by decide +kernel
theorem dX2_least_0 : decode cX2_least 0 = .ok (.iconst (-1), 1) := by decide +kernel
theorem dX2_least_1 : decode cX2_least 1 = .ok (.istore_n 2, 1) := by decide +kernel
theorem dX2_least_2 : decode cX2_least 2 = .ok (.iconst 0, 1) := by decide +kernel
theorem dX2_least_3 : decode cX2_least 3 = .ok (.istore_n 3, 1) := by decide +kernel
theorem dX2_least_4 : decode cX2_least 4 = .ok (.iload_n 3, 1) := by decide +kernel
theorem dX2_least_5 : decode cX2_least 5 = .ok (.aload_n 0, 1) := by decide +kernel
theorem dX2_least_6 : decode cX2_least 6 = .ok (.getfield 40, 3) := by decide +kernel
theorem dX2_least_9 : decode cX2_least 9 = .ok (.if_icmp .ge 63, 3) := by decide +kernel
theorem dX2_least_12 : decode cX2_least 12 = .ok (.iload_n 3, 1) := by decide +kernel
theorem dX2_least_13 : decode cX2_least 13 = .ok (.bipush 28, 2) := by decide +kernel
theorem dX2_least_15 : decode cX2_least 15 = .ok (.if_icmp .ge 57, 3) := by decide +kernel
theorem dX2_least_18 : decode cX2_least 18 = .ok (.iconst 0, 1) := by decide +kernel
theorem dX2_least_19 : decode cX2_least 19 = .ok (.aload_n 0, 1) := by decide +kernel
theorem dX2_least_20 : decode cX2_least 20 = .ok (.iload_n 3, 1) := by decide +kernel
theorem dX2_least_21 : decode cX2_least 21 = .ok (.iload_n 1, 1) := by decide +kernel
theorem dX2_least_22 : decode cX2_least 22 = .ok (.invokevirtual 92, 3) := by decide +kernel
theorem dX2_least_25 : decode cX2_least 25 = .ok (.invokestatic 96, 3) := by decide +kernel
theorem dX2_least_28 : decode cX2_least 28 = .ok (.iload_n 1, 1) := by decide +kernel
theorem dX2_least_29 : decode cX2_least 29 = .ok (.ifCond .eq 12, 3) := by decide +kernel
theorem dX2_least_32 : decode cX2_least 32 = .ok (.aload_n 0, 1) := by decide +kernel
theorem dX2_least_33 : decode cX2_least 33 = .ok (.getfield 25, 3) := by decide +kernel
theorem dX2_least_36 : decode cX2_least 36 = .ok (.iload_n 3, 1) := by decide +kernel
theorem dX2_least_37 : decode cX2_least 37 = .ok (.iaload, 1) := by decide +kernel
theorem dX2_least_38 : decode cX2_least 38 = .ok (.goto 9, 3) := by decide +kernel
theorem dX2_least_41 : decode cX2_least 41 = .ok (.aload_n 0, 1) := by decide +kernel
theorem dX2_least_42 : decode cX2_least 42 = .ok (.getfield 28, 3) := by decide +kernel
theorem dX2_least_45 : decode cX2_least 45 = .ok (.iload_n 3, 1) := by decide +kernel
theorem dX2_least_46 : decode cX2_least 46 = .ok (.iaload, 1) := by decide +kernel
theorem dX2_least_47 : decode cX2_least 47 = .ok (.iadd, 1) := by decide +kernel
theorem dX2_least_48 : decode cX2_least 48 = .ok (.istore 4, 2) := by decide +kernel
theorem dX2_least_50 : decode cX2_least 50 = .ok (.iload_n 3, 1) := by decide +kernel
theorem dX2_least_51 : decode cX2_least 51 = .ok (.ifCond .ne 8, 3) := by decide +kernel
theorem dX2_least_54 : decode cX2_least 54 = .ok (.iload 4, 2) := by decide +kernel
theorem dX2_least_56 : decode cX2_least 56 = .ok (.goto 9, 3) := by decide +kernel
theorem dX2_least_59 : decode cX2_least 59 = .ok (.iload_n 2, 1) := by decide +kernel
theorem dX2_least_60 : decode cX2_least 60 = .ok (.iload 4, 2) := by decide +kernel
theorem dX2_least_62 : decode cX2_least 62 = .ok (.invokestatic 96, 3) := by decide +kernel
theorem dX2_least_65 : decode cX2_least 65 = .ok (.istore_n 2, 1) := by decide +kernel
theorem dX2_least_66 : decode cX2_least 66 = .ok (.iinc 3 1, 3) := by decide +kernel
theorem dX2_least_69 : decode cX2_least 69 = .ok (.goto (-65), 3) := by decide +kernel
theorem dX2_least_72 : decode cX2_least 72 = .ok (.iload_n 2, 1) := by decide +kernel
theorem dX2_least_73 : decode cX2_least 73 = .ok (.ireturn, 1) := by decide +kernel
theorem dX2_greatest_0 : decode cX2_greatest 0 = .ok (.iconst (-1), 1) := by decide +kernel
theorem dX2_greatest_1 : decode cX2_greatest 1 = .ok (.istore_n 2, 1) := by decide +kernel
theorem dX2_greatest_2 : decode cX2_greatest 2 = .ok (.iconst 0, 1) := by decide +kernel
theorem dX2_greatest_3 : decode cX2_greatest 3 = .ok (.istore_n 3, 1) := by decide +kernel
theorem dX2_greatest_4 : decode cX2_greatest 4 = .ok (.iload_n 3, 1) := by decide +kernel
theorem dX2_greatest_5 : decode cX2_greatest 5 = .ok (.aload_n 0, 1) := by decide +kernel
theorem dX2_greatest_6 : decode cX2_greatest 6 = .ok (.getfield 40, 3) := by decide +kernel
theorem dX2_greatest_9 : decode cX2_greatest 9 = .ok (.if_icmp .ge 63, 3) := by decide +kernel
theorem dX2_greatest_12 : decode cX2_greatest 12 = .ok (.iload_n 3, 1) := by decide +kernel
theorem dX2_greatest_13 : decode cX2_greatest 13 = .ok (.bipush 28, 2) := by decide +kernel
theorem dX2_greatest_15 : decode cX2_greatest 15 = .ok (.if_icmp .ge 57, 3) := by decide +kernel
theorem dX2_greatest_18 : decode cX2_greatest 18 = .ok (.iconst 0, 1) := by decide +kernel
theorem dX2_greatest_19 : decode cX2_greatest 19 = .ok (.aload_n 0, 1) := by decide +kernel
theorem dX2_greatest_20 : decode cX2_greatest 20 = .ok (.iload_n 3, 1) := by decide +kernel
theorem dX2_greatest_21 : decode cX2_greatest 21 = .ok (.iload_n 1, 1) := by decide +kernel
theorem dX2_greatest_22 : decode cX2_greatest 22 = .ok (.invokevirtual 92, 3) := by decide +kernel
theorem dX2_greatest_25 : decode cX2_greatest 25 = .ok (.invokestatic 102, 3) := by decide +kernel
theorem dX2_greatest_28 : decode cX2_greatest 28 = .ok (.iload_n 1, 1) := by decide +kernel
theorem dX2_greatest_29 : decode cX2_greatest 29 = .ok (.ifCond .eq 12, 3) := by decide +kernel
theorem dX2_greatest_32 : decode cX2_greatest 32 = .ok (.aload_n 0, 1) := by decide +kernel
theorem dX2_greatest_33 : decode cX2_greatest 33 = .ok (.getfield 25, 3) := by decide +kernel
theorem dX2_greatest_36 : decode cX2_greatest 36 = .ok (.iload_n 3, 1) := by decide +kernel
theorem dX2_greatest_37 : decode cX2_greatest 37 = .ok (.iaload, 1) := by decide +kernel
theorem dX2_greatest_38 : decode cX2_greatest 38 = .ok (.goto 9, 3) := by decide +kernel
theorem dX2_greatest_41 : decode cX2_greatest 41 = .ok (.aload_n 0, 1) := by decide +kernel
theorem dX2_greatest_42 : decode cX2_greatest 42 = .ok (.getfield 28, 3) := by decide +kernel
theorem dX2_greatest_45 : decode cX2_greatest 45 = .ok (.iload_n 3, 1) := by decide +kernel
theorem dX2_greatest_46 : decode cX2_greatest 46 = .ok (.iaload, 1) := by decide +kernel
theorem dX2_greatest_47 : decode cX2_greatest 47 = .ok (.iadd, 1) := by decide +kernel
theorem dX2_greatest_48 : decode cX2_greatest 48 = .ok (.istore 4, 2) := by decide +kernel
theorem dX2_greatest_50 : decode cX2_greatest 50 = .ok (.iload_n 3, 1) := by decide +kernel
theorem dX2_greatest_51 : decode cX2_greatest 51 = .ok (.ifCond .ne 8, 3) := by decide +kernel
theorem dX2_greatest_54 : decode cX2_greatest 54 = .ok (.iload 4, 2) := by decide +kernel
theorem dX2_greatest_56 : decode cX2_greatest 56 = .ok (.goto 9, 3) := by decide +kernel
theorem dX2_greatest_59 : decode cX2_greatest 59 = .ok (.iload_n 2, 1) := by decide +kernel
theorem dX2_greatest_60 : decode cX2_greatest 60 = .ok (.iload 4, 2) := by decide +kernel
theorem dX2_greatest_62 : decode cX2_greatest 62 = .ok (.invokestatic 102, 3) := by decide +kernel
theorem dX2_greatest_65 : decode cX2_greatest 65 = .ok (.istore_n 2, 1) := by decide +kernel
theorem dX2_greatest_66 : decode cX2_greatest 66 = .ok (.iinc 3 1, 3) := by decide +kernel
theorem dX2_greatest_69 : decode cX2_greatest 69 = .ok (.goto (-65), 3) := by decide +kernel
theorem dX2_greatest_72 : decode cX2_greatest 72 = .ok (.iload_n 2, 1) := by decide +kernel
theorem dX2_greatest_73 : decode cX2_greatest 73 = .ok (.ireturn, 1) := by decide +kernel
theorem dX2_step_0 : decode cX2_step 0 = .ok (.iload_n 1, 1) := by decide +kernel
theorem dX2_step_1 : decode cX2_step 1 = .ok (.ifCond .lt 9, 3) := by decide +kernel
theorem dX2_step_4 : decode cX2_step 4 = .ok (.iload_n 1, 1) := by decide +kernel
theorem dX2_step_5 : decode cX2_step 5 = .ok (.bipush 28, 2) := by decide +kernel
theorem dX2_step_7 : decode cX2_step 7 = .ok (.if_icmp .lt 5, 3) := by decide +kernel
theorem dX2_step_10 : decode cX2_step 10 = .ok (.iconst 0, 1) := by decide +kernel
theorem dX2_step_11 : decode cX2_step 11 = .ok (.ireturn, 1) := by decide +kernel
theorem dX2_step_12 : decode cX2_step 12 = .ok (.iload_n 2, 1) := by decide +kernel
theorem dX2_step_13 : decode cX2_step 13 = .ok (.ifCond .eq 15, 3) := by decide +kernel
theorem dX2_step_16 : decode cX2_step 16 = .ok (.aload_n 0, 1) := by decide +kernel
theorem dX2_step_17 : decode cX2_step 17 = .ok (.getfield 31, 3) := by decide +kernel
theorem dX2_step_20 : decode cX2_step 20 = .ok (.iload_n 1, 1) := by decide +kernel
theorem dX2_step_21 : decode cX2_step 21 = .ok (.iaload, 1) := by decide +kernel
theorem dX2_step_22 : decode cX2_step 22 = .ok (.invokestatic 69, 3) := by decide +kernel
theorem dX2_step_25 : decode cX2_step 25 = .ok (.goto 12, 3) := by decide +kernel
theorem dX2_step_28 : decode cX2_step 28 = .ok (.aload_n 0, 1) := by decide +kernel
theorem dX2_step_29 : decode cX2_step 29 = .ok (.getfield 31, 3) := by decide +kernel
theorem dX2_step_32 : decode cX2_step 32 = .ok (.iload_n 1, 1) := by decide +kernel
theorem dX2_step_33 : decode cX2_step 33 = .ok (.iaload, 1) := by decide +kernel
theorem dX2_step_34 : decode cX2_step 34 = .ok (.invokestatic 72, 3) := by decide +kernel
theorem dX2_step_37 : decode cX2_step 37 = .ok (.ireturn, 1) := by decide +kernel
theorem dX2_turnsTo_0 : decode cX2_turnsTo 0 = .ok (.iconst 0, 1) := by decide +kernel
theorem dX2_turnsTo_1 : decode cX2_turnsTo 1 = .ok (.istore_n 2, 1) := by decide +kernel
theorem dX2_turnsTo_2 : decode cX2_turnsTo 2 = .ok (.iconst 0, 1) := by decide +kernel
theorem dX2_turnsTo_3 : decode cX2_turnsTo 3 = .ok (.istore_n 3, 1) := by decide +kernel
theorem dX2_turnsTo_4 : decode cX2_turnsTo 4 = .ok (.iload_n 3, 1) := by decide +kernel
theorem dX2_turnsTo_5 : decode cX2_turnsTo 5 = .ok (.aload_n 0, 1) := by decide +kernel
theorem dX2_turnsTo_6 : decode cX2_turnsTo 6 = .ok (.getfield 40, 3) := by decide +kernel
theorem dX2_turnsTo_9 : decode cX2_turnsTo 9 = .ok (.if_icmp .ge 68, 3) := by decide +kernel
theorem dX2_turnsTo_12 : decode cX2_turnsTo 12 = .ok (.iload_n 3, 1) := by decide +kernel
theorem dX2_turnsTo_13 : decode cX2_turnsTo 13 = .ok (.bipush 28, 2) := by decide +kernel
theorem dX2_turnsTo_15 : decode cX2_turnsTo 15 = .ok (.if_icmp .ge 62, 3) := by decide +kernel
theorem dX2_turnsTo_18 : decode cX2_turnsTo 18 = .ok (.iload_n 3, 1) := by decide +kernel
theorem dX2_turnsTo_19 : decode cX2_turnsTo 19 = .ok (.iconst 1, 1) := by decide +kernel
theorem dX2_turnsTo_20 : decode cX2_turnsTo 20 = .ok (.iadd, 1) := by decide +kernel
theorem dX2_turnsTo_21 : decode cX2_turnsTo 21 = .ok (.aload_n 0, 1) := by decide +kernel
theorem dX2_turnsTo_22 : decode cX2_turnsTo 22 = .ok (.getfield 40, 3) := by decide +kernel
theorem dX2_turnsTo_25 : decode cX2_turnsTo 25 = .ok (.if_icmp .ge 22, 3) := by decide +kernel
theorem dX2_turnsTo_28 : decode cX2_turnsTo 28 = .ok (.iload_n 3, 1) := by decide +kernel
theorem dX2_turnsTo_29 : decode cX2_turnsTo 29 = .ok (.iconst 1, 1) := by decide +kernel
theorem dX2_turnsTo_30 : decode cX2_turnsTo 30 = .ok (.iadd, 1) := by decide +kernel
theorem dX2_turnsTo_31 : decode cX2_turnsTo 31 = .ok (.bipush 28, 2) := by decide +kernel
theorem dX2_turnsTo_33 : decode cX2_turnsTo 33 = .ok (.if_icmp .ge 14, 3) := by decide +kernel
theorem dX2_turnsTo_36 : decode cX2_turnsTo 36 = .ok (.aload_n 0, 1) := by decide +kernel
theorem dX2_turnsTo_37 : decode cX2_turnsTo 37 = .ok (.getfield 31, 3) := by decide +kernel
theorem dX2_turnsTo_40 : decode cX2_turnsTo 40 = .ok (.iload_n 3, 1) := by decide +kernel
theorem dX2_turnsTo_41 : decode cX2_turnsTo 41 = .ok (.iconst 1, 1) := by decide +kernel
theorem dX2_turnsTo_42 : decode cX2_turnsTo 42 = .ok (.iadd, 1) := by decide +kernel
theorem dX2_turnsTo_43 : decode cX2_turnsTo 43 = .ok (.iaload, 1) := by decide +kernel
theorem dX2_turnsTo_44 : decode cX2_turnsTo 44 = .ok (.goto 7, 3) := by decide +kernel
theorem dX2_turnsTo_47 : decode cX2_turnsTo 47 = .ok (.aload_n 0, 1) := by decide +kernel
theorem dX2_turnsTo_48 : decode cX2_turnsTo 48 = .ok (.getfield 43, 3) := by decide +kernel
theorem dX2_turnsTo_51 : decode cX2_turnsTo 51 = .ok (.istore 4, 2) := by decide +kernel
theorem dX2_turnsTo_53 : decode cX2_turnsTo 53 = .ok (.iload 4, 2) := by decide +kernel
theorem dX2_turnsTo_55 : decode cX2_turnsTo 55 = .ok (.aload_n 0, 1) := by decide +kernel
theorem dX2_turnsTo_56 : decode cX2_turnsTo 56 = .ok (.getfield 31, 3) := by decide +kernel
theorem dX2_turnsTo_59 : decode cX2_turnsTo 59 = .ok (.iload_n 3, 1) := by decide +kernel
theorem dX2_turnsTo_60 : decode cX2_turnsTo 60 = .ok (.iaload, 1) := by decide +kernel
theorem dX2_turnsTo_61 : decode cX2_turnsTo 61 = .ok (.isub, 1) := by decide +kernel
theorem dX2_turnsTo_62 : decode cX2_turnsTo 62 = .ok (.iconst 3, 1) := by decide +kernel
theorem dX2_turnsTo_63 : decode cX2_turnsTo 63 = .ok (.iand, 1) := by decide +kernel
theorem dX2_turnsTo_64 : decode cX2_turnsTo 64 = .ok (.iload_n 1, 1) := by decide +kernel
theorem dX2_turnsTo_65 : decode cX2_turnsTo 65 = .ok (.if_icmp .ne 6, 3) := by decide +kernel
theorem dX2_turnsTo_68 : decode cX2_turnsTo 68 = .ok (.iinc 2 1, 3) := by decide +kernel
theorem dX2_turnsTo_71 : decode cX2_turnsTo 71 = .ok (.iinc 3 1, 3) := by decide +kernel
theorem dX2_turnsTo_74 : decode cX2_turnsTo 74 = .ok (.goto (-70), 3) := by decide +kernel
theorem dX2_turnsTo_77 : decode cX2_turnsTo 77 = .ok (.iload_n 2, 1) := by decide +kernel
theorem dX2_turnsTo_78 : decode cX2_turnsTo 78 = .ok (.ireturn, 1) := by decide +kernel
theorem dX2_isFree_0 : decode cX2_isFree 0 = .ok (.iload_n 1, 1) := by decide +kernel
theorem dX2_isFree_1 : decode cX2_isFree 1 = .ok (.ifCond .lt 36, 3) := by decide +kernel
theorem dX2_isFree_4 : decode cX2_isFree 4 = .ok (.iload_n 1, 1) := by decide +kernel
theorem dX2_isFree_5 : decode cX2_isFree 5 = .ok (.bipush 25, 2) := by decide +kernel
theorem dX2_isFree_7 : decode cX2_isFree 7 = .ok (.if_icmp .ge 30, 3) := by decide +kernel
theorem dX2_isFree_10 : decode cX2_isFree 10 = .ok (.iload_n 2, 1) := by decide +kernel
theorem dX2_isFree_11 : decode cX2_isFree 11 = .ok (.ifCond .lt 26, 3) := by decide +kernel
theorem dX2_isFree_14 : decode cX2_isFree 14 = .ok (.iload_n 2, 1) := by decide +kernel
theorem dX2_isFree_15 : decode cX2_isFree 15 = .ok (.bipush 25, 2) := by decide +kernel
theorem dX2_isFree_17 : decode cX2_isFree 17 = .ok (.if_icmp .ge 20, 3) := by decide +kernel
theorem dX2_isFree_20 : decode cX2_isFree 20 = .ok (.aload_n 0, 1) := by decide +kernel
theorem dX2_isFree_21 : decode cX2_isFree 21 = .ok (.getfield 37, 3) := by decide +kernel
theorem dX2_isFree_24 : decode cX2_isFree 24 = .ok (.iload_n 2, 1) := by decide +kernel
theorem dX2_isFree_25 : decode cX2_isFree 25 = .ok (.iaload, 1) := by decide +kernel
theorem dX2_isFree_26 : decode cX2_isFree 26 = .ok (.iload_n 1, 1) := by decide +kernel
theorem dX2_isFree_27 : decode cX2_isFree 27 = .ok (.iushr, 1) := by decide +kernel
theorem dX2_isFree_28 : decode cX2_isFree 28 = .ok (.iconst 1, 1) := by decide +kernel
theorem dX2_isFree_29 : decode cX2_isFree 29 = .ok (.iand, 1) := by decide +kernel
theorem dX2_isFree_30 : decode cX2_isFree 30 = .ok (.ifCond .ne 7, 3) := by decide +kernel
theorem dX2_isFree_33 : decode cX2_isFree 33 = .ok (.iconst 1, 1) := by decide +kernel
theorem dX2_isFree_34 : decode cX2_isFree 34 = .ok (.goto 4, 3) := by decide +kernel
theorem dX2_isFree_37 : decode cX2_isFree 37 = .ok (.iconst 0, 1) := by decide +kernel
theorem dX2_isFree_38 : decode cX2_isFree 38 = .ok (.ireturn, 1) := by decide +kernel
theorem dX2_cover_0 : decode cX2_cover 0 = .ok (.iload_n 1, 1) := by decide +kernel
theorem dX2_cover_1 : decode cX2_cover 1 = .ok (.iload_n 2, 1) := by decide +kernel
theorem dX2_cover_2 : decode cX2_cover 2 = .ok (.invokestatic 105, 3) := by decide +kernel
theorem dX2_cover_5 : decode cX2_cover 5 = .ok (.ifCond .eq 15, 3) := by decide +kernel
theorem dX2_cover_8 : decode cX2_cover 8 = .ok (.aload_n 0, 1) := by decide +kernel
theorem dX2_cover_9 : decode cX2_cover 9 = .ok (.getfield 37, 3) := by decide +kernel
theorem dX2_cover_12 : decode cX2_cover 12 = .ok (.iload_n 2, 1) := by decide +kernel
theorem dX2_cover_13 : decode cX2_cover 13 = .ok (.dup2, 1) := by decide +kernel
theorem dX2_cover_14 : decode cX2_cover 14 = .ok (.iaload, 1) := by decide +kernel
theorem dX2_cover_15 : decode cX2_cover 15 = .ok (.iconst 1, 1) := by decide +kernel
theorem dX2_cover_16 : decode cX2_cover 16 = .ok (.iload_n 1, 1) := by decide +kernel
theorem dX2_cover_17 : decode cX2_cover 17 = .ok (.ishl, 1) := by decide +kernel
theorem dX2_cover_18 : decode cX2_cover 18 = .ok (.ior, 1) := by decide +kernel
theorem dX2_cover_19 : decode cX2_cover 19 = .ok (.iastore, 1) := by decide +kernel
theorem dX2_cover_20 : decode cX2_cover 20 = .ok (.return_, 1) := by decide +kernel
theorem dX3_init_0 : decode cX3_init 0 = .ok (.aload_n 0, 1) := by decide +kernel
theorem dX3_init_1 : decode cX3_init 1 = .ok (.invokespecial 1, 3) := by decide +kernel
theorem dX3_init_4 : decode cX3_init 4 = .ok (.aload_n 0, 1) := by decide +kernel
theorem dX3_init_5 : decode cX3_init 5 = .ok (.new 7, 3) := by decide +kernel
theorem dX3_init_8 : decode cX3_init 8 = .ok (.dup, 1) := by decide +kernel
theorem dX3_init_9 : decode cX3_init 9 = .ok (.invokespecial 9, 3) := by decide +kernel
theorem dX3_init_12 : decode cX3_init 12 = .ok (.putfield 10, 3) := by decide +kernel
theorem dX3_init_15 : decode cX3_init 15 = .ok (.return_, 1) := by decide +kernel
theorem dX3_isFull_0 : decode cX3_isFull 0 = .ok (.aload_n 0, 1) := by decide +kernel
theorem dX3_isFull_1 : decode cX3_isFull 1 = .ok (.getfield 16, 3) := by decide +kernel
theorem dX3_isFull_4 : decode cX3_isFull 4 = .ok (.ireturn, 1) := by decide +kernel
theorem dX3_becomeEmpty_0 : decode cX3_becomeEmpty 0 = .ok (.aload_n 0, 1) := by decide +kernel
theorem dX3_becomeEmpty_1 : decode cX3_becomeEmpty 1 = .ok (.iconst 0, 1) := by decide +kernel
theorem dX3_becomeEmpty_2 : decode cX3_becomeEmpty 2 = .ok (.putfield 16, 3) := by decide +kernel
theorem dX3_becomeEmpty_5 : decode cX3_becomeEmpty 5 = .ok (.return_, 1) := by decide +kernel
theorem dX3_keep_0 : decode cX3_keep 0 = .ok (.aload_n 0, 1) := by decide +kernel
theorem dX3_keep_1 : decode cX3_keep 1 = .ok (.getfield 10, 3) := by decide +kernel
theorem dX3_keep_4 : decode cX3_keep 4 = .ok (.aload_n 1, 1) := by decide +kernel
theorem dX3_keep_5 : decode cX3_keep 5 = .ok (.invokevirtual 20, 3) := by decide +kernel
theorem dX3_keep_8 : decode cX3_keep 8 = .ok (.aload_n 0, 1) := by decide +kernel
theorem dX3_keep_9 : decode cX3_keep 9 = .ok (.iconst 1, 1) := by decide +kernel
theorem dX3_keep_10 : decode cX3_keep 10 = .ok (.putfield 16, 3) := by decide +kernel
theorem dX3_keep_13 : decode cX3_keep 13 = .ok (.return_, 1) := by decide +kernel
theorem dX3_giveBack_0 : decode cX3_giveBack 0 = .ok (.aload_n 1, 1) := by decide +kernel
theorem dX3_giveBack_1 : decode cX3_giveBack 1 = .ok (.aload_n 0, 1) := by decide +kernel
theorem dX3_giveBack_2 : decode cX3_giveBack 2 = .ok (.getfield 10, 3) := by decide +kernel
theorem dX3_giveBack_5 : decode cX3_giveBack 5 = .ok (.invokevirtual 20, 3) := by decide +kernel
theorem dX3_giveBack_8 : decode cX3_giveBack 8 = .ok (.return_, 1) := by decide +kernel
theorem dX4_init_0 : decode cX4_init 0 = .ok (.aload_n 0, 1) := by decide +kernel
theorem dX4_init_1 : decode cX4_init 1 = .ok (.invokespecial 3, 3) := by decide +kernel
theorem dX4_init_4 : decode cX4_init 4 = .ok (.aload_n 0, 1) := by decide +kernel
theorem dX4_init_5 : decode cX4_init 5 = .ok (.bipush 120, 2) := by decide +kernel
theorem dX4_init_7 : decode cX4_init 7 = .ok (.newarray .int, 2) := by decide +kernel
theorem dX4_init_9 : decode cX4_init 9 = .ok (.putfield 11, 3) := by decide +kernel
theorem dX4_init_12 : decode cX4_init 12 = .ok (.return_, 1) := by decide +kernel
theorem dX4_isFull_0 : decode cX4_isFull 0 = .ok (.aload_n 0, 1) := by decide +kernel
theorem dX4_isFull_1 : decode cX4_isFull 1 = .ok (.getfield 15, 3) := by decide +kernel
theorem dX4_isFull_4 : decode cX4_isFull 4 = .ok (.bipush 120, 2) := by decide +kernel
theorem dX4_isFull_6 : decode cX4_isFull 6 = .ok (.if_icmp .lt 7, 3) := by decide +kernel
theorem dX4_isFull_9 : decode cX4_isFull 9 = .ok (.iconst 1, 1) := by decide +kernel
theorem dX4_isFull_10 : decode cX4_isFull 10 = .ok (.goto 4, 3) := by decide +kernel
theorem dX4_isFull_13 : decode cX4_isFull 13 = .ok (.iconst 0, 1) := by decide +kernel
theorem dX4_isFull_14 : decode cX4_isFull 14 = .ok (.ireturn, 1) := by decide +kernel
theorem dX4_size_0 : decode cX4_size 0 = .ok (.aload_n 0, 1) := by decide +kernel
theorem dX4_size_1 : decode cX4_size 1 = .ok (.getfield 15, 3) := by decide +kernel
theorem dX4_size_4 : decode cX4_size 4 = .ok (.ireturn, 1) := by decide +kernel
theorem dX4_add_0 : decode cX4_add 0 = .ok (.aload_n 0, 1) := by decide +kernel
theorem dX4_add_1 : decode cX4_add 1 = .ok (.getfield 15, 3) := by decide +kernel
theorem dX4_add_4 : decode cX4_add 4 = .ok (.ifCond .lt 32, 3) := by decide +kernel
theorem dX4_add_7 : decode cX4_add 7 = .ok (.aload_n 0, 1) := by decide +kernel
theorem dX4_add_8 : decode cX4_add 8 = .ok (.getfield 15, 3) := by decide +kernel
theorem dX4_add_11 : decode cX4_add 11 = .ok (.bipush 120, 2) := by decide +kernel
theorem dX4_add_13 : decode cX4_add 13 = .ok (.if_icmp .ge 23, 3) := by decide +kernel
theorem dX4_add_16 : decode cX4_add 16 = .ok (.aload_n 0, 1) := by decide +kernel
theorem dX4_add_17 : decode cX4_add 17 = .ok (.getfield 11, 3) := by decide +kernel
theorem dX4_add_20 : decode cX4_add 20 = .ok (.aload_n 0, 1) := by decide +kernel
theorem dX4_add_21 : decode cX4_add 21 = .ok (.getfield 15, 3) := by decide +kernel
theorem dX4_add_24 : decode cX4_add 24 = .ok (.iload_n 1, 1) := by decide +kernel
theorem dX4_add_25 : decode cX4_add 25 = .ok (.iastore, 1) := by decide +kernel
theorem dX4_add_26 : decode cX4_add 26 = .ok (.aload_n 0, 1) := by decide +kernel
theorem dX4_add_27 : decode cX4_add 27 = .ok (.dup, 1) := by decide +kernel
theorem dX4_add_28 : decode cX4_add 28 = .ok (.getfield 15, 3) := by decide +kernel
theorem dX4_add_31 : decode cX4_add 31 = .ok (.iconst 1, 1) := by decide +kernel
theorem dX4_add_32 : decode cX4_add 32 = .ok (.iadd, 1) := by decide +kernel
theorem dX4_add_33 : decode cX4_add 33 = .ok (.putfield 15, 3) := by decide +kernel
theorem dX4_add_36 : decode cX4_add 36 = .ok (.aload_n 0, 1) := by decide +kernel
theorem dX4_add_37 : decode cX4_add 37 = .ok (.getfield 15, 3) := by decide +kernel
theorem dX4_add_40 : decode cX4_add 40 = .ok (.ireturn, 1) := by decide +kernel
theorem dX4_signAt_0 : decode cX4_signAt 0 = .ok (.iload_n 1, 1) := by decide +kernel
theorem dX4_signAt_1 : decode cX4_signAt 1 = .ok (.ifCond .lt 26, 3) := by decide +kernel
theorem dX4_signAt_4 : decode cX4_signAt 4 = .ok (.iload_n 1, 1) := by decide +kernel
theorem dX4_signAt_5 : decode cX4_signAt 5 = .ok (.aload_n 0, 1) := by decide +kernel
theorem dX4_signAt_6 : decode cX4_signAt 6 = .ok (.getfield 15, 3) := by decide +kernel
theorem dX4_signAt_9 : decode cX4_signAt 9 = .ok (.if_icmp .ge 18, 3) := by decide +kernel
theorem dX4_signAt_12 : decode cX4_signAt 12 = .ok (.iload_n 1, 1) := by decide +kernel
theorem dX4_signAt_13 : decode cX4_signAt 13 = .ok (.bipush 120, 2) := by decide +kernel
theorem dX4_signAt_15 : decode cX4_signAt 15 = .ok (.if_icmp .ge 12, 3) := by decide +kernel
theorem dX4_signAt_18 : decode cX4_signAt 18 = .ok (.aload_n 0, 1) := by decide +kernel
theorem dX4_signAt_19 : decode cX4_signAt 19 = .ok (.getfield 11, 3) := by decide +kernel
theorem dX4_signAt_22 : decode cX4_signAt 22 = .ok (.iload_n 1, 1) := by decide +kernel
theorem dX4_signAt_23 : decode cX4_signAt 23 = .ok (.iaload, 1) := by decide +kernel
theorem dX4_signAt_24 : decode cX4_signAt 24 = .ok (.goto 4, 3) := by decide +kernel
theorem dX4_signAt_27 : decode cX4_signAt 27 = .ok (.iconst 0, 1) := by decide +kernel
theorem dX4_signAt_28 : decode cX4_signAt 28 = .ok (.ireturn, 1) := by decide +kernel
theorem dX4_digitAt_0 : decode cX4_digitAt 0 = .ok (.aload_n 0, 1) := by decide +kernel
theorem dX4_digitAt_1 : decode cX4_digitAt 1 = .ok (.iload_n 1, 1) := by decide +kernel
theorem dX4_digitAt_2 : decode cX4_digitAt 2 = .ok (.invokevirtual 19, 3) := by decide +kernel
theorem dX4_digitAt_5 : decode cX4_digitAt 5 = .ok (.bipush 48, 2) := by decide +kernel
theorem dX4_digitAt_7 : decode cX4_digitAt 7 = .ok (.isub, 1) := by decide +kernel
theorem dX4_digitAt_8 : decode cX4_digitAt 8 = .ok (.ireturn, 1) := by decide +kernel
theorem dX4_numberAt_0 : decode cX4_numberAt 0 = .ok (.bipush 10, 2) := by decide +kernel
theorem dX4_numberAt_2 : decode cX4_numberAt 2 = .ok (.aload_n 0, 1) := by decide +kernel
theorem dX4_numberAt_3 : decode cX4_numberAt 3 = .ok (.iload_n 1, 1) := by decide +kernel
theorem dX4_numberAt_4 : decode cX4_numberAt 4 = .ok (.invokevirtual 23, 3) := by decide +kernel
theorem dX4_numberAt_7 : decode cX4_numberAt 7 = .ok (.imul, 1) := by decide +kernel
theorem dX4_numberAt_8 : decode cX4_numberAt 8 = .ok (.aload_n 0, 1) := by decide +kernel
theorem dX4_numberAt_9 : decode cX4_numberAt 9 = .ok (.iload_n 1, 1) := by decide +kernel
theorem dX4_numberAt_10 : decode cX4_numberAt 10 = .ok (.iconst 1, 1) := by decide +kernel
theorem dX4_numberAt_11 : decode cX4_numberAt 11 = .ok (.iadd, 1) := by decide +kernel
theorem dX4_numberAt_12 : decode cX4_numberAt 12 = .ok (.invokevirtual 23, 3) := by decide +kernel
theorem dX4_numberAt_15 : decode cX4_numberAt 15 = .ok (.iadd, 1) := by decide +kernel
theorem dX4_numberAt_16 : decode cX4_numberAt 16 = .ok (.ireturn, 1) := by decide +kernel
theorem dX4_firstError_0 : decode cX4_firstError 0 = .ok (.aload_n 0, 1) := by decide +kernel
theorem dX4_firstError_1 : decode cX4_firstError 1 = .ok (.iconst 0, 1) := by decide +kernel
theorem dX4_firstError_2 : decode cX4_firstError 2 = .ok (.invokevirtual 19, 3) := by decide +kernel
theorem dX4_firstError_5 : decode cX4_firstError 5 = .ok (.bipush 78, 2) := by decide +kernel
theorem dX4_firstError_7 : decode cX4_firstError 7 = .ok (.if_icmp .eq 5, 3) := by decide +kernel
theorem dX4_firstError_10 : decode cX4_firstError 10 = .ok (.iconst 0, 1) := by decide +kernel
theorem dX4_firstError_11 : decode cX4_firstError 11 = .ok (.ireturn, 1) := by decide +kernel
theorem dX4_firstError_12 : decode cX4_firstError 12 = .ok (.iconst 1, 1) := by decide +kernel
theorem dX4_firstError_13 : decode cX4_firstError 13 = .ok (.istore_n 1, 1) := by decide +kernel
theorem dX4_firstError_14 : decode cX4_firstError 14 = .ok (.iconst 1, 1) := by decide +kernel
theorem dX4_firstError_15 : decode cX4_firstError 15 = .ok (.istore_n 2, 1) := by decide +kernel
theorem dX4_firstError_16 : decode cX4_firstError 16 = .ok (.iload_n 2, 1) := by decide +kernel
theorem dX4_firstError_17 : decode cX4_firstError 17 = .ok (.aload_n 0, 1) := by decide +kernel
theorem dX4_firstError_18 : decode cX4_firstError 18 = .ok (.getfield 15, 3) := by decide +kernel
theorem dX4_firstError_21 : decode cX4_firstError 21 = .ok (.if_icmp .ge 33, 3) := by decide +kernel
theorem dX4_firstError_24 : decode cX4_firstError 24 = .ok (.aload_n 0, 1) := by decide +kernel
theorem dX4_firstError_25 : decode cX4_firstError 25 = .ok (.iload_n 1, 1) := by decide +kernel
theorem dX4_firstError_26 : decode cX4_firstError 26 = .ok (.iload_n 2, 1) := by decide +kernel
theorem dX4_firstError_27 : decode cX4_firstError 27 = .ok (.invokevirtual 26, 3) := by decide +kernel
theorem dX4_firstError_30 : decode cX4_firstError 30 = .ok (.ifCond .ne 5, 3) := by decide +kernel
theorem dX4_firstError_33 : decode cX4_firstError 33 = .ok (.iload_n 2, 1) := by decide +kernel
theorem dX4_firstError_34 : decode cX4_firstError 34 = .ok (.ireturn, 1) := by decide +kernel
theorem dX4_firstError_35 : decode cX4_firstError 35 = .ok (.aload_n 0, 1) := by decide +kernel
theorem dX4_firstError_36 : decode cX4_firstError 36 = .ok (.iload_n 1, 1) := by decide +kernel
theorem dX4_firstError_37 : decode cX4_firstError 37 = .ok (.iload_n 2, 1) := by decide +kernel
theorem dX4_firstError_38 : decode cX4_firstError 38 = .ok (.invokevirtual 30, 3) := by decide +kernel
theorem dX4_firstError_41 : decode cX4_firstError 41 = .ok (.ifCond .eq 7, 3) := by decide +kernel
theorem dX4_firstError_44 : decode cX4_firstError 44 = .ok (.iload_n 2, 1) := by decide +kernel
theorem dX4_firstError_45 : decode cX4_firstError 45 = .ok (.iconst 1, 1) := by decide +kernel
theorem dX4_firstError_46 : decode cX4_firstError 46 = .ok (.iadd, 1) := by decide +kernel
theorem dX4_firstError_47 : decode cX4_firstError 47 = .ok (.istore_n 1, 1) := by decide +kernel
theorem dX4_firstError_48 : decode cX4_firstError 48 = .ok (.iinc 2 1, 3) := by decide +kernel
theorem dX4_firstError_51 : decode cX4_firstError 51 = .ok (.goto (-35), 3) := by decide +kernel
theorem dX4_firstError_54 : decode cX4_firstError 54 = .ok (.iload_n 1, 1) := by decide +kernel
theorem dX4_firstError_55 : decode cX4_firstError 55 = .ok (.aload_n 0, 1) := by decide +kernel
theorem dX4_firstError_56 : decode cX4_firstError 56 = .ok (.getfield 15, 3) := by decide +kernel
theorem dX4_firstError_59 : decode cX4_firstError 59 = .ok (.if_icmp .ne 7, 3) := by decide +kernel
theorem dX4_firstError_62 : decode cX4_firstError 62 = .ok (.iconst (-1), 1) := by decide +kernel
theorem dX4_firstError_63 : decode cX4_firstError 63 = .ok (.goto 7, 3) := by decide +kernel
theorem dX4_firstError_66 : decode cX4_firstError 66 = .ok (.aload_n 0, 1) := by decide +kernel
theorem dX4_firstError_67 : decode cX4_firstError 67 = .ok (.getfield 15, 3) := by decide +kernel
theorem dX4_firstError_70 : decode cX4_firstError 70 = .ok (.ireturn, 1) := by decide +kernel
theorem dX4_isEndOfCommand_0 : decode cX4_isEndOfCommand 0 = .ok (.iload_n 2, 1) := by decide +kernel
theorem dX4_isEndOfCommand_1 : decode cX4_isEndOfCommand 1 = .ok (.iload_n 1, 1) := by decide +kernel
theorem dX4_isEndOfCommand_2 : decode cX4_isEndOfCommand 2 = .ok (.isub, 1) := by decide +kernel
theorem dX4_isEndOfCommand_3 : decode cX4_isEndOfCommand 3 = .ok (.iconst 1, 1) := by decide +kernel
theorem dX4_isEndOfCommand_4 : decode cX4_isEndOfCommand 4 = .ok (.iadd, 1) := by decide +kernel
theorem dX4_isEndOfCommand_5 : decode cX4_isEndOfCommand 5 = .ok (.aload_n 0, 1) := by decide +kernel
theorem dX4_isEndOfCommand_6 : decode cX4_isEndOfCommand 6 = .ok (.iload_n 1, 1) := by decide +kernel
theorem dX4_isEndOfCommand_7 : decode cX4_isEndOfCommand 7 = .ok (.invokevirtual 19, 3) := by decide +kernel
theorem dX4_isEndOfCommand_10 : decode cX4_isEndOfCommand 10 = .ok (.invokestatic 33, 3) := by decide +kernel
theorem dX4_isEndOfCommand_13 : decode cX4_isEndOfCommand 13 = .ok (.if_icmp .ne 7, 3) := by decide +kernel
theorem dX4_isEndOfCommand_16 : decode cX4_isEndOfCommand 16 = .ok (.iconst 1, 1) := by decide +kernel
theorem dX4_isEndOfCommand_17 : decode cX4_isEndOfCommand 17 = .ok (.goto 4, 3) := by decide +kernel
theorem dX4_isEndOfCommand_20 : decode cX4_isEndOfCommand 20 = .ok (.iconst 0, 1) := by decide +kernel
theorem dX4_isEndOfCommand_21 : decode cX4_isEndOfCommand 21 = .ok (.ireturn, 1) := by decide +kernel
theorem dX4_lengthOfCommand_0 : decode cX4_lengthOfCommand 0 = .ok (.iload_n 0, 1) := by decide +kernel
theorem dX4_lengthOfCommand_1 : decode cX4_lengthOfCommand 1 = .ok (.lookupswitch 55 #[(98, 53), (100, 51), (112, 51), (115, 53), (119, 53)], 51) := by decide +kernel
theorem dX4_lengthOfCommand_52 : decode cX4_lengthOfCommand 52 = .ok (.iconst 4, 1) := by decide +kernel
theorem dX4_lengthOfCommand_53 : decode cX4_lengthOfCommand 53 = .ok (.ireturn, 1) := by decide +kernel
theorem dX4_lengthOfCommand_54 : decode cX4_lengthOfCommand 54 = .ok (.iconst 1, 1) := by decide +kernel
theorem dX4_lengthOfCommand_55 : decode cX4_lengthOfCommand 55 = .ok (.ireturn, 1) := by decide +kernel
theorem dX4_lengthOfCommand_56 : decode cX4_lengthOfCommand 56 = .ok (.iconst 0, 1) := by decide +kernel
theorem dX4_lengthOfCommand_57 : decode cX4_lengthOfCommand 57 = .ok (.ireturn, 1) := by decide +kernel
theorem dX4_isAllowed_0 : decode cX4_isAllowed 0 = .ok (.iload_n 2, 1) := by decide +kernel
theorem dX4_isAllowed_1 : decode cX4_isAllowed 1 = .ok (.iload_n 1, 1) := by decide +kernel
theorem dX4_isAllowed_2 : decode cX4_isAllowed 2 = .ok (.if_icmp .ne 20, 3) := by decide +kernel
theorem dX4_isAllowed_5 : decode cX4_isAllowed 5 = .ok (.aload_n 0, 1) := by decide +kernel
theorem dX4_isAllowed_6 : decode cX4_isAllowed 6 = .ok (.iload_n 2, 1) := by decide +kernel
theorem dX4_isAllowed_7 : decode cX4_isAllowed 7 = .ok (.invokevirtual 19, 3) := by decide +kernel
theorem dX4_isAllowed_10 : decode cX4_isAllowed 10 = .ok (.invokestatic 33, 3) := by decide +kernel
theorem dX4_isAllowed_13 : decode cX4_isAllowed 13 = .ok (.ifCond .le 7, 3) := by decide +kernel
theorem dX4_isAllowed_16 : decode cX4_isAllowed 16 = .ok (.iconst 1, 1) := by decide +kernel
theorem dX4_isAllowed_17 : decode cX4_isAllowed 17 = .ok (.goto 4, 3) := by decide +kernel
theorem dX4_isAllowed_20 : decode cX4_isAllowed 20 = .ok (.iconst 0, 1) := by decide +kernel
theorem dX4_isAllowed_21 : decode cX4_isAllowed 21 = .ok (.ireturn, 1) := by decide +kernel
theorem dX4_isAllowed_22 : decode cX4_isAllowed 22 = .ok (.aload_n 0, 1) := by decide +kernel
theorem dX4_isAllowed_23 : decode cX4_isAllowed 23 = .ok (.iload_n 1, 1) := by decide +kernel
theorem dX4_isAllowed_24 : decode cX4_isAllowed 24 = .ok (.invokevirtual 19, 3) := by decide +kernel
theorem dX4_isAllowed_27 : decode cX4_isAllowed 27 = .ok (.bipush 100, 2) := by decide +kernel
theorem dX4_isAllowed_29 : decode cX4_isAllowed 29 = .ok (.if_icmp .ne 29, 3) := by decide +kernel
theorem dX4_isAllowed_32 : decode cX4_isAllowed 32 = .ok (.iload_n 2, 1) := by decide +kernel
theorem dX4_isAllowed_33 : decode cX4_isAllowed 33 = .ok (.iload_n 1, 1) := by decide +kernel
theorem dX4_isAllowed_34 : decode cX4_isAllowed 34 = .ok (.iconst 1, 1) := by decide +kernel
theorem dX4_isAllowed_35 : decode cX4_isAllowed 35 = .ok (.iadd, 1) := by decide +kernel
theorem dX4_isAllowed_36 : decode cX4_isAllowed 36 = .ok (.if_icmp .ne 13, 3) := by decide +kernel
theorem dX4_isAllowed_39 : decode cX4_isAllowed 39 = .ok (.aload_n 0, 1) := by decide +kernel
theorem dX4_isAllowed_40 : decode cX4_isAllowed 40 = .ok (.iload_n 2, 1) := by decide +kernel
theorem dX4_isAllowed_41 : decode cX4_isAllowed 41 = .ok (.iconst 2, 1) := by decide +kernel
theorem dX4_isAllowed_42 : decode cX4_isAllowed 42 = .ok (.iconst 4, 1) := by decide +kernel
theorem dX4_isAllowed_43 : decode cX4_isAllowed 43 = .ok (.invokevirtual 36, 3) := by decide +kernel
theorem dX4_isAllowed_46 : decode cX4_isAllowed 46 = .ok (.goto 11, 3) := by decide +kernel
theorem dX4_isAllowed_49 : decode cX4_isAllowed 49 = .ok (.aload_n 0, 1) := by decide +kernel
theorem dX4_isAllowed_50 : decode cX4_isAllowed 50 = .ok (.iload_n 2, 1) := by decide +kernel
theorem dX4_isAllowed_51 : decode cX4_isAllowed 51 = .ok (.iconst 0, 1) := by decide +kernel
theorem dX4_isAllowed_52 : decode cX4_isAllowed 52 = .ok (.bipush 9, 2) := by decide +kernel
theorem dX4_isAllowed_54 : decode cX4_isAllowed 54 = .ok (.invokevirtual 36, 3) := by decide +kernel
theorem dX4_isAllowed_57 : decode cX4_isAllowed 57 = .ok (.ireturn, 1) := by decide +kernel
theorem dX4_isAllowed_58 : decode cX4_isAllowed 58 = .ok (.iload_n 2, 1) := by decide +kernel
theorem dX4_isAllowed_59 : decode cX4_isAllowed 59 = .ok (.iload_n 1, 1) := by decide +kernel
theorem dX4_isAllowed_60 : decode cX4_isAllowed 60 = .ok (.iconst 1, 1) := by decide +kernel
theorem dX4_isAllowed_61 : decode cX4_isAllowed 61 = .ok (.iadd, 1) := by decide +kernel
theorem dX4_isAllowed_62 : decode cX4_isAllowed 62 = .ok (.if_icmp .ne 11, 3) := by decide +kernel
theorem dX4_isAllowed_65 : decode cX4_isAllowed 65 = .ok (.aload_n 0, 1) := by decide +kernel
theorem dX4_isAllowed_66 : decode cX4_isAllowed 66 = .ok (.iload_n 2, 1) := by decide +kernel
theorem dX4_isAllowed_67 : decode cX4_isAllowed 67 = .ok (.iconst 0, 1) := by decide +kernel
theorem dX4_isAllowed_68 : decode cX4_isAllowed 68 = .ok (.iconst 2, 1) := by decide +kernel
theorem dX4_isAllowed_69 : decode cX4_isAllowed 69 = .ok (.invokevirtual 36, 3) := by decide +kernel
theorem dX4_isAllowed_72 : decode cX4_isAllowed 72 = .ok (.ireturn, 1) := by decide +kernel
theorem dX4_isAllowed_73 : decode cX4_isAllowed 73 = .ok (.iload_n 2, 1) := by decide +kernel
theorem dX4_isAllowed_74 : decode cX4_isAllowed 74 = .ok (.iload_n 1, 1) := by decide +kernel
theorem dX4_isAllowed_75 : decode cX4_isAllowed 75 = .ok (.iconst 2, 1) := by decide +kernel
theorem dX4_isAllowed_76 : decode cX4_isAllowed 76 = .ok (.iadd, 1) := by decide +kernel
theorem dX4_isAllowed_77 : decode cX4_isAllowed 77 = .ok (.if_icmp .ne 29, 3) := by decide +kernel
theorem dX4_isAllowed_80 : decode cX4_isAllowed 80 = .ok (.aload_n 0, 1) := by decide +kernel
theorem dX4_isAllowed_81 : decode cX4_isAllowed 81 = .ok (.iload_n 2, 1) := by decide +kernel
theorem dX4_isAllowed_82 : decode cX4_isAllowed 82 = .ok (.iconst 0, 1) := by decide +kernel
theorem dX4_isAllowed_83 : decode cX4_isAllowed 83 = .ok (.aload_n 0, 1) := by decide +kernel
theorem dX4_isAllowed_84 : decode cX4_isAllowed 84 = .ok (.iload_n 1, 1) := by decide +kernel
theorem dX4_isAllowed_85 : decode cX4_isAllowed 85 = .ok (.iconst 1, 1) := by decide +kernel
theorem dX4_isAllowed_86 : decode cX4_isAllowed 86 = .ok (.iadd, 1) := by decide +kernel
theorem dX4_isAllowed_87 : decode cX4_isAllowed 87 = .ok (.invokevirtual 19, 3) := by decide +kernel
theorem dX4_isAllowed_90 : decode cX4_isAllowed 90 = .ok (.bipush 50, 2) := by decide +kernel
theorem dX4_isAllowed_92 : decode cX4_isAllowed 92 = .ok (.if_icmp .ne 8, 3) := by decide +kernel
theorem dX4_isAllowed_95 : decode cX4_isAllowed 95 = .ok (.bipush 7, 2) := by decide +kernel
theorem dX4_isAllowed_97 : decode cX4_isAllowed 97 = .ok (.goto 5, 3) := by decide +kernel
theorem dX4_isAllowed_100 : decode cX4_isAllowed 100 = .ok (.bipush 9, 2) := by decide +kernel
theorem dX4_isAllowed_102 : decode cX4_isAllowed 102 = .ok (.invokevirtual 36, 3) := by decide +kernel
theorem dX4_isAllowed_105 : decode cX4_isAllowed 105 = .ok (.ireturn, 1) := by decide +kernel
theorem dX4_isAllowed_106 : decode cX4_isAllowed 106 = .ok (.aload_n 0, 1) := by decide +kernel
theorem dX4_isAllowed_107 : decode cX4_isAllowed 107 = .ok (.iload_n 2, 1) := by decide +kernel
theorem dX4_isAllowed_108 : decode cX4_isAllowed 108 = .ok (.invokevirtual 19, 3) := by decide +kernel
theorem dX4_isAllowed_111 : decode cX4_isAllowed 111 = .ok (.bipush 114, 2) := by decide +kernel
theorem dX4_isAllowed_113 : decode cX4_isAllowed 113 = .ok (.if_icmp .eq 13, 3) := by decide +kernel
theorem dX4_isAllowed_116 : decode cX4_isAllowed 116 = .ok (.aload_n 0, 1) := by decide +kernel
theorem dX4_isAllowed_117 : decode cX4_isAllowed 117 = .ok (.iload_n 2, 1) := by decide +kernel
theorem dX4_isAllowed_118 : decode cX4_isAllowed 118 = .ok (.invokevirtual 19, 3) := by decide +kernel
theorem dX4_isAllowed_121 : decode cX4_isAllowed 121 = .ok (.bipush 108, 2) := by decide +kernel
theorem dX4_isAllowed_123 : decode cX4_isAllowed 123 = .ok (.if_icmp .ne 7, 3) := by decide +kernel
theorem dX4_isAllowed_126 : decode cX4_isAllowed 126 = .ok (.iconst 1, 1) := by decide +kernel
theorem dX4_isAllowed_127 : decode cX4_isAllowed 127 = .ok (.goto 4, 3) := by decide +kernel
theorem dX4_isAllowed_130 : decode cX4_isAllowed 130 = .ok (.iconst 0, 1) := by decide +kernel
theorem dX4_isAllowed_131 : decode cX4_isAllowed 131 = .ok (.ireturn, 1) := by decide +kernel
theorem dX4_isDigit_0 : decode cX4_isDigit 0 = .ok (.aload_n 0, 1) := by decide +kernel
theorem dX4_isDigit_1 : decode cX4_isDigit 1 = .ok (.iload_n 1, 1) := by decide +kernel
theorem dX4_isDigit_2 : decode cX4_isDigit 2 = .ok (.invokevirtual 23, 3) := by decide +kernel
theorem dX4_isDigit_5 : decode cX4_isDigit 5 = .ok (.iload_n 2, 1) := by decide +kernel
theorem dX4_isDigit_6 : decode cX4_isDigit 6 = .ok (.if_icmp .lt 16, 3) := by decide +kernel
theorem dX4_isDigit_9 : decode cX4_isDigit 9 = .ok (.aload_n 0, 1) := by decide +kernel
theorem dX4_isDigit_10 : decode cX4_isDigit 10 = .ok (.iload_n 1, 1) := by decide +kernel
theorem dX4_isDigit_11 : decode cX4_isDigit 11 = .ok (.invokevirtual 23, 3) := by decide +kernel
theorem dX4_isDigit_14 : decode cX4_isDigit 14 = .ok (.iload_n 3, 1) := by decide +kernel
theorem dX4_isDigit_15 : decode cX4_isDigit 15 = .ok (.if_icmp .gt 7, 3) := by decide +kernel
theorem dX4_isDigit_18 : decode cX4_isDigit 18 = .ok (.iconst 1, 1) := by decide +kernel
theorem dX4_isDigit_19 : decode cX4_isDigit 19 = .ok (.goto 4, 3) := by decide +kernel
theorem dX4_isDigit_22 : decode cX4_isDigit 22 = .ok (.iconst 0, 1) := by decide +kernel
theorem dX4_isDigit_23 : decode cX4_isDigit 23 = .ok (.ireturn, 1) := by decide +kernel
theorem dX5_init_0 : decode cX5_init 0 = .ok (.aload_n 0, 1) := by decide +kernel
theorem dX5_init_1 : decode cX5_init 1 = .ok (.invokespecial 1, 3) := by decide +kernel
theorem dX5_init_4 : decode cX5_init 4 = .ok (.aload_n 0, 1) := by decide +kernel
theorem dX5_init_5 : decode cX5_init 5 = .ok (.new 7, 3) := by decide +kernel
theorem dX5_init_8 : decode cX5_init 8 = .ok (.dup, 1) := by decide +kernel
theorem dX5_init_9 : decode cX5_init 9 = .ok (.invokespecial 9, 3) := by decide +kernel
theorem dX5_init_12 : decode cX5_init 12 = .ok (.putfield 10, 3) := by decide +kernel
theorem dX5_init_15 : decode cX5_init 15 = .ok (.aload_n 0, 1) := by decide +kernel
theorem dX5_init_16 : decode cX5_init 16 = .ok (.new 16, 3) := by decide +kernel
theorem dX5_init_19 : decode cX5_init 19 = .ok (.dup, 1) := by decide +kernel
theorem dX5_init_20 : decode cX5_init 20 = .ok (.invokespecial 18, 3) := by decide +kernel
theorem dX5_init_23 : decode cX5_init 23 = .ok (.putfield 19, 3) := by decide +kernel
theorem dX5_init_26 : decode cX5_init 26 = .ok (.aload_n 0, 1) := by decide +kernel
theorem dX5_init_27 : decode cX5_init 27 = .ok (.new 16, 3) := by decide +kernel
theorem dX5_init_30 : decode cX5_init 30 = .ok (.dup, 1) := by decide +kernel
theorem dX5_init_31 : decode cX5_init 31 = .ok (.invokespecial 18, 3) := by decide +kernel
theorem dX5_init_34 : decode cX5_init 34 = .ok (.putfield 23, 3) := by decide +kernel
theorem dX5_init_37 : decode cX5_init 37 = .ok (.aload_n 0, 1) := by decide +kernel
theorem dX5_init_38 : decode cX5_init 38 = .ok (.new 26, 3) := by decide +kernel
theorem dX5_init_41 : decode cX5_init 41 = .ok (.dup, 1) := by decide +kernel
theorem dX5_init_42 : decode cX5_init 42 = .ok (.invokespecial 28, 3) := by decide +kernel
theorem dX5_init_45 : decode cX5_init 45 = .ok (.putfield 29, 3) := by decide +kernel
theorem dX5_init_48 : decode cX5_init 48 = .ok (.aload_n 0, 1) := by decide +kernel
theorem dX5_init_49 : decode cX5_init 49 = .ok (.new 33, 3) := by decide +kernel
theorem dX5_init_52 : decode cX5_init 52 = .ok (.dup, 1) := by decide +kernel
theorem dX5_init_53 : decode cX5_init 53 = .ok (.invokespecial 35, 3) := by decide +kernel
theorem dX5_init_56 : decode cX5_init 56 = .ok (.putfield 36, 3) := by decide +kernel
theorem dX5_init_59 : decode cX5_init 59 = .ok (.aload_n 0, 1) := by decide +kernel
theorem dX5_init_60 : decode cX5_init 60 = .ok (.new 33, 3) := by decide +kernel
theorem dX5_init_63 : decode cX5_init 63 = .ok (.dup, 1) := by decide +kernel
theorem dX5_init_64 : decode cX5_init 64 = .ok (.invokespecial 35, 3) := by decide +kernel
theorem dX5_init_67 : decode cX5_init 67 = .ok (.putfield 40, 3) := by decide +kernel
theorem dX5_init_70 : decode cX5_init 70 = .ok (.return_, 1) := by decide +kernel
theorem dX5_append_0 : decode cX5_append 0 = .ok (.iload_n 1, 1) := by decide +kernel
theorem dX5_append_1 : decode cX5_append 1 = .ok (.ifCond .lt 10, 3) := by decide +kernel
theorem dX5_append_4 : decode cX5_append 4 = .ok (.iload_n 1, 1) := by decide +kernel
theorem dX5_append_5 : decode cX5_append 5 = .ok (.sipush 255, 3) := by decide +kernel
theorem dX5_append_8 : decode cX5_append 8 = .ok (.if_icmp .le 13, 3) := by decide +kernel
theorem dX5_append_11 : decode cX5_append 11 = .ok (.new 43, 3) := by decide +kernel
theorem dX5_append_14 : decode cX5_append 14 = .ok (.dup, 1) := by decide +kernel
theorem dX5_append_15 : decode cX5_append 15 = .ok (.ldc 45, 2) := by decide +kernel
theorem dX5_append_17 : decode cX5_append 17 = .ok (.invokespecial 47, 3) := by decide +kernel
theorem dX5_append_20 : decode cX5_append 20 = .ok (.athrow, 1) := by decide +kernel
theorem dX5_append_21 : decode cX5_append 21 = .ok (.aload_n 0, 1) := by decide +kernel
theorem dX5_append_22 : decode cX5_append 22 = .ok (.getfield 10, 3) := by decide +kernel
theorem dX5_append_25 : decode cX5_append 25 = .ok (.invokevirtual 50, 3) := by decide +kernel
theorem dX5_append_28 : decode cX5_append 28 = .ok (.ifCond .eq 13, 3) := by decide +kernel
theorem dX5_append_31 : decode cX5_append 31 = .ok (.new 54, 3) := by decide +kernel
theorem dX5_append_34 : decode cX5_append 34 = .ok (.dup, 1) := by decide +kernel
theorem dX5_append_35 : decode cX5_append 35 = .ok (.ldc 56, 2) := by decide +kernel
theorem dX5_append_37 : decode cX5_append 37 = .ok (.invokespecial 58, 3) := by decide +kernel
theorem dX5_append_40 : decode cX5_append 40 = .ok (.athrow, 1) := by decide +kernel
theorem dX5_append_41 : decode cX5_append 41 = .ok (.aload_n 0, 1) := by decide +kernel
theorem dX5_append_42 : decode cX5_append 42 = .ok (.getfield 10, 3) := by decide +kernel
theorem dX5_append_45 : decode cX5_append 45 = .ok (.iload_n 1, 1) := by decide +kernel
theorem dX5_append_46 : decode cX5_append 46 = .ok (.invokevirtual 59, 3) := by decide +kernel
theorem dX5_append_49 : decode cX5_append 49 = .ok (.ireturn, 1) := by decide +kernel
theorem dX5_load_0 : decode cX5_load 0 = .ok (.aload_n 0, 1) := by decide +kernel
theorem dX5_load_1 : decode cX5_load 1 = .ok (.getfield 10, 3) := by decide +kernel
theorem dX5_load_4 : decode cX5_load 4 = .ok (.invokevirtual 67, 3) := by decide +kernel
theorem dX5_load_7 : decode cX5_load 7 = .ok (.iconst (-1), 1) := by decide +kernel
theorem dX5_load_8 : decode cX5_load 8 = .ok (.if_icmp .eq 13, 3) := by decide +kernel
theorem dX5_load_11 : decode cX5_load 11 = .ok (.new 54, 3) := by decide +kernel
theorem dX5_load_14 : decode cX5_load 14 = .ok (.dup, 1) := by decide +kernel
theorem dX5_load_15 : decode cX5_load 15 = .ok (.ldc 70, 2) := by decide +kernel
theorem dX5_load_17 : decode cX5_load 17 = .ok (.invokespecial 58, 3) := by decide +kernel
theorem dX5_load_20 : decode cX5_load 20 = .ok (.athrow, 1) := by decide +kernel
theorem dX5_load_21 : decode cX5_load 21 = .ok (.aload_n 0, 1) := by decide +kernel
theorem dX5_load_22 : decode cX5_load 22 = .ok (.getfield 19, 3) := by decide +kernel
theorem dX5_load_25 : decode cX5_load 25 = .ok (.invokevirtual 72, 3) := by decide +kernel
theorem dX5_load_28 : decode cX5_load 28 = .ok (.aload_n 0, 1) := by decide +kernel
theorem dX5_load_29 : decode cX5_load 29 = .ok (.getfield 29, 3) := by decide +kernel
theorem dX5_load_32 : decode cX5_load 32 = .ok (.invokevirtual 75, 3) := by decide +kernel
theorem dX5_load_35 : decode cX5_load 35 = .ok (.aload_n 0, 1) := by decide +kernel
theorem dX5_load_36 : decode cX5_load 36 = .ok (.getfield 36, 3) := by decide +kernel
theorem dX5_load_39 : decode cX5_load 39 = .ok (.invokevirtual 78, 3) := by decide +kernel
theorem dX5_load_42 : decode cX5_load 42 = .ok (.aload_n 0, 1) := by decide +kernel
theorem dX5_load_43 : decode cX5_load 43 = .ok (.getfield 40, 3) := by decide +kernel
theorem dX5_load_46 : decode cX5_load 46 = .ok (.invokevirtual 78, 3) := by decide +kernel
theorem dX5_load_49 : decode cX5_load 49 = .ok (.aload_n 0, 1) := by decide +kernel
theorem dX5_load_50 : decode cX5_load 50 = .ok (.invokevirtual 80, 3) := by decide +kernel
theorem dX5_load_53 : decode cX5_load 53 = .ok (.ireturn, 1) := by decide +kernel
theorem dX5_doCommandsOfText_0 : decode cX5_doCommandsOfText 0 = .ok (.iconst 0, 1) := by decide +kernel
theorem dX5_doCommandsOfText_1 : decode cX5_doCommandsOfText 1 = .ok (.istore_n 1, 1) := by decide +kernel
theorem dX5_doCommandsOfText_2 : decode cX5_doCommandsOfText 2 = .ok (.iconst 1, 1) := by decide +kernel
theorem dX5_doCommandsOfText_3 : decode cX5_doCommandsOfText 3 = .ok (.istore_n 2, 1) := by decide +kernel
theorem dX5_doCommandsOfText_4 : decode cX5_doCommandsOfText 4 = .ok (.iconst 1, 1) := by decide +kernel
theorem dX5_doCommandsOfText_5 : decode cX5_doCommandsOfText 5 = .ok (.istore_n 3, 1) := by decide +kernel
theorem dX5_doCommandsOfText_6 : decode cX5_doCommandsOfText 6 = .ok (.iload_n 3, 1) := by decide +kernel
theorem dX5_doCommandsOfText_7 : decode cX5_doCommandsOfText 7 = .ok (.aload_n 0, 1) := by decide +kernel
theorem dX5_doCommandsOfText_8 : decode cX5_doCommandsOfText 8 = .ok (.getfield 10, 3) := by decide +kernel
theorem dX5_doCommandsOfText_11 : decode cX5_doCommandsOfText 11 = .ok (.invokevirtual 83, 3) := by decide +kernel
theorem dX5_doCommandsOfText_14 : decode cX5_doCommandsOfText 14 = .ok (.if_icmp .ge 36, 3) := by decide +kernel
theorem dX5_doCommandsOfText_17 : decode cX5_doCommandsOfText 17 = .ok (.aload_n 0, 1) := by decide +kernel
theorem dX5_doCommandsOfText_18 : decode cX5_doCommandsOfText 18 = .ok (.getfield 10, 3) := by decide +kernel
theorem dX5_doCommandsOfText_21 : decode cX5_doCommandsOfText 21 = .ok (.iload_n 2, 1) := by decide +kernel
theorem dX5_doCommandsOfText_22 : decode cX5_doCommandsOfText 22 = .ok (.iload_n 3, 1) := by decide +kernel
theorem dX5_doCommandsOfText_23 : decode cX5_doCommandsOfText 23 = .ok (.invokevirtual 86, 3) := by decide +kernel
theorem dX5_doCommandsOfText_26 : decode cX5_doCommandsOfText 26 = .ok (.ifCond .eq 18, 3) := by decide +kernel
theorem dX5_doCommandsOfText_29 : decode cX5_doCommandsOfText 29 = .ok (.aload_n 0, 1) := by decide +kernel
theorem dX5_doCommandsOfText_30 : decode cX5_doCommandsOfText 30 = .ok (.iload_n 2, 1) := by decide +kernel
theorem dX5_doCommandsOfText_31 : decode cX5_doCommandsOfText 31 = .ok (.invokevirtual 90, 3) := by decide +kernel
theorem dX5_doCommandsOfText_34 : decode cX5_doCommandsOfText 34 = .ok (.ifCond .ne 6, 3) := by decide +kernel
theorem dX5_doCommandsOfText_37 : decode cX5_doCommandsOfText 37 = .ok (.iinc 1 1, 3) := by decide +kernel
theorem dX5_doCommandsOfText_40 : decode cX5_doCommandsOfText 40 = .ok (.iload_n 3, 1) := by decide +kernel
theorem dX5_doCommandsOfText_41 : decode cX5_doCommandsOfText 41 = .ok (.iconst 1, 1) := by decide +kernel
theorem dX5_doCommandsOfText_42 : decode cX5_doCommandsOfText 42 = .ok (.iadd, 1) := by decide +kernel
theorem dX5_doCommandsOfText_43 : decode cX5_doCommandsOfText 43 = .ok (.istore_n 2, 1) := by decide +kernel
theorem dX5_doCommandsOfText_44 : decode cX5_doCommandsOfText 44 = .ok (.iinc 3 1, 3) := by decide +kernel
theorem dX5_doCommandsOfText_47 : decode cX5_doCommandsOfText 47 = .ok (.goto (-41), 3) := by decide +kernel
theorem dX5_doCommandsOfText_50 : decode cX5_doCommandsOfText 50 = .ok (.iload_n 1, 1) := by decide +kernel
theorem dX5_doCommandsOfText_51 : decode cX5_doCommandsOfText 51 = .ok (.ireturn, 1) := by decide +kernel
theorem dX5_doCommandAt_0 : decode cX5_doCommandAt 0 = .ok (.aload_n 0, 1) := by decide +kernel
theorem dX5_doCommandAt_1 : decode cX5_doCommandAt 1 = .ok (.getfield 10, 3) := by decide +kernel
theorem dX5_doCommandAt_4 : decode cX5_doCommandAt 4 = .ok (.iload_n 1, 1) := by decide +kernel
theorem dX5_doCommandAt_5 : decode cX5_doCommandAt 5 = .ok (.invokevirtual 94, 3) := by decide +kernel
theorem dX5_doCommandAt_8 : decode cX5_doCommandAt 8 = .ok (.lookupswitch 145 #[(100, 44), (112, 73), (115, 128), (119, 111)], 44) := by decide +kernel
theorem dX5_doCommandAt_52 : decode cX5_doCommandAt 52 = .ok (.aload_n 0, 1) := by decide +kernel
theorem dX5_doCommandAt_53 : decode cX5_doCommandAt 53 = .ok (.getfield 19, 3) := by decide +kernel
theorem dX5_doCommandAt_56 : decode cX5_doCommandAt 56 = .ok (.aload_n 0, 1) := by decide +kernel
theorem dX5_doCommandAt_57 : decode cX5_doCommandAt 57 = .ok (.getfield 10, 3) := by decide +kernel
theorem dX5_doCommandAt_60 : decode cX5_doCommandAt 60 = .ok (.iload_n 1, 1) := by decide +kernel
theorem dX5_doCommandAt_61 : decode cX5_doCommandAt 61 = .ok (.iconst 1, 1) := by decide +kernel
theorem dX5_doCommandAt_62 : decode cX5_doCommandAt 62 = .ok (.iadd, 1) := by decide +kernel
theorem dX5_doCommandAt_63 : decode cX5_doCommandAt 63 = .ok (.invokevirtual 97, 3) := by decide +kernel
theorem dX5_doCommandAt_66 : decode cX5_doCommandAt 66 = .ok (.aload_n 0, 1) := by decide +kernel
theorem dX5_doCommandAt_67 : decode cX5_doCommandAt 67 = .ok (.getfield 10, 3) := by decide +kernel
theorem dX5_doCommandAt_70 : decode cX5_doCommandAt 70 = .ok (.iload_n 1, 1) := by decide +kernel
theorem dX5_doCommandAt_71 : decode cX5_doCommandAt 71 = .ok (.iconst 2, 1) := by decide +kernel
theorem dX5_doCommandAt_72 : decode cX5_doCommandAt 72 = .ok (.iadd, 1) := by decide +kernel
theorem dX5_doCommandAt_73 : decode cX5_doCommandAt 73 = .ok (.invokevirtual 100, 3) := by decide +kernel
theorem dX5_doCommandAt_76 : decode cX5_doCommandAt 76 = .ok (.i2l, 1) := by decide +kernel
theorem dX5_doCommandAt_77 : decode cX5_doCommandAt 77 = .ok (.invokevirtual 103, 3) := by decide +kernel
theorem dX5_doCommandAt_80 : decode cX5_doCommandAt 80 = .ok (.ireturn, 1) := by decide +kernel
theorem dX5_doCommandAt_81 : decode cX5_doCommandAt 81 = .ok (.aload_n 0, 1) := by decide +kernel
theorem dX5_doCommandAt_82 : decode cX5_doCommandAt 82 = .ok (.getfield 19, 3) := by decide +kernel
theorem dX5_doCommandAt_85 : decode cX5_doCommandAt 85 = .ok (.aload_n 0, 1) := by decide +kernel
theorem dX5_doCommandAt_86 : decode cX5_doCommandAt 86 = .ok (.getfield 10, 3) := by decide +kernel
theorem dX5_doCommandAt_89 : decode cX5_doCommandAt 89 = .ok (.iload_n 1, 1) := by decide +kernel
theorem dX5_doCommandAt_90 : decode cX5_doCommandAt 90 = .ok (.iconst 1, 1) := by decide +kernel
theorem dX5_doCommandAt_91 : decode cX5_doCommandAt 91 = .ok (.iadd, 1) := by decide +kernel
theorem dX5_doCommandAt_92 : decode cX5_doCommandAt 92 = .ok (.invokevirtual 100, 3) := by decide +kernel
theorem dX5_doCommandAt_95 : decode cX5_doCommandAt 95 = .ok (.aload_n 0, 1) := by decide +kernel
theorem dX5_doCommandAt_96 : decode cX5_doCommandAt 96 = .ok (.getfield 10, 3) := by decide +kernel
theorem dX5_doCommandAt_99 : decode cX5_doCommandAt 99 = .ok (.iload_n 1, 1) := by decide +kernel
theorem dX5_doCommandAt_100 : decode cX5_doCommandAt 100 = .ok (.iconst 3, 1) := by decide +kernel
theorem dX5_doCommandAt_101 : decode cX5_doCommandAt 101 = .ok (.iadd, 1) := by decide +kernel
theorem dX5_doCommandAt_102 : decode cX5_doCommandAt 102 = .ok (.invokevirtual 94, 3) := by decide +kernel
theorem dX5_doCommandAt_105 : decode cX5_doCommandAt 105 = .ok (.bipush 108, 2) := by decide +kernel
theorem dX5_doCommandAt_107 : decode cX5_doCommandAt 107 = .ok (.if_icmp .ne 7, 3) := by decide +kernel
theorem dX5_doCommandAt_110 : decode cX5_doCommandAt 110 = .ok (.iconst 1, 1) := by decide +kernel
theorem dX5_doCommandAt_111 : decode cX5_doCommandAt 111 = .ok (.goto 4, 3) := by decide +kernel
theorem dX5_doCommandAt_114 : decode cX5_doCommandAt 114 = .ok (.iconst 0, 1) := by decide +kernel
theorem dX5_doCommandAt_115 : decode cX5_doCommandAt 115 = .ok (.invokevirtual 107, 3) := by decide +kernel
theorem dX5_doCommandAt_118 : decode cX5_doCommandAt 118 = .ok (.ireturn, 1) := by decide +kernel
theorem dX5_doCommandAt_119 : decode cX5_doCommandAt 119 = .ok (.aload_n 0, 1) := by decide +kernel
theorem dX5_doCommandAt_120 : decode cX5_doCommandAt 120 = .ok (.getfield 19, 3) := by decide +kernel
theorem dX5_doCommandAt_123 : decode cX5_doCommandAt 123 = .ok (.invokevirtual 111, 3) := by decide +kernel
theorem dX5_doCommandAt_126 : decode cX5_doCommandAt 126 = .ok (.iconst (-1), 1) := by decide +kernel
theorem dX5_doCommandAt_127 : decode cX5_doCommandAt 127 = .ok (.if_icmp .eq 7, 3) := by decide +kernel
theorem dX5_doCommandAt_130 : decode cX5_doCommandAt 130 = .ok (.iconst 1, 1) := by decide +kernel
theorem dX5_doCommandAt_131 : decode cX5_doCommandAt 131 = .ok (.goto 4, 3) := by decide +kernel
theorem dX5_doCommandAt_134 : decode cX5_doCommandAt 134 = .ok (.iconst 0, 1) := by decide +kernel
theorem dX5_doCommandAt_135 : decode cX5_doCommandAt 135 = .ok (.ireturn, 1) := by decide +kernel
theorem dX5_doCommandAt_136 : decode cX5_doCommandAt 136 = .ok (.aload_n 0, 1) := by decide +kernel
theorem dX5_doCommandAt_137 : decode cX5_doCommandAt 137 = .ok (.getfield 19, 3) := by decide +kernel
theorem dX5_doCommandAt_140 : decode cX5_doCommandAt 140 = .ok (.invokevirtual 114, 3) := by decide +kernel
theorem dX5_doCommandAt_143 : decode cX5_doCommandAt 143 = .ok (.iconst (-1), 1) := by decide +kernel
theorem dX5_doCommandAt_144 : decode cX5_doCommandAt 144 = .ok (.if_icmp .eq 7, 3) := by decide +kernel
theorem dX5_doCommandAt_147 : decode cX5_doCommandAt 147 = .ok (.iconst 1, 1) := by decide +kernel
theorem dX5_doCommandAt_148 : decode cX5_doCommandAt 148 = .ok (.goto 4, 3) := by decide +kernel
theorem dX5_doCommandAt_151 : decode cX5_doCommandAt 151 = .ok (.iconst 0, 1) := by decide +kernel
theorem dX5_doCommandAt_152 : decode cX5_doCommandAt 152 = .ok (.ireturn, 1) := by decide +kernel
theorem dX5_doCommandAt_153 : decode cX5_doCommandAt 153 = .ok (.aload_n 0, 1) := by decide +kernel
theorem dX5_doCommandAt_154 : decode cX5_doCommandAt 154 = .ok (.getfield 19, 3) := by decide +kernel
theorem dX5_doCommandAt_157 : decode cX5_doCommandAt 157 = .ok (.aload_n 0, 1) := by decide +kernel
theorem dX5_doCommandAt_158 : decode cX5_doCommandAt 158 = .ok (.getfield 19, 3) := by decide +kernel
theorem dX5_doCommandAt_161 : decode cX5_doCommandAt 161 = .ok (.invokevirtual 117, 3) := by decide +kernel
theorem dX5_doCommandAt_164 : decode cX5_doCommandAt 164 = .ok (.iconst 0, 1) := by decide +kernel
theorem dX5_doCommandAt_165 : decode cX5_doCommandAt 165 = .ok (.invokevirtual 107, 3) := by decide +kernel
theorem dX5_doCommandAt_168 : decode cX5_doCommandAt 168 = .ok (.pop, 1) := by decide +kernel
theorem dX5_doCommandAt_169 : decode cX5_doCommandAt 169 = .ok (.iconst 1, 1) := by decide +kernel
theorem dX5_doCommandAt_170 : decode cX5_doCommandAt 170 = .ok (.ireturn, 1) := by decide +kernel
theorem dX5_about_0 : decode cX5_about 0 = .ok (.iload_n 1, 1) := by decide +kernel
theorem dX5_about_1 : decode cX5_about 1 = .ok (.ifCond .lt 9, 3) := by decide +kernel
theorem dX5_about_4 : decode cX5_about 4 = .ok (.iload_n 1, 1) := by decide +kernel
theorem dX5_about_5 : decode cX5_about 5 = .ok (.bipush 11, 2) := by decide +kernel
theorem dX5_about_7 : decode cX5_about 7 = .ok (.if_icmp .le 13, 3) := by decide +kernel
theorem dX5_about_10 : decode cX5_about 10 = .ok (.new 43, 3) := by decide +kernel
theorem dX5_about_13 : decode cX5_about 13 = .ok (.dup, 1) := by decide +kernel
theorem dX5_about_14 : decode cX5_about 14 = .ok (.ldc 120, 2) := by decide +kernel
theorem dX5_about_16 : decode cX5_about 16 = .ok (.invokespecial 47, 3) := by decide +kernel
theorem dX5_about_19 : decode cX5_about 19 = .ok (.athrow, 1) := by decide +kernel
theorem dX5_about_20 : decode cX5_about 20 = .ok (.aload_n 0, 1) := by decide +kernel
theorem dX5_about_21 : decode cX5_about 21 = .ok (.getfield 19, 3) := by decide +kernel
theorem dX5_about_24 : decode cX5_about 24 = .ok (.iload_n 1, 1) := by decide +kernel
theorem dX5_about_25 : decode cX5_about 25 = .ok (.invokevirtual 122, 3) := by decide +kernel
theorem dX5_about_28 : decode cX5_about 28 = .ok (.ireturn, 1) := by decide +kernel
theorem dX5_tileOf_0 : decode cX5_tileOf 0 = .ok (.iload_n 1, 1) := by decide +kernel
theorem dX5_tileOf_1 : decode cX5_tileOf 1 = .ok (.invokestatic 125, 3) := by decide +kernel
theorem dX5_tileOf_4 : decode cX5_tileOf 4 = .ok (.ifCond .ne 13, 3) := by decide +kernel
theorem dX5_tileOf_7 : decode cX5_tileOf 7 = .ok (.new 128, 3) := by decide +kernel
theorem dX5_tileOf_10 : decode cX5_tileOf 10 = .ok (.dup, 1) := by decide +kernel
theorem dX5_tileOf_11 : decode cX5_tileOf 11 = .ok (.ldc 130, 2) := by decide +kernel
theorem dX5_tileOf_13 : decode cX5_tileOf 13 = .ok (.invokespecial 132, 3) := by decide +kernel
theorem dX5_tileOf_16 : decode cX5_tileOf 16 = .ok (.athrow, 1) := by decide +kernel
theorem dX5_tileOf_17 : decode cX5_tileOf 17 = .ok (.iload_n 2, 1) := by decide +kernel
theorem dX5_tileOf_18 : decode cX5_tileOf 18 = .ok (.ifCond .lt 8, 3) := by decide +kernel
theorem dX5_tileOf_21 : decode cX5_tileOf 21 = .ok (.iload_n 2, 1) := by decide +kernel
theorem dX5_tileOf_22 : decode cX5_tileOf 22 = .ok (.iconst 4, 1) := by decide +kernel
theorem dX5_tileOf_23 : decode cX5_tileOf 23 = .ok (.if_icmp .le 13, 3) := by decide +kernel
theorem dX5_tileOf_26 : decode cX5_tileOf 26 = .ok (.new 43, 3) := by decide +kernel
theorem dX5_tileOf_29 : decode cX5_tileOf 29 = .ok (.dup, 1) := by decide +kernel
theorem dX5_tileOf_30 : decode cX5_tileOf 30 = .ok (.ldc 120, 2) := by decide +kernel
theorem dX5_tileOf_32 : decode cX5_tileOf 32 = .ok (.invokespecial 47, 3) := by decide +kernel
theorem dX5_tileOf_35 : decode cX5_tileOf 35 = .ok (.athrow, 1) := by decide +kernel
theorem dX5_tileOf_36 : decode cX5_tileOf 36 = .ok (.aload_n 0, 1) := by decide +kernel
theorem dX5_tileOf_37 : decode cX5_tileOf 37 = .ok (.getfield 19, 3) := by decide +kernel
theorem dX5_tileOf_40 : decode cX5_tileOf 40 = .ok (.iload_n 1, 1) := by decide +kernel
theorem dX5_tileOf_41 : decode cX5_tileOf 41 = .ok (.iload_n 2, 1) := by decide +kernel
theorem dX5_tileOf_42 : decode cX5_tileOf 42 = .ok (.invokevirtual 133, 3) := by decide +kernel
theorem dX5_tileOf_45 : decode cX5_tileOf 45 = .ok (.ireturn, 1) := by decide +kernel
theorem dX5_laid_0 : decode cX5_laid 0 = .ok (.iload_n 1, 1) := by decide +kernel
theorem dX5_laid_1 : decode cX5_laid 1 = .ok (.ifCond .lt 17, 3) := by decide +kernel
theorem dX5_laid_4 : decode cX5_laid 4 = .ok (.iload_n 1, 1) := by decide +kernel
theorem dX5_laid_5 : decode cX5_laid 5 = .ok (.aload_n 0, 1) := by decide +kernel
theorem dX5_laid_6 : decode cX5_laid 6 = .ok (.getfield 19, 3) := by decide +kernel
theorem dX5_laid_9 : decode cX5_laid 9 = .ok (.invokevirtual 137, 3) := by decide +kernel
theorem dX5_laid_12 : decode cX5_laid 12 = .ok (.invokevirtual 141, 3) := by decide +kernel
theorem dX5_laid_15 : decode cX5_laid 15 = .ok (.if_icmp .lt 13, 3) := by decide +kernel
theorem dX5_laid_18 : decode cX5_laid 18 = .ok (.new 128, 3) := by decide +kernel
theorem dX5_laid_21 : decode cX5_laid 21 = .ok (.dup, 1) := by decide +kernel
theorem dX5_laid_22 : decode cX5_laid 22 = .ok (.ldc 144, 2) := by decide +kernel
theorem dX5_laid_24 : decode cX5_laid 24 = .ok (.invokespecial 132, 3) := by decide +kernel
theorem dX5_laid_27 : decode cX5_laid 27 = .ok (.athrow, 1) := by decide +kernel
theorem dX5_laid_28 : decode cX5_laid 28 = .ok (.iload_n 2, 1) := by decide +kernel
theorem dX5_laid_29 : decode cX5_laid 29 = .ok (.ifCond .lt 8, 3) := by decide +kernel
theorem dX5_laid_32 : decode cX5_laid 32 = .ok (.iload_n 2, 1) := by decide +kernel
theorem dX5_laid_33 : decode cX5_laid 33 = .ok (.iconst 5, 1) := by decide +kernel
theorem dX5_laid_34 : decode cX5_laid 34 = .ok (.if_icmp .le 13, 3) := by decide +kernel
theorem dX5_laid_37 : decode cX5_laid 37 = .ok (.new 43, 3) := by decide +kernel
theorem dX5_laid_40 : decode cX5_laid 40 = .ok (.dup, 1) := by decide +kernel
theorem dX5_laid_41 : decode cX5_laid 41 = .ok (.ldc 120, 2) := by decide +kernel
theorem dX5_laid_43 : decode cX5_laid 43 = .ok (.invokespecial 47, 3) := by decide +kernel
theorem dX5_laid_46 : decode cX5_laid 46 = .ok (.athrow, 1) := by decide +kernel
theorem dX5_laid_47 : decode cX5_laid 47 = .ok (.aload_n 0, 1) := by decide +kernel
theorem dX5_laid_48 : decode cX5_laid 48 = .ok (.getfield 19, 3) := by decide +kernel
theorem dX5_laid_51 : decode cX5_laid 51 = .ok (.invokevirtual 137, 3) := by decide +kernel
theorem dX5_laid_54 : decode cX5_laid 54 = .ok (.iload_n 1, 1) := by decide +kernel
theorem dX5_laid_55 : decode cX5_laid 55 = .ok (.iload_n 2, 1) := by decide +kernel
theorem dX5_laid_56 : decode cX5_laid 56 = .ok (.invokevirtual 146, 3) := by decide +kernel
theorem dX5_laid_59 : decode cX5_laid 59 = .ok (.ireturn, 1) := by decide +kernel
theorem dX5_playerOf_0 : decode cX5_playerOf 0 = .ok (.iload_n 1, 1) := by decide +kernel
theorem dX5_playerOf_1 : decode cX5_playerOf 1 = .ok (.invokestatic 149, 3) := by decide +kernel
theorem dX5_playerOf_4 : decode cX5_playerOf 4 = .ok (.ifCond .ne 13, 3) := by decide +kernel
theorem dX5_playerOf_7 : decode cX5_playerOf 7 = .ok (.new 128, 3) := by decide +kernel
theorem dX5_playerOf_10 : decode cX5_playerOf 10 = .ok (.dup, 1) := by decide +kernel
theorem dX5_playerOf_11 : decode cX5_playerOf 11 = .ok (.ldc 152, 2) := by decide +kernel
theorem dX5_playerOf_13 : decode cX5_playerOf 13 = .ok (.invokespecial 132, 3) := by decide +kernel
theorem dX5_playerOf_16 : decode cX5_playerOf 16 = .ok (.athrow, 1) := by decide +kernel
theorem dX5_playerOf_17 : decode cX5_playerOf 17 = .ok (.iload_n 2, 1) := by decide +kernel
theorem dX5_playerOf_18 : decode cX5_playerOf 18 = .ok (.ifCond .lt 8, 3) := by decide +kernel
theorem dX5_playerOf_21 : decode cX5_playerOf 21 = .ok (.iload_n 2, 1) := by decide +kernel
theorem dX5_playerOf_22 : decode cX5_playerOf 22 = .ok (.iconst 3, 1) := by decide +kernel
theorem dX5_playerOf_23 : decode cX5_playerOf 23 = .ok (.if_icmp .le 13, 3) := by decide +kernel
theorem dX5_playerOf_26 : decode cX5_playerOf 26 = .ok (.new 43, 3) := by decide +kernel
theorem dX5_playerOf_29 : decode cX5_playerOf 29 = .ok (.dup, 1) := by decide +kernel
theorem dX5_playerOf_30 : decode cX5_playerOf 30 = .ok (.ldc 120, 2) := by decide +kernel
theorem dX5_playerOf_32 : decode cX5_playerOf 32 = .ok (.invokespecial 47, 3) := by decide +kernel
theorem dX5_playerOf_35 : decode cX5_playerOf 35 = .ok (.athrow, 1) := by decide +kernel
theorem dX5_playerOf_36 : decode cX5_playerOf 36 = .ok (.aload_n 0, 1) := by decide +kernel
theorem dX5_playerOf_37 : decode cX5_playerOf 37 = .ok (.getfield 19, 3) := by decide +kernel
theorem dX5_playerOf_40 : decode cX5_playerOf 40 = .ok (.iload_n 1, 1) := by decide +kernel
theorem dX5_playerOf_41 : decode cX5_playerOf 41 = .ok (.iload_n 2, 1) := by decide +kernel
theorem dX5_playerOf_42 : decode cX5_playerOf 42 = .ok (.invokevirtual 154, 3) := by decide +kernel
theorem dX5_playerOf_45 : decode cX5_playerOf 45 = .ok (.ireturn, 1) := by decide +kernel
theorem dX5_at_0 : decode cX5_at 0 = .ok (.iload_n 1, 1) := by decide +kernel
theorem dX5_at_1 : decode cX5_at 1 = .ok (.iload_n 2, 1) := by decide +kernel
theorem dX5_at_2 : decode cX5_at 2 = .ok (.invokestatic 157, 3) := by decide +kernel
theorem dX5_at_5 : decode cX5_at 5 = .ok (.ifCond .ne 13, 3) := by decide +kernel
theorem dX5_at_8 : decode cX5_at 8 = .ok (.new 128, 3) := by decide +kernel
theorem dX5_at_11 : decode cX5_at 11 = .ok (.dup, 1) := by decide +kernel
theorem dX5_at_12 : decode cX5_at 12 = .ok (.ldc 160, 2) := by decide +kernel
theorem dX5_at_14 : decode cX5_at 14 = .ok (.invokespecial 132, 3) := by decide +kernel
theorem dX5_at_17 : decode cX5_at 17 = .ok (.athrow, 1) := by decide +kernel
theorem dX5_at_18 : decode cX5_at 18 = .ok (.aload_n 0, 1) := by decide +kernel
theorem dX5_at_19 : decode cX5_at 19 = .ok (.getfield 19, 3) := by decide +kernel
theorem dX5_at_22 : decode cX5_at 22 = .ok (.invokevirtual 137, 3) := by decide +kernel
theorem dX5_at_25 : decode cX5_at 25 = .ok (.iload_n 1, 1) := by decide +kernel
theorem dX5_at_26 : decode cX5_at 26 = .ok (.iload_n 2, 1) := by decide +kernel
theorem dX5_at_27 : decode cX5_at 27 = .ok (.invokevirtual 162, 3) := by decide +kernel
theorem dX5_at_30 : decode cX5_at 30 = .ok (.ireturn, 1) := by decide +kernel
theorem dX5_free_0 : decode cX5_free 0 = .ok (.iload_n 1, 1) := by decide +kernel
theorem dX5_free_1 : decode cX5_free 1 = .ok (.ifCond .eq 18, 3) := by decide +kernel
theorem dX5_free_4 : decode cX5_free 4 = .ok (.iload_n 1, 1) := by decide +kernel
theorem dX5_free_5 : decode cX5_free 5 = .ok (.iconst 1, 1) := by decide +kernel
theorem dX5_free_6 : decode cX5_free 6 = .ok (.if_icmp .eq 13, 3) := by decide +kernel
theorem dX5_free_9 : decode cX5_free 9 = .ok (.new 43, 3) := by decide +kernel
theorem dX5_free_12 : decode cX5_free 12 = .ok (.dup, 1) := by decide +kernel
theorem dX5_free_13 : decode cX5_free 13 = .ok (.ldc 165, 2) := by decide +kernel
theorem dX5_free_15 : decode cX5_free 15 = .ok (.invokespecial 47, 3) := by decide +kernel
theorem dX5_free_18 : decode cX5_free 18 = .ok (.athrow, 1) := by decide +kernel
theorem dX5_free_19 : decode cX5_free 19 = .ok (.iload_n 1, 1) := by decide +kernel
theorem dX5_free_20 : decode cX5_free 20 = .ok (.ifCond .ne 16, 3) := by decide +kernel
theorem dX5_free_23 : decode cX5_free 23 = .ok (.aload_n 0, 1) := by decide +kernel
theorem dX5_free_24 : decode cX5_free 24 = .ok (.getfield 19, 3) := by decide +kernel
theorem dX5_free_27 : decode cX5_free 27 = .ok (.invokevirtual 137, 3) := by decide +kernel
theorem dX5_free_30 : decode cX5_free 30 = .ok (.invokevirtual 167, 3) := by decide +kernel
theorem dX5_free_33 : decode cX5_free 33 = .ok (.goto 13, 3) := by decide +kernel
theorem dX5_free_36 : decode cX5_free 36 = .ok (.aload_n 0, 1) := by decide +kernel
theorem dX5_free_37 : decode cX5_free 37 = .ok (.getfield 19, 3) := by decide +kernel
theorem dX5_free_40 : decode cX5_free 40 = .ok (.invokevirtual 137, 3) := by decide +kernel
theorem dX5_free_43 : decode cX5_free 43 = .ok (.invokevirtual 170, 3) := by decide +kernel
theorem dX5_free_46 : decode cX5_free 46 = .ok (.ireturn, 1) := by decide +kernel
theorem dX5_deal_0 : decode cX5_deal 0 = .ok (.iload_n 1, 1) := by decide +kernel
theorem dX5_deal_1 : decode cX5_deal 1 = .ok (.invokestatic 173, 3) := by decide +kernel
theorem dX5_deal_4 : decode cX5_deal 4 = .ok (.ifCond .ne 13, 3) := by decide +kernel
theorem dX5_deal_7 : decode cX5_deal 7 = .ok (.new 43, 3) := by decide +kernel
theorem dX5_deal_10 : decode cX5_deal 10 = .ok (.dup, 1) := by decide +kernel
theorem dX5_deal_11 : decode cX5_deal 11 = .ok (.ldc 176, 2) := by decide +kernel
theorem dX5_deal_13 : decode cX5_deal 13 = .ok (.invokespecial 47, 3) := by decide +kernel
theorem dX5_deal_16 : decode cX5_deal 16 = .ok (.athrow, 1) := by decide +kernel
theorem dX5_deal_17 : decode cX5_deal 17 = .ok (.aload_n 0, 1) := by decide +kernel
theorem dX5_deal_18 : decode cX5_deal 18 = .ok (.getfield 29, 3) := by decide +kernel
theorem dX5_deal_21 : decode cX5_deal 21 = .ok (.aload_n 0, 1) := by decide +kernel
theorem dX5_deal_22 : decode cX5_deal 22 = .ok (.getfield 19, 3) := by decide +kernel
theorem dX5_deal_25 : decode cX5_deal 25 = .ok (.invokevirtual 178, 3) := by decide +kernel
theorem dX5_deal_28 : decode cX5_deal 28 = .ok (.aload_n 0, 1) := by decide +kernel
theorem dX5_deal_29 : decode cX5_deal 29 = .ok (.getfield 19, 3) := by decide +kernel
theorem dX5_deal_32 : decode cX5_deal 32 = .ok (.iload_n 1, 1) := by decide +kernel
theorem dX5_deal_33 : decode cX5_deal 33 = .ok (.lload_n 2, 1) := by decide +kernel
theorem dX5_deal_34 : decode cX5_deal 34 = .ok (.invokevirtual 103, 3) := by decide +kernel
theorem dX5_deal_37 : decode cX5_deal 37 = .ok (.pop, 1) := by decide +kernel
theorem dX5_deal_38 : decode cX5_deal 38 = .ok (.aload_n 0, 1) := by decide +kernel
theorem dX5_deal_39 : decode cX5_deal 39 = .ok (.getfield 19, 3) := by decide +kernel
theorem dX5_deal_42 : decode cX5_deal 42 = .ok (.invokevirtual 182, 3) := by decide +kernel
theorem dX5_deal_45 : decode cX5_deal 45 = .ok (.ireturn, 1) := by decide +kernel
theorem dX5_play_0 : decode cX5_play 0 = .ok (.iload_n 1, 1) := by decide +kernel
theorem dX5_play_1 : decode cX5_play 1 = .ok (.invokestatic 125, 3) := by decide +kernel
theorem dX5_play_4 : decode cX5_play 4 = .ok (.ifCond .ne 13, 3) := by decide +kernel
theorem dX5_play_7 : decode cX5_play 7 = .ok (.new 128, 3) := by decide +kernel
theorem dX5_play_10 : decode cX5_play 10 = .ok (.dup, 1) := by decide +kernel
theorem dX5_play_11 : decode cX5_play 11 = .ok (.ldc 130, 2) := by decide +kernel
theorem dX5_play_13 : decode cX5_play 13 = .ok (.invokespecial 132, 3) := by decide +kernel
theorem dX5_play_16 : decode cX5_play 16 = .ok (.athrow, 1) := by decide +kernel
theorem dX5_play_17 : decode cX5_play 17 = .ok (.aload_n 0, 1) := by decide +kernel
theorem dX5_play_18 : decode cX5_play 18 = .ok (.getfield 19, 3) := by decide +kernel
theorem dX5_play_21 : decode cX5_play 21 = .ok (.invokevirtual 185, 3) := by decide +kernel
theorem dX5_play_24 : decode cX5_play 24 = .ok (.ifCond .ne 13, 3) := by decide +kernel
theorem dX5_play_27 : decode cX5_play 27 = .ok (.new 54, 3) := by decide +kernel
theorem dX5_play_30 : decode cX5_play 30 = .ok (.dup, 1) := by decide +kernel
theorem dX5_play_31 : decode cX5_play 31 = .ok (.ldc 188, 2) := by decide +kernel
theorem dX5_play_33 : decode cX5_play 33 = .ok (.invokespecial 58, 3) := by decide +kernel
theorem dX5_play_36 : decode cX5_play 36 = .ok (.athrow, 1) := by decide +kernel
theorem dX5_play_37 : decode cX5_play 37 = .ok (.aload_n 0, 1) := by decide +kernel
theorem dX5_play_38 : decode cX5_play 38 = .ok (.getfield 29, 3) := by decide +kernel
theorem dX5_play_41 : decode cX5_play 41 = .ok (.aload_n 0, 1) := by decide +kernel
theorem dX5_play_42 : decode cX5_play 42 = .ok (.getfield 19, 3) := by decide +kernel
theorem dX5_play_45 : decode cX5_play 45 = .ok (.invokevirtual 178, 3) := by decide +kernel
theorem dX5_play_48 : decode cX5_play 48 = .ok (.aload_n 0, 1) := by decide +kernel
theorem dX5_play_49 : decode cX5_play 49 = .ok (.getfield 19, 3) := by decide +kernel
theorem dX5_play_52 : decode cX5_play 52 = .ok (.iload_n 1, 1) := by decide +kernel
theorem dX5_play_53 : decode cX5_play 53 = .ok (.iload_n 2, 1) := by decide +kernel
theorem dX5_play_54 : decode cX5_play 54 = .ok (.invokevirtual 190, 3) := by decide +kernel
theorem dX5_play_57 : decode cX5_play 57 = .ok (.ireturn, 1) := by decide +kernel
theorem dX5_draw_0 : decode cX5_draw 0 = .ok (.aload_n 0, 1) := by decide +kernel
theorem dX5_draw_1 : decode cX5_draw 1 = .ok (.getfield 19, 3) := by decide +kernel
theorem dX5_draw_4 : decode cX5_draw 4 = .ok (.invokevirtual 194, 3) := by decide +kernel
theorem dX5_draw_7 : decode cX5_draw 7 = .ok (.ifCond .ne 13, 3) := by decide +kernel
theorem dX5_draw_10 : decode cX5_draw 10 = .ok (.new 54, 3) := by decide +kernel
theorem dX5_draw_13 : decode cX5_draw 13 = .ok (.dup, 1) := by decide +kernel
theorem dX5_draw_14 : decode cX5_draw 14 = .ok (.ldc 197, 2) := by decide +kernel
theorem dX5_draw_16 : decode cX5_draw 16 = .ok (.invokespecial 58, 3) := by decide +kernel
theorem dX5_draw_19 : decode cX5_draw 19 = .ok (.athrow, 1) := by decide +kernel
theorem dX5_draw_20 : decode cX5_draw 20 = .ok (.aload_n 0, 1) := by decide +kernel
theorem dX5_draw_21 : decode cX5_draw 21 = .ok (.getfield 29, 3) := by decide +kernel
theorem dX5_draw_24 : decode cX5_draw 24 = .ok (.aload_n 0, 1) := by decide +kernel
theorem dX5_draw_25 : decode cX5_draw 25 = .ok (.getfield 19, 3) := by decide +kernel
theorem dX5_draw_28 : decode cX5_draw 28 = .ok (.invokevirtual 178, 3) := by decide +kernel
theorem dX5_draw_31 : decode cX5_draw 31 = .ok (.aload_n 0, 1) := by decide +kernel
theorem dX5_draw_32 : decode cX5_draw 32 = .ok (.getfield 19, 3) := by decide +kernel
theorem dX5_draw_35 : decode cX5_draw 35 = .ok (.invokevirtual 111, 3) := by decide +kernel
theorem dX5_draw_38 : decode cX5_draw 38 = .ok (.ireturn, 1) := by decide +kernel
theorem dX5_pass_0 : decode cX5_pass 0 = .ok (.aload_n 0, 1) := by decide +kernel
theorem dX5_pass_1 : decode cX5_pass 1 = .ok (.getfield 19, 3) := by decide +kernel
theorem dX5_pass_4 : decode cX5_pass 4 = .ok (.invokevirtual 199, 3) := by decide +kernel
theorem dX5_pass_7 : decode cX5_pass 7 = .ok (.ifCond .ne 13, 3) := by decide +kernel
theorem dX5_pass_10 : decode cX5_pass 10 = .ok (.new 54, 3) := by decide +kernel
theorem dX5_pass_13 : decode cX5_pass 13 = .ok (.dup, 1) := by decide +kernel
theorem dX5_pass_14 : decode cX5_pass 14 = .ok (.ldc 202, 2) := by decide +kernel
theorem dX5_pass_16 : decode cX5_pass 16 = .ok (.invokespecial 58, 3) := by decide +kernel
theorem dX5_pass_19 : decode cX5_pass 19 = .ok (.athrow, 1) := by decide +kernel
theorem dX5_pass_20 : decode cX5_pass 20 = .ok (.aload_n 0, 1) := by decide +kernel
theorem dX5_pass_21 : decode cX5_pass 21 = .ok (.getfield 29, 3) := by decide +kernel
theorem dX5_pass_24 : decode cX5_pass 24 = .ok (.aload_n 0, 1) := by decide +kernel
theorem dX5_pass_25 : decode cX5_pass 25 = .ok (.getfield 19, 3) := by decide +kernel
theorem dX5_pass_28 : decode cX5_pass 28 = .ok (.invokevirtual 178, 3) := by decide +kernel
theorem dX5_pass_31 : decode cX5_pass 31 = .ok (.aload_n 0, 1) := by decide +kernel
theorem dX5_pass_32 : decode cX5_pass 32 = .ok (.getfield 19, 3) := by decide +kernel
theorem dX5_pass_35 : decode cX5_pass 35 = .ok (.invokevirtual 114, 3) := by decide +kernel
theorem dX5_pass_38 : decode cX5_pass 38 = .ok (.ireturn, 1) := by decide +kernel
theorem dX5_undo_0 : decode cX5_undo 0 = .ok (.aload_n 0, 1) := by decide +kernel
theorem dX5_undo_1 : decode cX5_undo 1 = .ok (.getfield 29, 3) := by decide +kernel
theorem dX5_undo_4 : decode cX5_undo 4 = .ok (.invokevirtual 204, 3) := by decide +kernel
theorem dX5_undo_7 : decode cX5_undo 7 = .ok (.ifCond .ne 13, 3) := by decide +kernel
theorem dX5_undo_10 : decode cX5_undo 10 = .ok (.new 54, 3) := by decide +kernel
theorem dX5_undo_13 : decode cX5_undo 13 = .ok (.dup, 1) := by decide +kernel
theorem dX5_undo_14 : decode cX5_undo 14 = .ok (.ldc 205, 2) := by decide +kernel
theorem dX5_undo_16 : decode cX5_undo 16 = .ok (.invokespecial 58, 3) := by decide +kernel
theorem dX5_undo_19 : decode cX5_undo 19 = .ok (.athrow, 1) := by decide +kernel
theorem dX5_undo_20 : decode cX5_undo 20 = .ok (.aload_n 0, 1) := by decide +kernel
theorem dX5_undo_21 : decode cX5_undo 21 = .ok (.getfield 29, 3) := by decide +kernel
theorem dX5_undo_24 : decode cX5_undo 24 = .ok (.aload_n 0, 1) := by decide +kernel
theorem dX5_undo_25 : decode cX5_undo 25 = .ok (.getfield 19, 3) := by decide +kernel
theorem dX5_undo_28 : decode cX5_undo 28 = .ok (.invokevirtual 207, 3) := by decide +kernel
theorem dX5_undo_31 : decode cX5_undo 31 = .ok (.ireturn, 1) := by decide +kernel
theorem dX5_why_0 : decode cX5_why 0 = .ok (.iload_n 1, 1) := by decide +kernel
theorem dX5_why_1 : decode cX5_why 1 = .ok (.invokestatic 125, 3) := by decide +kernel
theorem dX5_why_4 : decode cX5_why 4 = .ok (.ifCond .ne 13, 3) := by decide +kernel
theorem dX5_why_7 : decode cX5_why 7 = .ok (.new 128, 3) := by decide +kernel
theorem dX5_why_10 : decode cX5_why 10 = .ok (.dup, 1) := by decide +kernel
theorem dX5_why_11 : decode cX5_why 11 = .ok (.ldc 130, 2) := by decide +kernel
theorem dX5_why_13 : decode cX5_why 13 = .ok (.invokespecial 132, 3) := by decide +kernel
theorem dX5_why_16 : decode cX5_why 16 = .ok (.athrow, 1) := by decide +kernel
theorem dX5_why_17 : decode cX5_why 17 = .ok (.aload_n 0, 1) := by decide +kernel
theorem dX5_why_18 : decode cX5_why 18 = .ok (.getfield 19, 3) := by decide +kernel
theorem dX5_why_21 : decode cX5_why 21 = .ok (.iload_n 1, 1) := by decide +kernel
theorem dX5_why_22 : decode cX5_why 22 = .ok (.invokevirtual 211, 3) := by decide +kernel
theorem dX5_why_25 : decode cX5_why 25 = .ok (.ireturn, 1) := by decide +kernel
theorem dX5_legal_0 : decode cX5_legal 0 = .ok (.aload_n 0, 1) := by decide +kernel
theorem dX5_legal_1 : decode cX5_legal 1 = .ok (.getfield 19, 3) := by decide +kernel
theorem dX5_legal_4 : decode cX5_legal 4 = .ok (.invokevirtual 214, 3) := by decide +kernel
theorem dX5_legal_7 : decode cX5_legal 7 = .ok (.ireturn, 1) := by decide +kernel
theorem dX5_best_0 : decode cX5_best 0 = .ok (.aload_n 0, 1) := by decide +kernel
theorem dX5_best_1 : decode cX5_best 1 = .ok (.getfield 19, 3) := by decide +kernel
theorem dX5_best_4 : decode cX5_best 4 = .ok (.invokevirtual 117, 3) := by decide +kernel
theorem dX5_best_7 : decode cX5_best 7 = .ok (.ireturn, 1) := by decide +kernel
theorem dX5_chain_0 : decode cX5_chain 0 = .ok (.iload_n 1, 1) := by decide +kernel
theorem dX5_chain_1 : decode cX5_chain 1 = .ok (.invokestatic 149, 3) := by decide +kernel
theorem dX5_chain_4 : decode cX5_chain 4 = .ok (.ifCond .ne 13, 3) := by decide +kernel
theorem dX5_chain_7 : decode cX5_chain 7 = .ok (.new 128, 3) := by decide +kernel
theorem dX5_chain_10 : decode cX5_chain 10 = .ok (.dup, 1) := by decide +kernel
theorem dX5_chain_11 : decode cX5_chain 11 = .ok (.ldc 152, 2) := by decide +kernel
theorem dX5_chain_13 : decode cX5_chain 13 = .ok (.invokespecial 132, 3) := by decide +kernel
theorem dX5_chain_16 : decode cX5_chain 16 = .ok (.athrow, 1) := by decide +kernel
theorem dX5_chain_17 : decode cX5_chain 17 = .ok (.iload_n 2, 1) := by decide +kernel
theorem dX5_chain_18 : decode cX5_chain 18 = .ok (.iconst 1, 1) := by decide +kernel
theorem dX5_chain_19 : decode cX5_chain 19 = .ok (.if_icmp .lt 9, 3) := by decide +kernel
theorem dX5_chain_22 : decode cX5_chain 22 = .ok (.iload_n 2, 1) := by decide +kernel
theorem dX5_chain_23 : decode cX5_chain 23 = .ok (.bipush 6, 2) := by decide +kernel
theorem dX5_chain_25 : decode cX5_chain 25 = .ok (.if_icmp .le 13, 3) := by decide +kernel
theorem dX5_chain_28 : decode cX5_chain 28 = .ok (.new 43, 3) := by decide +kernel
theorem dX5_chain_31 : decode cX5_chain 31 = .ok (.dup, 1) := by decide +kernel
theorem dX5_chain_32 : decode cX5_chain 32 = .ok (.ldc 217, 2) := by decide +kernel
theorem dX5_chain_34 : decode cX5_chain 34 = .ok (.invokespecial 47, 3) := by decide +kernel
theorem dX5_chain_37 : decode cX5_chain 37 = .ok (.athrow, 1) := by decide +kernel
theorem dX5_chain_38 : decode cX5_chain 38 = .ok (.aload_n 0, 1) := by decide +kernel
theorem dX5_chain_39 : decode cX5_chain 39 = .ok (.getfield 19, 3) := by decide +kernel
theorem dX5_chain_42 : decode cX5_chain 42 = .ok (.iload_n 1, 1) := by decide +kernel
theorem dX5_chain_43 : decode cX5_chain 43 = .ok (.iload_n 2, 1) := by decide +kernel
theorem dX5_chain_44 : decode cX5_chain 44 = .ok (.invokevirtual 219, 3) := by decide +kernel
theorem dX5_chain_47 : decode cX5_chain 47 = .ok (.ireturn, 1) := by decide +kernel
theorem dX5_reach_0 : decode cX5_reach 0 = .ok (.iload_n 1, 1) := by decide +kernel
theorem dX5_reach_1 : decode cX5_reach 1 = .ok (.ifCond .lt 8, 3) := by decide +kernel
theorem dX5_reach_4 : decode cX5_reach 4 = .ok (.iload_n 1, 1) := by decide +kernel
theorem dX5_reach_5 : decode cX5_reach 5 = .ok (.iconst 5, 1) := by decide +kernel
theorem dX5_reach_6 : decode cX5_reach 6 = .ok (.if_icmp .le 13, 3) := by decide +kernel
theorem dX5_reach_9 : decode cX5_reach 9 = .ok (.new 43, 3) := by decide +kernel
theorem dX5_reach_12 : decode cX5_reach 12 = .ok (.dup, 1) := by decide +kernel
theorem dX5_reach_13 : decode cX5_reach 13 = .ok (.ldc 120, 2) := by decide +kernel
theorem dX5_reach_15 : decode cX5_reach 15 = .ok (.invokespecial 47, 3) := by decide +kernel
theorem dX5_reach_18 : decode cX5_reach 18 = .ok (.athrow, 1) := by decide +kernel
theorem dX5_reach_19 : decode cX5_reach 19 = .ok (.aload_n 0, 1) := by decide +kernel
theorem dX5_reach_20 : decode cX5_reach 20 = .ok (.getfield 19, 3) := by decide +kernel
theorem dX5_reach_23 : decode cX5_reach 23 = .ok (.invokevirtual 137, 3) := by decide +kernel
theorem dX5_reach_26 : decode cX5_reach 26 = .ok (.iload_n 1, 1) := by decide +kernel
theorem dX5_reach_27 : decode cX5_reach 27 = .ok (.invokevirtual 222, 3) := by decide +kernel
theorem dX5_reach_30 : decode cX5_reach 30 = .ok (.ireturn, 1) := by decide +kernel
theorem dX5_runScript_0 : decode cX5_runScript 0 = .ok (.iload_n 1, 1) := by decide +kernel
theorem dX5_runScript_1 : decode cX5_runScript 1 = .ok (.iconst 1, 1) := by decide +kernel
theorem dX5_runScript_2 : decode cX5_runScript 2 = .ok (.if_icmp .lt 8, 3) := by decide +kernel
theorem dX5_runScript_5 : decode cX5_runScript 5 = .ok (.iload_n 1, 1) := by decide +kernel
theorem dX5_runScript_6 : decode cX5_runScript 6 = .ok (.iconst 4, 1) := by decide +kernel
theorem dX5_runScript_7 : decode cX5_runScript 7 = .ok (.if_icmp .le 13, 3) := by decide +kernel
theorem dX5_runScript_10 : decode cX5_runScript 10 = .ok (.new 43, 3) := by decide +kernel
theorem dX5_runScript_13 : decode cX5_runScript 13 = .ok (.dup, 1) := by decide +kernel
theorem dX5_runScript_14 : decode cX5_runScript 14 = .ok (.ldc 225, 2) := by decide +kernel
theorem dX5_runScript_16 : decode cX5_runScript 16 = .ok (.invokespecial 47, 3) := by decide +kernel
theorem dX5_runScript_19 : decode cX5_runScript 19 = .ok (.athrow, 1) := by decide +kernel
theorem dX5_runScript_20 : decode cX5_runScript 20 = .ok (.lload_n 2, 1) := by decide +kernel
theorem dX5_runScript_21 : decode cX5_runScript 21 = .ok (.lconst 0, 1) := by decide +kernel
theorem dX5_runScript_22 : decode cX5_runScript 22 = .ok (.lcmp, 1) := by decide +kernel
theorem dX5_runScript_23 : decode cX5_runScript 23 = .ok (.ifCond .lt 13, 3) := by decide +kernel
theorem dX5_runScript_26 : decode cX5_runScript 26 = .ok (.lload_n 2, 1) := by decide +kernel
theorem dX5_runScript_27 : decode cX5_runScript 27 = .ok (.iload_n 1, 1) := by decide +kernel
theorem dX5_runScript_28 : decode cX5_runScript 28 = .ok (.invokestatic 227, 3) := by decide +kernel
theorem dX5_runScript_31 : decode cX5_runScript 31 = .ok (.lconst 0, 1) := by decide +kernel
theorem dX5_runScript_32 : decode cX5_runScript 32 = .ok (.lcmp, 1) := by decide +kernel
theorem dX5_runScript_33 : decode cX5_runScript 33 = .ok (.ifCond .le 13, 3) := by decide +kernel
theorem dX5_runScript_36 : decode cX5_runScript 36 = .ok (.new 43, 3) := by decide +kernel
theorem dX5_runScript_39 : decode cX5_runScript 39 = .ok (.dup, 1) := by decide +kernel
theorem dX5_runScript_40 : decode cX5_runScript 40 = .ok (.ldc 231, 2) := by decide +kernel
theorem dX5_runScript_42 : decode cX5_runScript 42 = .ok (.invokespecial 47, 3) := by decide +kernel
theorem dX5_runScript_45 : decode cX5_runScript 45 = .ok (.athrow, 1) := by decide +kernel
theorem dX5_runScript_46 : decode cX5_runScript 46 = .ok (.aload_n 0, 1) := by decide +kernel
theorem dX5_runScript_47 : decode cX5_runScript 47 = .ok (.getfield 23, 3) := by decide +kernel
theorem dX5_runScript_50 : decode cX5_runScript 50 = .ok (.aload_n 0, 1) := by decide +kernel
theorem dX5_runScript_51 : decode cX5_runScript 51 = .ok (.getfield 19, 3) := by decide +kernel
theorem dX5_runScript_54 : decode cX5_runScript 54 = .ok (.invokevirtual 233, 3) := by decide +kernel
theorem dX5_runScript_57 : decode cX5_runScript 57 = .ok (.iconst 0, 1) := by decide +kernel
theorem dX5_runScript_58 : decode cX5_runScript 58 = .ok (.istore 4, 2) := by decide +kernel
theorem dX5_runScript_60 : decode cX5_runScript 60 = .ok (.iload 4, 2) := by decide +kernel
theorem dX5_runScript_62 : decode cX5_runScript 62 = .ok (.iload_n 1, 1) := by decide +kernel
theorem dX5_runScript_63 : decode cX5_runScript 63 = .ok (.if_icmp .ge 34, 3) := by decide +kernel
theorem dX5_runScript_66 : decode cX5_runScript 66 = .ok (.aload_n 0, 1) := by decide +kernel
theorem dX5_runScript_67 : decode cX5_runScript 67 = .ok (.lload_n 2, 1) := by decide +kernel
theorem dX5_runScript_68 : decode cX5_runScript 68 = .ok (.iload_n 1, 1) := by decide +kernel
theorem dX5_runScript_69 : decode cX5_runScript 69 = .ok (.iconst 1, 1) := by decide +kernel
theorem dX5_runScript_70 : decode cX5_runScript 70 = .ok (.isub, 1) := by decide +kernel
theorem dX5_runScript_71 : decode cX5_runScript 71 = .ok (.iload 4, 2) := by decide +kernel
theorem dX5_runScript_73 : decode cX5_runScript 73 = .ok (.isub, 1) := by decide +kernel
theorem dX5_runScript_74 : decode cX5_runScript 74 = .ok (.invokestatic 227, 3) := by decide +kernel
theorem dX5_runScript_77 : decode cX5_runScript 77 = .ok (.ldc2_w 236, 3) := by decide +kernel
theorem dX5_runScript_80 : decode cX5_runScript 80 = .ok (.lrem, 1) := by decide +kernel
theorem dX5_runScript_81 : decode cX5_runScript 81 = .ok (.l2i, 1) := by decide +kernel
theorem dX5_runScript_82 : decode cX5_runScript 82 = .ok (.invokevirtual 238, 3) := by decide +kernel
theorem dX5_runScript_85 : decode cX5_runScript 85 = .ok (.ifCond .ne 6, 3) := by decide +kernel
theorem dX5_runScript_88 : decode cX5_runScript 88 = .ok (.iload 4, 2) := by decide +kernel
theorem dX5_runScript_90 : decode cX5_runScript 90 = .ok (.ireturn, 1) := by decide +kernel
theorem dX5_runScript_91 : decode cX5_runScript 91 = .ok (.iinc 4 1, 3) := by decide +kernel
theorem dX5_runScript_94 : decode cX5_runScript 94 = .ok (.goto (-34), 3) := by decide +kernel
theorem dX5_runScript_97 : decode cX5_runScript 97 = .ok (.iconst (-1), 1) := by decide +kernel
theorem dX5_runScript_98 : decode cX5_runScript 98 = .ok (.ireturn, 1) := by decide +kernel
theorem dX5_withoutGroups_0 : decode cX5_withoutGroups 0 = .ok (.lload_n 0, 1) := by decide +kernel
theorem dX5_withoutGroups_1 : decode cX5_withoutGroups 1 = .ok (.lstore_n 3, 1) := by decide +kernel
theorem dX5_withoutGroups_2 : decode cX5_withoutGroups 2 = .ok (.iconst 0, 1) := by decide +kernel
theorem dX5_withoutGroups_3 : decode cX5_withoutGroups 3 = .ok (.istore 5, 2) := by decide +kernel
theorem dX5_withoutGroups_5 : decode cX5_withoutGroups 5 = .ok (.iload 5, 2) := by decide +kernel
theorem dX5_withoutGroups_7 : decode cX5_withoutGroups 7 = .ok (.iload_n 2, 1) := by decide +kernel
theorem dX5_withoutGroups_8 : decode cX5_withoutGroups 8 = .ok (.if_icmp .ge 15, 3) := by decide +kernel
theorem dX5_withoutGroups_11 : decode cX5_withoutGroups 11 = .ok (.lload_n 3, 1) := by decide +kernel
theorem dX5_withoutGroups_12 : decode cX5_withoutGroups 12 = .ok (.ldc2_w 236, 3) := by decide +kernel
theorem dX5_withoutGroups_15 : decode cX5_withoutGroups 15 = .ok (.ldiv, 1) := by decide +kernel
theorem dX5_withoutGroups_16 : decode cX5_withoutGroups 16 = .ok (.lstore_n 3, 1) := by decide +kernel
theorem dX5_withoutGroups_17 : decode cX5_withoutGroups 17 = .ok (.iinc 5 1, 3) := by decide +kernel
theorem dX5_withoutGroups_20 : decode cX5_withoutGroups 20 = .ok (.goto (-15), 3) := by decide +kernel
theorem dX5_withoutGroups_23 : decode cX5_withoutGroups 23 = .ok (.lload_n 3, 1) := by decide +kernel
theorem dX5_withoutGroups_24 : decode cX5_withoutGroups 24 = .ok (.lreturn, 1) := by decide +kernel
theorem dX5_succeeds_0 : decode cX5_succeeds 0 = .ok (.iload_n 1, 1) := by decide +kernel
theorem dX5_succeeds_1 : decode cX5_succeeds 1 = .ok (.bipush 100, 2) := by decide +kernel
theorem dX5_succeeds_3 : decode cX5_succeeds 3 = .ok (.idiv, 1) := by decide +kernel
theorem dX5_succeeds_4 : decode cX5_succeeds 4 = .ok (.bipush 10, 2) := by decide +kernel
theorem dX5_succeeds_6 : decode cX5_succeeds 6 = .ok (.irem, 1) := by decide +kernel
theorem dX5_succeeds_7 : decode cX5_succeeds 7 = .ok (.istore_n 2, 1) := by decide +kernel
theorem dX5_succeeds_8 : decode cX5_succeeds 8 = .ok (.iload_n 1, 1) := by decide +kernel
theorem dX5_succeeds_9 : decode cX5_succeeds 9 = .ok (.bipush 100, 2) := by decide +kernel
theorem dX5_succeeds_11 : decode cX5_succeeds 11 = .ok (.irem, 1) := by decide +kernel
theorem dX5_succeeds_12 : decode cX5_succeeds 12 = .ok (.istore_n 3, 1) := by decide +kernel
theorem dX5_succeeds_13 : decode cX5_succeeds 13 = .ok (.iload_n 1, 1) := by decide +kernel
theorem dX5_succeeds_14 : decode cX5_succeeds 14 = .ok (.sipush 1000, 3) := by decide +kernel
theorem dX5_succeeds_17 : decode cX5_succeeds 17 = .ok (.idiv, 1) := by decide +kernel
theorem dX5_succeeds_18 : decode cX5_succeeds 18 = .ok (.tableswitch 262 1 9 #[50, 61, 93, 117, 141, 168, 189, 214, 238], 50) := by decide +kernel
theorem dX5_succeeds_68 : decode cX5_succeeds 68 = .ok (.aload_n 0, 1) := by decide +kernel
theorem dX5_succeeds_69 : decode cX5_succeeds 69 = .ok (.getfield 23, 3) := by decide +kernel
theorem dX5_succeeds_72 : decode cX5_succeeds 72 = .ok (.iload_n 2, 1) := by decide +kernel
theorem dX5_succeeds_73 : decode cX5_succeeds 73 = .ok (.iload_n 3, 1) := by decide +kernel
theorem dX5_succeeds_74 : decode cX5_succeeds 74 = .ok (.i2l, 1) := by decide +kernel
theorem dX5_succeeds_75 : decode cX5_succeeds 75 = .ok (.invokevirtual 103, 3) := by decide +kernel
theorem dX5_succeeds_78 : decode cX5_succeeds 78 = .ok (.ireturn, 1) := by decide +kernel
theorem dX5_succeeds_79 : decode cX5_succeeds 79 = .ok (.iload_n 2, 1) := by decide +kernel
theorem dX5_succeeds_80 : decode cX5_succeeds 80 = .ok (.iconst 1, 1) := by decide +kernel
theorem dX5_succeeds_81 : decode cX5_succeeds 81 = .ok (.if_icmp .gt 28, 3) := by decide +kernel
theorem dX5_succeeds_84 : decode cX5_succeeds 84 = .ok (.aload_n 0, 1) := by decide +kernel
theorem dX5_succeeds_85 : decode cX5_succeeds 85 = .ok (.getfield 23, 3) := by decide +kernel
theorem dX5_succeeds_88 : decode cX5_succeeds 88 = .ok (.iload_n 3, 1) := by decide +kernel
theorem dX5_succeeds_89 : decode cX5_succeeds 89 = .ok (.iload_n 2, 1) := by decide +kernel
theorem dX5_succeeds_90 : decode cX5_succeeds 90 = .ok (.iconst 1, 1) := by decide +kernel
theorem dX5_succeeds_91 : decode cX5_succeeds 91 = .ok (.if_icmp .ne 7, 3) := by decide +kernel
theorem dX5_succeeds_94 : decode cX5_succeeds 94 = .ok (.iconst 1, 1) := by decide +kernel
theorem dX5_succeeds_95 : decode cX5_succeeds 95 = .ok (.goto 4, 3) := by decide +kernel
theorem dX5_succeeds_98 : decode cX5_succeeds 98 = .ok (.iconst 0, 1) := by decide +kernel
theorem dX5_succeeds_99 : decode cX5_succeeds 99 = .ok (.invokevirtual 107, 3) := by decide +kernel
theorem dX5_succeeds_102 : decode cX5_succeeds 102 = .ok (.ifCond .eq 7, 3) := by decide +kernel
theorem dX5_succeeds_105 : decode cX5_succeeds 105 = .ok (.iconst 1, 1) := by decide +kernel
theorem dX5_succeeds_106 : decode cX5_succeeds 106 = .ok (.goto 4, 3) := by decide +kernel
theorem dX5_succeeds_109 : decode cX5_succeeds 109 = .ok (.iconst 0, 1) := by decide +kernel
theorem dX5_succeeds_110 : decode cX5_succeeds 110 = .ok (.ireturn, 1) := by decide +kernel
theorem dX5_succeeds_111 : decode cX5_succeeds 111 = .ok (.iload_n 1, 1) := by decide +kernel
theorem dX5_succeeds_112 : decode cX5_succeeds 112 = .ok (.sipush 3000, 3) := by decide +kernel
theorem dX5_succeeds_115 : decode cX5_succeeds 115 = .ok (.if_icmp .ne 18, 3) := by decide +kernel
theorem dX5_succeeds_118 : decode cX5_succeeds 118 = .ok (.aload_n 0, 1) := by decide +kernel
theorem dX5_succeeds_119 : decode cX5_succeeds 119 = .ok (.getfield 23, 3) := by decide +kernel
theorem dX5_succeeds_122 : decode cX5_succeeds 122 = .ok (.invokevirtual 111, 3) := by decide +kernel
theorem dX5_succeeds_125 : decode cX5_succeeds 125 = .ok (.iconst (-1), 1) := by decide +kernel
theorem dX5_succeeds_126 : decode cX5_succeeds 126 = .ok (.if_icmp .eq 7, 3) := by decide +kernel
theorem dX5_succeeds_129 : decode cX5_succeeds 129 = .ok (.iconst 1, 1) := by decide +kernel
theorem dX5_succeeds_130 : decode cX5_succeeds 130 = .ok (.goto 4, 3) := by decide +kernel
theorem dX5_succeeds_133 : decode cX5_succeeds 133 = .ok (.iconst 0, 1) := by decide +kernel
theorem dX5_succeeds_134 : decode cX5_succeeds 134 = .ok (.ireturn, 1) := by decide +kernel
theorem dX5_succeeds_135 : decode cX5_succeeds 135 = .ok (.iload_n 1, 1) := by decide +kernel
theorem dX5_succeeds_136 : decode cX5_succeeds 136 = .ok (.sipush 4000, 3) := by decide +kernel
theorem dX5_succeeds_139 : decode cX5_succeeds 139 = .ok (.if_icmp .ne 18, 3) := by decide +kernel
theorem dX5_succeeds_142 : decode cX5_succeeds 142 = .ok (.aload_n 0, 1) := by decide +kernel
theorem dX5_succeeds_143 : decode cX5_succeeds 143 = .ok (.getfield 23, 3) := by decide +kernel
theorem dX5_succeeds_146 : decode cX5_succeeds 146 = .ok (.invokevirtual 114, 3) := by decide +kernel
theorem dX5_succeeds_149 : decode cX5_succeeds 149 = .ok (.iconst (-1), 1) := by decide +kernel
theorem dX5_succeeds_150 : decode cX5_succeeds 150 = .ok (.if_icmp .eq 7, 3) := by decide +kernel
theorem dX5_succeeds_153 : decode cX5_succeeds 153 = .ok (.iconst 1, 1) := by decide +kernel
theorem dX5_succeeds_154 : decode cX5_succeeds 154 = .ok (.goto 4, 3) := by decide +kernel
theorem dX5_succeeds_157 : decode cX5_succeeds 157 = .ok (.iconst 0, 1) := by decide +kernel
theorem dX5_succeeds_158 : decode cX5_succeeds 158 = .ok (.ireturn, 1) := by decide +kernel
theorem dX5_succeeds_159 : decode cX5_succeeds 159 = .ok (.iload_n 2, 1) := by decide +kernel
theorem dX5_succeeds_160 : decode cX5_succeeds 160 = .ok (.ifCond .ne 24, 3) := by decide +kernel
theorem dX5_succeeds_163 : decode cX5_succeeds 163 = .ok (.iload_n 3, 1) := by decide +kernel
theorem dX5_succeeds_164 : decode cX5_succeeds 164 = .ok (.bipush 9, 2) := by decide +kernel
theorem dX5_succeeds_166 : decode cX5_succeeds 166 = .ok (.if_icmp .gt 18, 3) := by decide +kernel
theorem dX5_succeeds_169 : decode cX5_succeeds 169 = .ok (.aload_n 0, 1) := by decide +kernel
theorem dX5_succeeds_170 : decode cX5_succeeds 170 = .ok (.getfield 23, 3) := by decide +kernel
theorem dX5_succeeds_173 : decode cX5_succeeds 173 = .ok (.iload_n 3, 1) := by decide +kernel
theorem dX5_succeeds_174 : decode cX5_succeeds 174 = .ok (.invokevirtual 241, 3) := by decide +kernel
theorem dX5_succeeds_177 : decode cX5_succeeds 177 = .ok (.ifCond .eq 7, 3) := by decide +kernel
theorem dX5_succeeds_180 : decode cX5_succeeds 180 = .ok (.iconst 1, 1) := by decide +kernel
theorem dX5_succeeds_181 : decode cX5_succeeds 181 = .ok (.goto 4, 3) := by decide +kernel
theorem dX5_succeeds_184 : decode cX5_succeeds 184 = .ok (.iconst 0, 1) := by decide +kernel
theorem dX5_succeeds_185 : decode cX5_succeeds 185 = .ok (.ireturn, 1) := by decide +kernel
theorem dX5_succeeds_186 : decode cX5_succeeds 186 = .ok (.iload_n 2, 1) := by decide +kernel
theorem dX5_succeeds_187 : decode cX5_succeeds 187 = .ok (.ifCond .ne 18, 3) := by decide +kernel
theorem dX5_succeeds_190 : decode cX5_succeeds 190 = .ok (.aload_n 0, 1) := by decide +kernel
theorem dX5_succeeds_191 : decode cX5_succeeds 191 = .ok (.getfield 23, 3) := by decide +kernel
theorem dX5_succeeds_194 : decode cX5_succeeds 194 = .ok (.invokevirtual 244, 3) := by decide +kernel
theorem dX5_succeeds_197 : decode cX5_succeeds 197 = .ok (.iload_n 3, 1) := by decide +kernel
theorem dX5_succeeds_198 : decode cX5_succeeds 198 = .ok (.if_icmp .ne 7, 3) := by decide +kernel
theorem dX5_succeeds_201 : decode cX5_succeeds 201 = .ok (.iconst 1, 1) := by decide +kernel
theorem dX5_succeeds_202 : decode cX5_succeeds 202 = .ok (.goto 4, 3) := by decide +kernel
theorem dX5_succeeds_205 : decode cX5_succeeds 205 = .ok (.iconst 0, 1) := by decide +kernel
theorem dX5_succeeds_206 : decode cX5_succeeds 206 = .ok (.ireturn, 1) := by decide +kernel
theorem dX5_succeeds_207 : decode cX5_succeeds 207 = .ok (.iload_n 2, 1) := by decide +kernel
theorem dX5_succeeds_208 : decode cX5_succeeds 208 = .ok (.invokestatic 149, 3) := by decide +kernel
theorem dX5_succeeds_211 : decode cX5_succeeds 211 = .ok (.ifCond .eq 19, 3) := by decide +kernel
theorem dX5_succeeds_214 : decode cX5_succeeds 214 = .ok (.aload_n 0, 1) := by decide +kernel
theorem dX5_succeeds_215 : decode cX5_succeeds 215 = .ok (.getfield 23, 3) := by decide +kernel
theorem dX5_succeeds_218 : decode cX5_succeeds 218 = .ok (.iload_n 2, 1) := by decide +kernel
theorem dX5_succeeds_219 : decode cX5_succeeds 219 = .ok (.invokevirtual 247, 3) := by decide +kernel
theorem dX5_succeeds_222 : decode cX5_succeeds 222 = .ok (.iload_n 3, 1) := by decide +kernel
theorem dX5_succeeds_223 : decode cX5_succeeds 223 = .ok (.if_icmp .gt 7, 3) := by decide +kernel
theorem dX5_succeeds_226 : decode cX5_succeeds 226 = .ok (.iconst 1, 1) := by decide +kernel
theorem dX5_succeeds_227 : decode cX5_succeeds 227 = .ok (.goto 4, 3) := by decide +kernel
theorem dX5_succeeds_230 : decode cX5_succeeds 230 = .ok (.iconst 0, 1) := by decide +kernel
theorem dX5_succeeds_231 : decode cX5_succeeds 231 = .ok (.ireturn, 1) := by decide +kernel
theorem dX5_succeeds_232 : decode cX5_succeeds 232 = .ok (.iload_n 2, 1) := by decide +kernel
theorem dX5_succeeds_233 : decode cX5_succeeds 233 = .ok (.ifCond .ne 21, 3) := by decide +kernel
theorem dX5_succeeds_236 : decode cX5_succeeds 236 = .ok (.aload_n 0, 1) := by decide +kernel
theorem dX5_succeeds_237 : decode cX5_succeeds 237 = .ok (.getfield 23, 3) := by decide +kernel
theorem dX5_succeeds_240 : decode cX5_succeeds 240 = .ok (.invokevirtual 137, 3) := by decide +kernel
theorem dX5_succeeds_243 : decode cX5_succeeds 243 = .ok (.invokevirtual 250, 3) := by decide +kernel
theorem dX5_succeeds_246 : decode cX5_succeeds 246 = .ok (.iload_n 3, 1) := by decide +kernel
theorem dX5_succeeds_247 : decode cX5_succeeds 247 = .ok (.if_icmp .ne 7, 3) := by decide +kernel
theorem dX5_succeeds_250 : decode cX5_succeeds 250 = .ok (.iconst 1, 1) := by decide +kernel
theorem dX5_succeeds_251 : decode cX5_succeeds 251 = .ok (.goto 4, 3) := by decide +kernel
theorem dX5_succeeds_254 : decode cX5_succeeds 254 = .ok (.iconst 0, 1) := by decide +kernel
theorem dX5_succeeds_255 : decode cX5_succeeds 255 = .ok (.ireturn, 1) := by decide +kernel
theorem dX5_succeeds_256 : decode cX5_succeeds 256 = .ok (.iload_n 2, 1) := by decide +kernel
theorem dX5_succeeds_257 : decode cX5_succeeds 257 = .ok (.ifCond .ne 21, 3) := by decide +kernel
theorem dX5_succeeds_260 : decode cX5_succeeds 260 = .ok (.aload_n 0, 1) := by decide +kernel
theorem dX5_succeeds_261 : decode cX5_succeeds 261 = .ok (.getfield 23, 3) := by decide +kernel
theorem dX5_succeeds_264 : decode cX5_succeeds 264 = .ok (.invokevirtual 137, 3) := by decide +kernel
theorem dX5_succeeds_267 : decode cX5_succeeds 267 = .ok (.invokevirtual 141, 3) := by decide +kernel
theorem dX5_succeeds_270 : decode cX5_succeeds 270 = .ok (.iload_n 3, 1) := by decide +kernel
theorem dX5_succeeds_271 : decode cX5_succeeds 271 = .ok (.if_icmp .lt 7, 3) := by decide +kernel
theorem dX5_succeeds_274 : decode cX5_succeeds 274 = .ok (.iconst 1, 1) := by decide +kernel
theorem dX5_succeeds_275 : decode cX5_succeeds 275 = .ok (.goto 4, 3) := by decide +kernel
theorem dX5_succeeds_278 : decode cX5_succeeds 278 = .ok (.iconst 0, 1) := by decide +kernel
theorem dX5_succeeds_279 : decode cX5_succeeds 279 = .ok (.ireturn, 1) := by decide +kernel
theorem dX5_succeeds_280 : decode cX5_succeeds 280 = .ok (.iconst 0, 1) := by decide +kernel
theorem dX5_succeeds_281 : decode cX5_succeeds 281 = .ok (.ireturn, 1) := by decide +kernel
theorem dX5_simulate_0 : decode cX5_simulate 0 = .ok (.iload_n 3, 1) := by decide +kernel
theorem dX5_simulate_1 : decode cX5_simulate 1 = .ok (.iconst 1, 1) := by decide +kernel
theorem dX5_simulate_2 : decode cX5_simulate 2 = .ok (.if_icmp .lt 10, 3) := by decide +kernel
theorem dX5_simulate_5 : decode cX5_simulate 5 = .ok (.iload_n 3, 1) := by decide +kernel
theorem dX5_simulate_6 : decode cX5_simulate 6 = .ok (.sipush 200, 3) := by decide +kernel
theorem dX5_simulate_9 : decode cX5_simulate 9 = .ok (.if_icmp .le 13, 3) := by decide +kernel
theorem dX5_simulate_12 : decode cX5_simulate 12 = .ok (.new 43, 3) := by decide +kernel
theorem dX5_simulate_15 : decode cX5_simulate 15 = .ok (.dup, 1) := by decide +kernel
theorem dX5_simulate_16 : decode cX5_simulate 16 = .ok (.ldc 253, 2) := by decide +kernel
theorem dX5_simulate_18 : decode cX5_simulate 18 = .ok (.invokespecial 47, 3) := by decide +kernel
theorem dX5_simulate_21 : decode cX5_simulate 21 = .ok (.athrow, 1) := by decide +kernel
theorem dX5_simulate_22 : decode cX5_simulate 22 = .ok (.aload_n 0, 1) := by decide +kernel
theorem dX5_simulate_23 : decode cX5_simulate 23 = .ok (.getfield 23, 3) := by decide +kernel
theorem dX5_simulate_26 : decode cX5_simulate 26 = .ok (.aload_n 0, 1) := by decide +kernel
theorem dX5_simulate_27 : decode cX5_simulate 27 = .ok (.getfield 19, 3) := by decide +kernel
theorem dX5_simulate_30 : decode cX5_simulate 30 = .ok (.invokevirtual 233, 3) := by decide +kernel
theorem dX5_simulate_33 : decode cX5_simulate 33 = .ok (.lload_n 1, 1) := by decide +kernel
theorem dX5_simulate_34 : decode cX5_simulate 34 = .ok (.lstore 4, 2) := by decide +kernel
theorem dX5_simulate_36 : decode cX5_simulate 36 = .ok (.iconst 0, 1) := by decide +kernel
theorem dX5_simulate_37 : decode cX5_simulate 37 = .ok (.istore 6, 2) := by decide +kernel
theorem dX5_simulate_39 : decode cX5_simulate 39 = .ok (.iload 6, 2) := by decide +kernel
theorem dX5_simulate_41 : decode cX5_simulate 41 = .ok (.iload_n 3, 1) := by decide +kernel
theorem dX5_simulate_42 : decode cX5_simulate 42 = .ok (.if_icmp .ge 31, 3) := by decide +kernel
theorem dX5_simulate_45 : decode cX5_simulate 45 = .ok (.lload 4, 2) := by decide +kernel
theorem dX5_simulate_47 : decode cX5_simulate 47 = .ok (.ldc2_w 255, 3) := by decide +kernel
theorem dX5_simulate_50 : decode cX5_simulate 50 = .ok (.lmul, 1) := by decide +kernel
theorem dX5_simulate_51 : decode cX5_simulate 51 = .ok (.ldc2_w 257, 3) := by decide +kernel
theorem dX5_simulate_54 : decode cX5_simulate 54 = .ok (.ladd, 1) := by decide +kernel
theorem dX5_simulate_55 : decode cX5_simulate 55 = .ok (.lstore 4, 2) := by decide +kernel
theorem dX5_simulate_57 : decode cX5_simulate 57 = .ok (.aload_n 0, 1) := by decide +kernel
theorem dX5_simulate_58 : decode cX5_simulate 58 = .ok (.lload 4, 2) := by decide +kernel
theorem dX5_simulate_60 : decode cX5_simulate 60 = .ok (.bipush 33, 2) := by decide +kernel
theorem dX5_simulate_62 : decode cX5_simulate 62 = .ok (.lushr, 1) := by decide +kernel
theorem dX5_simulate_63 : decode cX5_simulate 63 = .ok (.l2i, 1) := by decide +kernel
theorem dX5_simulate_64 : decode cX5_simulate 64 = .ok (.invokevirtual 259, 3) := by decide +kernel
theorem dX5_simulate_67 : decode cX5_simulate 67 = .ok (.iinc 6 1, 3) := by decide +kernel
theorem dX5_simulate_70 : decode cX5_simulate 70 = .ok (.goto (-31), 3) := by decide +kernel
theorem dX5_simulate_73 : decode cX5_simulate 73 = .ok (.aload_n 0, 1) := by decide +kernel
theorem dX5_simulate_74 : decode cX5_simulate 74 = .ok (.getfield 23, 3) := by decide +kernel
theorem dX5_simulate_77 : decode cX5_simulate 77 = .ok (.invokevirtual 182, 3) := by decide +kernel
theorem dX5_simulate_80 : decode cX5_simulate 80 = .ok (.aload_n 0, 1) := by decide +kernel
theorem dX5_simulate_81 : decode cX5_simulate 81 = .ok (.getfield 19, 3) := by decide +kernel
theorem dX5_simulate_84 : decode cX5_simulate 84 = .ok (.invokevirtual 182, 3) := by decide +kernel
theorem dX5_simulate_87 : decode cX5_simulate 87 = .ok (.isub, 1) := by decide +kernel
theorem dX5_simulate_88 : decode cX5_simulate 88 = .ok (.istore 6, 2) := by decide +kernel
theorem dX5_simulate_90 : decode cX5_simulate 90 = .ok (.sipush 10000, 3) := by decide +kernel
theorem dX5_simulate_93 : decode cX5_simulate 93 = .ok (.iload 6, 2) := by decide +kernel
theorem dX5_simulate_95 : decode cX5_simulate 95 = .ok (.imul, 1) := by decide +kernel
theorem dX5_simulate_96 : decode cX5_simulate 96 = .ok (.bipush 100, 2) := by decide +kernel
theorem dX5_simulate_98 : decode cX5_simulate 98 = .ok (.aload_n 0, 1) := by decide +kernel
theorem dX5_simulate_99 : decode cX5_simulate 99 = .ok (.getfield 23, 3) := by decide +kernel
theorem dX5_simulate_102 : decode cX5_simulate 102 = .ok (.invokevirtual 137, 3) := by decide +kernel
theorem dX5_simulate_105 : decode cX5_simulate 105 = .ok (.invokevirtual 141, 3) := by decide +kernel
theorem dX5_simulate_108 : decode cX5_simulate 108 = .ok (.imul, 1) := by decide +kernel
theorem dX5_simulate_109 : decode cX5_simulate 109 = .ok (.iadd, 1) := by decide +kernel
theorem dX5_simulate_110 : decode cX5_simulate 110 = .ok (.aload_n 0, 1) := by decide +kernel
theorem dX5_simulate_111 : decode cX5_simulate 111 = .ok (.getfield 23, 3) := by decide +kernel
theorem dX5_simulate_114 : decode cX5_simulate 114 = .ok (.invokevirtual 263, 3) := by decide +kernel
theorem dX5_simulate_117 : decode cX5_simulate 117 = .ok (.iadd, 1) := by decide +kernel
theorem dX5_simulate_118 : decode cX5_simulate 118 = .ok (.ireturn, 1) := by decide +kernel
theorem dX5_simulateTurn_0 : decode cX5_simulateTurn 0 = .ok (.iload_n 1, 1) := by decide +kernel
theorem dX5_simulateTurn_1 : decode cX5_simulateTurn 1 = .ok (.bipush 16, 2) := by decide +kernel
theorem dX5_simulateTurn_3 : decode cX5_simulateTurn 3 = .ok (.idiv, 1) := by decide +kernel
theorem dX5_simulateTurn_4 : decode cX5_simulateTurn 4 = .ok (.istore_n 2, 1) := by decide +kernel
theorem dX5_simulateTurn_5 : decode cX5_simulateTurn 5 = .ok (.aload_n 0, 1) := by decide +kernel
theorem dX5_simulateTurn_6 : decode cX5_simulateTurn 6 = .ok (.getfield 23, 3) := by decide +kernel
theorem dX5_simulateTurn_9 : decode cX5_simulateTurn 9 = .ok (.invokevirtual 185, 3) := by decide +kernel
theorem dX5_simulateTurn_12 : decode cX5_simulateTurn 12 = .ok (.ifCond .ne 19, 3) := by decide +kernel
theorem dX5_simulateTurn_15 : decode cX5_simulateTurn 15 = .ok (.aload_n 0, 1) := by decide +kernel
theorem dX5_simulateTurn_16 : decode cX5_simulateTurn 16 = .ok (.getfield 23, 3) := by decide +kernel
theorem dX5_simulateTurn_19 : decode cX5_simulateTurn 19 = .ok (.iconst 2, 1) := by decide +kernel
theorem dX5_simulateTurn_20 : decode cX5_simulateTurn 20 = .ok (.iload_n 2, 1) := by decide +kernel
theorem dX5_simulateTurn_21 : decode cX5_simulateTurn 21 = .ok (.iconst 3, 1) := by decide +kernel
theorem dX5_simulateTurn_22 : decode cX5_simulateTurn 22 = .ok (.irem, 1) := by decide +kernel
theorem dX5_simulateTurn_23 : decode cX5_simulateTurn 23 = .ok (.iadd, 1) := by decide +kernel
theorem dX5_simulateTurn_24 : decode cX5_simulateTurn 24 = .ok (.iload_n 2, 1) := by decide +kernel
theorem dX5_simulateTurn_25 : decode cX5_simulateTurn 25 = .ok (.i2l, 1) := by decide +kernel
theorem dX5_simulateTurn_26 : decode cX5_simulateTurn 26 = .ok (.invokevirtual 103, 3) := by decide +kernel
theorem dX5_simulateTurn_29 : decode cX5_simulateTurn 29 = .ok (.pop, 1) := by decide +kernel
theorem dX5_simulateTurn_30 : decode cX5_simulateTurn 30 = .ok (.return_, 1) := by decide +kernel
theorem dX5_simulateTurn_31 : decode cX5_simulateTurn 31 = .ok (.aload_n 0, 1) := by decide +kernel
theorem dX5_simulateTurn_32 : decode cX5_simulateTurn 32 = .ok (.getfield 23, 3) := by decide +kernel
theorem dX5_simulateTurn_35 : decode cX5_simulateTurn 35 = .ok (.invokevirtual 214, 3) := by decide +kernel
theorem dX5_simulateTurn_38 : decode cX5_simulateTurn 38 = .ok (.istore_n 3, 1) := by decide +kernel
theorem dX5_simulateTurn_39 : decode cX5_simulateTurn 39 = .ok (.iload_n 3, 1) := by decide +kernel
theorem dX5_simulateTurn_40 : decode cX5_simulateTurn 40 = .ok (.invokestatic 266, 3) := by decide +kernel
theorem dX5_simulateTurn_43 : decode cX5_simulateTurn 43 = .ok (.istore 4, 2) := by decide +kernel
theorem dX5_simulateTurn_45 : decode cX5_simulateTurn 45 = .ok (.iload 4, 2) := by decide +kernel
theorem dX5_simulateTurn_47 : decode cX5_simulateTurn 47 = .ok (.ifCond .le 37, 3) := by decide +kernel
theorem dX5_simulateTurn_50 : decode cX5_simulateTurn 50 = .ok (.aload_n 0, 1) := by decide +kernel
theorem dX5_simulateTurn_51 : decode cX5_simulateTurn 51 = .ok (.getfield 23, 3) := by decide +kernel
theorem dX5_simulateTurn_54 : decode cX5_simulateTurn 54 = .ok (.iload_n 3, 1) := by decide +kernel
theorem dX5_simulateTurn_55 : decode cX5_simulateTurn 55 = .ok (.iload_n 1, 1) := by decide +kernel
theorem dX5_simulateTurn_56 : decode cX5_simulateTurn 56 = .ok (.bipush 16, 2) := by decide +kernel
theorem dX5_simulateTurn_58 : decode cX5_simulateTurn 58 = .ok (.irem, 1) := by decide +kernel
theorem dX5_simulateTurn_59 : decode cX5_simulateTurn 59 = .ok (.iload 4, 2) := by decide +kernel
theorem dX5_simulateTurn_61 : decode cX5_simulateTurn 61 = .ok (.irem, 1) := by decide +kernel
theorem dX5_simulateTurn_62 : decode cX5_simulateTurn 62 = .ok (.invokestatic 271, 3) := by decide +kernel
theorem dX5_simulateTurn_65 : decode cX5_simulateTurn 65 = .ok (.iload_n 2, 1) := by decide +kernel
theorem dX5_simulateTurn_66 : decode cX5_simulateTurn 66 = .ok (.iconst 2, 1) := by decide +kernel
theorem dX5_simulateTurn_67 : decode cX5_simulateTurn 67 = .ok (.irem, 1) := by decide +kernel
theorem dX5_simulateTurn_68 : decode cX5_simulateTurn 68 = .ok (.iconst 1, 1) := by decide +kernel
theorem dX5_simulateTurn_69 : decode cX5_simulateTurn 69 = .ok (.if_icmp .ne 7, 3) := by decide +kernel
theorem dX5_simulateTurn_72 : decode cX5_simulateTurn 72 = .ok (.iconst 1, 1) := by decide +kernel
theorem dX5_simulateTurn_73 : decode cX5_simulateTurn 73 = .ok (.goto 4, 3) := by decide +kernel
theorem dX5_simulateTurn_76 : decode cX5_simulateTurn 76 = .ok (.iconst 0, 1) := by decide +kernel
theorem dX5_simulateTurn_77 : decode cX5_simulateTurn 77 = .ok (.invokevirtual 107, 3) := by decide +kernel
theorem dX5_simulateTurn_80 : decode cX5_simulateTurn 80 = .ok (.pop, 1) := by decide +kernel
theorem dX5_simulateTurn_81 : decode cX5_simulateTurn 81 = .ok (.goto 32, 3) := by decide +kernel
theorem dX5_simulateTurn_84 : decode cX5_simulateTurn 84 = .ok (.aload_n 0, 1) := by decide +kernel
theorem dX5_simulateTurn_85 : decode cX5_simulateTurn 85 = .ok (.getfield 23, 3) := by decide +kernel
theorem dX5_simulateTurn_88 : decode cX5_simulateTurn 88 = .ok (.invokevirtual 194, 3) := by decide +kernel
theorem dX5_simulateTurn_91 : decode cX5_simulateTurn 91 = .ok (.ifCond .eq 14, 3) := by decide +kernel
theorem dX5_simulateTurn_94 : decode cX5_simulateTurn 94 = .ok (.aload_n 0, 1) := by decide +kernel
theorem dX5_simulateTurn_95 : decode cX5_simulateTurn 95 = .ok (.getfield 23, 3) := by decide +kernel
theorem dX5_simulateTurn_98 : decode cX5_simulateTurn 98 = .ok (.invokevirtual 111, 3) := by decide +kernel
theorem dX5_simulateTurn_101 : decode cX5_simulateTurn 101 = .ok (.pop, 1) := by decide +kernel
theorem dX5_simulateTurn_102 : decode cX5_simulateTurn 102 = .ok (.goto 11, 3) := by decide +kernel
theorem dX5_simulateTurn_105 : decode cX5_simulateTurn 105 = .ok (.aload_n 0, 1) := by decide +kernel
theorem dX5_simulateTurn_106 : decode cX5_simulateTurn 106 = .ok (.getfield 23, 3) := by decide +kernel
theorem dX5_simulateTurn_109 : decode cX5_simulateTurn 109 = .ok (.invokevirtual 114, 3) := by decide +kernel
theorem dX5_simulateTurn_112 : decode cX5_simulateTurn 112 = .ok (.pop, 1) := by decide +kernel
theorem dX5_simulateTurn_113 : decode cX5_simulateTurn 113 = .ok (.return_, 1) := by decide +kernel
theorem dX5_memberOf_0 : decode cX5_memberOf 0 = .ok (.iload_n 1, 1) := by decide +kernel
theorem dX5_memberOf_1 : decode cX5_memberOf 1 = .ok (.istore_n 2, 1) := by decide +kernel
theorem dX5_memberOf_2 : decode cX5_memberOf 2 = .ok (.iconst 0, 1) := by decide +kernel
theorem dX5_memberOf_3 : decode cX5_memberOf 3 = .ok (.istore_n 3, 1) := by decide +kernel
theorem dX5_memberOf_4 : decode cX5_memberOf 4 = .ok (.iload_n 3, 1) := by decide +kernel
theorem dX5_memberOf_5 : decode cX5_memberOf 5 = .ok (.bipush 28, 2) := by decide +kernel
theorem dX5_memberOf_7 : decode cX5_memberOf 7 = .ok (.if_icmp .ge 26, 3) := by decide +kernel
theorem dX5_memberOf_10 : decode cX5_memberOf 10 = .ok (.iload_n 0, 1) := by decide +kernel
theorem dX5_memberOf_11 : decode cX5_memberOf 11 = .ok (.iload_n 3, 1) := by decide +kernel
theorem dX5_memberOf_12 : decode cX5_memberOf 12 = .ok (.iushr, 1) := by decide +kernel
theorem dX5_memberOf_13 : decode cX5_memberOf 13 = .ok (.iconst 1, 1) := by decide +kernel
theorem dX5_memberOf_14 : decode cX5_memberOf 14 = .ok (.iand, 1) := by decide +kernel
theorem dX5_memberOf_15 : decode cX5_memberOf 15 = .ok (.ifCond .eq 12, 3) := by decide +kernel
theorem dX5_memberOf_18 : decode cX5_memberOf 18 = .ok (.iload_n 2, 1) := by decide +kernel
theorem dX5_memberOf_19 : decode cX5_memberOf 19 = .ok (.ifCond .ne 5, 3) := by decide +kernel
theorem dX5_memberOf_22 : decode cX5_memberOf 22 = .ok (.iload_n 3, 1) := by decide +kernel
theorem dX5_memberOf_23 : decode cX5_memberOf 23 = .ok (.ireturn, 1) := by decide +kernel
theorem dX5_memberOf_24 : decode cX5_memberOf 24 = .ok (.iinc 2 (-1), 3) := by decide +kernel
theorem dX5_memberOf_27 : decode cX5_memberOf 27 = .ok (.iinc 3 1, 3) := by decide +kernel
theorem dX5_memberOf_30 : decode cX5_memberOf 30 = .ok (.goto (-26), 3) := by decide +kernel
theorem dX5_memberOf_33 : decode cX5_memberOf 33 = .ok (.iconst (-1), 1) := by decide +kernel
theorem dX5_memberOf_34 : decode cX5_memberOf 34 = .ok (.ireturn, 1) := by decide +kernel
theorem dX5_save_0 : decode cX5_save 0 = .ok (.iload_n 1, 1) := by decide +kernel
theorem dX5_save_1 : decode cX5_save 1 = .ok (.ifCond .lt 8, 3) := by decide +kernel
theorem dX5_save_4 : decode cX5_save 4 = .ok (.iload_n 1, 1) := by decide +kernel
theorem dX5_save_5 : decode cX5_save 5 = .ok (.iconst 2, 1) := by decide +kernel
theorem dX5_save_6 : decode cX5_save 6 = .ok (.if_icmp .lt 14, 3) := by decide +kernel
theorem dX5_save_9 : decode cX5_save 9 = .ok (.new 128, 3) := by decide +kernel
theorem dX5_save_12 : decode cX5_save 12 = .ok (.dup, 1) := by decide +kernel
theorem dX5_save_13 : decode cX5_save 13 = .ok (.ldc_w 274, 3) := by decide +kernel
theorem dX5_save_16 : decode cX5_save 16 = .ok (.invokespecial 132, 3) := by decide +kernel
theorem dX5_save_19 : decode cX5_save 19 = .ok (.athrow, 1) := by decide +kernel
theorem dX5_save_20 : decode cX5_save 20 = .ok (.aload_n 0, 1) := by decide +kernel
theorem dX5_save_21 : decode cX5_save 21 = .ok (.iload_n 1, 1) := by decide +kernel
theorem dX5_save_22 : decode cX5_save 22 = .ok (.invokevirtual 276, 3) := by decide +kernel
theorem dX5_save_25 : decode cX5_save 25 = .ok (.aload_n 0, 1) := by decide +kernel
theorem dX5_save_26 : decode cX5_save 26 = .ok (.getfield 19, 3) := by decide +kernel
theorem dX5_save_29 : decode cX5_save 29 = .ok (.invokevirtual 280, 3) := by decide +kernel
theorem dX5_save_32 : decode cX5_save 32 = .ok (.aload_n 0, 1) := by decide +kernel
theorem dX5_save_33 : decode cX5_save 33 = .ok (.getfield 19, 3) := by decide +kernel
theorem dX5_save_36 : decode cX5_save 36 = .ok (.invokevirtual 182, 3) := by decide +kernel
theorem dX5_save_39 : decode cX5_save 39 = .ok (.ireturn, 1) := by decide +kernel
theorem dX5_restore_0 : decode cX5_restore 0 = .ok (.iload_n 1, 1) := by decide +kernel
theorem dX5_restore_1 : decode cX5_restore 1 = .ok (.ifCond .lt 8, 3) := by decide +kernel
theorem dX5_restore_4 : decode cX5_restore 4 = .ok (.iload_n 1, 1) := by decide +kernel
theorem dX5_restore_5 : decode cX5_restore 5 = .ok (.iconst 2, 1) := by decide +kernel
theorem dX5_restore_6 : decode cX5_restore 6 = .ok (.if_icmp .lt 14, 3) := by decide +kernel
theorem dX5_restore_9 : decode cX5_restore 9 = .ok (.new 128, 3) := by decide +kernel
theorem dX5_restore_12 : decode cX5_restore 12 = .ok (.dup, 1) := by decide +kernel
theorem dX5_restore_13 : decode cX5_restore 13 = .ok (.ldc_w 274, 3) := by decide +kernel
theorem dX5_restore_16 : decode cX5_restore 16 = .ok (.invokespecial 132, 3) := by decide +kernel
theorem dX5_restore_19 : decode cX5_restore 19 = .ok (.athrow, 1) := by decide +kernel
theorem dX5_restore_20 : decode cX5_restore 20 = .ok (.aload_n 0, 1) := by decide +kernel
theorem dX5_restore_21 : decode cX5_restore 21 = .ok (.iload_n 1, 1) := by decide +kernel
theorem dX5_restore_22 : decode cX5_restore 22 = .ok (.invokevirtual 276, 3) := by decide +kernel
theorem dX5_restore_25 : decode cX5_restore 25 = .ok (.invokevirtual 283, 3) := by decide +kernel
theorem dX5_restore_28 : decode cX5_restore 28 = .ok (.ifCond .ne 14, 3) := by decide +kernel
theorem dX5_restore_31 : decode cX5_restore 31 = .ok (.new 54, 3) := by decide +kernel
theorem dX5_restore_34 : decode cX5_restore 34 = .ok (.dup, 1) := by decide +kernel
theorem dX5_restore_35 : decode cX5_restore 35 = .ok (.ldc_w 284, 3) := by decide +kernel
theorem dX5_restore_38 : decode cX5_restore 38 = .ok (.invokespecial 58, 3) := by decide +kernel
theorem dX5_restore_41 : decode cX5_restore 41 = .ok (.athrow, 1) := by decide +kernel
theorem dX5_restore_42 : decode cX5_restore 42 = .ok (.aload_n 0, 1) := by decide +kernel
theorem dX5_restore_43 : decode cX5_restore 43 = .ok (.iload_n 1, 1) := by decide +kernel
theorem dX5_restore_44 : decode cX5_restore 44 = .ok (.invokevirtual 276, 3) := by decide +kernel
theorem dX5_restore_47 : decode cX5_restore 47 = .ok (.aload_n 0, 1) := by decide +kernel
theorem dX5_restore_48 : decode cX5_restore 48 = .ok (.getfield 19, 3) := by decide +kernel
theorem dX5_restore_51 : decode cX5_restore 51 = .ok (.invokevirtual 286, 3) := by decide +kernel
theorem dX5_restore_54 : decode cX5_restore 54 = .ok (.aload_n 0, 1) := by decide +kernel
theorem dX5_restore_55 : decode cX5_restore 55 = .ok (.getfield 29, 3) := by decide +kernel
theorem dX5_restore_58 : decode cX5_restore 58 = .ok (.invokevirtual 75, 3) := by decide +kernel
theorem dX5_restore_61 : decode cX5_restore 61 = .ok (.aload_n 0, 1) := by decide +kernel
theorem dX5_restore_62 : decode cX5_restore 62 = .ok (.getfield 19, 3) := by decide +kernel
theorem dX5_restore_65 : decode cX5_restore 65 = .ok (.invokevirtual 182, 3) := by decide +kernel
theorem dX5_restore_68 : decode cX5_restore 68 = .ok (.ireturn, 1) := by decide +kernel
theorem dX5_slotOf_0 : decode cX5_slotOf 0 = .ok (.iload_n 1, 1) := by decide +kernel
theorem dX5_slotOf_1 : decode cX5_slotOf 1 = .ok (.ifCond .ne 10, 3) := by decide +kernel
theorem dX5_slotOf_4 : decode cX5_slotOf 4 = .ok (.aload_n 0, 1) := by decide +kernel
theorem dX5_slotOf_5 : decode cX5_slotOf 5 = .ok (.getfield 36, 3) := by decide +kernel
theorem dX5_slotOf_8 : decode cX5_slotOf 8 = .ok (.goto 7, 3) := by decide +kernel
theorem dX5_slotOf_11 : decode cX5_slotOf 11 = .ok (.aload_n 0, 1) := by decide +kernel
theorem dX5_slotOf_12 : decode cX5_slotOf 12 = .ok (.getfield 40, 3) := by decide +kernel
theorem dX5_slotOf_15 : decode cX5_slotOf 15 = .ok (.areturn, 1) := by decide +kernel
theorem dX5_isTile_0 : decode cX5_isTile 0 = .ok (.iload_n 0, 1) := by decide +kernel
theorem dX5_isTile_1 : decode cX5_isTile 1 = .ok (.ifCond .lt 13, 3) := by decide +kernel
theorem dX5_isTile_4 : decode cX5_isTile 4 = .ok (.iload_n 0, 1) := by decide +kernel
theorem dX5_isTile_5 : decode cX5_isTile 5 = .ok (.bipush 28, 2) := by decide +kernel
theorem dX5_isTile_7 : decode cX5_isTile 7 = .ok (.if_icmp .ge 7, 3) := by decide +kernel
theorem dX5_isTile_10 : decode cX5_isTile 10 = .ok (.iconst 1, 1) := by decide +kernel
theorem dX5_isTile_11 : decode cX5_isTile 11 = .ok (.goto 4, 3) := by decide +kernel
theorem dX5_isTile_14 : decode cX5_isTile 14 = .ok (.iconst 0, 1) := by decide +kernel
theorem dX5_isTile_15 : decode cX5_isTile 15 = .ok (.ireturn, 1) := by decide +kernel
theorem dX5_isPlayer_0 : decode cX5_isPlayer 0 = .ok (.iload_n 0, 1) := by decide +kernel
theorem dX5_isPlayer_1 : decode cX5_isPlayer 1 = .ok (.ifCond .lt 12, 3) := by decide +kernel
theorem dX5_isPlayer_4 : decode cX5_isPlayer 4 = .ok (.iload_n 0, 1) := by decide +kernel
theorem dX5_isPlayer_5 : decode cX5_isPlayer 5 = .ok (.iconst 4, 1) := by decide +kernel
theorem dX5_isPlayer_6 : decode cX5_isPlayer 6 = .ok (.if_icmp .ge 7, 3) := by decide +kernel
theorem dX5_isPlayer_9 : decode cX5_isPlayer 9 = .ok (.iconst 1, 1) := by decide +kernel
theorem dX5_isPlayer_10 : decode cX5_isPlayer 10 = .ok (.goto 4, 3) := by decide +kernel
theorem dX5_isPlayer_13 : decode cX5_isPlayer 13 = .ok (.iconst 0, 1) := by decide +kernel
theorem dX5_isPlayer_14 : decode cX5_isPlayer 14 = .ok (.ireturn, 1) := by decide +kernel
theorem dX5_isNumberOfPlayers_0 : decode cX5_isNumberOfPlayers 0 = .ok (.iload_n 0, 1) := by decide +kernel
theorem dX5_isNumberOfPlayers_1 : decode cX5_isNumberOfPlayers 1 = .ok (.iconst 2, 1) := by decide +kernel
theorem dX5_isNumberOfPlayers_2 : decode cX5_isNumberOfPlayers 2 = .ok (.if_icmp .lt 12, 3) := by decide +kernel
theorem dX5_isNumberOfPlayers_5 : decode cX5_isNumberOfPlayers 5 = .ok (.iload_n 0, 1) := by decide +kernel
theorem dX5_isNumberOfPlayers_6 : decode cX5_isNumberOfPlayers 6 = .ok (.iconst 4, 1) := by decide +kernel
theorem dX5_isNumberOfPlayers_7 : decode cX5_isNumberOfPlayers 7 = .ok (.if_icmp .gt 7, 3) := by decide +kernel
theorem dX5_isNumberOfPlayers_10 : decode cX5_isNumberOfPlayers 10 = .ok (.iconst 1, 1) := by decide +kernel
theorem dX5_isNumberOfPlayers_11 : decode cX5_isNumberOfPlayers 11 = .ok (.goto 4, 3) := by decide +kernel
theorem dX5_isNumberOfPlayers_14 : decode cX5_isNumberOfPlayers 14 = .ok (.iconst 0, 1) := by decide +kernel
theorem dX5_isNumberOfPlayers_15 : decode cX5_isNumberOfPlayers 15 = .ok (.ireturn, 1) := by decide +kernel
theorem dX5_isCell_0 : decode cX5_isCell 0 = .ok (.iload_n 0, 1) := by decide +kernel
theorem dX5_isCell_1 : decode cX5_isCell 1 = .ok (.ifCond .lt 23, 3) := by decide +kernel
theorem dX5_isCell_4 : decode cX5_isCell 4 = .ok (.iload_n 0, 1) := by decide +kernel
theorem dX5_isCell_5 : decode cX5_isCell 5 = .ok (.bipush 25, 2) := by decide +kernel
theorem dX5_isCell_7 : decode cX5_isCell 7 = .ok (.if_icmp .ge 17, 3) := by decide +kernel
theorem dX5_isCell_10 : decode cX5_isCell 10 = .ok (.iload_n 1, 1) := by decide +kernel
theorem dX5_isCell_11 : decode cX5_isCell 11 = .ok (.ifCond .lt 13, 3) := by decide +kernel
theorem dX5_isCell_14 : decode cX5_isCell 14 = .ok (.iload_n 1, 1) := by decide +kernel
theorem dX5_isCell_15 : decode cX5_isCell 15 = .ok (.bipush 25, 2) := by decide +kernel
theorem dX5_isCell_17 : decode cX5_isCell 17 = .ok (.if_icmp .ge 7, 3) := by decide +kernel
theorem dX5_isCell_20 : decode cX5_isCell 20 = .ok (.iconst 1, 1) := by decide +kernel
theorem dX5_isCell_21 : decode cX5_isCell 21 = .ok (.goto 4, 3) := by decide +kernel
theorem dX5_isCell_24 : decode cX5_isCell 24 = .ok (.iconst 0, 1) := by decide +kernel
theorem dX5_isCell_25 : decode cX5_isCell 25 = .ok (.ireturn, 1) := by decide +kernel
theorem dX5_lowOf_0 : decode cX5_lowOf 0 = .ok (.iload_n 0, 1) := by decide +kernel
theorem dX5_lowOf_1 : decode cX5_lowOf 1 = .ok (.ifCond .lt 17, 3) := by decide +kernel
theorem dX5_lowOf_4 : decode cX5_lowOf 4 = .ok (.iload_n 0, 1) := by decide +kernel
theorem dX5_lowOf_5 : decode cX5_lowOf 5 = .ok (.bipush 28, 2) := by decide +kernel
theorem dX5_lowOf_7 : decode cX5_lowOf 7 = .ok (.if_icmp .ge 11, 3) := by decide +kernel
theorem dX5_lowOf_10 : decode cX5_lowOf 10 = .ok (.getstatic 289, 3) := by decide +kernel
theorem dX5_lowOf_13 : decode cX5_lowOf 13 = .ok (.iload_n 0, 1) := by decide +kernel
theorem dX5_lowOf_14 : decode cX5_lowOf 14 = .ok (.iaload, 1) := by decide +kernel
theorem dX5_lowOf_15 : decode cX5_lowOf 15 = .ok (.goto 4, 3) := by decide +kernel
theorem dX5_lowOf_18 : decode cX5_lowOf 18 = .ok (.iconst 0, 1) := by decide +kernel
theorem dX5_lowOf_19 : decode cX5_lowOf 19 = .ok (.ireturn, 1) := by decide +kernel
theorem dX5_highOf_0 : decode cX5_highOf 0 = .ok (.iload_n 0, 1) := by decide +kernel
theorem dX5_highOf_1 : decode cX5_highOf 1 = .ok (.ifCond .lt 17, 3) := by decide +kernel
theorem dX5_highOf_4 : decode cX5_highOf 4 = .ok (.iload_n 0, 1) := by decide +kernel
theorem dX5_highOf_5 : decode cX5_highOf 5 = .ok (.bipush 28, 2) := by decide +kernel
theorem dX5_highOf_7 : decode cX5_highOf 7 = .ok (.if_icmp .ge 11, 3) := by decide +kernel
theorem dX5_highOf_10 : decode cX5_highOf 10 = .ok (.getstatic 293, 3) := by decide +kernel
theorem dX5_highOf_13 : decode cX5_highOf 13 = .ok (.iload_n 0, 1) := by decide +kernel
theorem dX5_highOf_14 : decode cX5_highOf 14 = .ok (.iaload, 1) := by decide +kernel
theorem dX5_highOf_15 : decode cX5_highOf 15 = .ok (.goto 4, 3) := by decide +kernel
theorem dX5_highOf_18 : decode cX5_highOf 18 = .ok (.iconst 0, 1) := by decide +kernel
theorem dX5_highOf_19 : decode cX5_highOf 19 = .ok (.ireturn, 1) := by decide +kernel
theorem dX5_pipsOn_0 : decode cX5_pipsOn 0 = .ok (.iload_n 0, 1) := by decide +kernel
theorem dX5_pipsOn_1 : decode cX5_pipsOn 1 = .ok (.ifCond .lt 23, 3) := by decide +kernel
theorem dX5_pipsOn_4 : decode cX5_pipsOn 4 = .ok (.iload_n 0, 1) := by decide +kernel
theorem dX5_pipsOn_5 : decode cX5_pipsOn 5 = .ok (.bipush 28, 2) := by decide +kernel
theorem dX5_pipsOn_7 : decode cX5_pipsOn 7 = .ok (.if_icmp .ge 17, 3) := by decide +kernel
theorem dX5_pipsOn_10 : decode cX5_pipsOn 10 = .ok (.getstatic 289, 3) := by decide +kernel
theorem dX5_pipsOn_13 : decode cX5_pipsOn 13 = .ok (.iload_n 0, 1) := by decide +kernel
theorem dX5_pipsOn_14 : decode cX5_pipsOn 14 = .ok (.iaload, 1) := by decide +kernel
theorem dX5_pipsOn_15 : decode cX5_pipsOn 15 = .ok (.getstatic 293, 3) := by decide +kernel
theorem dX5_pipsOn_18 : decode cX5_pipsOn 18 = .ok (.iload_n 0, 1) := by decide +kernel
theorem dX5_pipsOn_19 : decode cX5_pipsOn 19 = .ok (.iaload, 1) := by decide +kernel
theorem dX5_pipsOn_20 : decode cX5_pipsOn 20 = .ok (.iadd, 1) := by decide +kernel
theorem dX5_pipsOn_21 : decode cX5_pipsOn 21 = .ok (.goto 4, 3) := by decide +kernel
theorem dX5_pipsOn_24 : decode cX5_pipsOn 24 = .ok (.iconst 0, 1) := by decide +kernel
theorem dX5_pipsOn_25 : decode cX5_pipsOn 25 = .ok (.ireturn, 1) := by decide +kernel
theorem dX5_tileWith_0 : decode cX5_tileWith 0 = .ok (.iload_n 0, 1) := by decide +kernel
theorem dX5_tileWith_1 : decode cX5_tileWith 1 = .ok (.iload_n 1, 1) := by decide +kernel
theorem dX5_tileWith_2 : decode cX5_tileWith 2 = .ok (.invokestatic 296, 3) := by decide +kernel
theorem dX5_tileWith_5 : decode cX5_tileWith 5 = .ok (.istore_n 2, 1) := by decide +kernel
theorem dX5_tileWith_6 : decode cX5_tileWith 6 = .ok (.iload_n 2, 1) := by decide +kernel
theorem dX5_tileWith_7 : decode cX5_tileWith 7 = .ok (.bipush 15, 2) := by decide +kernel
theorem dX5_tileWith_9 : decode cX5_tileWith 9 = .ok (.iload_n 2, 1) := by decide +kernel
theorem dX5_tileWith_10 : decode cX5_tileWith 10 = .ok (.isub, 1) := by decide +kernel
theorem dX5_tileWith_11 : decode cX5_tileWith 11 = .ok (.imul, 1) := by decide +kernel
theorem dX5_tileWith_12 : decode cX5_tileWith 12 = .ok (.iconst 2, 1) := by decide +kernel
theorem dX5_tileWith_13 : decode cX5_tileWith 13 = .ok (.idiv, 1) := by decide +kernel
theorem dX5_tileWith_14 : decode cX5_tileWith 14 = .ok (.iload_n 0, 1) := by decide +kernel
theorem dX5_tileWith_15 : decode cX5_tileWith 15 = .ok (.iload_n 1, 1) := by decide +kernel
theorem dX5_tileWith_16 : decode cX5_tileWith 16 = .ok (.invokestatic 301, 3) := by decide +kernel
theorem dX5_tileWith_19 : decode cX5_tileWith 19 = .ok (.iadd, 1) := by decide +kernel
theorem dX5_tileWith_20 : decode cX5_tileWith 20 = .ok (.iload_n 2, 1) := by decide +kernel
theorem dX5_tileWith_21 : decode cX5_tileWith 21 = .ok (.isub, 1) := by decide +kernel
theorem dX5_tileWith_22 : decode cX5_tileWith 22 = .ok (.ireturn, 1) := by decide +kernel
theorem dX5_stepX_0 : decode cX5_stepX 0 = .ok (.iload_n 0, 1) := by decide +kernel
theorem dX5_stepX_1 : decode cX5_stepX 1 = .ok (.ifCond .ne 7, 3) := by decide +kernel
theorem dX5_stepX_4 : decode cX5_stepX 4 = .ok (.iconst 1, 1) := by decide +kernel
theorem dX5_stepX_5 : decode cX5_stepX 5 = .ok (.goto 13, 3) := by decide +kernel
theorem dX5_stepX_8 : decode cX5_stepX 8 = .ok (.iload_n 0, 1) := by decide +kernel
theorem dX5_stepX_9 : decode cX5_stepX 9 = .ok (.iconst 2, 1) := by decide +kernel
theorem dX5_stepX_10 : decode cX5_stepX 10 = .ok (.if_icmp .ne 7, 3) := by decide +kernel
theorem dX5_stepX_13 : decode cX5_stepX 13 = .ok (.iconst (-1), 1) := by decide +kernel
theorem dX5_stepX_14 : decode cX5_stepX 14 = .ok (.goto 4, 3) := by decide +kernel
theorem dX5_stepX_17 : decode cX5_stepX 17 = .ok (.iconst 0, 1) := by decide +kernel
theorem dX5_stepX_18 : decode cX5_stepX 18 = .ok (.ireturn, 1) := by decide +kernel
theorem dX5_stepY_0 : decode cX5_stepY 0 = .ok (.iload_n 0, 1) := by decide +kernel
theorem dX5_stepY_1 : decode cX5_stepY 1 = .ok (.iconst 1, 1) := by decide +kernel
theorem dX5_stepY_2 : decode cX5_stepY 2 = .ok (.if_icmp .ne 7, 3) := by decide +kernel
theorem dX5_stepY_5 : decode cX5_stepY 5 = .ok (.iconst 1, 1) := by decide +kernel
theorem dX5_stepY_6 : decode cX5_stepY 6 = .ok (.goto 13, 3) := by decide +kernel
theorem dX5_stepY_9 : decode cX5_stepY 9 = .ok (.iload_n 0, 1) := by decide +kernel
theorem dX5_stepY_10 : decode cX5_stepY 10 = .ok (.iconst 3, 1) := by decide +kernel
theorem dX5_stepY_11 : decode cX5_stepY 11 = .ok (.if_icmp .ne 7, 3) := by decide +kernel
theorem dX5_stepY_14 : decode cX5_stepY 14 = .ok (.iconst (-1), 1) := by decide +kernel
theorem dX5_stepY_15 : decode cX5_stepY 15 = .ok (.goto 4, 3) := by decide +kernel
theorem dX5_stepY_18 : decode cX5_stepY 18 = .ok (.iconst 0, 1) := by decide +kernel
theorem dX5_stepY_19 : decode cX5_stepY 19 = .ok (.ireturn, 1) := by decide +kernel
theorem dJ6_bitCount_0f7a4_0 : decode cJ6_bitCount_0f7a4 0 = .ok (.iload_n 0, 1) := by decide +kernel
theorem dJ6_bitCount_0f7a4_1 : decode cJ6_bitCount_0f7a4 1 = .ok (.iload_n 0, 1) := by decide +kernel
theorem dJ6_bitCount_0f7a4_2 : decode cJ6_bitCount_0f7a4 2 = .ok (.iconst 1, 1) := by decide +kernel
theorem dJ6_bitCount_0f7a4_3 : decode cJ6_bitCount_0f7a4 3 = .ok (.iushr, 1) := by decide +kernel
theorem dJ6_bitCount_0f7a4_4 : decode cJ6_bitCount_0f7a4 4 = .ok (.ldc_w 265, 3) := by decide +kernel
theorem dJ6_bitCount_0f7a4_7 : decode cJ6_bitCount_0f7a4 7 = .ok (.iand, 1) := by decide +kernel
theorem dJ6_bitCount_0f7a4_8 : decode cJ6_bitCount_0f7a4 8 = .ok (.isub, 1) := by decide +kernel
theorem dJ6_bitCount_0f7a4_9 : decode cJ6_bitCount_0f7a4 9 = .ok (.istore_n 0, 1) := by decide +kernel
theorem dJ6_bitCount_0f7a4_10 : decode cJ6_bitCount_0f7a4 10 = .ok (.iload_n 0, 1) := by decide +kernel
theorem dJ6_bitCount_0f7a4_11 : decode cJ6_bitCount_0f7a4 11 = .ok (.ldc_w 266, 3) := by decide +kernel
theorem dJ6_bitCount_0f7a4_14 : decode cJ6_bitCount_0f7a4 14 = .ok (.iand, 1) := by decide +kernel
theorem dJ6_bitCount_0f7a4_15 : decode cJ6_bitCount_0f7a4 15 = .ok (.iload_n 0, 1) := by decide +kernel
theorem dJ6_bitCount_0f7a4_16 : decode cJ6_bitCount_0f7a4 16 = .ok (.iconst 2, 1) := by decide +kernel
theorem dJ6_bitCount_0f7a4_17 : decode cJ6_bitCount_0f7a4 17 = .ok (.iushr, 1) := by decide +kernel
theorem dJ6_bitCount_0f7a4_18 : decode cJ6_bitCount_0f7a4 18 = .ok (.ldc_w 266, 3) := by decide +kernel
theorem dJ6_bitCount_0f7a4_21 : decode cJ6_bitCount_0f7a4 21 = .ok (.iand, 1) := by decide +kernel
theorem dJ6_bitCount_0f7a4_22 : decode cJ6_bitCount_0f7a4 22 = .ok (.iadd, 1) := by decide +kernel
theorem dJ6_bitCount_0f7a4_23 : decode cJ6_bitCount_0f7a4 23 = .ok (.istore_n 0, 1) := by decide +kernel
theorem dJ6_bitCount_0f7a4_24 : decode cJ6_bitCount_0f7a4 24 = .ok (.iload_n 0, 1) := by decide +kernel
theorem dJ6_bitCount_0f7a4_25 : decode cJ6_bitCount_0f7a4 25 = .ok (.iload_n 0, 1) := by decide +kernel
theorem dJ6_bitCount_0f7a4_26 : decode cJ6_bitCount_0f7a4 26 = .ok (.iconst 4, 1) := by decide +kernel
theorem dJ6_bitCount_0f7a4_27 : decode cJ6_bitCount_0f7a4 27 = .ok (.iushr, 1) := by decide +kernel
theorem dJ6_bitCount_0f7a4_28 : decode cJ6_bitCount_0f7a4 28 = .ok (.iadd, 1) := by decide +kernel
theorem dJ6_bitCount_0f7a4_29 : decode cJ6_bitCount_0f7a4 29 = .ok (.ldc_w 267, 3) := by decide +kernel
theorem dJ6_bitCount_0f7a4_32 : decode cJ6_bitCount_0f7a4 32 = .ok (.iand, 1) := by decide +kernel
theorem dJ6_bitCount_0f7a4_33 : decode cJ6_bitCount_0f7a4 33 = .ok (.istore_n 0, 1) := by decide +kernel
theorem dJ6_bitCount_0f7a4_34 : decode cJ6_bitCount_0f7a4 34 = .ok (.iload_n 0, 1) := by decide +kernel
theorem dJ6_bitCount_0f7a4_35 : decode cJ6_bitCount_0f7a4 35 = .ok (.iload_n 0, 1) := by decide +kernel
theorem dJ6_bitCount_0f7a4_36 : decode cJ6_bitCount_0f7a4 36 = .ok (.bipush 8, 2) := by decide +kernel
theorem dJ6_bitCount_0f7a4_38 : decode cJ6_bitCount_0f7a4 38 = .ok (.iushr, 1) := by decide +kernel
theorem dJ6_bitCount_0f7a4_39 : decode cJ6_bitCount_0f7a4 39 = .ok (.iadd, 1) := by decide +kernel
theorem dJ6_bitCount_0f7a4_40 : decode cJ6_bitCount_0f7a4 40 = .ok (.istore_n 0, 1) := by decide +kernel
theorem dJ6_bitCount_0f7a4_41 : decode cJ6_bitCount_0f7a4 41 = .ok (.iload_n 0, 1) := by decide +kernel
theorem dJ6_bitCount_0f7a4_42 : decode cJ6_bitCount_0f7a4 42 = .ok (.iload_n 0, 1) := by decide +kernel
theorem dJ6_bitCount_0f7a4_43 : decode cJ6_bitCount_0f7a4 43 = .ok (.bipush 16, 2) := by decide +kernel
theorem dJ6_bitCount_0f7a4_45 : decode cJ6_bitCount_0f7a4 45 = .ok (.iushr, 1) := by decide +kernel
theorem dJ6_bitCount_0f7a4_46 : decode cJ6_bitCount_0f7a4 46 = .ok (.iadd, 1) := by decide +kernel
theorem dJ6_bitCount_0f7a4_47 : decode cJ6_bitCount_0f7a4 47 = .ok (.istore_n 0, 1) := by decide +kernel
theorem dJ6_bitCount_0f7a4_48 : decode cJ6_bitCount_0f7a4 48 = .ok (.iload_n 0, 1) := by decide +kernel
theorem dJ6_bitCount_0f7a4_49 : decode cJ6_bitCount_0f7a4 49 = .ok (.bipush 63, 2) := by decide +kernel
theorem dJ6_bitCount_0f7a4_51 : decode cJ6_bitCount_0f7a4 51 = .ok (.iand, 1) := by decide +kernel
theorem dJ6_bitCount_0f7a4_52 : decode cJ6_bitCount_0f7a4 52 = .ok (.ireturn, 1) := by decide +kernel
theorem dJ9_floorMod_7cf53_0 : decode cJ9_floorMod_7cf53 0 = .ok (.iload_n 0, 1) := by decide +kernel
theorem dJ9_floorMod_7cf53_1 : decode cJ9_floorMod_7cf53 1 = .ok (.iload_n 1, 1) := by decide +kernel
theorem dJ9_floorMod_7cf53_2 : decode cJ9_floorMod_7cf53 2 = .ok (.irem, 1) := by decide +kernel
theorem dJ9_floorMod_7cf53_3 : decode cJ9_floorMod_7cf53 3 = .ok (.istore_n 2, 1) := by decide +kernel
theorem dJ9_floorMod_7cf53_4 : decode cJ9_floorMod_7cf53 4 = .ok (.iload_n 0, 1) := by decide +kernel
theorem dJ9_floorMod_7cf53_5 : decode cJ9_floorMod_7cf53 5 = .ok (.iload_n 1, 1) := by decide +kernel
theorem dJ9_floorMod_7cf53_6 : decode cJ9_floorMod_7cf53 6 = .ok (.ixor, 1) := by decide +kernel
theorem dJ9_floorMod_7cf53_7 : decode cJ9_floorMod_7cf53 7 = .ok (.ifCond .ge 11, 3) := by decide +kernel
theorem dJ9_floorMod_7cf53_10 : decode cJ9_floorMod_7cf53 10 = .ok (.iload_n 2, 1) := by decide +kernel
theorem dJ9_floorMod_7cf53_11 : decode cJ9_floorMod_7cf53 11 = .ok (.ifCond .eq 7, 3) := by decide +kernel
theorem dJ9_floorMod_7cf53_14 : decode cJ9_floorMod_7cf53 14 = .ok (.iload_n 2, 1) := by decide +kernel
theorem dJ9_floorMod_7cf53_15 : decode cJ9_floorMod_7cf53 15 = .ok (.iload_n 1, 1) := by decide +kernel
theorem dJ9_floorMod_7cf53_16 : decode cJ9_floorMod_7cf53 16 = .ok (.iadd, 1) := by decide +kernel
theorem dJ9_floorMod_7cf53_17 : decode cJ9_floorMod_7cf53 17 = .ok (.ireturn, 1) := by decide +kernel
theorem dJ9_floorMod_7cf53_18 : decode cJ9_floorMod_7cf53 18 = .ok (.iload_n 2, 1) := by decide +kernel
theorem dJ9_floorMod_7cf53_19 : decode cJ9_floorMod_7cf53 19 = .ok (.ireturn, 1) := by decide +kernel
theorem dJ9_max_7cf53_0 : decode cJ9_max_7cf53 0 = .ok (.iload_n 0, 1) := by decide +kernel
theorem dJ9_max_7cf53_1 : decode cJ9_max_7cf53 1 = .ok (.iload_n 1, 1) := by decide +kernel
theorem dJ9_max_7cf53_2 : decode cJ9_max_7cf53 2 = .ok (.if_icmp .lt 7, 3) := by decide +kernel
theorem dJ9_max_7cf53_5 : decode cJ9_max_7cf53 5 = .ok (.iload_n 0, 1) := by decide +kernel
theorem dJ9_max_7cf53_6 : decode cJ9_max_7cf53 6 = .ok (.goto 4, 3) := by decide +kernel
theorem dJ9_max_7cf53_9 : decode cJ9_max_7cf53 9 = .ok (.iload_n 1, 1) := by decide +kernel
theorem dJ9_max_7cf53_10 : decode cJ9_max_7cf53 10 = .ok (.ireturn, 1) := by decide +kernel
theorem dJ9_min_7cf53_0 : decode cJ9_min_7cf53 0 = .ok (.iload_n 0, 1) := by decide +kernel
theorem dJ9_min_7cf53_1 : decode cJ9_min_7cf53 1 = .ok (.iload_n 1, 1) := by decide +kernel
theorem dJ9_min_7cf53_2 : decode cJ9_min_7cf53 2 = .ok (.if_icmp .gt 7, 3) := by decide +kernel
theorem dJ9_min_7cf53_5 : decode cJ9_min_7cf53 5 = .ok (.iload_n 0, 1) := by decide +kernel
theorem dJ9_min_7cf53_6 : decode cJ9_min_7cf53 6 = .ok (.goto 4, 3) := by decide +kernel
theorem dJ9_min_7cf53_9 : decode cJ9_min_7cf53 9 = .ok (.iload_n 1, 1) := by decide +kernel
theorem dJ9_min_7cf53_10 : decode cJ9_min_7cf53 10 = .ok (.ireturn, 1) := by decide +kernel
theorem dJ7_fill_53178_0 : decode cJ7_fill_53178 0 = .ok (.iconst 0, 1) := by decide +kernel
theorem dJ7_fill_53178_1 : decode cJ7_fill_53178 1 = .ok (.istore_n 2, 1) := by decide +kernel
theorem dJ7_fill_53178_2 : decode cJ7_fill_53178 2 = .ok (.aload_n 0, 1) := by decide +kernel
theorem dJ7_fill_53178_3 : decode cJ7_fill_53178 3 = .ok (.arraylength, 1) := by decide +kernel
theorem dJ7_fill_53178_4 : decode cJ7_fill_53178 4 = .ok (.istore_n 3, 1) := by decide +kernel
theorem dJ7_fill_53178_5 : decode cJ7_fill_53178 5 = .ok (.iload_n 2, 1) := by decide +kernel
theorem dJ7_fill_53178_6 : decode cJ7_fill_53178 6 = .ok (.iload_n 3, 1) := by decide +kernel
theorem dJ7_fill_53178_7 : decode cJ7_fill_53178 7 = .ok (.if_icmp .ge 13, 3) := by decide +kernel
theorem dJ7_fill_53178_10 : decode cJ7_fill_53178 10 = .ok (.aload_n 0, 1) := by decide +kernel
theorem dJ7_fill_53178_11 : decode cJ7_fill_53178 11 = .ok (.iload_n 2, 1) := by decide +kernel
theorem dJ7_fill_53178_12 : decode cJ7_fill_53178 12 = .ok (.iload_n 1, 1) := by decide +kernel
theorem dJ7_fill_53178_13 : decode cJ7_fill_53178 13 = .ok (.iastore, 1) := by decide +kernel
theorem dJ7_fill_53178_14 : decode cJ7_fill_53178 14 = .ok (.iinc 2 1, 3) := by decide +kernel
theorem dJ7_fill_53178_17 : decode cJ7_fill_53178 17 = .ok (.goto (-12), 3) := by decide +kernel
theorem dJ7_fill_53178_20 : decode cJ7_fill_53178 20 = .ok (.return_, 1) := by decide +kernel
end
section
theorem dL_deals_0 : decode cL_deals 0 = .ok (.aload_n 0, 1) := by decide +kernel
theorem dL_deals_1 : decode cL_deals 1 = .ok (.iload_n 1, 1) := by decide +kernel
theorem dL_deals_2 : decode cL_deals 2 = .ok (.lload_n 2, 1) := by decide +kernel
theorem dL_deals_3 : decode cL_deals 3 = .ok (.invokevirtual 7, 3) := by decide +kernel
theorem dL_deals_6 : decode cL_deals 6 = .ok (.ireturn, 1) := by decide +kernel
theorem dL_deals_7 : decode cL_deals 7 = .ok (.astore 4, 2) := by decide +kernel
theorem dL_deals_9 : decode cL_deals 9 = .ok (.ldc 15, 2) := by decide +kernel
theorem dL_deals_11 : decode cL_deals 11 = .ok (.ireturn, 1) := by decide +kernel
theorem dL_plays_0 : decode cL_plays 0 = .ok (.aload_n 0, 1) := by decide +kernel
theorem dL_plays_1 : decode cL_plays 1 = .ok (.iload_n 1, 1) := by decide +kernel
theorem dL_plays_2 : decode cL_plays 2 = .ok (.iload_n 2, 1) := by decide +kernel
theorem dL_plays_3 : decode cL_plays 3 = .ok (.invokevirtual 16, 3) := by decide +kernel
theorem dL_plays_6 : decode cL_plays 6 = .ok (.ireturn, 1) := by decide +kernel
theorem dL_plays_7 : decode cL_plays 7 = .ok (.astore_n 3, 1) := by decide +kernel
theorem dL_plays_8 : decode cL_plays 8 = .ok (.ldc 22, 2) := by decide +kernel
theorem dL_plays_10 : decode cL_plays 10 = .ok (.ireturn, 1) := by decide +kernel
theorem dL_plays_11 : decode cL_plays 11 = .ok (.astore_n 3, 1) := by decide +kernel
theorem dL_plays_12 : decode cL_plays 12 = .ok (.ldc 25, 2) := by decide +kernel
theorem dL_plays_14 : decode cL_plays 14 = .ok (.ireturn, 1) := by decide +kernel
theorem dL_doScript_0 : decode cL_doScript 0 = .ok (.aload_n 0, 1) := by decide +kernel
theorem dL_doScript_1 : decode cL_doScript 1 = .ok (.iload_n 1, 1) := by decide +kernel
theorem dL_doScript_2 : decode cL_doScript 2 = .ok (.lload_n 2, 1) := by decide +kernel
theorem dL_doScript_3 : decode cL_doScript 3 = .ok (.invokevirtual 26, 3) := by decide +kernel
theorem dL_doScript_6 : decode cL_doScript 6 = .ok (.ireturn, 1) := by decide +kernel
theorem dL_doScript_7 : decode cL_doScript 7 = .ok (.astore 4, 2) := by decide +kernel
theorem dL_doScript_9 : decode cL_doScript 9 = .ok (.ldc 15, 2) := by decide +kernel
theorem dL_doScript_11 : decode cL_doScript 11 = .ok (.ireturn, 1) := by decide +kernel
theorem dL_doSimulate_0 : decode cL_doSimulate 0 = .ok (.aload_n 0, 1) := by decide +kernel
theorem dL_doSimulate_1 : decode cL_doSimulate 1 = .ok (.lload_n 1, 1) := by decide +kernel
theorem dL_doSimulate_2 : decode cL_doSimulate 2 = .ok (.iload_n 3, 1) := by decide +kernel
theorem dL_doSimulate_3 : decode cL_doSimulate 3 = .ok (.invokevirtual 29, 3) := by decide +kernel
theorem dL_doSimulate_6 : decode cL_doSimulate 6 = .ok (.ireturn, 1) := by decide +kernel
theorem dL_doSimulate_7 : decode cL_doSimulate 7 = .ok (.astore 4, 2) := by decide +kernel
theorem dL_doSimulate_9 : decode cL_doSimulate 9 = .ok (.ldc 15, 2) := by decide +kernel
theorem dL_doSimulate_11 : decode cL_doSimulate 11 = .ok (.ireturn, 1) := by decide +kernel
theorem dL_tryAppend_0 : decode cL_tryAppend 0 = .ok (.aload_n 0, 1) := by decide +kernel
theorem dL_tryAppend_1 : decode cL_tryAppend 1 = .ok (.iload_n 1, 1) := by decide +kernel
theorem dL_tryAppend_2 : decode cL_tryAppend 2 = .ok (.invokevirtual 33, 3) := by decide +kernel
theorem dL_tryAppend_5 : decode cL_tryAppend 5 = .ok (.ireturn, 1) := by decide +kernel
theorem dL_tryAppend_6 : decode cL_tryAppend 6 = .ok (.astore_n 2, 1) := by decide +kernel
theorem dL_tryAppend_7 : decode cL_tryAppend 7 = .ok (.ldc 15, 2) := by decide +kernel
theorem dL_tryAppend_9 : decode cL_tryAppend 9 = .ok (.ireturn, 1) := by decide +kernel
theorem dL_tryAppend_10 : decode cL_tryAppend 10 = .ok (.astore_n 2, 1) := by decide +kernel
theorem dL_tryAppend_11 : decode cL_tryAppend 11 = .ok (.ldc 25, 2) := by decide +kernel
theorem dL_tryAppend_13 : decode cL_tryAppend 13 = .ok (.ireturn, 1) := by decide +kernel
theorem dL_tryLoad_0 : decode cL_tryLoad 0 = .ok (.aload_n 0, 1) := by decide +kernel
theorem dL_tryLoad_1 : decode cL_tryLoad 1 = .ok (.invokevirtual 37, 3) := by decide +kernel
theorem dL_tryLoad_4 : decode cL_tryLoad 4 = .ok (.ireturn, 1) := by decide +kernel
theorem dL_tryLoad_5 : decode cL_tryLoad 5 = .ok (.astore_n 1, 1) := by decide +kernel
theorem dL_tryLoad_6 : decode cL_tryLoad 6 = .ok (.ldc 25, 2) := by decide +kernel
theorem dL_tryLoad_8 : decode cL_tryLoad 8 = .ok (.ireturn, 1) := by decide +kernel
theorem dL_tryAbout_0 : decode cL_tryAbout 0 = .ok (.aload_n 0, 1) := by decide +kernel
theorem dL_tryAbout_1 : decode cL_tryAbout 1 = .ok (.iload_n 1, 1) := by decide +kernel
theorem dL_tryAbout_2 : decode cL_tryAbout 2 = .ok (.invokevirtual 41, 3) := by decide +kernel
theorem dL_tryAbout_5 : decode cL_tryAbout 5 = .ok (.ireturn, 1) := by decide +kernel
theorem dL_tryAbout_6 : decode cL_tryAbout 6 = .ok (.astore_n 2, 1) := by decide +kernel
theorem dL_tryAbout_7 : decode cL_tryAbout 7 = .ok (.ldc 15, 2) := by decide +kernel
theorem dL_tryAbout_9 : decode cL_tryAbout 9 = .ok (.ireturn, 1) := by decide +kernel
theorem dL_tryTile_0 : decode cL_tryTile 0 = .ok (.aload_n 0, 1) := by decide +kernel
theorem dL_tryTile_1 : decode cL_tryTile 1 = .ok (.iload_n 1, 1) := by decide +kernel
theorem dL_tryTile_2 : decode cL_tryTile 2 = .ok (.iload_n 2, 1) := by decide +kernel
theorem dL_tryTile_3 : decode cL_tryTile 3 = .ok (.invokevirtual 44, 3) := by decide +kernel
theorem dL_tryTile_6 : decode cL_tryTile 6 = .ok (.ireturn, 1) := by decide +kernel
theorem dL_tryTile_7 : decode cL_tryTile 7 = .ok (.astore_n 3, 1) := by decide +kernel
theorem dL_tryTile_8 : decode cL_tryTile 8 = .ok (.ldc 22, 2) := by decide +kernel
theorem dL_tryTile_10 : decode cL_tryTile 10 = .ok (.ireturn, 1) := by decide +kernel
theorem dL_tryTile_11 : decode cL_tryTile 11 = .ok (.astore_n 3, 1) := by decide +kernel
theorem dL_tryTile_12 : decode cL_tryTile 12 = .ok (.ldc 15, 2) := by decide +kernel
theorem dL_tryTile_14 : decode cL_tryTile 14 = .ok (.ireturn, 1) := by decide +kernel
theorem dL_tryLaid_0 : decode cL_tryLaid 0 = .ok (.aload_n 0, 1) := by decide +kernel
theorem dL_tryLaid_1 : decode cL_tryLaid 1 = .ok (.iload_n 1, 1) := by decide +kernel
theorem dL_tryLaid_2 : decode cL_tryLaid 2 = .ok (.iload_n 2, 1) := by decide +kernel
theorem dL_tryLaid_3 : decode cL_tryLaid 3 = .ok (.invokevirtual 48, 3) := by decide +kernel
theorem dL_tryLaid_6 : decode cL_tryLaid 6 = .ok (.ireturn, 1) := by decide +kernel
theorem dL_tryLaid_7 : decode cL_tryLaid 7 = .ok (.astore_n 3, 1) := by decide +kernel
theorem dL_tryLaid_8 : decode cL_tryLaid 8 = .ok (.ldc 22, 2) := by decide +kernel
theorem dL_tryLaid_10 : decode cL_tryLaid 10 = .ok (.ireturn, 1) := by decide +kernel
theorem dL_tryLaid_11 : decode cL_tryLaid 11 = .ok (.astore_n 3, 1) := by decide +kernel
theorem dL_tryLaid_12 : decode cL_tryLaid 12 = .ok (.ldc 15, 2) := by decide +kernel
theorem dL_tryLaid_14 : decode cL_tryLaid 14 = .ok (.ireturn, 1) := by decide +kernel
theorem dL_tryPlayer_0 : decode cL_tryPlayer 0 = .ok (.aload_n 0, 1) := by decide +kernel
theorem dL_tryPlayer_1 : decode cL_tryPlayer 1 = .ok (.iload_n 1, 1) := by decide +kernel
theorem dL_tryPlayer_2 : decode cL_tryPlayer 2 = .ok (.iload_n 2, 1) := by decide +kernel
theorem dL_tryPlayer_3 : decode cL_tryPlayer 3 = .ok (.invokevirtual 51, 3) := by decide +kernel
theorem dL_tryPlayer_6 : decode cL_tryPlayer 6 = .ok (.ireturn, 1) := by decide +kernel
theorem dL_tryPlayer_7 : decode cL_tryPlayer 7 = .ok (.astore_n 3, 1) := by decide +kernel
theorem dL_tryPlayer_8 : decode cL_tryPlayer 8 = .ok (.ldc 22, 2) := by decide +kernel
theorem dL_tryPlayer_10 : decode cL_tryPlayer 10 = .ok (.ireturn, 1) := by decide +kernel
theorem dL_tryPlayer_11 : decode cL_tryPlayer 11 = .ok (.astore_n 3, 1) := by decide +kernel
theorem dL_tryPlayer_12 : decode cL_tryPlayer 12 = .ok (.ldc 15, 2) := by decide +kernel
theorem dL_tryPlayer_14 : decode cL_tryPlayer 14 = .ok (.ireturn, 1) := by decide +kernel
theorem dL_tryAt_0 : decode cL_tryAt 0 = .ok (.aload_n 0, 1) := by decide +kernel
theorem dL_tryAt_1 : decode cL_tryAt 1 = .ok (.iload_n 1, 1) := by decide +kernel
theorem dL_tryAt_2 : decode cL_tryAt 2 = .ok (.iload_n 2, 1) := by decide +kernel
theorem dL_tryAt_3 : decode cL_tryAt 3 = .ok (.invokevirtual 54, 3) := by decide +kernel
theorem dL_tryAt_6 : decode cL_tryAt 6 = .ok (.ireturn, 1) := by decide +kernel
theorem dL_tryAt_7 : decode cL_tryAt 7 = .ok (.astore_n 3, 1) := by decide +kernel
theorem dL_tryAt_8 : decode cL_tryAt 8 = .ok (.ldc 22, 2) := by decide +kernel
theorem dL_tryAt_10 : decode cL_tryAt 10 = .ok (.ireturn, 1) := by decide +kernel
theorem dL_tryFree_0 : decode cL_tryFree 0 = .ok (.aload_n 0, 1) := by decide +kernel
theorem dL_tryFree_1 : decode cL_tryFree 1 = .ok (.iload_n 1, 1) := by decide +kernel
theorem dL_tryFree_2 : decode cL_tryFree 2 = .ok (.invokevirtual 57, 3) := by decide +kernel
theorem dL_tryFree_5 : decode cL_tryFree 5 = .ok (.ireturn, 1) := by decide +kernel
theorem dL_tryFree_6 : decode cL_tryFree 6 = .ok (.astore_n 2, 1) := by decide +kernel
theorem dL_tryFree_7 : decode cL_tryFree 7 = .ok (.ldc 15, 2) := by decide +kernel
theorem dL_tryFree_9 : decode cL_tryFree 9 = .ok (.ireturn, 1) := by decide +kernel
theorem dL_tryDraw_0 : decode cL_tryDraw 0 = .ok (.aload_n 0, 1) := by decide +kernel
theorem dL_tryDraw_1 : decode cL_tryDraw 1 = .ok (.invokevirtual 60, 3) := by decide +kernel
theorem dL_tryDraw_4 : decode cL_tryDraw 4 = .ok (.ireturn, 1) := by decide +kernel
theorem dL_tryDraw_5 : decode cL_tryDraw 5 = .ok (.astore_n 1, 1) := by decide +kernel
theorem dL_tryDraw_6 : decode cL_tryDraw 6 = .ok (.ldc 25, 2) := by decide +kernel
theorem dL_tryDraw_8 : decode cL_tryDraw 8 = .ok (.ireturn, 1) := by decide +kernel
theorem dL_tryPass_0 : decode cL_tryPass 0 = .ok (.aload_n 0, 1) := by decide +kernel
theorem dL_tryPass_1 : decode cL_tryPass 1 = .ok (.invokevirtual 63, 3) := by decide +kernel
theorem dL_tryPass_4 : decode cL_tryPass 4 = .ok (.ireturn, 1) := by decide +kernel
theorem dL_tryPass_5 : decode cL_tryPass 5 = .ok (.astore_n 1, 1) := by decide +kernel
theorem dL_tryPass_6 : decode cL_tryPass 6 = .ok (.ldc 25, 2) := by decide +kernel
theorem dL_tryPass_8 : decode cL_tryPass 8 = .ok (.ireturn, 1) := by decide +kernel
theorem dL_tryUndo_0 : decode cL_tryUndo 0 = .ok (.aload_n 0, 1) := by decide +kernel
theorem dL_tryUndo_1 : decode cL_tryUndo 1 = .ok (.invokevirtual 66, 3) := by decide +kernel
theorem dL_tryUndo_4 : decode cL_tryUndo 4 = .ok (.ireturn, 1) := by decide +kernel
theorem dL_tryUndo_5 : decode cL_tryUndo 5 = .ok (.astore_n 1, 1) := by decide +kernel
theorem dL_tryUndo_6 : decode cL_tryUndo 6 = .ok (.ldc 25, 2) := by decide +kernel
theorem dL_tryUndo_8 : decode cL_tryUndo 8 = .ok (.ireturn, 1) := by decide +kernel
theorem dL_tryWhy_0 : decode cL_tryWhy 0 = .ok (.aload_n 0, 1) := by decide +kernel
theorem dL_tryWhy_1 : decode cL_tryWhy 1 = .ok (.iload_n 1, 1) := by decide +kernel
theorem dL_tryWhy_2 : decode cL_tryWhy 2 = .ok (.invokevirtual 69, 3) := by decide +kernel
theorem dL_tryWhy_5 : decode cL_tryWhy 5 = .ok (.ireturn, 1) := by decide +kernel
theorem dL_tryWhy_6 : decode cL_tryWhy 6 = .ok (.astore_n 2, 1) := by decide +kernel
theorem dL_tryWhy_7 : decode cL_tryWhy 7 = .ok (.ldc 22, 2) := by decide +kernel
theorem dL_tryWhy_9 : decode cL_tryWhy 9 = .ok (.ireturn, 1) := by decide +kernel
theorem dL_tryChain_0 : decode cL_tryChain 0 = .ok (.aload_n 0, 1) := by decide +kernel
theorem dL_tryChain_1 : decode cL_tryChain 1 = .ok (.iload_n 1, 1) := by decide +kernel
theorem dL_tryChain_2 : decode cL_tryChain 2 = .ok (.iload_n 2, 1) := by decide +kernel
theorem dL_tryChain_3 : decode cL_tryChain 3 = .ok (.invokevirtual 72, 3) := by decide +kernel
theorem dL_tryChain_6 : decode cL_tryChain 6 = .ok (.ireturn, 1) := by decide +kernel
theorem dL_tryChain_7 : decode cL_tryChain 7 = .ok (.astore_n 3, 1) := by decide +kernel
theorem dL_tryChain_8 : decode cL_tryChain 8 = .ok (.ldc 22, 2) := by decide +kernel
theorem dL_tryChain_10 : decode cL_tryChain 10 = .ok (.ireturn, 1) := by decide +kernel
theorem dL_tryChain_11 : decode cL_tryChain 11 = .ok (.astore_n 3, 1) := by decide +kernel
theorem dL_tryChain_12 : decode cL_tryChain 12 = .ok (.ldc 15, 2) := by decide +kernel
theorem dL_tryChain_14 : decode cL_tryChain 14 = .ok (.ireturn, 1) := by decide +kernel
theorem dL_tryReach_0 : decode cL_tryReach 0 = .ok (.aload_n 0, 1) := by decide +kernel
theorem dL_tryReach_1 : decode cL_tryReach 1 = .ok (.iload_n 1, 1) := by decide +kernel
theorem dL_tryReach_2 : decode cL_tryReach 2 = .ok (.invokevirtual 75, 3) := by decide +kernel
theorem dL_tryReach_5 : decode cL_tryReach 5 = .ok (.ireturn, 1) := by decide +kernel
theorem dL_tryReach_6 : decode cL_tryReach 6 = .ok (.astore_n 2, 1) := by decide +kernel
theorem dL_tryReach_7 : decode cL_tryReach 7 = .ok (.ldc 15, 2) := by decide +kernel
theorem dL_tryReach_9 : decode cL_tryReach 9 = .ok (.ireturn, 1) := by decide +kernel
theorem dL_tryKeep_0 : decode cL_tryKeep 0 = .ok (.aload_n 0, 1) := by decide +kernel
theorem dL_tryKeep_1 : decode cL_tryKeep 1 = .ok (.iload_n 1, 1) := by decide +kernel
theorem dL_tryKeep_2 : decode cL_tryKeep 2 = .ok (.invokevirtual 78, 3) := by decide +kernel
theorem dL_tryKeep_5 : decode cL_tryKeep 5 = .ok (.ireturn, 1) := by decide +kernel
theorem dL_tryKeep_6 : decode cL_tryKeep 6 = .ok (.astore_n 2, 1) := by decide +kernel
theorem dL_tryKeep_7 : decode cL_tryKeep 7 = .ok (.ldc 22, 2) := by decide +kernel
theorem dL_tryKeep_9 : decode cL_tryKeep 9 = .ok (.ireturn, 1) := by decide +kernel
theorem dL_tryBack_0 : decode cL_tryBack 0 = .ok (.aload_n 0, 1) := by decide +kernel
theorem dL_tryBack_1 : decode cL_tryBack 1 = .ok (.iload_n 1, 1) := by decide +kernel
theorem dL_tryBack_2 : decode cL_tryBack 2 = .ok (.invokevirtual 81, 3) := by decide +kernel
theorem dL_tryBack_5 : decode cL_tryBack 5 = .ok (.ireturn, 1) := by decide +kernel
theorem dL_tryBack_6 : decode cL_tryBack 6 = .ok (.astore_n 2, 1) := by decide +kernel
theorem dL_tryBack_7 : decode cL_tryBack 7 = .ok (.ldc 22, 2) := by decide +kernel
theorem dL_tryBack_9 : decode cL_tryBack 9 = .ok (.ireturn, 1) := by decide +kernel
theorem dL_tryBack_10 : decode cL_tryBack 10 = .ok (.astore_n 2, 1) := by decide +kernel
theorem dL_tryBack_11 : decode cL_tryBack 11 = .ok (.ldc 25, 2) := by decide +kernel
theorem dL_tryBack_13 : decode cL_tryBack 13 = .ok (.ireturn, 1) := by decide +kernel
theorem dL_call_0 : decode cL_call 0 = .ok (.iload_n 1, 1) := by decide +kernel
theorem dL_call_1 : decode cL_call 1 = .ok (.tableswitch 166 0 14 #[75, 81, 86, 92, 99, 106, 113, 120, 126, 131, 136, 141, 147, 154, 160], 75) := by decide +kernel
theorem dL_call_76 : decode cL_call 76 = .ok (.aload_n 0, 1) := by decide +kernel
theorem dL_call_77 : decode cL_call 77 = .ok (.iload_n 2, 1) := by decide +kernel
theorem dL_call_78 : decode cL_call 78 = .ok (.invokestatic 84, 3) := by decide +kernel
theorem dL_call_81 : decode cL_call 81 = .ok (.ireturn, 1) := by decide +kernel
theorem dL_call_82 : decode cL_call 82 = .ok (.aload_n 0, 1) := by decide +kernel
theorem dL_call_83 : decode cL_call 83 = .ok (.invokestatic 90, 3) := by decide +kernel
theorem dL_call_86 : decode cL_call 86 = .ok (.ireturn, 1) := by decide +kernel
theorem dL_call_87 : decode cL_call 87 = .ok (.aload_n 0, 1) := by decide +kernel
theorem dL_call_88 : decode cL_call 88 = .ok (.iload_n 2, 1) := by decide +kernel
theorem dL_call_89 : decode cL_call 89 = .ok (.invokestatic 94, 3) := by decide +kernel
theorem dL_call_92 : decode cL_call 92 = .ok (.ireturn, 1) := by decide +kernel
theorem dL_call_93 : decode cL_call 93 = .ok (.aload_n 0, 1) := by decide +kernel
theorem dL_call_94 : decode cL_call 94 = .ok (.iload_n 2, 1) := by decide +kernel
theorem dL_call_95 : decode cL_call 95 = .ok (.iload_n 3, 1) := by decide +kernel
theorem dL_call_96 : decode cL_call 96 = .ok (.invokestatic 97, 3) := by decide +kernel
theorem dL_call_99 : decode cL_call 99 = .ok (.ireturn, 1) := by decide +kernel
theorem dL_call_100 : decode cL_call 100 = .ok (.aload_n 0, 1) := by decide +kernel
theorem dL_call_101 : decode cL_call 101 = .ok (.iload_n 2, 1) := by decide +kernel
theorem dL_call_102 : decode cL_call 102 = .ok (.iload_n 3, 1) := by decide +kernel
theorem dL_call_103 : decode cL_call 103 = .ok (.invokestatic 101, 3) := by decide +kernel
theorem dL_call_106 : decode cL_call 106 = .ok (.ireturn, 1) := by decide +kernel
theorem dL_call_107 : decode cL_call 107 = .ok (.aload_n 0, 1) := by decide +kernel
theorem dL_call_108 : decode cL_call 108 = .ok (.iload_n 2, 1) := by decide +kernel
theorem dL_call_109 : decode cL_call 109 = .ok (.iload_n 3, 1) := by decide +kernel
theorem dL_call_110 : decode cL_call 110 = .ok (.invokestatic 104, 3) := by decide +kernel
theorem dL_call_113 : decode cL_call 113 = .ok (.ireturn, 1) := by decide +kernel
theorem dL_call_114 : decode cL_call 114 = .ok (.aload_n 0, 1) := by decide +kernel
theorem dL_call_115 : decode cL_call 115 = .ok (.iload_n 2, 1) := by decide +kernel
theorem dL_call_116 : decode cL_call 116 = .ok (.iload_n 3, 1) := by decide +kernel
theorem dL_call_117 : decode cL_call 117 = .ok (.invokestatic 107, 3) := by decide +kernel
theorem dL_call_120 : decode cL_call 120 = .ok (.ireturn, 1) := by decide +kernel
theorem dL_call_121 : decode cL_call 121 = .ok (.aload_n 0, 1) := by decide +kernel
theorem dL_call_122 : decode cL_call 122 = .ok (.iload_n 2, 1) := by decide +kernel
theorem dL_call_123 : decode cL_call 123 = .ok (.invokestatic 110, 3) := by decide +kernel
theorem dL_call_126 : decode cL_call 126 = .ok (.ireturn, 1) := by decide +kernel
theorem dL_call_127 : decode cL_call 127 = .ok (.aload_n 0, 1) := by decide +kernel
theorem dL_call_128 : decode cL_call 128 = .ok (.invokestatic 113, 3) := by decide +kernel
theorem dL_call_131 : decode cL_call 131 = .ok (.ireturn, 1) := by decide +kernel
theorem dL_call_132 : decode cL_call 132 = .ok (.aload_n 0, 1) := by decide +kernel
theorem dL_call_133 : decode cL_call 133 = .ok (.invokestatic 116, 3) := by decide +kernel
theorem dL_call_136 : decode cL_call 136 = .ok (.ireturn, 1) := by decide +kernel
theorem dL_call_137 : decode cL_call 137 = .ok (.aload_n 0, 1) := by decide +kernel
theorem dL_call_138 : decode cL_call 138 = .ok (.invokestatic 119, 3) := by decide +kernel
theorem dL_call_141 : decode cL_call 141 = .ok (.ireturn, 1) := by decide +kernel
theorem dL_call_142 : decode cL_call 142 = .ok (.aload_n 0, 1) := by decide +kernel
theorem dL_call_143 : decode cL_call 143 = .ok (.iload_n 2, 1) := by decide +kernel
theorem dL_call_144 : decode cL_call 144 = .ok (.invokestatic 122, 3) := by decide +kernel
theorem dL_call_147 : decode cL_call 147 = .ok (.ireturn, 1) := by decide +kernel
theorem dL_call_148 : decode cL_call 148 = .ok (.aload_n 0, 1) := by decide +kernel
theorem dL_call_149 : decode cL_call 149 = .ok (.iload_n 2, 1) := by decide +kernel
theorem dL_call_150 : decode cL_call 150 = .ok (.iload_n 3, 1) := by decide +kernel
theorem dL_call_151 : decode cL_call 151 = .ok (.invokestatic 125, 3) := by decide +kernel
theorem dL_call_154 : decode cL_call 154 = .ok (.ireturn, 1) := by decide +kernel
theorem dL_call_155 : decode cL_call 155 = .ok (.aload_n 0, 1) := by decide +kernel
theorem dL_call_156 : decode cL_call 156 = .ok (.iload_n 2, 1) := by decide +kernel
theorem dL_call_157 : decode cL_call 157 = .ok (.invokestatic 128, 3) := by decide +kernel
theorem dL_call_160 : decode cL_call 160 = .ok (.ireturn, 1) := by decide +kernel
theorem dL_call_161 : decode cL_call 161 = .ok (.aload_n 0, 1) := by decide +kernel
theorem dL_call_162 : decode cL_call 162 = .ok (.iload_n 2, 1) := by decide +kernel
theorem dL_call_163 : decode cL_call 163 = .ok (.invokestatic 131, 3) := by decide +kernel
theorem dL_call_166 : decode cL_call 166 = .ok (.ireturn, 1) := by decide +kernel
theorem dL_call_167 : decode cL_call 167 = .ok (.aload_n 0, 1) := by decide +kernel
theorem dL_call_168 : decode cL_call 168 = .ok (.iload_n 2, 1) := by decide +kernel
theorem dL_call_169 : decode cL_call 169 = .ok (.invokestatic 134, 3) := by decide +kernel
theorem dL_call_172 : decode cL_call 172 = .ok (.ireturn, 1) := by decide +kernel
theorem dL_cell_0 : decode cL_cell 0 = .ok (.iload_n 1, 1) := by decide +kernel
theorem dL_cell_1 : decode cL_cell 1 = .ok (.aload_n 0, 1) := by decide +kernel
theorem dL_cell_2 : decode cL_cell 2 = .ok (.arraylength, 1) := by decide +kernel
theorem dL_cell_3 : decode cL_cell 3 = .ok (.if_icmp .ge 9, 3) := by decide +kernel
theorem dL_cell_6 : decode cL_cell 6 = .ok (.aload_n 0, 1) := by decide +kernel
theorem dL_cell_7 : decode cL_cell 7 = .ok (.iload_n 1, 1) := by decide +kernel
theorem dL_cell_8 : decode cL_cell 8 = .ok (.iaload, 1) := by decide +kernel
theorem dL_cell_9 : decode cL_cell 9 = .ok (.goto 13, 3) := by decide +kernel
theorem dL_cell_12 : decode cL_cell 12 = .ok (.ldc 137, 2) := by decide +kernel
theorem dL_cell_14 : decode cL_cell 14 = .ok (.iload_n 1, 1) := by decide +kernel
theorem dL_cell_15 : decode cL_cell 15 = .ok (.iconst 3, 1) := by decide +kernel
theorem dL_cell_16 : decode cL_cell 16 = .ok (.iadd, 1) := by decide +kernel
theorem dL_cell_17 : decode cL_cell 17 = .ok (.imul, 1) := by decide +kernel
theorem dL_cell_18 : decode cL_cell 18 = .ok (.sipush 12011, 3) := by decide +kernel
theorem dL_cell_21 : decode cL_cell 21 = .ok (.iadd, 1) := by decide +kernel
theorem dL_cell_22 : decode cL_cell 22 = .ok (.ldc 138, 2) := by decide +kernel
theorem dL_cell_24 : decode cL_cell 24 = .ok (.iand, 1) := by decide +kernel
theorem dL_cell_25 : decode cL_cell 25 = .ok (.ireturn, 1) := by decide +kernel
theorem dL_thrown_0 : decode cL_thrown 0 = .ok (.iload_n 0, 1) := by decide +kernel
theorem dL_thrown_1 : decode cL_thrown 1 = .ok (.ldc 22, 2) := by decide +kernel
theorem dL_thrown_3 : decode cL_thrown 3 = .ok (.if_icmp .eq 15, 3) := by decide +kernel
theorem dL_thrown_6 : decode cL_thrown 6 = .ok (.iload_n 0, 1) := by decide +kernel
theorem dL_thrown_7 : decode cL_thrown 7 = .ok (.ldc 15, 2) := by decide +kernel
theorem dL_thrown_9 : decode cL_thrown 9 = .ok (.if_icmp .eq 9, 3) := by decide +kernel
theorem dL_thrown_12 : decode cL_thrown 12 = .ok (.iload_n 0, 1) := by decide +kernel
theorem dL_thrown_13 : decode cL_thrown 13 = .ok (.ldc 25, 2) := by decide +kernel
theorem dL_thrown_15 : decode cL_thrown 15 = .ok (.if_icmp .ne 7, 3) := by decide +kernel
theorem dL_thrown_18 : decode cL_thrown 18 = .ok (.iconst 1, 1) := by decide +kernel
theorem dL_thrown_19 : decode cL_thrown 19 = .ok (.goto 4, 3) := by decide +kernel
theorem dL_thrown_22 : decode cL_thrown 22 = .ok (.iconst 0, 1) := by decide +kernel
theorem dL_thrown_23 : decode cL_thrown 23 = .ok (.ireturn, 1) := by decide +kernel
theorem dL_refuses_0 : decode cL_refuses 0 = .ok (.iload_n 1, 1) := by decide +kernel
theorem dL_refuses_1 : decode cL_refuses 1 = .ok (.iconst 2, 1) := by decide +kernel
theorem dL_refuses_2 : decode cL_refuses 2 = .ok (.irem, 1) := by decide +kernel
theorem dL_refuses_3 : decode cL_refuses 3 = .ok (.ifCond .ne 12, 3) := by decide +kernel
theorem dL_refuses_6 : decode cL_refuses 6 = .ok (.iconst (-1), 1) := by decide +kernel
theorem dL_refuses_7 : decode cL_refuses 7 = .ok (.iload_n 1, 1) := by decide +kernel
theorem dL_refuses_8 : decode cL_refuses 8 = .ok (.bipush 99, 2) := by decide +kernel
theorem dL_refuses_10 : decode cL_refuses 10 = .ok (.irem, 1) := by decide +kernel
theorem dL_refuses_11 : decode cL_refuses 11 = .ok (.isub, 1) := by decide +kernel
theorem dL_refuses_12 : decode cL_refuses 12 = .ok (.goto 10, 3) := by decide +kernel
theorem dL_refuses_15 : decode cL_refuses 15 = .ok (.bipush 28, 2) := by decide +kernel
theorem dL_refuses_17 : decode cL_refuses 17 = .ok (.iload_n 1, 1) := by decide +kernel
theorem dL_refuses_18 : decode cL_refuses 18 = .ok (.bipush 99, 2) := by decide +kernel
theorem dL_refuses_20 : decode cL_refuses 20 = .ok (.irem, 1) := by decide +kernel
theorem dL_refuses_21 : decode cL_refuses 21 = .ok (.iadd, 1) := by decide +kernel
theorem dL_refuses_22 : decode cL_refuses 22 = .ok (.istore_n 2, 1) := by decide +kernel
theorem dL_refuses_23 : decode cL_refuses 23 = .ok (.iload_n 1, 1) := by decide +kernel
theorem dL_refuses_24 : decode cL_refuses 24 = .ok (.iconst 2, 1) := by decide +kernel
theorem dL_refuses_25 : decode cL_refuses 25 = .ok (.irem, 1) := by decide +kernel
theorem dL_refuses_26 : decode cL_refuses 26 = .ok (.ifCond .ne 12, 3) := by decide +kernel
theorem dL_refuses_29 : decode cL_refuses 29 = .ok (.iconst (-1), 1) := by decide +kernel
theorem dL_refuses_30 : decode cL_refuses 30 = .ok (.iload_n 1, 1) := by decide +kernel
theorem dL_refuses_31 : decode cL_refuses 31 = .ok (.bipush 99, 2) := by decide +kernel
theorem dL_refuses_33 : decode cL_refuses 33 = .ok (.irem, 1) := by decide +kernel
theorem dL_refuses_34 : decode cL_refuses 34 = .ok (.isub, 1) := by decide +kernel
theorem dL_refuses_35 : decode cL_refuses 35 = .ok (.goto 9, 3) := by decide +kernel
theorem dL_refuses_38 : decode cL_refuses 38 = .ok (.iconst 4, 1) := by decide +kernel
theorem dL_refuses_39 : decode cL_refuses 39 = .ok (.iload_n 1, 1) := by decide +kernel
theorem dL_refuses_40 : decode cL_refuses 40 = .ok (.bipush 99, 2) := by decide +kernel
theorem dL_refuses_42 : decode cL_refuses 42 = .ok (.irem, 1) := by decide +kernel
theorem dL_refuses_43 : decode cL_refuses 43 = .ok (.iadd, 1) := by decide +kernel
theorem dL_refuses_44 : decode cL_refuses 44 = .ok (.istore_n 3, 1) := by decide +kernel
theorem dL_refuses_45 : decode cL_refuses 45 = .ok (.iload_n 1, 1) := by decide +kernel
theorem dL_refuses_46 : decode cL_refuses 46 = .ok (.iconst 2, 1) := by decide +kernel
theorem dL_refuses_47 : decode cL_refuses 47 = .ok (.irem, 1) := by decide +kernel
theorem dL_refuses_48 : decode cL_refuses 48 = .ok (.ifCond .ne 12, 3) := by decide +kernel
theorem dL_refuses_51 : decode cL_refuses 51 = .ok (.iconst (-1), 1) := by decide +kernel
theorem dL_refuses_52 : decode cL_refuses 52 = .ok (.iload_n 1, 1) := by decide +kernel
theorem dL_refuses_53 : decode cL_refuses 53 = .ok (.bipush 99, 2) := by decide +kernel
theorem dL_refuses_55 : decode cL_refuses 55 = .ok (.irem, 1) := by decide +kernel
theorem dL_refuses_56 : decode cL_refuses 56 = .ok (.isub, 1) := by decide +kernel
theorem dL_refuses_57 : decode cL_refuses 57 = .ok (.goto 10, 3) := by decide +kernel
theorem dL_refuses_60 : decode cL_refuses 60 = .ok (.bipush 25, 2) := by decide +kernel
theorem dL_refuses_62 : decode cL_refuses 62 = .ok (.iload_n 1, 1) := by decide +kernel
theorem dL_refuses_63 : decode cL_refuses 63 = .ok (.bipush 99, 2) := by decide +kernel
theorem dL_refuses_65 : decode cL_refuses 65 = .ok (.irem, 1) := by decide +kernel
theorem dL_refuses_66 : decode cL_refuses 66 = .ok (.iadd, 1) := by decide +kernel
theorem dL_refuses_67 : decode cL_refuses 67 = .ok (.istore 4, 2) := by decide +kernel
theorem dL_refuses_69 : decode cL_refuses 69 = .ok (.aload_n 0, 1) := by decide +kernel
theorem dL_refuses_70 : decode cL_refuses 70 = .ok (.iconst 2, 1) := by decide +kernel
theorem dL_refuses_71 : decode cL_refuses 71 = .ok (.iconst 5, 1) := by decide +kernel
theorem dL_refuses_72 : decode cL_refuses 72 = .ok (.iconst 0, 1) := by decide +kernel
theorem dL_refuses_73 : decode cL_refuses 73 = .ok (.iconst 0, 1) := by decide +kernel
theorem dL_refuses_74 : decode cL_refuses 74 = .ok (.invokestatic 139, 3) := by decide +kernel
theorem dL_refuses_77 : decode cL_refuses 77 = .ok (.istore 5, 2) := by decide +kernel
theorem dL_refuses_79 : decode cL_refuses 79 = .ok (.aload_n 0, 1) := by decide +kernel
theorem dL_refuses_80 : decode cL_refuses 80 = .ok (.iconst 2, 1) := by decide +kernel
theorem dL_refuses_81 : decode cL_refuses 81 = .ok (.iconst 1, 1) := by decide +kernel
theorem dL_refuses_82 : decode cL_refuses 82 = .ok (.iconst 0, 1) := by decide +kernel
theorem dL_refuses_83 : decode cL_refuses 83 = .ok (.iconst 0, 1) := by decide +kernel
theorem dL_refuses_84 : decode cL_refuses 84 = .ok (.invokestatic 139, 3) := by decide +kernel
theorem dL_refuses_87 : decode cL_refuses 87 = .ok (.istore 6, 2) := by decide +kernel
theorem dL_refuses_89 : decode cL_refuses 89 = .ok (.aload_n 0, 1) := by decide +kernel
theorem dL_refuses_90 : decode cL_refuses 90 = .ok (.iconst 2, 1) := by decide +kernel
theorem dL_refuses_91 : decode cL_refuses 91 = .ok (.iconst 4, 1) := by decide +kernel
theorem dL_refuses_92 : decode cL_refuses 92 = .ok (.iconst 0, 1) := by decide +kernel
theorem dL_refuses_93 : decode cL_refuses 93 = .ok (.iconst 0, 1) := by decide +kernel
theorem dL_refuses_94 : decode cL_refuses 94 = .ok (.invokestatic 139, 3) := by decide +kernel
theorem dL_refuses_97 : decode cL_refuses 97 = .ok (.istore 7, 2) := by decide +kernel
theorem dL_refuses_99 : decode cL_refuses 99 = .ok (.aload_n 0, 1) := by decide +kernel
theorem dL_refuses_100 : decode cL_refuses 100 = .ok (.iconst 0, 1) := by decide +kernel
theorem dL_refuses_101 : decode cL_refuses 101 = .ok (.iload_n 1, 1) := by decide +kernel
theorem dL_refuses_102 : decode cL_refuses 102 = .ok (.iconst 2, 1) := by decide +kernel
theorem dL_refuses_103 : decode cL_refuses 103 = .ok (.irem, 1) := by decide +kernel
theorem dL_refuses_104 : decode cL_refuses 104 = .ok (.ifCond .ne 12, 3) := by decide +kernel
theorem dL_refuses_107 : decode cL_refuses 107 = .ok (.iconst (-1), 1) := by decide +kernel
theorem dL_refuses_108 : decode cL_refuses 108 = .ok (.iload_n 1, 1) := by decide +kernel
theorem dL_refuses_109 : decode cL_refuses 109 = .ok (.bipush 9, 2) := by decide +kernel
theorem dL_refuses_111 : decode cL_refuses 111 = .ok (.irem, 1) := by decide +kernel
theorem dL_refuses_112 : decode cL_refuses 112 = .ok (.isub, 1) := by decide +kernel
theorem dL_refuses_113 : decode cL_refuses 113 = .ok (.goto 11, 3) := by decide +kernel
theorem dL_refuses_116 : decode cL_refuses 116 = .ok (.sipush 256, 3) := by decide +kernel
theorem dL_refuses_119 : decode cL_refuses 119 = .ok (.iload_n 1, 1) := by decide +kernel
theorem dL_refuses_120 : decode cL_refuses 120 = .ok (.bipush 9, 2) := by decide +kernel
theorem dL_refuses_122 : decode cL_refuses 122 = .ok (.irem, 1) := by decide +kernel
theorem dL_refuses_123 : decode cL_refuses 123 = .ok (.iadd, 1) := by decide +kernel
theorem dL_refuses_124 : decode cL_refuses 124 = .ok (.iconst 0, 1) := by decide +kernel
theorem dL_refuses_125 : decode cL_refuses 125 = .ok (.iconst 0, 1) := by decide +kernel
theorem dL_refuses_126 : decode cL_refuses 126 = .ok (.invokestatic 139, 3) := by decide +kernel
theorem dL_refuses_129 : decode cL_refuses 129 = .ok (.ldc 15, 2) := by decide +kernel
theorem dL_refuses_131 : decode cL_refuses 131 = .ok (.if_icmp .ne 394, 3) := by decide +kernel
theorem dL_refuses_134 : decode cL_refuses 134 = .ok (.aload_n 0, 1) := by decide +kernel
theorem dL_refuses_135 : decode cL_refuses 135 = .ok (.iconst 2, 1) := by decide +kernel
theorem dL_refuses_136 : decode cL_refuses 136 = .ok (.bipush 12, 2) := by decide +kernel
theorem dL_refuses_138 : decode cL_refuses 138 = .ok (.iload_n 1, 1) := by decide +kernel
theorem dL_refuses_139 : decode cL_refuses 139 = .ok (.bipush 50, 2) := by decide +kernel
theorem dL_refuses_141 : decode cL_refuses 141 = .ok (.irem, 1) := by decide +kernel
theorem dL_refuses_142 : decode cL_refuses 142 = .ok (.iadd, 1) := by decide +kernel
theorem dL_refuses_143 : decode cL_refuses 143 = .ok (.iconst 0, 1) := by decide +kernel
theorem dL_refuses_144 : decode cL_refuses 144 = .ok (.iconst 0, 1) := by decide +kernel
theorem dL_refuses_145 : decode cL_refuses 145 = .ok (.invokestatic 139, 3) := by decide +kernel
theorem dL_refuses_148 : decode cL_refuses 148 = .ok (.ldc 15, 2) := by decide +kernel
theorem dL_refuses_150 : decode cL_refuses 150 = .ok (.if_icmp .ne 375, 3) := by decide +kernel
theorem dL_refuses_153 : decode cL_refuses 153 = .ok (.aload_n 0, 1) := by decide +kernel
theorem dL_refuses_154 : decode cL_refuses 154 = .ok (.iconst 3, 1) := by decide +kernel
theorem dL_refuses_155 : decode cL_refuses 155 = .ok (.iload_n 2, 1) := by decide +kernel
theorem dL_refuses_156 : decode cL_refuses 156 = .ok (.bipush 99, 2) := by decide +kernel
theorem dL_refuses_158 : decode cL_refuses 158 = .ok (.iconst 0, 1) := by decide +kernel
theorem dL_refuses_159 : decode cL_refuses 159 = .ok (.invokestatic 139, 3) := by decide +kernel
theorem dL_refuses_162 : decode cL_refuses 162 = .ok (.ldc 22, 2) := by decide +kernel
theorem dL_refuses_164 : decode cL_refuses 164 = .ok (.if_icmp .ne 361, 3) := by decide +kernel
theorem dL_refuses_167 : decode cL_refuses 167 = .ok (.aload_n 0, 1) := by decide +kernel
theorem dL_refuses_168 : decode cL_refuses 168 = .ok (.iconst 3, 1) := by decide +kernel
theorem dL_refuses_169 : decode cL_refuses 169 = .ok (.iconst 5, 1) := by decide +kernel
theorem dL_refuses_170 : decode cL_refuses 170 = .ok (.iconst 5, 1) := by decide +kernel
theorem dL_refuses_171 : decode cL_refuses 171 = .ok (.iload_n 1, 1) := by decide +kernel
theorem dL_refuses_172 : decode cL_refuses 172 = .ok (.bipush 9, 2) := by decide +kernel
theorem dL_refuses_174 : decode cL_refuses 174 = .ok (.irem, 1) := by decide +kernel
theorem dL_refuses_175 : decode cL_refuses 175 = .ok (.iadd, 1) := by decide +kernel
theorem dL_refuses_176 : decode cL_refuses 176 = .ok (.iconst 0, 1) := by decide +kernel
theorem dL_refuses_177 : decode cL_refuses 177 = .ok (.invokestatic 139, 3) := by decide +kernel
theorem dL_refuses_180 : decode cL_refuses 180 = .ok (.ldc 15, 2) := by decide +kernel
theorem dL_refuses_182 : decode cL_refuses 182 = .ok (.if_icmp .ne 343, 3) := by decide +kernel
theorem dL_refuses_185 : decode cL_refuses 185 = .ok (.aload_n 0, 1) := by decide +kernel
theorem dL_refuses_186 : decode cL_refuses 186 = .ok (.iconst 4, 1) := by decide +kernel
theorem dL_refuses_187 : decode cL_refuses 187 = .ok (.iload_n 1, 1) := by decide +kernel
theorem dL_refuses_188 : decode cL_refuses 188 = .ok (.iconst 2, 1) := by decide +kernel
theorem dL_refuses_189 : decode cL_refuses 189 = .ok (.irem, 1) := by decide +kernel
theorem dL_refuses_190 : decode cL_refuses 190 = .ok (.ifCond .ne 7, 3) := by decide +kernel
theorem dL_refuses_193 : decode cL_refuses 193 = .ok (.iconst (-1), 1) := by decide +kernel
theorem dL_refuses_194 : decode cL_refuses 194 = .ok (.goto 10, 3) := by decide +kernel
theorem dL_refuses_197 : decode cL_refuses 197 = .ok (.iload 5, 2) := by decide +kernel
theorem dL_refuses_199 : decode cL_refuses 199 = .ok (.iload_n 1, 1) := by decide +kernel
theorem dL_refuses_200 : decode cL_refuses 200 = .ok (.bipush 9, 2) := by decide +kernel
theorem dL_refuses_202 : decode cL_refuses 202 = .ok (.irem, 1) := by decide +kernel
theorem dL_refuses_203 : decode cL_refuses 203 = .ok (.iadd, 1) := by decide +kernel
theorem dL_refuses_204 : decode cL_refuses 204 = .ok (.bipush 99, 2) := by decide +kernel
theorem dL_refuses_206 : decode cL_refuses 206 = .ok (.iconst 0, 1) := by decide +kernel
theorem dL_refuses_207 : decode cL_refuses 207 = .ok (.invokestatic 139, 3) := by decide +kernel
theorem dL_refuses_210 : decode cL_refuses 210 = .ok (.ldc 22, 2) := by decide +kernel
theorem dL_refuses_212 : decode cL_refuses 212 = .ok (.if_icmp .ne 313, 3) := by decide +kernel
theorem dL_refuses_215 : decode cL_refuses 215 = .ok (.iload 5, 2) := by decide +kernel
theorem dL_refuses_217 : decode cL_refuses 217 = .ok (.ifCond .eq 22, 3) := by decide +kernel
theorem dL_refuses_220 : decode cL_refuses 220 = .ok (.aload_n 0, 1) := by decide +kernel
theorem dL_refuses_221 : decode cL_refuses 221 = .ok (.iconst 4, 1) := by decide +kernel
theorem dL_refuses_222 : decode cL_refuses 222 = .ok (.iconst 0, 1) := by decide +kernel
theorem dL_refuses_223 : decode cL_refuses 223 = .ok (.bipush 6, 2) := by decide +kernel
theorem dL_refuses_225 : decode cL_refuses 225 = .ok (.iload_n 1, 1) := by decide +kernel
theorem dL_refuses_226 : decode cL_refuses 226 = .ok (.bipush 9, 2) := by decide +kernel
theorem dL_refuses_228 : decode cL_refuses 228 = .ok (.irem, 1) := by decide +kernel
theorem dL_refuses_229 : decode cL_refuses 229 = .ok (.iadd, 1) := by decide +kernel
theorem dL_refuses_230 : decode cL_refuses 230 = .ok (.iconst 0, 1) := by decide +kernel
theorem dL_refuses_231 : decode cL_refuses 231 = .ok (.invokestatic 139, 3) := by decide +kernel
theorem dL_refuses_234 : decode cL_refuses 234 = .ok (.ldc 15, 2) := by decide +kernel
theorem dL_refuses_236 : decode cL_refuses 236 = .ok (.if_icmp .ne 289, 3) := by decide +kernel
theorem dL_refuses_239 : decode cL_refuses 239 = .ok (.aload_n 0, 1) := by decide +kernel
theorem dL_refuses_240 : decode cL_refuses 240 = .ok (.iconst 5, 1) := by decide +kernel
theorem dL_refuses_241 : decode cL_refuses 241 = .ok (.iload_n 3, 1) := by decide +kernel
theorem dL_refuses_242 : decode cL_refuses 242 = .ok (.bipush 99, 2) := by decide +kernel
theorem dL_refuses_244 : decode cL_refuses 244 = .ok (.iconst 0, 1) := by decide +kernel
theorem dL_refuses_245 : decode cL_refuses 245 = .ok (.invokestatic 139, 3) := by decide +kernel
theorem dL_refuses_248 : decode cL_refuses 248 = .ok (.ldc 22, 2) := by decide +kernel
theorem dL_refuses_250 : decode cL_refuses 250 = .ok (.if_icmp .ne 275, 3) := by decide +kernel
theorem dL_refuses_253 : decode cL_refuses 253 = .ok (.aload_n 0, 1) := by decide +kernel
theorem dL_refuses_254 : decode cL_refuses 254 = .ok (.iconst 5, 1) := by decide +kernel
theorem dL_refuses_255 : decode cL_refuses 255 = .ok (.iconst 0, 1) := by decide +kernel
theorem dL_refuses_256 : decode cL_refuses 256 = .ok (.iconst 4, 1) := by decide +kernel
theorem dL_refuses_257 : decode cL_refuses 257 = .ok (.iload_n 1, 1) := by decide +kernel
theorem dL_refuses_258 : decode cL_refuses 258 = .ok (.bipush 9, 2) := by decide +kernel
theorem dL_refuses_260 : decode cL_refuses 260 = .ok (.irem, 1) := by decide +kernel
theorem dL_refuses_261 : decode cL_refuses 261 = .ok (.iadd, 1) := by decide +kernel
theorem dL_refuses_262 : decode cL_refuses 262 = .ok (.iconst 0, 1) := by decide +kernel
theorem dL_refuses_263 : decode cL_refuses 263 = .ok (.invokestatic 139, 3) := by decide +kernel
theorem dL_refuses_266 : decode cL_refuses 266 = .ok (.ldc 15, 2) := by decide +kernel
theorem dL_refuses_268 : decode cL_refuses 268 = .ok (.if_icmp .ne 257, 3) := by decide +kernel
theorem dL_refuses_271 : decode cL_refuses 271 = .ok (.aload_n 0, 1) := by decide +kernel
theorem dL_refuses_272 : decode cL_refuses 272 = .ok (.bipush 6, 2) := by decide +kernel
theorem dL_refuses_274 : decode cL_refuses 274 = .ok (.iload 4, 2) := by decide +kernel
theorem dL_refuses_276 : decode cL_refuses 276 = .ok (.iconst 0, 1) := by decide +kernel
theorem dL_refuses_277 : decode cL_refuses 277 = .ok (.iconst 0, 1) := by decide +kernel
theorem dL_refuses_278 : decode cL_refuses 278 = .ok (.invokestatic 139, 3) := by decide +kernel
theorem dL_refuses_281 : decode cL_refuses 281 = .ok (.ldc 22, 2) := by decide +kernel
theorem dL_refuses_283 : decode cL_refuses 283 = .ok (.if_icmp .ne 242, 3) := by decide +kernel
theorem dL_refuses_286 : decode cL_refuses 286 = .ok (.aload_n 0, 1) := by decide +kernel
theorem dL_refuses_287 : decode cL_refuses 287 = .ok (.bipush 6, 2) := by decide +kernel
theorem dL_refuses_289 : decode cL_refuses 289 = .ok (.iconst 0, 1) := by decide +kernel
theorem dL_refuses_290 : decode cL_refuses 290 = .ok (.iload 4, 2) := by decide +kernel
theorem dL_refuses_292 : decode cL_refuses 292 = .ok (.iconst 0, 1) := by decide +kernel
theorem dL_refuses_293 : decode cL_refuses 293 = .ok (.invokestatic 139, 3) := by decide +kernel
theorem dL_refuses_296 : decode cL_refuses 296 = .ok (.ldc 22, 2) := by decide +kernel
theorem dL_refuses_298 : decode cL_refuses 298 = .ok (.if_icmp .ne 227, 3) := by decide +kernel
theorem dL_refuses_301 : decode cL_refuses 301 = .ok (.aload_n 0, 1) := by decide +kernel
theorem dL_refuses_302 : decode cL_refuses 302 = .ok (.bipush 7, 2) := by decide +kernel
theorem dL_refuses_304 : decode cL_refuses 304 = .ok (.iconst 2, 1) := by decide +kernel
theorem dL_refuses_305 : decode cL_refuses 305 = .ok (.iload_n 1, 1) := by decide +kernel
theorem dL_refuses_306 : decode cL_refuses 306 = .ok (.bipush 9, 2) := by decide +kernel
theorem dL_refuses_308 : decode cL_refuses 308 = .ok (.irem, 1) := by decide +kernel
theorem dL_refuses_309 : decode cL_refuses 309 = .ok (.iadd, 1) := by decide +kernel
theorem dL_refuses_310 : decode cL_refuses 310 = .ok (.iconst 0, 1) := by decide +kernel
theorem dL_refuses_311 : decode cL_refuses 311 = .ok (.iconst 0, 1) := by decide +kernel
theorem dL_refuses_312 : decode cL_refuses 312 = .ok (.invokestatic 139, 3) := by decide +kernel
theorem dL_refuses_315 : decode cL_refuses 315 = .ok (.ldc 15, 2) := by decide +kernel
theorem dL_refuses_317 : decode cL_refuses 317 = .ok (.if_icmp .ne 208, 3) := by decide +kernel
theorem dL_refuses_320 : decode cL_refuses 320 = .ok (.aload_n 0, 1) := by decide +kernel
theorem dL_refuses_321 : decode cL_refuses 321 = .ok (.iload_n 1, 1) := by decide +kernel
theorem dL_refuses_322 : decode cL_refuses 322 = .ok (.iconst 2, 1) := by decide +kernel
theorem dL_refuses_323 : decode cL_refuses 323 = .ok (.irem, 1) := by decide +kernel
theorem dL_refuses_324 : decode cL_refuses 324 = .ok (.ifCond .ne 7, 3) := by decide +kernel
theorem dL_refuses_327 : decode cL_refuses 327 = .ok (.iconst 1, 1) := by decide +kernel
theorem dL_refuses_328 : decode cL_refuses 328 = .ok (.goto 9, 3) := by decide +kernel
theorem dL_refuses_331 : decode cL_refuses 331 = .ok (.iconst 5, 1) := by decide +kernel
theorem dL_refuses_332 : decode cL_refuses 332 = .ok (.iload_n 1, 1) := by decide +kernel
theorem dL_refuses_333 : decode cL_refuses 333 = .ok (.bipush 9, 2) := by decide +kernel
theorem dL_refuses_335 : decode cL_refuses 335 = .ok (.irem, 1) := by decide +kernel
theorem dL_refuses_336 : decode cL_refuses 336 = .ok (.iadd, 1) := by decide +kernel
theorem dL_refuses_337 : decode cL_refuses 337 = .ok (.iload_n 1, 1) := by decide +kernel
theorem dL_refuses_338 : decode cL_refuses 338 = .ok (.i2l, 1) := by decide +kernel
theorem dL_refuses_339 : decode cL_refuses 339 = .ok (.invokestatic 143, 3) := by decide +kernel
theorem dL_refuses_342 : decode cL_refuses 342 = .ok (.ldc 15, 2) := by decide +kernel
theorem dL_refuses_344 : decode cL_refuses 344 = .ok (.if_icmp .ne 181, 3) := by decide +kernel
theorem dL_refuses_347 : decode cL_refuses 347 = .ok (.aload_n 0, 1) := by decide +kernel
theorem dL_refuses_348 : decode cL_refuses 348 = .ok (.iload_n 2, 1) := by decide +kernel
theorem dL_refuses_349 : decode cL_refuses 349 = .ok (.iconst 1, 1) := by decide +kernel
theorem dL_refuses_350 : decode cL_refuses 350 = .ok (.invokestatic 147, 3) := by decide +kernel
theorem dL_refuses_353 : decode cL_refuses 353 = .ok (.ldc 22, 2) := by decide +kernel
theorem dL_refuses_355 : decode cL_refuses 355 = .ok (.if_icmp .ne 170, 3) := by decide +kernel
theorem dL_refuses_358 : decode cL_refuses 358 = .ok (.aload_n 0, 1) := by decide +kernel
theorem dL_refuses_359 : decode cL_refuses 359 = .ok (.bipush 11, 2) := by decide +kernel
theorem dL_refuses_361 : decode cL_refuses 361 = .ok (.iload_n 2, 1) := by decide +kernel
theorem dL_refuses_362 : decode cL_refuses 362 = .ok (.iconst 0, 1) := by decide +kernel
theorem dL_refuses_363 : decode cL_refuses 363 = .ok (.iconst 0, 1) := by decide +kernel
theorem dL_refuses_364 : decode cL_refuses 364 = .ok (.invokestatic 139, 3) := by decide +kernel
theorem dL_refuses_367 : decode cL_refuses 367 = .ok (.ldc 22, 2) := by decide +kernel
theorem dL_refuses_369 : decode cL_refuses 369 = .ok (.if_icmp .ne 156, 3) := by decide +kernel
theorem dL_refuses_372 : decode cL_refuses 372 = .ok (.aload_n 0, 1) := by decide +kernel
theorem dL_refuses_373 : decode cL_refuses 373 = .ok (.bipush 12, 2) := by decide +kernel
theorem dL_refuses_375 : decode cL_refuses 375 = .ok (.iload_n 3, 1) := by decide +kernel
theorem dL_refuses_376 : decode cL_refuses 376 = .ok (.bipush 99, 2) := by decide +kernel
theorem dL_refuses_378 : decode cL_refuses 378 = .ok (.iconst 0, 1) := by decide +kernel
theorem dL_refuses_379 : decode cL_refuses 379 = .ok (.invokestatic 139, 3) := by decide +kernel
theorem dL_refuses_382 : decode cL_refuses 382 = .ok (.ldc 22, 2) := by decide +kernel
theorem dL_refuses_384 : decode cL_refuses 384 = .ok (.if_icmp .ne 141, 3) := by decide +kernel
theorem dL_refuses_387 : decode cL_refuses 387 = .ok (.aload_n 0, 1) := by decide +kernel
theorem dL_refuses_388 : decode cL_refuses 388 = .ok (.bipush 12, 2) := by decide +kernel
theorem dL_refuses_390 : decode cL_refuses 390 = .ok (.iconst 0, 1) := by decide +kernel
theorem dL_refuses_391 : decode cL_refuses 391 = .ok (.iload_n 1, 1) := by decide +kernel
theorem dL_refuses_392 : decode cL_refuses 392 = .ok (.iconst 2, 1) := by decide +kernel
theorem dL_refuses_393 : decode cL_refuses 393 = .ok (.irem, 1) := by decide +kernel
theorem dL_refuses_394 : decode cL_refuses 394 = .ok (.ifCond .ne 7, 3) := by decide +kernel
theorem dL_refuses_397 : decode cL_refuses 397 = .ok (.iconst 0, 1) := by decide +kernel
theorem dL_refuses_398 : decode cL_refuses 398 = .ok (.goto 10, 3) := by decide +kernel
theorem dL_refuses_401 : decode cL_refuses 401 = .ok (.bipush 7, 2) := by decide +kernel
theorem dL_refuses_403 : decode cL_refuses 403 = .ok (.iload_n 1, 1) := by decide +kernel
theorem dL_refuses_404 : decode cL_refuses 404 = .ok (.bipush 9, 2) := by decide +kernel
theorem dL_refuses_406 : decode cL_refuses 406 = .ok (.irem, 1) := by decide +kernel
theorem dL_refuses_407 : decode cL_refuses 407 = .ok (.iadd, 1) := by decide +kernel
theorem dL_refuses_408 : decode cL_refuses 408 = .ok (.iconst 0, 1) := by decide +kernel
theorem dL_refuses_409 : decode cL_refuses 409 = .ok (.invokestatic 139, 3) := by decide +kernel
theorem dL_refuses_412 : decode cL_refuses 412 = .ok (.ldc 15, 2) := by decide +kernel
theorem dL_refuses_414 : decode cL_refuses 414 = .ok (.if_icmp .ne 111, 3) := by decide +kernel
theorem dL_refuses_417 : decode cL_refuses 417 = .ok (.aload_n 0, 1) := by decide +kernel
theorem dL_refuses_418 : decode cL_refuses 418 = .ok (.bipush 13, 2) := by decide +kernel
theorem dL_refuses_420 : decode cL_refuses 420 = .ok (.bipush 6, 2) := by decide +kernel
theorem dL_refuses_422 : decode cL_refuses 422 = .ok (.iload_n 1, 1) := by decide +kernel
theorem dL_refuses_423 : decode cL_refuses 423 = .ok (.bipush 9, 2) := by decide +kernel
theorem dL_refuses_425 : decode cL_refuses 425 = .ok (.irem, 1) := by decide +kernel
theorem dL_refuses_426 : decode cL_refuses 426 = .ok (.iadd, 1) := by decide +kernel
theorem dL_refuses_427 : decode cL_refuses 427 = .ok (.iconst 0, 1) := by decide +kernel
theorem dL_refuses_428 : decode cL_refuses 428 = .ok (.iconst 0, 1) := by decide +kernel
theorem dL_refuses_429 : decode cL_refuses 429 = .ok (.invokestatic 139, 3) := by decide +kernel
theorem dL_refuses_432 : decode cL_refuses 432 = .ok (.ldc 15, 2) := by decide +kernel
theorem dL_refuses_434 : decode cL_refuses 434 = .ok (.if_icmp .ne 91, 3) := by decide +kernel
theorem dL_refuses_437 : decode cL_refuses 437 = .ok (.aload_n 0, 1) := by decide +kernel
theorem dL_refuses_438 : decode cL_refuses 438 = .ok (.bipush 14, 2) := by decide +kernel
theorem dL_refuses_440 : decode cL_refuses 440 = .ok (.iconst 2, 1) := by decide +kernel
theorem dL_refuses_441 : decode cL_refuses 441 = .ok (.iload_n 1, 1) := by decide +kernel
theorem dL_refuses_442 : decode cL_refuses 442 = .ok (.bipush 50, 2) := by decide +kernel
theorem dL_refuses_444 : decode cL_refuses 444 = .ok (.irem, 1) := by decide +kernel
theorem dL_refuses_445 : decode cL_refuses 445 = .ok (.iadd, 1) := by decide +kernel
theorem dL_refuses_446 : decode cL_refuses 446 = .ok (.iconst 0, 1) := by decide +kernel
theorem dL_refuses_447 : decode cL_refuses 447 = .ok (.iconst 0, 1) := by decide +kernel
theorem dL_refuses_448 : decode cL_refuses 448 = .ok (.invokestatic 139, 3) := by decide +kernel
theorem dL_refuses_451 : decode cL_refuses 451 = .ok (.ldc 22, 2) := by decide +kernel
theorem dL_refuses_453 : decode cL_refuses 453 = .ok (.if_icmp .ne 72, 3) := by decide +kernel
theorem dL_refuses_456 : decode cL_refuses 456 = .ok (.aload_n 0, 1) := by decide +kernel
theorem dL_refuses_457 : decode cL_refuses 457 = .ok (.bipush 15, 2) := by decide +kernel
theorem dL_refuses_459 : decode cL_refuses 459 = .ok (.iconst (-1), 1) := by decide +kernel
theorem dL_refuses_460 : decode cL_refuses 460 = .ok (.iload_n 1, 1) := by decide +kernel
theorem dL_refuses_461 : decode cL_refuses 461 = .ok (.bipush 9, 2) := by decide +kernel
theorem dL_refuses_463 : decode cL_refuses 463 = .ok (.irem, 1) := by decide +kernel
theorem dL_refuses_464 : decode cL_refuses 464 = .ok (.isub, 1) := by decide +kernel
theorem dL_refuses_465 : decode cL_refuses 465 = .ok (.iconst 0, 1) := by decide +kernel
theorem dL_refuses_466 : decode cL_refuses 466 = .ok (.iconst 0, 1) := by decide +kernel
theorem dL_refuses_467 : decode cL_refuses 467 = .ok (.invokestatic 139, 3) := by decide +kernel
theorem dL_refuses_470 : decode cL_refuses 470 = .ok (.ldc 22, 2) := by decide +kernel
theorem dL_refuses_472 : decode cL_refuses 472 = .ok (.if_icmp .ne 53, 3) := by decide +kernel
theorem dL_refuses_475 : decode cL_refuses 475 = .ok (.aload_n 0, 1) := by decide +kernel
theorem dL_refuses_476 : decode cL_refuses 476 = .ok (.iconst 0, 1) := by decide +kernel
theorem dL_refuses_477 : decode cL_refuses 477 = .ok (.lconst 0, 1) := by decide +kernel
theorem dL_refuses_478 : decode cL_refuses 478 = .ok (.invokestatic 151, 3) := by decide +kernel
theorem dL_refuses_481 : decode cL_refuses 481 = .ok (.ldc 15, 2) := by decide +kernel
theorem dL_refuses_483 : decode cL_refuses 483 = .ok (.if_icmp .ne 42, 3) := by decide +kernel
theorem dL_refuses_486 : decode cL_refuses 486 = .ok (.aload_n 0, 1) := by decide +kernel
theorem dL_refuses_487 : decode cL_refuses 487 = .ok (.iconst 1, 1) := by decide +kernel
theorem dL_refuses_488 : decode cL_refuses 488 = .ok (.ldc2_w 154, 3) := by decide +kernel
theorem dL_refuses_491 : decode cL_refuses 491 = .ok (.iload_n 1, 1) := by decide +kernel
theorem dL_refuses_492 : decode cL_refuses 492 = .ok (.i2l, 1) := by decide +kernel
theorem dL_refuses_493 : decode cL_refuses 493 = .ok (.ladd, 1) := by decide +kernel
theorem dL_refuses_494 : decode cL_refuses 494 = .ok (.invokestatic 151, 3) := by decide +kernel
theorem dL_refuses_497 : decode cL_refuses 497 = .ok (.ldc 15, 2) := by decide +kernel
theorem dL_refuses_499 : decode cL_refuses 499 = .ok (.if_icmp .ne 26, 3) := by decide +kernel
theorem dL_refuses_502 : decode cL_refuses 502 = .ok (.aload_n 0, 1) := by decide +kernel
theorem dL_refuses_503 : decode cL_refuses 503 = .ok (.iload_n 1, 1) := by decide +kernel
theorem dL_refuses_504 : decode cL_refuses 504 = .ok (.i2l, 1) := by decide +kernel
theorem dL_refuses_505 : decode cL_refuses 505 = .ok (.sipush 201, 3) := by decide +kernel
theorem dL_refuses_508 : decode cL_refuses 508 = .ok (.iload_n 1, 1) := by decide +kernel
theorem dL_refuses_509 : decode cL_refuses 509 = .ok (.bipush 9, 2) := by decide +kernel
theorem dL_refuses_511 : decode cL_refuses 511 = .ok (.irem, 1) := by decide +kernel
theorem dL_refuses_512 : decode cL_refuses 512 = .ok (.iadd, 1) := by decide +kernel
theorem dL_refuses_513 : decode cL_refuses 513 = .ok (.invokestatic 156, 3) := by decide +kernel
theorem dL_refuses_516 : decode cL_refuses 516 = .ok (.ldc 15, 2) := by decide +kernel
theorem dL_refuses_518 : decode cL_refuses 518 = .ok (.if_icmp .ne 7, 3) := by decide +kernel
theorem dL_refuses_521 : decode cL_refuses 521 = .ok (.iconst 1, 1) := by decide +kernel
theorem dL_refuses_522 : decode cL_refuses 522 = .ok (.goto 4, 3) := by decide +kernel
theorem dL_refuses_525 : decode cL_refuses 525 = .ok (.iconst 0, 1) := by decide +kernel
theorem dL_refuses_526 : decode cL_refuses 526 = .ok (.istore 8, 2) := by decide +kernel
theorem dL_refuses_528 : decode cL_refuses 528 = .ok (.iload 8, 2) := by decide +kernel
theorem dL_refuses_530 : decode cL_refuses 530 = .ok (.ifCond .eq 112, 3) := by decide +kernel
theorem dL_refuses_533 : decode cL_refuses 533 = .ok (.iload 6, 2) := by decide +kernel
theorem dL_refuses_535 : decode cL_refuses 535 = .ok (.iconst 1, 1) := by decide +kernel
theorem dL_refuses_536 : decode cL_refuses 536 = .ok (.if_icmp .eq 60, 3) := by decide +kernel
theorem dL_refuses_539 : decode cL_refuses 539 = .ok (.aload_n 0, 1) := by decide +kernel
theorem dL_refuses_540 : decode cL_refuses 540 = .ok (.iload_n 1, 1) := by decide +kernel
theorem dL_refuses_541 : decode cL_refuses 541 = .ok (.bipush 28, 2) := by decide +kernel
theorem dL_refuses_543 : decode cL_refuses 543 = .ok (.irem, 1) := by decide +kernel
theorem dL_refuses_544 : decode cL_refuses 544 = .ok (.iconst 1, 1) := by decide +kernel
theorem dL_refuses_545 : decode cL_refuses 545 = .ok (.invokestatic 147, 3) := by decide +kernel
theorem dL_refuses_548 : decode cL_refuses 548 = .ok (.ldc 25, 2) := by decide +kernel
theorem dL_refuses_550 : decode cL_refuses 550 = .ok (.if_icmp .ne 92, 3) := by decide +kernel
theorem dL_refuses_553 : decode cL_refuses 553 = .ok (.aload_n 0, 1) := by decide +kernel
theorem dL_refuses_554 : decode cL_refuses 554 = .ok (.bipush 8, 2) := by decide +kernel
theorem dL_refuses_556 : decode cL_refuses 556 = .ok (.iconst 0, 1) := by decide +kernel
theorem dL_refuses_557 : decode cL_refuses 557 = .ok (.iconst 0, 1) := by decide +kernel
theorem dL_refuses_558 : decode cL_refuses 558 = .ok (.iconst 0, 1) := by decide +kernel
theorem dL_refuses_559 : decode cL_refuses 559 = .ok (.invokestatic 139, 3) := by decide +kernel
theorem dL_refuses_562 : decode cL_refuses 562 = .ok (.ldc 25, 2) := by decide +kernel
theorem dL_refuses_564 : decode cL_refuses 564 = .ok (.if_icmp .ne 78, 3) := by decide +kernel
theorem dL_refuses_567 : decode cL_refuses 567 = .ok (.aload_n 0, 1) := by decide +kernel
theorem dL_refuses_568 : decode cL_refuses 568 = .ok (.bipush 9, 2) := by decide +kernel
theorem dL_refuses_570 : decode cL_refuses 570 = .ok (.iconst 0, 1) := by decide +kernel
theorem dL_refuses_571 : decode cL_refuses 571 = .ok (.iconst 0, 1) := by decide +kernel
theorem dL_refuses_572 : decode cL_refuses 572 = .ok (.iconst 0, 1) := by decide +kernel
theorem dL_refuses_573 : decode cL_refuses 573 = .ok (.invokestatic 139, 3) := by decide +kernel
theorem dL_refuses_576 : decode cL_refuses 576 = .ok (.ldc 25, 2) := by decide +kernel
theorem dL_refuses_578 : decode cL_refuses 578 = .ok (.if_icmp .ne 64, 3) := by decide +kernel
theorem dL_refuses_581 : decode cL_refuses 581 = .ok (.aload_n 0, 1) := by decide +kernel
theorem dL_refuses_582 : decode cL_refuses 582 = .ok (.invokevirtual 160, 3) := by decide +kernel
theorem dL_refuses_585 : decode cL_refuses 585 = .ok (.ifCond .ne 57, 3) := by decide +kernel
theorem dL_refuses_588 : decode cL_refuses 588 = .ok (.aload_n 0, 1) := by decide +kernel
theorem dL_refuses_589 : decode cL_refuses 589 = .ok (.invokevirtual 163, 3) := by decide +kernel
theorem dL_refuses_592 : decode cL_refuses 592 = .ok (.iconst (-1), 1) := by decide +kernel
theorem dL_refuses_593 : decode cL_refuses 593 = .ok (.if_icmp .ne 49, 3) := by decide +kernel
theorem dL_refuses_596 : decode cL_refuses 596 = .ok (.iload 6, 2) := by decide +kernel
theorem dL_refuses_598 : decode cL_refuses 598 = .ok (.iconst 1, 1) := by decide +kernel
theorem dL_refuses_599 : decode cL_refuses 599 = .ok (.if_icmp .ne 39, 3) := by decide +kernel
theorem dL_refuses_602 : decode cL_refuses 602 = .ok (.iload 7, 2) := by decide +kernel
theorem dL_refuses_604 : decode cL_refuses 604 = .ok (.ifCond .le 20, 3) := by decide +kernel
theorem dL_refuses_607 : decode cL_refuses 607 = .ok (.aload_n 0, 1) := by decide +kernel
theorem dL_refuses_608 : decode cL_refuses 608 = .ok (.bipush 9, 2) := by decide +kernel
theorem dL_refuses_610 : decode cL_refuses 610 = .ok (.iconst 0, 1) := by decide +kernel
theorem dL_refuses_611 : decode cL_refuses 611 = .ok (.iconst 0, 1) := by decide +kernel
theorem dL_refuses_612 : decode cL_refuses 612 = .ok (.iconst 0, 1) := by decide +kernel
theorem dL_refuses_613 : decode cL_refuses 613 = .ok (.invokestatic 139, 3) := by decide +kernel
theorem dL_refuses_616 : decode cL_refuses 616 = .ok (.ldc 25, 2) := by decide +kernel
theorem dL_refuses_618 : decode cL_refuses 618 = .ok (.if_icmp .ne 24, 3) := by decide +kernel
theorem dL_refuses_621 : decode cL_refuses 621 = .ok (.goto 17, 3) := by decide +kernel
theorem dL_refuses_624 : decode cL_refuses 624 = .ok (.aload_n 0, 1) := by decide +kernel
theorem dL_refuses_625 : decode cL_refuses 625 = .ok (.bipush 8, 2) := by decide +kernel
theorem dL_refuses_627 : decode cL_refuses 627 = .ok (.iconst 0, 1) := by decide +kernel
theorem dL_refuses_628 : decode cL_refuses 628 = .ok (.iconst 0, 1) := by decide +kernel
theorem dL_refuses_629 : decode cL_refuses 629 = .ok (.iconst 0, 1) := by decide +kernel
theorem dL_refuses_630 : decode cL_refuses 630 = .ok (.invokestatic 139, 3) := by decide +kernel
theorem dL_refuses_633 : decode cL_refuses 633 = .ok (.ldc 25, 2) := by decide +kernel
theorem dL_refuses_635 : decode cL_refuses 635 = .ok (.if_icmp .ne 7, 3) := by decide +kernel
theorem dL_refuses_638 : decode cL_refuses 638 = .ok (.iconst 1, 1) := by decide +kernel
theorem dL_refuses_639 : decode cL_refuses 639 = .ok (.goto 4, 3) := by decide +kernel
theorem dL_refuses_642 : decode cL_refuses 642 = .ok (.iconst 0, 1) := by decide +kernel
theorem dL_refuses_643 : decode cL_refuses 643 = .ok (.ireturn, 1) := by decide +kernel
theorem dL_holds_0 : decode cL_holds 0 = .ok (.aload_n 0, 1) := by decide +kernel
theorem dL_holds_1 : decode cL_holds 1 = .ok (.iconst 2, 1) := by decide +kernel
theorem dL_holds_2 : decode cL_holds 2 = .ok (.iconst 0, 1) := by decide +kernel
theorem dL_holds_3 : decode cL_holds 3 = .ok (.iconst 0, 1) := by decide +kernel
theorem dL_holds_4 : decode cL_holds 4 = .ok (.iconst 0, 1) := by decide +kernel
theorem dL_holds_5 : decode cL_holds 5 = .ok (.invokestatic 139, 3) := by decide +kernel
theorem dL_holds_8 : decode cL_holds 8 = .ok (.istore_n 2, 1) := by decide +kernel
theorem dL_holds_9 : decode cL_holds 9 = .ok (.aload_n 0, 1) := by decide +kernel
theorem dL_holds_10 : decode cL_holds 10 = .ok (.iconst 2, 1) := by decide +kernel
theorem dL_holds_11 : decode cL_holds 11 = .ok (.iconst 1, 1) := by decide +kernel
theorem dL_holds_12 : decode cL_holds 12 = .ok (.iconst 0, 1) := by decide +kernel
theorem dL_holds_13 : decode cL_holds 13 = .ok (.iconst 0, 1) := by decide +kernel
theorem dL_holds_14 : decode cL_holds 14 = .ok (.invokestatic 139, 3) := by decide +kernel
theorem dL_holds_17 : decode cL_holds 17 = .ok (.istore_n 3, 1) := by decide +kernel
theorem dL_holds_18 : decode cL_holds 18 = .ok (.aload_n 0, 1) := by decide +kernel
theorem dL_holds_19 : decode cL_holds 19 = .ok (.iconst 2, 1) := by decide +kernel
theorem dL_holds_20 : decode cL_holds 20 = .ok (.iconst 5, 1) := by decide +kernel
theorem dL_holds_21 : decode cL_holds 21 = .ok (.iconst 0, 1) := by decide +kernel
theorem dL_holds_22 : decode cL_holds 22 = .ok (.iconst 0, 1) := by decide +kernel
theorem dL_holds_23 : decode cL_holds 23 = .ok (.invokestatic 139, 3) := by decide +kernel
theorem dL_holds_26 : decode cL_holds 26 = .ok (.istore 4, 2) := by decide +kernel
theorem dL_holds_28 : decode cL_holds 28 = .ok (.aload_n 0, 1) := by decide +kernel
theorem dL_holds_29 : decode cL_holds 29 = .ok (.iconst 2, 1) := by decide +kernel
theorem dL_holds_30 : decode cL_holds 30 = .ok (.iconst 4, 1) := by decide +kernel
theorem dL_holds_31 : decode cL_holds 31 = .ok (.iconst 0, 1) := by decide +kernel
theorem dL_holds_32 : decode cL_holds 32 = .ok (.iconst 0, 1) := by decide +kernel
theorem dL_holds_33 : decode cL_holds 33 = .ok (.invokestatic 139, 3) := by decide +kernel
theorem dL_holds_36 : decode cL_holds 36 = .ok (.istore 5, 2) := by decide +kernel
theorem dL_holds_38 : decode cL_holds 38 = .ok (.aload_n 0, 1) := by decide +kernel
theorem dL_holds_39 : decode cL_holds 39 = .ok (.iconst 2, 1) := by decide +kernel
theorem dL_holds_40 : decode cL_holds 40 = .ok (.iconst 3, 1) := by decide +kernel
theorem dL_holds_41 : decode cL_holds 41 = .ok (.iconst 0, 1) := by decide +kernel
theorem dL_holds_42 : decode cL_holds 42 = .ok (.iconst 0, 1) := by decide +kernel
theorem dL_holds_43 : decode cL_holds 43 = .ok (.invokestatic 139, 3) := by decide +kernel
theorem dL_holds_46 : decode cL_holds 46 = .ok (.istore 6, 2) := by decide +kernel
theorem dL_holds_48 : decode cL_holds 48 = .ok (.iconst 0, 1) := by decide +kernel
theorem dL_holds_49 : decode cL_holds 49 = .ok (.istore 7, 2) := by decide +kernel
theorem dL_holds_51 : decode cL_holds 51 = .ok (.iconst 0, 1) := by decide +kernel
theorem dL_holds_52 : decode cL_holds 52 = .ok (.istore 8, 2) := by decide +kernel
theorem dL_holds_54 : decode cL_holds 54 = .ok (.iconst 0, 1) := by decide +kernel
theorem dL_holds_55 : decode cL_holds 55 = .ok (.istore 9, 2) := by decide +kernel
theorem dL_holds_57 : decode cL_holds 57 = .ok (.aload_n 0, 1) := by decide +kernel
theorem dL_holds_58 : decode cL_holds 58 = .ok (.invokevirtual 160, 3) := by decide +kernel
theorem dL_holds_61 : decode cL_holds 61 = .ok (.istore 10, 2) := by decide +kernel
theorem dL_holds_63 : decode cL_holds 63 = .ok (.aload_n 0, 1) := by decide +kernel
theorem dL_holds_64 : decode cL_holds 64 = .ok (.invokevirtual 163, 3) := by decide +kernel
theorem dL_holds_67 : decode cL_holds 67 = .ok (.istore 11, 2) := by decide +kernel
theorem dL_holds_69 : decode cL_holds 69 = .ok (.iload_n 3, 1) := by decide +kernel
theorem dL_holds_70 : decode cL_holds 70 = .ok (.ifCond .lt 57, 3) := by decide +kernel
theorem dL_holds_73 : decode cL_holds 73 = .ok (.iload_n 3, 1) := by decide +kernel
theorem dL_holds_74 : decode cL_holds 74 = .ok (.iconst 3, 1) := by decide +kernel
theorem dL_holds_75 : decode cL_holds 75 = .ok (.if_icmp .ge 52, 3) := by decide +kernel
theorem dL_holds_78 : decode cL_holds 78 = .ok (.iload_n 3, 1) := by decide +kernel
theorem dL_holds_79 : decode cL_holds 79 = .ok (.ifCond .ne 7, 3) := by decide +kernel
theorem dL_holds_82 : decode cL_holds 82 = .ok (.iconst 1, 1) := by decide +kernel
theorem dL_holds_83 : decode cL_holds 83 = .ok (.goto 4, 3) := by decide +kernel
theorem dL_holds_86 : decode cL_holds 86 = .ok (.iconst 0, 1) := by decide +kernel
theorem dL_holds_87 : decode cL_holds 87 = .ok (.iload_n 2, 1) := by decide +kernel
theorem dL_holds_88 : decode cL_holds 88 = .ok (.ifCond .ne 7, 3) := by decide +kernel
theorem dL_holds_91 : decode cL_holds 91 = .ok (.iconst 1, 1) := by decide +kernel
theorem dL_holds_92 : decode cL_holds 92 = .ok (.goto 4, 3) := by decide +kernel
theorem dL_holds_95 : decode cL_holds 95 = .ok (.iconst 0, 1) := by decide +kernel
theorem dL_holds_96 : decode cL_holds 96 = .ok (.if_icmp .ne 31, 3) := by decide +kernel
theorem dL_holds_99 : decode cL_holds 99 = .ok (.iload 6, 2) := by decide +kernel
theorem dL_holds_101 : decode cL_holds 101 = .ok (.iconst (-1), 1) := by decide +kernel
theorem dL_holds_102 : decode cL_holds 102 = .ok (.if_icmp .ne 7, 3) := by decide +kernel
theorem dL_holds_105 : decode cL_holds 105 = .ok (.iconst 1, 1) := by decide +kernel
theorem dL_holds_106 : decode cL_holds 106 = .ok (.goto 4, 3) := by decide +kernel
theorem dL_holds_109 : decode cL_holds 109 = .ok (.iconst 0, 1) := by decide +kernel
theorem dL_holds_110 : decode cL_holds 110 = .ok (.iload_n 3, 1) := by decide +kernel
theorem dL_holds_111 : decode cL_holds 111 = .ok (.iconst 1, 1) := by decide +kernel
theorem dL_holds_112 : decode cL_holds 112 = .ok (.if_icmp .eq 7, 3) := by decide +kernel
theorem dL_holds_115 : decode cL_holds 115 = .ok (.iconst 1, 1) := by decide +kernel
theorem dL_holds_116 : decode cL_holds 116 = .ok (.goto 4, 3) := by decide +kernel
theorem dL_holds_119 : decode cL_holds 119 = .ok (.iconst 0, 1) := by decide +kernel
theorem dL_holds_120 : decode cL_holds 120 = .ok (.if_icmp .ne 7, 3) := by decide +kernel
theorem dL_holds_123 : decode cL_holds 123 = .ok (.iconst 1, 1) := by decide +kernel
theorem dL_holds_124 : decode cL_holds 124 = .ok (.goto 4, 3) := by decide +kernel
theorem dL_holds_127 : decode cL_holds 127 = .ok (.iconst 0, 1) := by decide +kernel
theorem dL_holds_128 : decode cL_holds 128 = .ok (.istore 12, 2) := by decide +kernel
theorem dL_holds_130 : decode cL_holds 130 = .ok (.iconst 0, 1) := by decide +kernel
theorem dL_holds_131 : decode cL_holds 131 = .ok (.istore 13, 2) := by decide +kernel
theorem dL_holds_133 : decode cL_holds 133 = .ok (.iload 13, 2) := by decide +kernel
theorem dL_holds_135 : decode cL_holds 135 = .ok (.bipush 28, 2) := by decide +kernel
theorem dL_holds_137 : decode cL_holds 137 = .ok (.if_icmp .ge 342, 3) := by decide +kernel
theorem dL_holds_140 : decode cL_holds 140 = .ok (.iload 12, 2) := by decide +kernel
theorem dL_holds_142 : decode cL_holds 142 = .ok (.ifCond .eq 337, 3) := by decide +kernel
theorem dL_holds_145 : decode cL_holds 145 = .ok (.aload_n 0, 1) := by decide +kernel
theorem dL_holds_146 : decode cL_holds 146 = .ok (.iconst 3, 1) := by decide +kernel
theorem dL_holds_147 : decode cL_holds 147 = .ok (.iload 13, 2) := by decide +kernel
theorem dL_holds_149 : decode cL_holds 149 = .ok (.iconst 2, 1) := by decide +kernel
theorem dL_holds_150 : decode cL_holds 150 = .ok (.iconst 0, 1) := by decide +kernel
theorem dL_holds_151 : decode cL_holds 151 = .ok (.invokestatic 139, 3) := by decide +kernel
theorem dL_holds_154 : decode cL_holds 154 = .ok (.istore 14, 2) := by decide +kernel
theorem dL_holds_156 : decode cL_holds 156 = .ok (.aload_n 0, 1) := by decide +kernel
theorem dL_holds_157 : decode cL_holds 157 = .ok (.iconst 3, 1) := by decide +kernel
theorem dL_holds_158 : decode cL_holds 158 = .ok (.iload 13, 2) := by decide +kernel
theorem dL_holds_160 : decode cL_holds 160 = .ok (.iconst 3, 1) := by decide +kernel
theorem dL_holds_161 : decode cL_holds 161 = .ok (.iconst 0, 1) := by decide +kernel
theorem dL_holds_162 : decode cL_holds 162 = .ok (.invokestatic 139, 3) := by decide +kernel
theorem dL_holds_165 : decode cL_holds 165 = .ok (.istore 15, 2) := by decide +kernel
theorem dL_holds_167 : decode cL_holds 167 = .ok (.aload_n 0, 1) := by decide +kernel
theorem dL_holds_168 : decode cL_holds 168 = .ok (.iconst 3, 1) := by decide +kernel
theorem dL_holds_169 : decode cL_holds 169 = .ok (.iload 13, 2) := by decide +kernel
theorem dL_holds_171 : decode cL_holds 171 = .ok (.iconst 4, 1) := by decide +kernel
theorem dL_holds_172 : decode cL_holds 172 = .ok (.iconst 0, 1) := by decide +kernel
theorem dL_holds_173 : decode cL_holds 173 = .ok (.invokestatic 139, 3) := by decide +kernel
theorem dL_holds_176 : decode cL_holds 176 = .ok (.istore 16, 2) := by decide +kernel
theorem dL_holds_178 : decode cL_holds 178 = .ok (.aload_n 0, 1) := by decide +kernel
theorem dL_holds_179 : decode cL_holds 179 = .ok (.bipush 11, 2) := by decide +kernel
theorem dL_holds_181 : decode cL_holds 181 = .ok (.iload 13, 2) := by decide +kernel
theorem dL_holds_183 : decode cL_holds 183 = .ok (.iconst 0, 1) := by decide +kernel
theorem dL_holds_184 : decode cL_holds 184 = .ok (.iconst 0, 1) := by decide +kernel
theorem dL_holds_185 : decode cL_holds 185 = .ok (.invokestatic 139, 3) := by decide +kernel
theorem dL_holds_188 : decode cL_holds 188 = .ok (.istore 17, 2) := by decide +kernel
theorem dL_holds_190 : decode cL_holds 190 = .ok (.aload_n 0, 1) := by decide +kernel
theorem dL_holds_191 : decode cL_holds 191 = .ok (.iconst 3, 1) := by decide +kernel
theorem dL_holds_192 : decode cL_holds 192 = .ok (.iload 13, 2) := by decide +kernel
theorem dL_holds_194 : decode cL_holds 194 = .ok (.iconst 0, 1) := by decide +kernel
theorem dL_holds_195 : decode cL_holds 195 = .ok (.iconst 0, 1) := by decide +kernel
theorem dL_holds_196 : decode cL_holds 196 = .ok (.invokestatic 139, 3) := by decide +kernel
theorem dL_holds_199 : decode cL_holds 199 = .ok (.aload_n 0, 1) := by decide +kernel
theorem dL_holds_200 : decode cL_holds 200 = .ok (.iconst 3, 1) := by decide +kernel
theorem dL_holds_201 : decode cL_holds 201 = .ok (.iload 13, 2) := by decide +kernel
theorem dL_holds_203 : decode cL_holds 203 = .ok (.iconst 1, 1) := by decide +kernel
theorem dL_holds_204 : decode cL_holds 204 = .ok (.iconst 0, 1) := by decide +kernel
theorem dL_holds_205 : decode cL_holds 205 = .ok (.invokestatic 139, 3) := by decide +kernel
theorem dL_holds_208 : decode cL_holds 208 = .ok (.iadd, 1) := by decide +kernel
theorem dL_holds_209 : decode cL_holds 209 = .ok (.istore 18, 2) := by decide +kernel
theorem dL_holds_211 : decode cL_holds 211 = .ok (.iload 7, 2) := by decide +kernel
theorem dL_holds_213 : decode cL_holds 213 = .ok (.iload 14, 2) := by decide +kernel
theorem dL_holds_215 : decode cL_holds 215 = .ok (.iconst (-1), 1) := by decide +kernel
theorem dL_holds_216 : decode cL_holds 216 = .ok (.if_icmp .ne 7, 3) := by decide +kernel
theorem dL_holds_219 : decode cL_holds 219 = .ok (.iconst 0, 1) := by decide +kernel
theorem dL_holds_220 : decode cL_holds 220 = .ok (.goto 4, 3) := by decide +kernel
theorem dL_holds_223 : decode cL_holds 223 = .ok (.iconst 1, 1) := by decide +kernel
theorem dL_holds_224 : decode cL_holds 224 = .ok (.iadd, 1) := by decide +kernel
theorem dL_holds_225 : decode cL_holds 225 = .ok (.istore 7, 2) := by decide +kernel
theorem dL_holds_227 : decode cL_holds 227 = .ok (.iload 8, 2) := by decide +kernel
theorem dL_holds_229 : decode cL_holds 229 = .ok (.iload 15, 2) := by decide +kernel
theorem dL_holds_231 : decode cL_holds 231 = .ok (.iconst (-1), 1) := by decide +kernel
theorem dL_holds_232 : decode cL_holds 232 = .ok (.if_icmp .ne 7, 3) := by decide +kernel
theorem dL_holds_235 : decode cL_holds 235 = .ok (.iconst 0, 1) := by decide +kernel
theorem dL_holds_236 : decode cL_holds 236 = .ok (.goto 4, 3) := by decide +kernel
theorem dL_holds_239 : decode cL_holds 239 = .ok (.iconst 1, 1) := by decide +kernel
theorem dL_holds_240 : decode cL_holds 240 = .ok (.iadd, 1) := by decide +kernel
theorem dL_holds_241 : decode cL_holds 241 = .ok (.istore 8, 2) := by decide +kernel
theorem dL_holds_243 : decode cL_holds 243 = .ok (.iload 9, 2) := by decide +kernel
theorem dL_holds_245 : decode cL_holds 245 = .ok (.iload 16, 2) := by decide +kernel
theorem dL_holds_247 : decode cL_holds 247 = .ok (.iconst (-1), 1) := by decide +kernel
theorem dL_holds_248 : decode cL_holds 248 = .ok (.if_icmp .ne 7, 3) := by decide +kernel
theorem dL_holds_251 : decode cL_holds 251 = .ok (.iconst 0, 1) := by decide +kernel
theorem dL_holds_252 : decode cL_holds 252 = .ok (.goto 4, 3) := by decide +kernel
theorem dL_holds_255 : decode cL_holds 255 = .ok (.iconst 1, 1) := by decide +kernel
theorem dL_holds_256 : decode cL_holds 256 = .ok (.iadd, 1) := by decide +kernel
theorem dL_holds_257 : decode cL_holds 257 = .ok (.istore 9, 2) := by decide +kernel
theorem dL_holds_259 : decode cL_holds 259 = .ok (.iload 14, 2) := by decide +kernel
theorem dL_holds_261 : decode cL_holds 261 = .ok (.iconst (-1), 1) := by decide +kernel
theorem dL_holds_262 : decode cL_holds 262 = .ok (.if_icmp .ne 7, 3) := by decide +kernel
theorem dL_holds_265 : decode cL_holds 265 = .ok (.iconst 0, 1) := by decide +kernel
theorem dL_holds_266 : decode cL_holds 266 = .ok (.goto 4, 3) := by decide +kernel
theorem dL_holds_269 : decode cL_holds 269 = .ok (.iconst 1, 1) := by decide +kernel
theorem dL_holds_270 : decode cL_holds 270 = .ok (.iload 15, 2) := by decide +kernel
theorem dL_holds_272 : decode cL_holds 272 = .ok (.iconst (-1), 1) := by decide +kernel
theorem dL_holds_273 : decode cL_holds 273 = .ok (.if_icmp .ne 7, 3) := by decide +kernel
theorem dL_holds_276 : decode cL_holds 276 = .ok (.iconst 0, 1) := by decide +kernel
theorem dL_holds_277 : decode cL_holds 277 = .ok (.goto 4, 3) := by decide +kernel
theorem dL_holds_280 : decode cL_holds 280 = .ok (.iconst 1, 1) := by decide +kernel
theorem dL_holds_281 : decode cL_holds 281 = .ok (.iadd, 1) := by decide +kernel
theorem dL_holds_282 : decode cL_holds 282 = .ok (.iload 16, 2) := by decide +kernel
theorem dL_holds_284 : decode cL_holds 284 = .ok (.iconst (-1), 1) := by decide +kernel
theorem dL_holds_285 : decode cL_holds 285 = .ok (.if_icmp .ne 7, 3) := by decide +kernel
theorem dL_holds_288 : decode cL_holds 288 = .ok (.iconst 0, 1) := by decide +kernel
theorem dL_holds_289 : decode cL_holds 289 = .ok (.goto 4, 3) := by decide +kernel
theorem dL_holds_292 : decode cL_holds 292 = .ok (.iconst 1, 1) := by decide +kernel
theorem dL_holds_293 : decode cL_holds 293 = .ok (.iadd, 1) := by decide +kernel
theorem dL_holds_294 : decode cL_holds 294 = .ok (.iload_n 2, 1) := by decide +kernel
theorem dL_holds_295 : decode cL_holds 295 = .ok (.ifCond .ne 7, 3) := by decide +kernel
theorem dL_holds_298 : decode cL_holds 298 = .ok (.iconst 0, 1) := by decide +kernel
theorem dL_holds_299 : decode cL_holds 299 = .ok (.goto 4, 3) := by decide +kernel
theorem dL_holds_302 : decode cL_holds 302 = .ok (.iconst 1, 1) := by decide +kernel
theorem dL_holds_303 : decode cL_holds 303 = .ok (.if_icmp .ne 167, 3) := by decide +kernel
theorem dL_holds_306 : decode cL_holds 306 = .ok (.iload 10, 2) := by decide +kernel
theorem dL_holds_308 : decode cL_holds 308 = .ok (.iload 13, 2) := by decide +kernel
theorem dL_holds_310 : decode cL_holds 310 = .ok (.ishr, 1) := by decide +kernel
theorem dL_holds_311 : decode cL_holds 311 = .ok (.iconst 1, 1) := by decide +kernel
theorem dL_holds_312 : decode cL_holds 312 = .ok (.iand, 1) := by decide +kernel
theorem dL_holds_313 : decode cL_holds 313 = .ok (.iload 17, 2) := by decide +kernel
theorem dL_holds_315 : decode cL_holds 315 = .ok (.ifCond .ne 7, 3) := by decide +kernel
theorem dL_holds_318 : decode cL_holds 318 = .ok (.iconst 1, 1) := by decide +kernel
theorem dL_holds_319 : decode cL_holds 319 = .ok (.goto 4, 3) := by decide +kernel
theorem dL_holds_322 : decode cL_holds 322 = .ok (.iconst 0, 1) := by decide +kernel
theorem dL_holds_323 : decode cL_holds 323 = .ok (.if_icmp .ne 147, 3) := by decide +kernel
theorem dL_holds_326 : decode cL_holds 326 = .ok (.iload 17, 2) := by decide +kernel
theorem dL_holds_328 : decode cL_holds 328 = .ok (.iconst (-1), 1) := by decide +kernel
theorem dL_holds_329 : decode cL_holds 329 = .ok (.if_icmp .ne 7, 3) := by decide +kernel
theorem dL_holds_332 : decode cL_holds 332 = .ok (.iconst 1, 1) := by decide +kernel
theorem dL_holds_333 : decode cL_holds 333 = .ok (.goto 4, 3) := by decide +kernel
theorem dL_holds_336 : decode cL_holds 336 = .ok (.iconst 0, 1) := by decide +kernel
theorem dL_holds_337 : decode cL_holds 337 = .ok (.iload_n 3, 1) := by decide +kernel
theorem dL_holds_338 : decode cL_holds 338 = .ok (.iconst 1, 1) := by decide +kernel
theorem dL_holds_339 : decode cL_holds 339 = .ok (.if_icmp .eq 7, 3) := by decide +kernel
theorem dL_holds_342 : decode cL_holds 342 = .ok (.iconst 1, 1) := by decide +kernel
theorem dL_holds_343 : decode cL_holds 343 = .ok (.goto 4, 3) := by decide +kernel
theorem dL_holds_346 : decode cL_holds 346 = .ok (.iconst 0, 1) := by decide +kernel
theorem dL_holds_347 : decode cL_holds 347 = .ok (.if_icmp .ne 123, 3) := by decide +kernel
theorem dL_holds_350 : decode cL_holds 350 = .ok (.iload_n 3, 1) := by decide +kernel
theorem dL_holds_351 : decode cL_holds 351 = .ok (.iconst 1, 1) := by decide +kernel
theorem dL_holds_352 : decode cL_holds 352 = .ok (.if_icmp .ne 29, 3) := by decide +kernel
theorem dL_holds_355 : decode cL_holds 355 = .ok (.iload 17, 2) := by decide +kernel
theorem dL_holds_357 : decode cL_holds 357 = .ok (.iconst 1, 1) := by decide +kernel
theorem dL_holds_358 : decode cL_holds 358 = .ok (.if_icmp .ne 7, 3) := by decide +kernel
theorem dL_holds_361 : decode cL_holds 361 = .ok (.iconst 1, 1) := by decide +kernel
theorem dL_holds_362 : decode cL_holds 362 = .ok (.goto 4, 3) := by decide +kernel
theorem dL_holds_365 : decode cL_holds 365 = .ok (.iconst 0, 1) := by decide +kernel
theorem dL_holds_366 : decode cL_holds 366 = .ok (.iload 14, 2) := by decide +kernel
theorem dL_holds_368 : decode cL_holds 368 = .ok (.iload 6, 2) := by decide +kernel
theorem dL_holds_370 : decode cL_holds 370 = .ok (.if_icmp .eq 7, 3) := by decide +kernel
theorem dL_holds_373 : decode cL_holds 373 = .ok (.iconst 1, 1) := by decide +kernel
theorem dL_holds_374 : decode cL_holds 374 = .ok (.goto 4, 3) := by decide +kernel
theorem dL_holds_377 : decode cL_holds 377 = .ok (.iconst 0, 1) := by decide +kernel
theorem dL_holds_378 : decode cL_holds 378 = .ok (.if_icmp .ne 92, 3) := by decide +kernel
theorem dL_holds_381 : decode cL_holds 381 = .ok (.iload 15, 2) := by decide +kernel
theorem dL_holds_383 : decode cL_holds 383 = .ok (.iconst (-1), 1) := by decide +kernel
theorem dL_holds_384 : decode cL_holds 384 = .ok (.if_icmp .eq 17, 3) := by decide +kernel
theorem dL_holds_387 : decode cL_holds 387 = .ok (.aload_n 0, 1) := by decide +kernel
theorem dL_holds_388 : decode cL_holds 388 = .ok (.iconst 4, 1) := by decide +kernel
theorem dL_holds_389 : decode cL_holds 389 = .ok (.iload 15, 2) := by decide +kernel
theorem dL_holds_391 : decode cL_holds 391 = .ok (.iconst 0, 1) := by decide +kernel
theorem dL_holds_392 : decode cL_holds 392 = .ok (.iconst 0, 1) := by decide +kernel
theorem dL_holds_393 : decode cL_holds 393 = .ok (.invokestatic 139, 3) := by decide +kernel
theorem dL_holds_396 : decode cL_holds 396 = .ok (.iload 13, 2) := by decide +kernel
theorem dL_holds_398 : decode cL_holds 398 = .ok (.if_icmp .ne 72, 3) := by decide +kernel
theorem dL_holds_401 : decode cL_holds 401 = .ok (.iload 10, 2) := by decide +kernel
theorem dL_holds_403 : decode cL_holds 403 = .ok (.iload 13, 2) := by decide +kernel
theorem dL_holds_405 : decode cL_holds 405 = .ok (.ishr, 1) := by decide +kernel
theorem dL_holds_406 : decode cL_holds 406 = .ok (.iconst 1, 1) := by decide +kernel
theorem dL_holds_407 : decode cL_holds 407 = .ok (.iand, 1) := by decide +kernel
theorem dL_holds_408 : decode cL_holds 408 = .ok (.ifCond .eq 58, 3) := by decide +kernel
theorem dL_holds_411 : decode cL_holds 411 = .ok (.iload 18, 2) := by decide +kernel
theorem dL_holds_413 : decode cL_holds 413 = .ok (.aload_n 0, 1) := by decide +kernel
theorem dL_holds_414 : decode cL_holds 414 = .ok (.iconst 3, 1) := by decide +kernel
theorem dL_holds_415 : decode cL_holds 415 = .ok (.iload 11, 2) := by decide +kernel
theorem dL_holds_417 : decode cL_holds 417 = .ok (.iconst 0, 1) := by decide +kernel
theorem dL_holds_418 : decode cL_holds 418 = .ok (.iconst 0, 1) := by decide +kernel
theorem dL_holds_419 : decode cL_holds 419 = .ok (.invokestatic 139, 3) := by decide +kernel
theorem dL_holds_422 : decode cL_holds 422 = .ok (.aload_n 0, 1) := by decide +kernel
theorem dL_holds_423 : decode cL_holds 423 = .ok (.iconst 3, 1) := by decide +kernel
theorem dL_holds_424 : decode cL_holds 424 = .ok (.iload 11, 2) := by decide +kernel
theorem dL_holds_426 : decode cL_holds 426 = .ok (.iconst 1, 1) := by decide +kernel
theorem dL_holds_427 : decode cL_holds 427 = .ok (.iconst 0, 1) := by decide +kernel
theorem dL_holds_428 : decode cL_holds 428 = .ok (.invokestatic 139, 3) := by decide +kernel
theorem dL_holds_431 : decode cL_holds 431 = .ok (.iadd, 1) := by decide +kernel
theorem dL_holds_432 : decode cL_holds 432 = .ok (.if_icmp .lt 34, 3) := by decide +kernel
theorem dL_holds_435 : decode cL_holds 435 = .ok (.iload 18, 2) := by decide +kernel
theorem dL_holds_437 : decode cL_holds 437 = .ok (.aload_n 0, 1) := by decide +kernel
theorem dL_holds_438 : decode cL_holds 438 = .ok (.iconst 3, 1) := by decide +kernel
theorem dL_holds_439 : decode cL_holds 439 = .ok (.iload 11, 2) := by decide +kernel
theorem dL_holds_441 : decode cL_holds 441 = .ok (.iconst 0, 1) := by decide +kernel
theorem dL_holds_442 : decode cL_holds 442 = .ok (.iconst 0, 1) := by decide +kernel
theorem dL_holds_443 : decode cL_holds 443 = .ok (.invokestatic 139, 3) := by decide +kernel
theorem dL_holds_446 : decode cL_holds 446 = .ok (.aload_n 0, 1) := by decide +kernel
theorem dL_holds_447 : decode cL_holds 447 = .ok (.iconst 3, 1) := by decide +kernel
theorem dL_holds_448 : decode cL_holds 448 = .ok (.iload 11, 2) := by decide +kernel
theorem dL_holds_450 : decode cL_holds 450 = .ok (.iconst 1, 1) := by decide +kernel
theorem dL_holds_451 : decode cL_holds 451 = .ok (.iconst 0, 1) := by decide +kernel
theorem dL_holds_452 : decode cL_holds 452 = .ok (.invokestatic 139, 3) := by decide +kernel
theorem dL_holds_455 : decode cL_holds 455 = .ok (.iadd, 1) := by decide +kernel
theorem dL_holds_456 : decode cL_holds 456 = .ok (.if_icmp .ne 14, 3) := by decide +kernel
theorem dL_holds_459 : decode cL_holds 459 = .ok (.iload 13, 2) := by decide +kernel
theorem dL_holds_461 : decode cL_holds 461 = .ok (.iload 11, 2) := by decide +kernel
theorem dL_holds_463 : decode cL_holds 463 = .ok (.if_icmp .lt 7, 3) := by decide +kernel
theorem dL_holds_466 : decode cL_holds 466 = .ok (.iconst 1, 1) := by decide +kernel
theorem dL_holds_467 : decode cL_holds 467 = .ok (.goto 4, 3) := by decide +kernel
theorem dL_holds_470 : decode cL_holds 470 = .ok (.iconst 0, 1) := by decide +kernel
theorem dL_holds_471 : decode cL_holds 471 = .ok (.istore 12, 2) := by decide +kernel
theorem dL_holds_473 : decode cL_holds 473 = .ok (.iinc 13 1, 3) := by decide +kernel
theorem dL_holds_476 : decode cL_holds 476 = .ok (.goto (-343), 3) := by decide +kernel
theorem dL_holds_479 : decode cL_holds 479 = .ok (.iconst 0, 1) := by decide +kernel
theorem dL_holds_480 : decode cL_holds 480 = .ok (.istore 13, 2) := by decide +kernel
theorem dL_holds_482 : decode cL_holds 482 = .ok (.iconst (-1), 1) := by decide +kernel
theorem dL_holds_483 : decode cL_holds 483 = .ok (.istore 14, 2) := by decide +kernel
theorem dL_holds_485 : decode cL_holds 485 = .ok (.iconst 0, 1) := by decide +kernel
theorem dL_holds_486 : decode cL_holds 486 = .ok (.istore 15, 2) := by decide +kernel
theorem dL_holds_488 : decode cL_holds 488 = .ok (.iconst 0, 1) := by decide +kernel
theorem dL_holds_489 : decode cL_holds 489 = .ok (.istore 16, 2) := by decide +kernel
theorem dL_holds_491 : decode cL_holds 491 = .ok (.iload 16, 2) := by decide +kernel
theorem dL_holds_493 : decode cL_holds 493 = .ok (.iload 4, 2) := by decide +kernel
theorem dL_holds_495 : decode cL_holds 495 = .ok (.if_icmp .ge 270, 3) := by decide +kernel
theorem dL_holds_498 : decode cL_holds 498 = .ok (.iload 12, 2) := by decide +kernel
theorem dL_holds_500 : decode cL_holds 500 = .ok (.ifCond .eq 265, 3) := by decide +kernel
theorem dL_holds_503 : decode cL_holds 503 = .ok (.aload_n 0, 1) := by decide +kernel
theorem dL_holds_504 : decode cL_holds 504 = .ok (.iconst 4, 1) := by decide +kernel
theorem dL_holds_505 : decode cL_holds 505 = .ok (.iload 16, 2) := by decide +kernel
theorem dL_holds_507 : decode cL_holds 507 = .ok (.iconst 4, 1) := by decide +kernel
theorem dL_holds_508 : decode cL_holds 508 = .ok (.iconst 0, 1) := by decide +kernel
theorem dL_holds_509 : decode cL_holds 509 = .ok (.invokestatic 139, 3) := by decide +kernel
theorem dL_holds_512 : decode cL_holds 512 = .ok (.istore 17, 2) := by decide +kernel
theorem dL_holds_514 : decode cL_holds 514 = .ok (.aload_n 0, 1) := by decide +kernel
theorem dL_holds_515 : decode cL_holds 515 = .ok (.iconst 4, 1) := by decide +kernel
theorem dL_holds_516 : decode cL_holds 516 = .ok (.iload 16, 2) := by decide +kernel
theorem dL_holds_518 : decode cL_holds 518 = .ok (.iconst 5, 1) := by decide +kernel
theorem dL_holds_519 : decode cL_holds 519 = .ok (.iconst 0, 1) := by decide +kernel
theorem dL_holds_520 : decode cL_holds 520 = .ok (.invokestatic 139, 3) := by decide +kernel
theorem dL_holds_523 : decode cL_holds 523 = .ok (.istore 18, 2) := by decide +kernel
theorem dL_holds_525 : decode cL_holds 525 = .ok (.aload_n 0, 1) := by decide +kernel
theorem dL_holds_526 : decode cL_holds 526 = .ok (.iconst 4, 1) := by decide +kernel
theorem dL_holds_527 : decode cL_holds 527 = .ok (.iload 16, 2) := by decide +kernel
theorem dL_holds_529 : decode cL_holds 529 = .ok (.iconst 3, 1) := by decide +kernel
theorem dL_holds_530 : decode cL_holds 530 = .ok (.iconst 0, 1) := by decide +kernel
theorem dL_holds_531 : decode cL_holds 531 = .ok (.invokestatic 139, 3) := by decide +kernel
theorem dL_holds_534 : decode cL_holds 534 = .ok (.istore 19, 2) := by decide +kernel
theorem dL_holds_536 : decode cL_holds 536 = .ok (.aload_n 0, 1) := by decide +kernel
theorem dL_holds_537 : decode cL_holds 537 = .ok (.iconst 4, 1) := by decide +kernel
theorem dL_holds_538 : decode cL_holds 538 = .ok (.iload 16, 2) := by decide +kernel
theorem dL_holds_540 : decode cL_holds 540 = .ok (.iconst 1, 1) := by decide +kernel
theorem dL_holds_541 : decode cL_holds 541 = .ok (.iconst 0, 1) := by decide +kernel
theorem dL_holds_542 : decode cL_holds 542 = .ok (.invokestatic 139, 3) := by decide +kernel
theorem dL_holds_545 : decode cL_holds 545 = .ok (.istore 20, 2) := by decide +kernel
theorem dL_holds_547 : decode cL_holds 547 = .ok (.aload_n 0, 1) := by decide +kernel
theorem dL_holds_548 : decode cL_holds 548 = .ok (.iconst 4, 1) := by decide +kernel
theorem dL_holds_549 : decode cL_holds 549 = .ok (.iload 16, 2) := by decide +kernel
theorem dL_holds_551 : decode cL_holds 551 = .ok (.iconst 2, 1) := by decide +kernel
theorem dL_holds_552 : decode cL_holds 552 = .ok (.iconst 0, 1) := by decide +kernel
theorem dL_holds_553 : decode cL_holds 553 = .ok (.invokestatic 139, 3) := by decide +kernel
theorem dL_holds_556 : decode cL_holds 556 = .ok (.istore 21, 2) := by decide +kernel
theorem dL_holds_558 : decode cL_holds 558 = .ok (.iload 20, 2) := by decide +kernel
theorem dL_holds_560 : decode cL_holds 560 = .ok (.iload 19, 2) := by decide +kernel
theorem dL_holds_562 : decode cL_holds 562 = .ok (.ifCond .ne 7, 3) := by decide +kernel
theorem dL_holds_565 : decode cL_holds 565 = .ok (.iconst 1, 1) := by decide +kernel
theorem dL_holds_566 : decode cL_holds 566 = .ok (.goto 14, 3) := by decide +kernel
theorem dL_holds_569 : decode cL_holds 569 = .ok (.iload 19, 2) := by decide +kernel
theorem dL_holds_571 : decode cL_holds 571 = .ok (.iconst 2, 1) := by decide +kernel
theorem dL_holds_572 : decode cL_holds 572 = .ok (.if_icmp .ne 7, 3) := by decide +kernel
theorem dL_holds_575 : decode cL_holds 575 = .ok (.iconst (-1), 1) := by decide +kernel
theorem dL_holds_576 : decode cL_holds 576 = .ok (.goto 4, 3) := by decide +kernel
theorem dL_holds_579 : decode cL_holds 579 = .ok (.iconst 0, 1) := by decide +kernel
theorem dL_holds_580 : decode cL_holds 580 = .ok (.iadd, 1) := by decide +kernel
theorem dL_holds_581 : decode cL_holds 581 = .ok (.istore 22, 2) := by decide +kernel
theorem dL_holds_583 : decode cL_holds 583 = .ok (.iload 21, 2) := by decide +kernel
theorem dL_holds_585 : decode cL_holds 585 = .ok (.iload 19, 2) := by decide +kernel
theorem dL_holds_587 : decode cL_holds 587 = .ok (.iconst 1, 1) := by decide +kernel
theorem dL_holds_588 : decode cL_holds 588 = .ok (.if_icmp .ne 7, 3) := by decide +kernel
theorem dL_holds_591 : decode cL_holds 591 = .ok (.iconst 1, 1) := by decide +kernel
theorem dL_holds_592 : decode cL_holds 592 = .ok (.goto 14, 3) := by decide +kernel
theorem dL_holds_595 : decode cL_holds 595 = .ok (.iload 19, 2) := by decide +kernel
theorem dL_holds_597 : decode cL_holds 597 = .ok (.iconst 3, 1) := by decide +kernel
theorem dL_holds_598 : decode cL_holds 598 = .ok (.if_icmp .ne 7, 3) := by decide +kernel
theorem dL_holds_601 : decode cL_holds 601 = .ok (.iconst (-1), 1) := by decide +kernel
theorem dL_holds_602 : decode cL_holds 602 = .ok (.goto 4, 3) := by decide +kernel
theorem dL_holds_605 : decode cL_holds 605 = .ok (.iconst 0, 1) := by decide +kernel
theorem dL_holds_606 : decode cL_holds 606 = .ok (.iadd, 1) := by decide +kernel
theorem dL_holds_607 : decode cL_holds 607 = .ok (.istore 23, 2) := by decide +kernel
theorem dL_holds_609 : decode cL_holds 609 = .ok (.iload 13, 2) := by decide +kernel
theorem dL_holds_611 : decode cL_holds 611 = .ok (.iload 17, 2) := by decide +kernel
theorem dL_holds_613 : decode cL_holds 613 = .ok (.iload 18, 2) := by decide +kernel
theorem dL_holds_615 : decode cL_holds 615 = .ok (.iadd, 1) := by decide +kernel
theorem dL_holds_616 : decode cL_holds 616 = .ok (.iadd, 1) := by decide +kernel
theorem dL_holds_617 : decode cL_holds 617 = .ok (.istore 13, 2) := by decide +kernel
theorem dL_holds_619 : decode cL_holds 619 = .ok (.iload 14, 2) := by decide +kernel
theorem dL_holds_621 : decode cL_holds 621 = .ok (.iconst (-1), 1) := by decide +kernel
theorem dL_holds_622 : decode cL_holds 622 = .ok (.if_icmp .ne 32, 3) := by decide +kernel
theorem dL_holds_625 : decode cL_holds 625 = .ok (.iload 20, 2) := by decide +kernel
theorem dL_holds_627 : decode cL_holds 627 = .ok (.bipush 12, 2) := by decide +kernel
theorem dL_holds_629 : decode cL_holds 629 = .ok (.if_icmp .ne 106, 3) := by decide +kernel
theorem dL_holds_632 : decode cL_holds 632 = .ok (.iload 21, 2) := by decide +kernel
theorem dL_holds_634 : decode cL_holds 634 = .ok (.bipush 12, 2) := by decide +kernel
theorem dL_holds_636 : decode cL_holds 636 = .ok (.if_icmp .ne 99, 3) := by decide +kernel
theorem dL_holds_639 : decode cL_holds 639 = .ok (.iload 19, 2) := by decide +kernel
theorem dL_holds_641 : decode cL_holds 641 = .ok (.ifCond .ne 94, 3) := by decide +kernel
theorem dL_holds_644 : decode cL_holds 644 = .ok (.iload 17, 2) := by decide +kernel
theorem dL_holds_646 : decode cL_holds 646 = .ok (.iload 18, 2) := by decide +kernel
theorem dL_holds_648 : decode cL_holds 648 = .ok (.if_icmp .gt 87, 3) := by decide +kernel
theorem dL_holds_651 : decode cL_holds 651 = .ok (.goto 10, 3) := by decide +kernel
theorem dL_holds_654 : decode cL_holds 654 = .ok (.iload 17, 2) := by decide +kernel
theorem dL_holds_656 : decode cL_holds 656 = .ok (.iload 14, 2) := by decide +kernel
theorem dL_holds_658 : decode cL_holds 658 = .ok (.if_icmp .ne 77, 3) := by decide +kernel
theorem dL_holds_661 : decode cL_holds 661 = .ok (.aload_n 0, 1) := by decide +kernel
theorem dL_holds_662 : decode cL_holds 662 = .ok (.bipush 6, 2) := by decide +kernel
theorem dL_holds_664 : decode cL_holds 664 = .ok (.iload 20, 2) := by decide +kernel
theorem dL_holds_666 : decode cL_holds 666 = .ok (.iload 21, 2) := by decide +kernel
theorem dL_holds_668 : decode cL_holds 668 = .ok (.iconst 0, 1) := by decide +kernel
theorem dL_holds_669 : decode cL_holds 669 = .ok (.invokestatic 139, 3) := by decide +kernel
theorem dL_holds_672 : decode cL_holds 672 = .ok (.iload 17, 2) := by decide +kernel
theorem dL_holds_674 : decode cL_holds 674 = .ok (.if_icmp .ne 61, 3) := by decide +kernel
theorem dL_holds_677 : decode cL_holds 677 = .ok (.aload_n 0, 1) := by decide +kernel
theorem dL_holds_678 : decode cL_holds 678 = .ok (.bipush 6, 2) := by decide +kernel
theorem dL_holds_680 : decode cL_holds 680 = .ok (.iload 22, 2) := by decide +kernel
theorem dL_holds_682 : decode cL_holds 682 = .ok (.iload 23, 2) := by decide +kernel
theorem dL_holds_684 : decode cL_holds 684 = .ok (.iconst 0, 1) := by decide +kernel
theorem dL_holds_685 : decode cL_holds 685 = .ok (.invokestatic 139, 3) := by decide +kernel
theorem dL_holds_688 : decode cL_holds 688 = .ok (.iload 18, 2) := by decide +kernel
theorem dL_holds_690 : decode cL_holds 690 = .ok (.if_icmp .ne 45, 3) := by decide +kernel
theorem dL_holds_693 : decode cL_holds 693 = .ok (.iload 16, 2) := by decide +kernel
theorem dL_holds_695 : decode cL_holds 695 = .ok (.iconst 1, 1) := by decide +kernel
theorem dL_holds_696 : decode cL_holds 696 = .ok (.iadd, 1) := by decide +kernel
theorem dL_holds_697 : decode cL_holds 697 = .ok (.iload 4, 2) := by decide +kernel
theorem dL_holds_699 : decode cL_holds 699 = .ok (.if_icmp .eq 32, 3) := by decide +kernel
theorem dL_holds_702 : decode cL_holds 702 = .ok (.aload_n 0, 1) := by decide +kernel
theorem dL_holds_703 : decode cL_holds 703 = .ok (.iload 16, 2) := by decide +kernel
theorem dL_holds_705 : decode cL_holds 705 = .ok (.iconst 1, 1) := by decide +kernel
theorem dL_holds_706 : decode cL_holds 706 = .ok (.iadd, 1) := by decide +kernel
theorem dL_holds_707 : decode cL_holds 707 = .ok (.iload 22, 2) := by decide +kernel
theorem dL_holds_709 : decode cL_holds 709 = .ok (.iload 23, 2) := by decide +kernel
theorem dL_holds_711 : decode cL_holds 711 = .ok (.iload 19, 2) := by decide +kernel
theorem dL_holds_713 : decode cL_holds 713 = .ok (.iload 17, 2) := by decide +kernel
theorem dL_holds_715 : decode cL_holds 715 = .ok (.iload 18, 2) := by decide +kernel
theorem dL_holds_717 : decode cL_holds 717 = .ok (.if_icmp .ne 7, 3) := by decide +kernel
theorem dL_holds_720 : decode cL_holds 720 = .ok (.iconst 1, 1) := by decide +kernel
theorem dL_holds_721 : decode cL_holds 721 = .ok (.goto 4, 3) := by decide +kernel
theorem dL_holds_724 : decode cL_holds 724 = .ok (.iconst 0, 1) := by decide +kernel
theorem dL_holds_725 : decode cL_holds 725 = .ok (.invokestatic 166, 3) := by decide +kernel
theorem dL_holds_728 : decode cL_holds 728 = .ok (.ifCond .eq 7, 3) := by decide +kernel
theorem dL_holds_731 : decode cL_holds 731 = .ok (.iconst 1, 1) := by decide +kernel
theorem dL_holds_732 : decode cL_holds 732 = .ok (.goto 4, 3) := by decide +kernel
theorem dL_holds_735 : decode cL_holds 735 = .ok (.iconst 0, 1) := by decide +kernel
theorem dL_holds_736 : decode cL_holds 736 = .ok (.istore 12, 2) := by decide +kernel
theorem dL_holds_738 : decode cL_holds 738 = .ok (.iload 15, 2) := by decide +kernel
theorem dL_holds_740 : decode cL_holds 740 = .ok (.iload 17, 2) := by decide +kernel
theorem dL_holds_742 : decode cL_holds 742 = .ok (.iload 18, 2) := by decide +kernel
theorem dL_holds_744 : decode cL_holds 744 = .ok (.if_icmp .ne 7, 3) := by decide +kernel
theorem dL_holds_747 : decode cL_holds 747 = .ok (.iconst 1, 1) := by decide +kernel
theorem dL_holds_748 : decode cL_holds 748 = .ok (.goto 4, 3) := by decide +kernel
theorem dL_holds_751 : decode cL_holds 751 = .ok (.iconst 0, 1) := by decide +kernel
theorem dL_holds_752 : decode cL_holds 752 = .ok (.iadd, 1) := by decide +kernel
theorem dL_holds_753 : decode cL_holds 753 = .ok (.istore 15, 2) := by decide +kernel
theorem dL_holds_755 : decode cL_holds 755 = .ok (.iload 18, 2) := by decide +kernel
theorem dL_holds_757 : decode cL_holds 757 = .ok (.istore 14, 2) := by decide +kernel
theorem dL_holds_759 : decode cL_holds 759 = .ok (.iinc 16 1, 3) := by decide +kernel
theorem dL_holds_762 : decode cL_holds 762 = .ok (.goto (-271), 3) := by decide +kernel
theorem dL_holds_765 : decode cL_holds 765 = .ok (.iconst 1, 1) := by decide +kernel
theorem dL_holds_766 : decode cL_holds 766 = .ok (.iload_n 1, 1) := by decide +kernel
theorem dL_holds_767 : decode cL_holds 767 = .ok (.bipush 6, 2) := by decide +kernel
theorem dL_holds_769 : decode cL_holds 769 = .ok (.irem, 1) := by decide +kernel
theorem dL_holds_770 : decode cL_holds 770 = .ok (.iadd, 1) := by decide +kernel
theorem dL_holds_771 : decode cL_holds 771 = .ok (.istore 16, 2) := by decide +kernel
theorem dL_holds_773 : decode cL_holds 773 = .ok (.iconst 0, 1) := by decide +kernel
theorem dL_holds_774 : decode cL_holds 774 = .ok (.istore 17, 2) := by decide +kernel
theorem dL_holds_776 : decode cL_holds 776 = .ok (.iconst 0, 1) := by decide +kernel
theorem dL_holds_777 : decode cL_holds 777 = .ok (.istore 18, 2) := by decide +kernel
theorem dL_holds_779 : decode cL_holds 779 = .ok (.iload 18, 2) := by decide +kernel
theorem dL_holds_781 : decode cL_holds 781 = .ok (.iconst 4, 1) := by decide +kernel
theorem dL_holds_782 : decode cL_holds 782 = .ok (.if_icmp .ge 144, 3) := by decide +kernel
theorem dL_holds_785 : decode cL_holds 785 = .ok (.iload 12, 2) := by decide +kernel
theorem dL_holds_787 : decode cL_holds 787 = .ok (.ifCond .eq 139, 3) := by decide +kernel
theorem dL_holds_790 : decode cL_holds 790 = .ok (.aload_n 0, 1) := by decide +kernel
theorem dL_holds_791 : decode cL_holds 791 = .ok (.iconst 5, 1) := by decide +kernel
theorem dL_holds_792 : decode cL_holds 792 = .ok (.iload 18, 2) := by decide +kernel
theorem dL_holds_794 : decode cL_holds 794 = .ok (.iconst 0, 1) := by decide +kernel
theorem dL_holds_795 : decode cL_holds 795 = .ok (.iconst 0, 1) := by decide +kernel
theorem dL_holds_796 : decode cL_holds 796 = .ok (.invokestatic 139, 3) := by decide +kernel
theorem dL_holds_799 : decode cL_holds 799 = .ok (.istore 19, 2) := by decide +kernel
theorem dL_holds_801 : decode cL_holds 801 = .ok (.aload_n 0, 1) := by decide +kernel
theorem dL_holds_802 : decode cL_holds 802 = .ok (.bipush 12, 2) := by decide +kernel
theorem dL_holds_804 : decode cL_holds 804 = .ok (.iload 18, 2) := by decide +kernel
theorem dL_holds_806 : decode cL_holds 806 = .ok (.iload 16, 2) := by decide +kernel
theorem dL_holds_808 : decode cL_holds 808 = .ok (.iconst 0, 1) := by decide +kernel
theorem dL_holds_809 : decode cL_holds 809 = .ok (.invokestatic 139, 3) := by decide +kernel
theorem dL_holds_812 : decode cL_holds 812 = .ok (.istore 20, 2) := by decide +kernel
theorem dL_holds_814 : decode cL_holds 814 = .ok (.iload 17, 2) := by decide +kernel
theorem dL_holds_816 : decode cL_holds 816 = .ok (.iload 19, 2) := by decide +kernel
theorem dL_holds_818 : decode cL_holds 818 = .ok (.iadd, 1) := by decide +kernel
theorem dL_holds_819 : decode cL_holds 819 = .ok (.istore 17, 2) := by decide +kernel
theorem dL_holds_821 : decode cL_holds 821 = .ok (.iload 20, 2) := by decide +kernel
theorem dL_holds_823 : decode cL_holds 823 = .ok (.ifCond .lt 94, 3) := by decide +kernel
theorem dL_holds_826 : decode cL_holds 826 = .ok (.iload 20, 2) := by decide +kernel
theorem dL_holds_828 : decode cL_holds 828 = .ok (.iload 16, 2) := by decide +kernel
theorem dL_holds_830 : decode cL_holds 830 = .ok (.if_icmp .gt 87, 3) := by decide +kernel
theorem dL_holds_833 : decode cL_holds 833 = .ok (.iload 20, 2) := by decide +kernel
theorem dL_holds_835 : decode cL_holds 835 = .ok (.iload 19, 2) := by decide +kernel
theorem dL_holds_837 : decode cL_holds 837 = .ok (.if_icmp .gt 80, 3) := by decide +kernel
theorem dL_holds_840 : decode cL_holds 840 = .ok (.iload 16, 2) := by decide +kernel
theorem dL_holds_842 : decode cL_holds 842 = .ok (.iconst 1, 1) := by decide +kernel
theorem dL_holds_843 : decode cL_holds 843 = .ok (.if_icmp .eq 35, 3) := by decide +kernel
theorem dL_holds_846 : decode cL_holds 846 = .ok (.aload_n 0, 1) := by decide +kernel
theorem dL_holds_847 : decode cL_holds 847 = .ok (.bipush 12, 2) := by decide +kernel
theorem dL_holds_849 : decode cL_holds 849 = .ok (.iload 18, 2) := by decide +kernel
theorem dL_holds_851 : decode cL_holds 851 = .ok (.iload 16, 2) := by decide +kernel
theorem dL_holds_853 : decode cL_holds 853 = .ok (.iconst 1, 1) := by decide +kernel
theorem dL_holds_854 : decode cL_holds 854 = .ok (.isub, 1) := by decide +kernel
theorem dL_holds_855 : decode cL_holds 855 = .ok (.iconst 0, 1) := by decide +kernel
theorem dL_holds_856 : decode cL_holds 856 = .ok (.invokestatic 139, 3) := by decide +kernel
theorem dL_holds_859 : decode cL_holds 859 = .ok (.iload 20, 2) := by decide +kernel
theorem dL_holds_861 : decode cL_holds 861 = .ok (.iload 16, 2) := by decide +kernel
theorem dL_holds_863 : decode cL_holds 863 = .ok (.if_icmp .ge 8, 3) := by decide +kernel
theorem dL_holds_866 : decode cL_holds 866 = .ok (.iload 20, 2) := by decide +kernel
theorem dL_holds_868 : decode cL_holds 868 = .ok (.goto 7, 3) := by decide +kernel
theorem dL_holds_871 : decode cL_holds 871 = .ok (.iload 16, 2) := by decide +kernel
theorem dL_holds_873 : decode cL_holds 873 = .ok (.iconst 1, 1) := by decide +kernel
theorem dL_holds_874 : decode cL_holds 874 = .ok (.isub, 1) := by decide +kernel
theorem dL_holds_875 : decode cL_holds 875 = .ok (.if_icmp .ne 42, 3) := by decide +kernel
theorem dL_holds_878 : decode cL_holds 878 = .ok (.iload 18, 2) := by decide +kernel
theorem dL_holds_880 : decode cL_holds 880 = .ok (.iload 6, 2) := by decide +kernel
theorem dL_holds_882 : decode cL_holds 882 = .ok (.if_icmp .ne 13, 3) := by decide +kernel
theorem dL_holds_885 : decode cL_holds 885 = .ok (.iload 10, 2) := by decide +kernel
theorem dL_holds_887 : decode cL_holds 887 = .ok (.ifCond .eq 8, 3) := by decide +kernel
theorem dL_holds_890 : decode cL_holds 890 = .ok (.iload 20, 2) := by decide +kernel
theorem dL_holds_892 : decode cL_holds 892 = .ok (.ifCond .le 25, 3) := by decide +kernel
theorem dL_holds_895 : decode cL_holds 895 = .ok (.iload 18, 2) := by decide +kernel
theorem dL_holds_897 : decode cL_holds 897 = .ok (.aload_n 0, 1) := by decide +kernel
theorem dL_holds_898 : decode cL_holds 898 = .ok (.iconst 2, 1) := by decide +kernel
theorem dL_holds_899 : decode cL_holds 899 = .ok (.iconst 2, 1) := by decide +kernel
theorem dL_holds_900 : decode cL_holds 900 = .ok (.iconst 0, 1) := by decide +kernel
theorem dL_holds_901 : decode cL_holds 901 = .ok (.iconst 0, 1) := by decide +kernel
theorem dL_holds_902 : decode cL_holds 902 = .ok (.invokestatic 139, 3) := by decide +kernel
theorem dL_holds_905 : decode cL_holds 905 = .ok (.if_icmp .lt 8, 3) := by decide +kernel
theorem dL_holds_908 : decode cL_holds 908 = .ok (.iload 19, 2) := by decide +kernel
theorem dL_holds_910 : decode cL_holds 910 = .ok (.ifCond .ne 7, 3) := by decide +kernel
theorem dL_holds_913 : decode cL_holds 913 = .ok (.iconst 1, 1) := by decide +kernel
theorem dL_holds_914 : decode cL_holds 914 = .ok (.goto 4, 3) := by decide +kernel
theorem dL_holds_917 : decode cL_holds 917 = .ok (.iconst 0, 1) := by decide +kernel
theorem dL_holds_918 : decode cL_holds 918 = .ok (.istore 12, 2) := by decide +kernel
theorem dL_holds_920 : decode cL_holds 920 = .ok (.iinc 18 1, 3) := by decide +kernel
theorem dL_holds_923 : decode cL_holds 923 = .ok (.goto (-144), 3) := by decide +kernel
theorem dL_holds_926 : decode cL_holds 926 = .ok (.iload 12, 2) := by decide +kernel
theorem dL_holds_928 : decode cL_holds 928 = .ok (.ifCond .eq 218, 3) := by decide +kernel
theorem dL_holds_931 : decode cL_holds 931 = .ok (.iload 7, 2) := by decide +kernel
theorem dL_holds_933 : decode cL_holds 933 = .ok (.iload 17, 2) := by decide +kernel
theorem dL_holds_935 : decode cL_holds 935 = .ok (.if_icmp .ne 211, 3) := by decide +kernel
theorem dL_holds_938 : decode cL_holds 938 = .ok (.iload 8, 2) := by decide +kernel
theorem dL_holds_940 : decode cL_holds 940 = .ok (.iload 4, 2) := by decide +kernel
theorem dL_holds_942 : decode cL_holds 942 = .ok (.if_icmp .ne 204, 3) := by decide +kernel
theorem dL_holds_945 : decode cL_holds 945 = .ok (.iload 9, 2) := by decide +kernel
theorem dL_holds_947 : decode cL_holds 947 = .ok (.iload 5, 2) := by decide +kernel
theorem dL_holds_949 : decode cL_holds 949 = .ok (.if_icmp .ne 197, 3) := by decide +kernel
theorem dL_holds_952 : decode cL_holds 952 = .ok (.iload 13, 2) := by decide +kernel
theorem dL_holds_954 : decode cL_holds 954 = .ok (.aload_n 0, 1) := by decide +kernel
theorem dL_holds_955 : decode cL_holds 955 = .ok (.iconst 2, 1) := by decide +kernel
theorem dL_holds_956 : decode cL_holds 956 = .ok (.bipush 9, 2) := by decide +kernel
theorem dL_holds_958 : decode cL_holds 958 = .ok (.iconst 0, 1) := by decide +kernel
theorem dL_holds_959 : decode cL_holds 959 = .ok (.iconst 0, 1) := by decide +kernel
theorem dL_holds_960 : decode cL_holds 960 = .ok (.invokestatic 139, 3) := by decide +kernel
theorem dL_holds_963 : decode cL_holds 963 = .ok (.if_icmp .ne 183, 3) := by decide +kernel
theorem dL_holds_966 : decode cL_holds 966 = .ok (.iload 14, 2) := by decide +kernel
theorem dL_holds_968 : decode cL_holds 968 = .ok (.aload_n 0, 1) := by decide +kernel
theorem dL_holds_969 : decode cL_holds 969 = .ok (.iconst 2, 1) := by decide +kernel
theorem dL_holds_970 : decode cL_holds 970 = .ok (.bipush 6, 2) := by decide +kernel
theorem dL_holds_972 : decode cL_holds 972 = .ok (.iconst 0, 1) := by decide +kernel
theorem dL_holds_973 : decode cL_holds 973 = .ok (.iconst 0, 1) := by decide +kernel
theorem dL_holds_974 : decode cL_holds 974 = .ok (.invokestatic 139, 3) := by decide +kernel
theorem dL_holds_977 : decode cL_holds 977 = .ok (.if_icmp .ne 169, 3) := by decide +kernel
theorem dL_holds_980 : decode cL_holds 980 = .ok (.iload 15, 2) := by decide +kernel
theorem dL_holds_982 : decode cL_holds 982 = .ok (.aload_n 0, 1) := by decide +kernel
theorem dL_holds_983 : decode cL_holds 983 = .ok (.bipush 13, 2) := by decide +kernel
theorem dL_holds_985 : decode cL_holds 985 = .ok (.iconst 4, 1) := by decide +kernel
theorem dL_holds_986 : decode cL_holds 986 = .ok (.iconst 0, 1) := by decide +kernel
theorem dL_holds_987 : decode cL_holds 987 = .ok (.iconst 0, 1) := by decide +kernel
theorem dL_holds_988 : decode cL_holds 988 = .ok (.invokestatic 139, 3) := by decide +kernel
theorem dL_holds_991 : decode cL_holds 991 = .ok (.aload_n 0, 1) := by decide +kernel
theorem dL_holds_992 : decode cL_holds 992 = .ok (.bipush 13, 2) := by decide +kernel
theorem dL_holds_994 : decode cL_holds 994 = .ok (.iconst 5, 1) := by decide +kernel
theorem dL_holds_995 : decode cL_holds 995 = .ok (.iconst 0, 1) := by decide +kernel
theorem dL_holds_996 : decode cL_holds 996 = .ok (.iconst 0, 1) := by decide +kernel
theorem dL_holds_997 : decode cL_holds 997 = .ok (.invokestatic 139, 3) := by decide +kernel
theorem dL_holds_1000 : decode cL_holds 1000 = .ok (.iadd, 1) := by decide +kernel
theorem dL_holds_1001 : decode cL_holds 1001 = .ok (.if_icmp .ne 145, 3) := by decide +kernel
theorem dL_holds_1004 : decode cL_holds 1004 = .ok (.aload_n 0, 1) := by decide +kernel
theorem dL_holds_1005 : decode cL_holds 1005 = .ok (.bipush 7, 2) := by decide +kernel
theorem dL_holds_1007 : decode cL_holds 1007 = .ok (.iconst 0, 1) := by decide +kernel
theorem dL_holds_1008 : decode cL_holds 1008 = .ok (.iconst 0, 1) := by decide +kernel
theorem dL_holds_1009 : decode cL_holds 1009 = .ok (.iconst 0, 1) := by decide +kernel
theorem dL_holds_1010 : decode cL_holds 1010 = .ok (.invokestatic 139, 3) := by decide +kernel
theorem dL_holds_1013 : decode cL_holds 1013 = .ok (.sipush 625, 3) := by decide +kernel
theorem dL_holds_1016 : decode cL_holds 1016 = .ok (.iconst 2, 1) := by decide +kernel
theorem dL_holds_1017 : decode cL_holds 1017 = .ok (.iload 4, 2) := by decide +kernel
theorem dL_holds_1019 : decode cL_holds 1019 = .ok (.imul, 1) := by decide +kernel
theorem dL_holds_1020 : decode cL_holds 1020 = .ok (.isub, 1) := by decide +kernel
theorem dL_holds_1021 : decode cL_holds 1021 = .ok (.if_icmp .ne 125, 3) := by decide +kernel
theorem dL_holds_1024 : decode cL_holds 1024 = .ok (.aload_n 0, 1) := by decide +kernel
theorem dL_holds_1025 : decode cL_holds 1025 = .ok (.bipush 7, 2) := by decide +kernel
theorem dL_holds_1027 : decode cL_holds 1027 = .ok (.iconst 1, 1) := by decide +kernel
theorem dL_holds_1028 : decode cL_holds 1028 = .ok (.iconst 0, 1) := by decide +kernel
theorem dL_holds_1029 : decode cL_holds 1029 = .ok (.iconst 0, 1) := by decide +kernel
theorem dL_holds_1030 : decode cL_holds 1030 = .ok (.invokestatic 139, 3) := by decide +kernel
theorem dL_holds_1033 : decode cL_holds 1033 = .ok (.sipush 625, 3) := by decide +kernel
theorem dL_holds_1036 : decode cL_holds 1036 = .ok (.iconst 2, 1) := by decide +kernel
theorem dL_holds_1037 : decode cL_holds 1037 = .ok (.iload 4, 2) := by decide +kernel
theorem dL_holds_1039 : decode cL_holds 1039 = .ok (.imul, 1) := by decide +kernel
theorem dL_holds_1040 : decode cL_holds 1040 = .ok (.isub, 1) := by decide +kernel
theorem dL_holds_1041 : decode cL_holds 1041 = .ok (.if_icmp .ne 105, 3) := by decide +kernel
theorem dL_holds_1044 : decode cL_holds 1044 = .ok (.iload 11, 2) := by decide +kernel
theorem dL_holds_1046 : decode cL_holds 1046 = .ok (.iconst (-1), 1) := by decide +kernel
theorem dL_holds_1047 : decode cL_holds 1047 = .ok (.if_icmp .ne 7, 3) := by decide +kernel
theorem dL_holds_1050 : decode cL_holds 1050 = .ok (.iconst 1, 1) := by decide +kernel
theorem dL_holds_1051 : decode cL_holds 1051 = .ok (.goto 4, 3) := by decide +kernel
theorem dL_holds_1054 : decode cL_holds 1054 = .ok (.iconst 0, 1) := by decide +kernel
theorem dL_holds_1055 : decode cL_holds 1055 = .ok (.iload 10, 2) := by decide +kernel
theorem dL_holds_1057 : decode cL_holds 1057 = .ok (.ifCond .ne 7, 3) := by decide +kernel
theorem dL_holds_1060 : decode cL_holds 1060 = .ok (.iconst 1, 1) := by decide +kernel
theorem dL_holds_1061 : decode cL_holds 1061 = .ok (.goto 4, 3) := by decide +kernel
theorem dL_holds_1064 : decode cL_holds 1064 = .ok (.iconst 0, 1) := by decide +kernel
theorem dL_holds_1065 : decode cL_holds 1065 = .ok (.if_icmp .ne 81, 3) := by decide +kernel
theorem dL_holds_1068 : decode cL_holds 1068 = .ok (.aload_n 0, 1) := by decide +kernel
theorem dL_holds_1069 : decode cL_holds 1069 = .ok (.bipush 13, 2) := by decide +kernel
theorem dL_holds_1071 : decode cL_holds 1071 = .ok (.iconst 0, 1) := by decide +kernel
theorem dL_holds_1072 : decode cL_holds 1072 = .ok (.iconst 0, 1) := by decide +kernel
theorem dL_holds_1073 : decode cL_holds 1073 = .ok (.iconst 0, 1) := by decide +kernel
theorem dL_holds_1074 : decode cL_holds 1074 = .ok (.invokestatic 139, 3) := by decide +kernel
theorem dL_holds_1077 : decode cL_holds 1077 = .ok (.iconst (-1), 1) := by decide +kernel
theorem dL_holds_1078 : decode cL_holds 1078 = .ok (.if_icmp .ne 7, 3) := by decide +kernel
theorem dL_holds_1081 : decode cL_holds 1081 = .ok (.iconst 1, 1) := by decide +kernel
theorem dL_holds_1082 : decode cL_holds 1082 = .ok (.goto 4, 3) := by decide +kernel
theorem dL_holds_1085 : decode cL_holds 1085 = .ok (.iconst 0, 1) := by decide +kernel
theorem dL_holds_1086 : decode cL_holds 1086 = .ok (.iload 4, 2) := by decide +kernel
theorem dL_holds_1088 : decode cL_holds 1088 = .ok (.ifCond .ne 7, 3) := by decide +kernel
theorem dL_holds_1091 : decode cL_holds 1091 = .ok (.iconst 1, 1) := by decide +kernel
theorem dL_holds_1092 : decode cL_holds 1092 = .ok (.goto 4, 3) := by decide +kernel
theorem dL_holds_1095 : decode cL_holds 1095 = .ok (.iconst 0, 1) := by decide +kernel
theorem dL_holds_1096 : decode cL_holds 1096 = .ok (.if_icmp .ne 50, 3) := by decide +kernel
theorem dL_holds_1099 : decode cL_holds 1099 = .ok (.iload_n 3, 1) := by decide +kernel
theorem dL_holds_1100 : decode cL_holds 1100 = .ok (.iconst 2, 1) := by decide +kernel
theorem dL_holds_1101 : decode cL_holds 1101 = .ok (.if_icmp .ne 41, 3) := by decide +kernel
theorem dL_holds_1104 : decode cL_holds 1104 = .ok (.aload_n 0, 1) := by decide +kernel
theorem dL_holds_1105 : decode cL_holds 1105 = .ok (.iconst 5, 1) := by decide +kernel
theorem dL_holds_1106 : decode cL_holds 1106 = .ok (.iconst 0, 1) := by decide +kernel
theorem dL_holds_1107 : decode cL_holds 1107 = .ok (.iconst 3, 1) := by decide +kernel
theorem dL_holds_1108 : decode cL_holds 1108 = .ok (.iconst 0, 1) := by decide +kernel
theorem dL_holds_1109 : decode cL_holds 1109 = .ok (.invokestatic 139, 3) := by decide +kernel
theorem dL_holds_1112 : decode cL_holds 1112 = .ok (.aload_n 0, 1) := by decide +kernel
theorem dL_holds_1113 : decode cL_holds 1113 = .ok (.iconst 5, 1) := by decide +kernel
theorem dL_holds_1114 : decode cL_holds 1114 = .ok (.iconst 1, 1) := by decide +kernel
theorem dL_holds_1115 : decode cL_holds 1115 = .ok (.iconst 3, 1) := by decide +kernel
theorem dL_holds_1116 : decode cL_holds 1116 = .ok (.iconst 0, 1) := by decide +kernel
theorem dL_holds_1117 : decode cL_holds 1117 = .ok (.invokestatic 139, 3) := by decide +kernel
theorem dL_holds_1120 : decode cL_holds 1120 = .ok (.iadd, 1) := by decide +kernel
theorem dL_holds_1121 : decode cL_holds 1121 = .ok (.aload_n 0, 1) := by decide +kernel
theorem dL_holds_1122 : decode cL_holds 1122 = .ok (.iconst 5, 1) := by decide +kernel
theorem dL_holds_1123 : decode cL_holds 1123 = .ok (.iconst 2, 1) := by decide +kernel
theorem dL_holds_1124 : decode cL_holds 1124 = .ok (.iconst 3, 1) := by decide +kernel
theorem dL_holds_1125 : decode cL_holds 1125 = .ok (.iconst 0, 1) := by decide +kernel
theorem dL_holds_1126 : decode cL_holds 1126 = .ok (.invokestatic 139, 3) := by decide +kernel
theorem dL_holds_1129 : decode cL_holds 1129 = .ok (.iadd, 1) := by decide +kernel
theorem dL_holds_1130 : decode cL_holds 1130 = .ok (.aload_n 0, 1) := by decide +kernel
theorem dL_holds_1131 : decode cL_holds 1131 = .ok (.iconst 5, 1) := by decide +kernel
theorem dL_holds_1132 : decode cL_holds 1132 = .ok (.iconst 3, 1) := by decide +kernel
theorem dL_holds_1133 : decode cL_holds 1133 = .ok (.iconst 3, 1) := by decide +kernel
theorem dL_holds_1134 : decode cL_holds 1134 = .ok (.iconst 0, 1) := by decide +kernel
theorem dL_holds_1135 : decode cL_holds 1135 = .ok (.invokestatic 139, 3) := by decide +kernel
theorem dL_holds_1138 : decode cL_holds 1138 = .ok (.iadd, 1) := by decide +kernel
theorem dL_holds_1139 : decode cL_holds 1139 = .ok (.ifCond .le 7, 3) := by decide +kernel
theorem dL_holds_1142 : decode cL_holds 1142 = .ok (.iconst 1, 1) := by decide +kernel
theorem dL_holds_1143 : decode cL_holds 1143 = .ok (.goto 4, 3) := by decide +kernel
theorem dL_holds_1146 : decode cL_holds 1146 = .ok (.iconst 0, 1) := by decide +kernel
theorem dL_holds_1147 : decode cL_holds 1147 = .ok (.ireturn, 1) := by decide +kernel
theorem dL_next_0 : decode cL_next 0 = .ok (.aload_n 0, 1) := by decide +kernel
theorem dL_next_1 : decode cL_next 1 = .ok (.iconst 4, 1) := by decide +kernel
theorem dL_next_2 : decode cL_next 2 = .ok (.iload_n 1, 1) := by decide +kernel
theorem dL_next_3 : decode cL_next 3 = .ok (.iconst 3, 1) := by decide +kernel
theorem dL_next_4 : decode cL_next 4 = .ok (.iconst 0, 1) := by decide +kernel
theorem dL_next_5 : decode cL_next 5 = .ok (.invokestatic 139, 3) := by decide +kernel
theorem dL_next_8 : decode cL_next 8 = .ok (.istore 6, 2) := by decide +kernel
theorem dL_next_10 : decode cL_next 10 = .ok (.iload_n 2, 1) := by decide +kernel
theorem dL_next_11 : decode cL_next 11 = .ok (.iload 6, 2) := by decide +kernel
theorem dL_next_13 : decode cL_next 13 = .ok (.ifCond .ne 7, 3) := by decide +kernel
theorem dL_next_16 : decode cL_next 16 = .ok (.iconst 1, 1) := by decide +kernel
theorem dL_next_17 : decode cL_next 17 = .ok (.goto 14, 3) := by decide +kernel
theorem dL_next_20 : decode cL_next 20 = .ok (.iload 6, 2) := by decide +kernel
theorem dL_next_22 : decode cL_next 22 = .ok (.iconst 2, 1) := by decide +kernel
theorem dL_next_23 : decode cL_next 23 = .ok (.if_icmp .ne 7, 3) := by decide +kernel
theorem dL_next_26 : decode cL_next 26 = .ok (.iconst (-1), 1) := by decide +kernel
theorem dL_next_27 : decode cL_next 27 = .ok (.goto 4, 3) := by decide +kernel
theorem dL_next_30 : decode cL_next 30 = .ok (.iconst 0, 1) := by decide +kernel
theorem dL_next_31 : decode cL_next 31 = .ok (.iadd, 1) := by decide +kernel
theorem dL_next_32 : decode cL_next 32 = .ok (.istore 7, 2) := by decide +kernel
theorem dL_next_34 : decode cL_next 34 = .ok (.iload_n 3, 1) := by decide +kernel
theorem dL_next_35 : decode cL_next 35 = .ok (.iload 6, 2) := by decide +kernel
theorem dL_next_37 : decode cL_next 37 = .ok (.iconst 1, 1) := by decide +kernel
theorem dL_next_38 : decode cL_next 38 = .ok (.if_icmp .ne 7, 3) := by decide +kernel
theorem dL_next_41 : decode cL_next 41 = .ok (.iconst 1, 1) := by decide +kernel
theorem dL_next_42 : decode cL_next 42 = .ok (.goto 14, 3) := by decide +kernel
theorem dL_next_45 : decode cL_next 45 = .ok (.iload 6, 2) := by decide +kernel
theorem dL_next_47 : decode cL_next 47 = .ok (.iconst 3, 1) := by decide +kernel
theorem dL_next_48 : decode cL_next 48 = .ok (.if_icmp .ne 7, 3) := by decide +kernel
theorem dL_next_51 : decode cL_next 51 = .ok (.iconst (-1), 1) := by decide +kernel
theorem dL_next_52 : decode cL_next 52 = .ok (.goto 4, 3) := by decide +kernel
theorem dL_next_55 : decode cL_next 55 = .ok (.iconst 0, 1) := by decide +kernel
theorem dL_next_56 : decode cL_next 56 = .ok (.iadd, 1) := by decide +kernel
theorem dL_next_57 : decode cL_next 57 = .ok (.istore 8, 2) := by decide +kernel
theorem dL_next_59 : decode cL_next 59 = .ok (.iload 5, 2) := by decide +kernel
theorem dL_next_61 : decode cL_next 61 = .ok (.ifCond .eq 19, 3) := by decide +kernel
theorem dL_next_64 : decode cL_next 64 = .ok (.iload 6, 2) := by decide +kernel
theorem dL_next_66 : decode cL_next 66 = .ok (.iload 4, 2) := by decide +kernel
theorem dL_next_68 : decode cL_next 68 = .ok (.isub, 1) := by decide +kernel
theorem dL_next_69 : decode cL_next 69 = .ok (.iconst 4, 1) := by decide +kernel
theorem dL_next_70 : decode cL_next 70 = .ok (.iadd, 1) := by decide +kernel
theorem dL_next_71 : decode cL_next 71 = .ok (.iconst 2, 1) := by decide +kernel
theorem dL_next_72 : decode cL_next 72 = .ok (.irem, 1) := by decide +kernel
theorem dL_next_73 : decode cL_next 73 = .ok (.iconst 1, 1) := by decide +kernel
theorem dL_next_74 : decode cL_next 74 = .ok (.if_icmp .ne 43, 3) := by decide +kernel
theorem dL_next_77 : decode cL_next 77 = .ok (.goto 10, 3) := by decide +kernel
theorem dL_next_80 : decode cL_next 80 = .ok (.iload 6, 2) := by decide +kernel
theorem dL_next_82 : decode cL_next 82 = .ok (.iload 4, 2) := by decide +kernel
theorem dL_next_84 : decode cL_next 84 = .ok (.if_icmp .ne 33, 3) := by decide +kernel
theorem dL_next_87 : decode cL_next 87 = .ok (.aload_n 0, 1) := by decide +kernel
theorem dL_next_88 : decode cL_next 88 = .ok (.iconst 4, 1) := by decide +kernel
theorem dL_next_89 : decode cL_next 89 = .ok (.iload_n 1, 1) := by decide +kernel
theorem dL_next_90 : decode cL_next 90 = .ok (.iconst 1, 1) := by decide +kernel
theorem dL_next_91 : decode cL_next 91 = .ok (.iconst 0, 1) := by decide +kernel
theorem dL_next_92 : decode cL_next 92 = .ok (.invokestatic 139, 3) := by decide +kernel
theorem dL_next_95 : decode cL_next 95 = .ok (.iload 7, 2) := by decide +kernel
theorem dL_next_97 : decode cL_next 97 = .ok (.if_icmp .ne 20, 3) := by decide +kernel
theorem dL_next_100 : decode cL_next 100 = .ok (.aload_n 0, 1) := by decide +kernel
theorem dL_next_101 : decode cL_next 101 = .ok (.iconst 4, 1) := by decide +kernel
theorem dL_next_102 : decode cL_next 102 = .ok (.iload_n 1, 1) := by decide +kernel
theorem dL_next_103 : decode cL_next 103 = .ok (.iconst 2, 1) := by decide +kernel
theorem dL_next_104 : decode cL_next 104 = .ok (.iconst 0, 1) := by decide +kernel
theorem dL_next_105 : decode cL_next 105 = .ok (.invokestatic 139, 3) := by decide +kernel
theorem dL_next_108 : decode cL_next 108 = .ok (.iload 8, 2) := by decide +kernel
theorem dL_next_110 : decode cL_next 110 = .ok (.if_icmp .ne 7, 3) := by decide +kernel
theorem dL_next_113 : decode cL_next 113 = .ok (.iconst 1, 1) := by decide +kernel
theorem dL_next_114 : decode cL_next 114 = .ok (.goto 4, 3) := by decide +kernel
theorem dL_next_117 : decode cL_next 117 = .ok (.iconst 0, 1) := by decide +kernel
theorem dL_next_118 : decode cL_next 118 = .ok (.ireturn, 1) := by decide +kernel
theorem dL_act_0 : decode cL_act 0 = .ok (.iload_n 1, 1) := by decide +kernel
theorem dL_act_1 : decode cL_act 1 = .ok (.bipush 16, 2) := by decide +kernel
theorem dL_act_3 : decode cL_act 3 = .ok (.idiv, 1) := by decide +kernel
theorem dL_act_4 : decode cL_act 4 = .ok (.istore_n 2, 1) := by decide +kernel
theorem dL_act_5 : decode cL_act 5 = .ok (.aload_n 0, 1) := by decide +kernel
theorem dL_act_6 : decode cL_act 6 = .ok (.iconst 2, 1) := by decide +kernel
theorem dL_act_7 : decode cL_act 7 = .ok (.iconst 1, 1) := by decide +kernel
theorem dL_act_8 : decode cL_act 8 = .ok (.iconst 0, 1) := by decide +kernel
theorem dL_act_9 : decode cL_act 9 = .ok (.iconst 0, 1) := by decide +kernel
theorem dL_act_10 : decode cL_act 10 = .ok (.invokestatic 139, 3) := by decide +kernel
theorem dL_act_13 : decode cL_act 13 = .ok (.istore_n 3, 1) := by decide +kernel
theorem dL_act_14 : decode cL_act 14 = .ok (.iload_n 1, 1) := by decide +kernel
theorem dL_act_15 : decode cL_act 15 = .ok (.bipush 32, 2) := by decide +kernel
theorem dL_act_17 : decode cL_act 17 = .ok (.irem, 1) := by decide +kernel
theorem dL_act_18 : decode cL_act 18 = .ok (.bipush 31, 2) := by decide +kernel
theorem dL_act_20 : decode cL_act 20 = .ok (.if_icmp .ne 15, 3) := by decide +kernel
theorem dL_act_23 : decode cL_act 23 = .ok (.aload_n 0, 1) := by decide +kernel
theorem dL_act_24 : decode cL_act 24 = .ok (.bipush 14, 2) := by decide +kernel
theorem dL_act_26 : decode cL_act 26 = .ok (.iload_n 2, 1) := by decide +kernel
theorem dL_act_27 : decode cL_act 27 = .ok (.iconst 2, 1) := by decide +kernel
theorem dL_act_28 : decode cL_act 28 = .ok (.irem, 1) := by decide +kernel
theorem dL_act_29 : decode cL_act 29 = .ok (.iconst 0, 1) := by decide +kernel
theorem dL_act_30 : decode cL_act 30 = .ok (.iconst 0, 1) := by decide +kernel
theorem dL_act_31 : decode cL_act 31 = .ok (.invokestatic 139, 3) := by decide +kernel
theorem dL_act_34 : decode cL_act 34 = .ok (.ireturn, 1) := by decide +kernel
theorem dL_act_35 : decode cL_act 35 = .ok (.iload_n 1, 1) := by decide +kernel
theorem dL_act_36 : decode cL_act 36 = .ok (.bipush 32, 2) := by decide +kernel
theorem dL_act_38 : decode cL_act 38 = .ok (.irem, 1) := by decide +kernel
theorem dL_act_39 : decode cL_act 39 = .ok (.bipush 30, 2) := by decide +kernel
theorem dL_act_41 : decode cL_act 41 = .ok (.if_icmp .ne 15, 3) := by decide +kernel
theorem dL_act_44 : decode cL_act 44 = .ok (.aload_n 0, 1) := by decide +kernel
theorem dL_act_45 : decode cL_act 45 = .ok (.bipush 15, 2) := by decide +kernel
theorem dL_act_47 : decode cL_act 47 = .ok (.iload_n 2, 1) := by decide +kernel
theorem dL_act_48 : decode cL_act 48 = .ok (.iconst 2, 1) := by decide +kernel
theorem dL_act_49 : decode cL_act 49 = .ok (.irem, 1) := by decide +kernel
theorem dL_act_50 : decode cL_act 50 = .ok (.iconst 0, 1) := by decide +kernel
theorem dL_act_51 : decode cL_act 51 = .ok (.iconst 0, 1) := by decide +kernel
theorem dL_act_52 : decode cL_act 52 = .ok (.invokestatic 139, 3) := by decide +kernel
theorem dL_act_55 : decode cL_act 55 = .ok (.ireturn, 1) := by decide +kernel
theorem dL_act_56 : decode cL_act 56 = .ok (.iload_n 3, 1) := by decide +kernel
theorem dL_act_57 : decode cL_act 57 = .ok (.iconst 1, 1) := by decide +kernel
theorem dL_act_58 : decode cL_act 58 = .ok (.if_icmp .ne 12, 3) := by decide +kernel
theorem dL_act_61 : decode cL_act 61 = .ok (.iload_n 1, 1) := by decide +kernel
theorem dL_act_62 : decode cL_act 62 = .ok (.bipush 64, 2) := by decide +kernel
theorem dL_act_64 : decode cL_act 64 = .ok (.irem, 1) := by decide +kernel
theorem dL_act_65 : decode cL_act 65 = .ok (.bipush 61, 2) := by decide +kernel
theorem dL_act_67 : decode cL_act 67 = .ok (.if_icmp .ne 19, 3) := by decide +kernel
theorem dL_act_70 : decode cL_act 70 = .ok (.aload_n 0, 1) := by decide +kernel
theorem dL_act_71 : decode cL_act 71 = .ok (.iconst 2, 1) := by decide +kernel
theorem dL_act_72 : decode cL_act 72 = .ok (.iload_n 2, 1) := by decide +kernel
theorem dL_act_73 : decode cL_act 73 = .ok (.iconst 3, 1) := by decide +kernel
theorem dL_act_74 : decode cL_act 74 = .ok (.irem, 1) := by decide +kernel
theorem dL_act_75 : decode cL_act 75 = .ok (.iadd, 1) := by decide +kernel
theorem dL_act_76 : decode cL_act 76 = .ok (.iload_n 2, 1) := by decide +kernel
theorem dL_act_77 : decode cL_act 77 = .ok (.i2l, 1) := by decide +kernel
theorem dL_act_78 : decode cL_act 78 = .ok (.ldc2_w 170, 3) := by decide +kernel
theorem dL_act_81 : decode cL_act 81 = .ok (.lmul, 1) := by decide +kernel
theorem dL_act_82 : decode cL_act 82 = .ok (.invokestatic 143, 3) := by decide +kernel
theorem dL_act_85 : decode cL_act 85 = .ok (.ireturn, 1) := by decide +kernel
theorem dL_act_86 : decode cL_act 86 = .ok (.iload_n 1, 1) := by decide +kernel
theorem dL_act_87 : decode cL_act 87 = .ok (.bipush 32, 2) := by decide +kernel
theorem dL_act_89 : decode cL_act 89 = .ok (.irem, 1) := by decide +kernel
theorem dL_act_90 : decode cL_act 90 = .ok (.bipush 28, 2) := by decide +kernel
theorem dL_act_92 : decode cL_act 92 = .ok (.if_icmp .ne 13, 3) := by decide +kernel
theorem dL_act_95 : decode cL_act 95 = .ok (.aload_n 0, 1) := by decide +kernel
theorem dL_act_96 : decode cL_act 96 = .ok (.bipush 10, 2) := by decide +kernel
theorem dL_act_98 : decode cL_act 98 = .ok (.iconst 0, 1) := by decide +kernel
theorem dL_act_99 : decode cL_act 99 = .ok (.iconst 0, 1) := by decide +kernel
theorem dL_act_100 : decode cL_act 100 = .ok (.iconst 0, 1) := by decide +kernel
theorem dL_act_101 : decode cL_act 101 = .ok (.invokestatic 139, 3) := by decide +kernel
theorem dL_act_104 : decode cL_act 104 = .ok (.ireturn, 1) := by decide +kernel
theorem dL_act_105 : decode cL_act 105 = .ok (.iload_n 1, 1) := by decide +kernel
theorem dL_act_106 : decode cL_act 106 = .ok (.bipush 32, 2) := by decide +kernel
theorem dL_act_108 : decode cL_act 108 = .ok (.irem, 1) := by decide +kernel
theorem dL_act_109 : decode cL_act 109 = .ok (.bipush 27, 2) := by decide +kernel
theorem dL_act_111 : decode cL_act 111 = .ok (.if_icmp .ne 26, 3) := by decide +kernel
theorem dL_act_114 : decode cL_act 114 = .ok (.aload_n 0, 1) := by decide +kernel
theorem dL_act_115 : decode cL_act 115 = .ok (.iload_n 2, 1) := by decide +kernel
theorem dL_act_116 : decode cL_act 116 = .ok (.bipush 28, 2) := by decide +kernel
theorem dL_act_118 : decode cL_act 118 = .ok (.irem, 1) := by decide +kernel
theorem dL_act_119 : decode cL_act 119 = .ok (.iload_n 2, 1) := by decide +kernel
theorem dL_act_120 : decode cL_act 120 = .ok (.bipush 28, 2) := by decide +kernel
theorem dL_act_122 : decode cL_act 122 = .ok (.idiv, 1) := by decide +kernel
theorem dL_act_123 : decode cL_act 123 = .ok (.iconst 2, 1) := by decide +kernel
theorem dL_act_124 : decode cL_act 124 = .ok (.irem, 1) := by decide +kernel
theorem dL_act_125 : decode cL_act 125 = .ok (.ifCond .ne 7, 3) := by decide +kernel
theorem dL_act_128 : decode cL_act 128 = .ok (.iconst 1, 1) := by decide +kernel
theorem dL_act_129 : decode cL_act 129 = .ok (.goto 4, 3) := by decide +kernel
theorem dL_act_132 : decode cL_act 132 = .ok (.iconst 0, 1) := by decide +kernel
theorem dL_act_133 : decode cL_act 133 = .ok (.invokestatic 147, 3) := by decide +kernel
theorem dL_act_136 : decode cL_act 136 = .ok (.ireturn, 1) := by decide +kernel
theorem dL_act_137 : decode cL_act 137 = .ok (.iload_n 1, 1) := by decide +kernel
theorem dL_act_138 : decode cL_act 138 = .ok (.bipush 32, 2) := by decide +kernel
theorem dL_act_140 : decode cL_act 140 = .ok (.irem, 1) := by decide +kernel
theorem dL_act_141 : decode cL_act 141 = .ok (.bipush 26, 2) := by decide +kernel
theorem dL_act_143 : decode cL_act 143 = .ok (.if_icmp .ne 36, 3) := by decide +kernel
theorem dL_act_146 : decode cL_act 146 = .ok (.aload_n 0, 1) := by decide +kernel
theorem dL_act_147 : decode cL_act 147 = .ok (.iconst 2, 1) := by decide +kernel
theorem dL_act_148 : decode cL_act 148 = .ok (.iconst 4, 1) := by decide +kernel
theorem dL_act_149 : decode cL_act 149 = .ok (.iconst 0, 1) := by decide +kernel
theorem dL_act_150 : decode cL_act 150 = .ok (.iconst 0, 1) := by decide +kernel
theorem dL_act_151 : decode cL_act 151 = .ok (.invokestatic 139, 3) := by decide +kernel
theorem dL_act_154 : decode cL_act 154 = .ok (.ifCond .le 15, 3) := by decide +kernel
theorem dL_act_157 : decode cL_act 157 = .ok (.aload_n 0, 1) := by decide +kernel
theorem dL_act_158 : decode cL_act 158 = .ok (.bipush 8, 2) := by decide +kernel
theorem dL_act_160 : decode cL_act 160 = .ok (.iconst 0, 1) := by decide +kernel
theorem dL_act_161 : decode cL_act 161 = .ok (.iconst 0, 1) := by decide +kernel
theorem dL_act_162 : decode cL_act 162 = .ok (.iconst 0, 1) := by decide +kernel
theorem dL_act_163 : decode cL_act 163 = .ok (.invokestatic 139, 3) := by decide +kernel
theorem dL_act_166 : decode cL_act 166 = .ok (.goto 12, 3) := by decide +kernel
theorem dL_act_169 : decode cL_act 169 = .ok (.aload_n 0, 1) := by decide +kernel
theorem dL_act_170 : decode cL_act 170 = .ok (.bipush 9, 2) := by decide +kernel
theorem dL_act_172 : decode cL_act 172 = .ok (.iconst 0, 1) := by decide +kernel
theorem dL_act_173 : decode cL_act 173 = .ok (.iconst 0, 1) := by decide +kernel
theorem dL_act_174 : decode cL_act 174 = .ok (.iconst 0, 1) := by decide +kernel
theorem dL_act_175 : decode cL_act 175 = .ok (.invokestatic 139, 3) := by decide +kernel
theorem dL_act_178 : decode cL_act 178 = .ok (.ireturn, 1) := by decide +kernel
theorem dL_act_179 : decode cL_act 179 = .ok (.iconst 0, 1) := by decide +kernel
theorem dL_act_180 : decode cL_act 180 = .ok (.istore 4, 2) := by decide +kernel
theorem dL_act_182 : decode cL_act 182 = .ok (.iconst 1, 1) := by decide +kernel
theorem dL_act_183 : decode cL_act 183 = .ok (.iload_n 2, 1) := by decide +kernel
theorem dL_act_184 : decode cL_act 184 = .ok (.iconst 5, 1) := by decide +kernel
theorem dL_act_185 : decode cL_act 185 = .ok (.irem, 1) := by decide +kernel
theorem dL_act_186 : decode cL_act 186 = .ok (.iadd, 1) := by decide +kernel
theorem dL_act_187 : decode cL_act 187 = .ok (.istore 5, 2) := by decide +kernel
theorem dL_act_189 : decode cL_act 189 = .ok (.iconst 0, 1) := by decide +kernel
theorem dL_act_190 : decode cL_act 190 = .ok (.istore 6, 2) := by decide +kernel
theorem dL_act_192 : decode cL_act 192 = .ok (.iload 6, 2) := by decide +kernel
theorem dL_act_194 : decode cL_act 194 = .ok (.iload 5, 2) := by decide +kernel
theorem dL_act_196 : decode cL_act 196 = .ok (.if_icmp .ge 103, 3) := by decide +kernel
theorem dL_act_199 : decode cL_act 199 = .ok (.aload_n 0, 1) := by decide +kernel
theorem dL_act_200 : decode cL_act 200 = .ok (.invokevirtual 163, 3) := by decide +kernel
theorem dL_act_203 : decode cL_act 203 = .ok (.istore 7, 2) := by decide +kernel
theorem dL_act_205 : decode cL_act 205 = .ok (.iconst 3, 1) := by decide +kernel
theorem dL_act_206 : decode cL_act 206 = .ok (.iload 4, 2) := by decide +kernel
theorem dL_act_208 : decode cL_act 208 = .ok (.imul, 1) := by decide +kernel
theorem dL_act_209 : decode cL_act 209 = .ok (.iload 7, 2) := by decide +kernel
theorem dL_act_211 : decode cL_act 211 = .ok (.iconst (-1), 1) := by decide +kernel
theorem dL_act_212 : decode cL_act 212 = .ok (.if_icmp .eq 29, 3) := by decide +kernel
theorem dL_act_215 : decode cL_act 215 = .ok (.aload_n 0, 1) := by decide +kernel
theorem dL_act_216 : decode cL_act 216 = .ok (.iload 7, 2) := by decide +kernel
theorem dL_act_218 : decode cL_act 218 = .ok (.iload_n 2, 1) := by decide +kernel
theorem dL_act_219 : decode cL_act 219 = .ok (.iload 6, 2) := by decide +kernel
theorem dL_act_221 : decode cL_act 221 = .ok (.iconst 3, 1) := by decide +kernel
theorem dL_act_222 : decode cL_act 222 = .ok (.iadd, 1) := by decide +kernel
theorem dL_act_223 : decode cL_act 223 = .ok (.ishr, 1) := by decide +kernel
theorem dL_act_224 : decode cL_act 224 = .ok (.iconst 1, 1) := by decide +kernel
theorem dL_act_225 : decode cL_act 225 = .ok (.iand, 1) := by decide +kernel
theorem dL_act_226 : decode cL_act 226 = .ok (.iconst 1, 1) := by decide +kernel
theorem dL_act_227 : decode cL_act 227 = .ok (.if_icmp .ne 7, 3) := by decide +kernel
theorem dL_act_230 : decode cL_act 230 = .ok (.iconst 1, 1) := by decide +kernel
theorem dL_act_231 : decode cL_act 231 = .ok (.goto 4, 3) := by decide +kernel
theorem dL_act_234 : decode cL_act 234 = .ok (.iconst 0, 1) := by decide +kernel
theorem dL_act_235 : decode cL_act 235 = .ok (.invokestatic 147, 3) := by decide +kernel
theorem dL_act_238 : decode cL_act 238 = .ok (.goto 52, 3) := by decide +kernel
theorem dL_act_241 : decode cL_act 241 = .ok (.aload_n 0, 1) := by decide +kernel
theorem dL_act_242 : decode cL_act 242 = .ok (.iconst 2, 1) := by decide +kernel
theorem dL_act_243 : decode cL_act 243 = .ok (.iconst 1, 1) := by decide +kernel
theorem dL_act_244 : decode cL_act 244 = .ok (.iconst 0, 1) := by decide +kernel
theorem dL_act_245 : decode cL_act 245 = .ok (.iconst 0, 1) := by decide +kernel
theorem dL_act_246 : decode cL_act 246 = .ok (.invokestatic 139, 3) := by decide +kernel
theorem dL_act_249 : decode cL_act 249 = .ok (.iconst 1, 1) := by decide +kernel
theorem dL_act_250 : decode cL_act 250 = .ok (.if_icmp .eq 8, 3) := by decide +kernel
theorem dL_act_253 : decode cL_act 253 = .ok (.bipush 7, 2) := by decide +kernel
theorem dL_act_255 : decode cL_act 255 = .ok (.goto 35, 3) := by decide +kernel
theorem dL_act_258 : decode cL_act 258 = .ok (.aload_n 0, 1) := by decide +kernel
theorem dL_act_259 : decode cL_act 259 = .ok (.iconst 2, 1) := by decide +kernel
theorem dL_act_260 : decode cL_act 260 = .ok (.iconst 4, 1) := by decide +kernel
theorem dL_act_261 : decode cL_act 261 = .ok (.iconst 0, 1) := by decide +kernel
theorem dL_act_262 : decode cL_act 262 = .ok (.iconst 0, 1) := by decide +kernel
theorem dL_act_263 : decode cL_act 263 = .ok (.invokestatic 139, 3) := by decide +kernel
theorem dL_act_266 : decode cL_act 266 = .ok (.ifCond .le 15, 3) := by decide +kernel
theorem dL_act_269 : decode cL_act 269 = .ok (.aload_n 0, 1) := by decide +kernel
theorem dL_act_270 : decode cL_act 270 = .ok (.bipush 8, 2) := by decide +kernel
theorem dL_act_272 : decode cL_act 272 = .ok (.iconst 0, 1) := by decide +kernel
theorem dL_act_273 : decode cL_act 273 = .ok (.iconst 0, 1) := by decide +kernel
theorem dL_act_274 : decode cL_act 274 = .ok (.iconst 0, 1) := by decide +kernel
theorem dL_act_275 : decode cL_act 275 = .ok (.invokestatic 139, 3) := by decide +kernel
theorem dL_act_278 : decode cL_act 278 = .ok (.goto 12, 3) := by decide +kernel
theorem dL_act_281 : decode cL_act 281 = .ok (.aload_n 0, 1) := by decide +kernel
theorem dL_act_282 : decode cL_act 282 = .ok (.bipush 9, 2) := by decide +kernel
theorem dL_act_284 : decode cL_act 284 = .ok (.iconst 0, 1) := by decide +kernel
theorem dL_act_285 : decode cL_act 285 = .ok (.iconst 0, 1) := by decide +kernel
theorem dL_act_286 : decode cL_act 286 = .ok (.iconst 0, 1) := by decide +kernel
theorem dL_act_287 : decode cL_act 287 = .ok (.invokestatic 139, 3) := by decide +kernel
theorem dL_act_290 : decode cL_act 290 = .ok (.iadd, 1) := by decide +kernel
theorem dL_act_291 : decode cL_act 291 = .ok (.istore 4, 2) := by decide +kernel
theorem dL_act_293 : decode cL_act 293 = .ok (.iinc 6 1, 3) := by decide +kernel
theorem dL_act_296 : decode cL_act 296 = .ok (.goto (-104), 3) := by decide +kernel
theorem dL_act_299 : decode cL_act 299 = .ok (.iload 4, 2) := by decide +kernel
theorem dL_act_301 : decode cL_act 301 = .ok (.ireturn, 1) := by decide +kernel
theorem dL_alike_0 : decode cL_alike 0 = .ok (.aload_n 0, 1) := by decide +kernel
theorem dL_alike_1 : decode cL_alike 1 = .ok (.iload_n 2, 1) := by decide +kernel
theorem dL_alike_2 : decode cL_alike 2 = .ok (.i2l, 1) := by decide +kernel
theorem dL_alike_3 : decode cL_alike 3 = .ok (.iconst 1, 1) := by decide +kernel
theorem dL_alike_4 : decode cL_alike 4 = .ok (.iload_n 2, 1) := by decide +kernel
theorem dL_alike_5 : decode cL_alike 5 = .ok (.bipush 90, 2) := by decide +kernel
theorem dL_alike_7 : decode cL_alike 7 = .ok (.irem, 1) := by decide +kernel
theorem dL_alike_8 : decode cL_alike 8 = .ok (.iadd, 1) := by decide +kernel
theorem dL_alike_9 : decode cL_alike 9 = .ok (.invokestatic 156, 3) := by decide +kernel
theorem dL_alike_12 : decode cL_alike 12 = .ok (.aload_n 1, 1) := by decide +kernel
theorem dL_alike_13 : decode cL_alike 13 = .ok (.iload_n 2, 1) := by decide +kernel
theorem dL_alike_14 : decode cL_alike 14 = .ok (.i2l, 1) := by decide +kernel
theorem dL_alike_15 : decode cL_alike 15 = .ok (.iconst 1, 1) := by decide +kernel
theorem dL_alike_16 : decode cL_alike 16 = .ok (.iload_n 2, 1) := by decide +kernel
theorem dL_alike_17 : decode cL_alike 17 = .ok (.bipush 90, 2) := by decide +kernel
theorem dL_alike_19 : decode cL_alike 19 = .ok (.irem, 1) := by decide +kernel
theorem dL_alike_20 : decode cL_alike 20 = .ok (.iadd, 1) := by decide +kernel
theorem dL_alike_21 : decode cL_alike 21 = .ok (.invokestatic 156, 3) := by decide +kernel
theorem dL_alike_24 : decode cL_alike 24 = .ok (.if_icmp .ne 29, 3) := by decide +kernel
theorem dL_alike_27 : decode cL_alike 27 = .ok (.aload_n 0, 1) := by decide +kernel
theorem dL_alike_28 : decode cL_alike 28 = .ok (.invokevirtual 160, 3) := by decide +kernel
theorem dL_alike_31 : decode cL_alike 31 = .ok (.aload_n 1, 1) := by decide +kernel
theorem dL_alike_32 : decode cL_alike 32 = .ok (.invokevirtual 160, 3) := by decide +kernel
theorem dL_alike_35 : decode cL_alike 35 = .ok (.if_icmp .ne 18, 3) := by decide +kernel
theorem dL_alike_38 : decode cL_alike 38 = .ok (.aload_n 0, 1) := by decide +kernel
theorem dL_alike_39 : decode cL_alike 39 = .ok (.invokevirtual 163, 3) := by decide +kernel
theorem dL_alike_42 : decode cL_alike 42 = .ok (.aload_n 1, 1) := by decide +kernel
theorem dL_alike_43 : decode cL_alike 43 = .ok (.invokevirtual 163, 3) := by decide +kernel
theorem dL_alike_46 : decode cL_alike 46 = .ok (.if_icmp .ne 7, 3) := by decide +kernel
theorem dL_alike_49 : decode cL_alike 49 = .ok (.iconst 1, 1) := by decide +kernel
theorem dL_alike_50 : decode cL_alike 50 = .ok (.goto 4, 3) := by decide +kernel
theorem dL_alike_53 : decode cL_alike 53 = .ok (.iconst 0, 1) := by decide +kernel
theorem dL_alike_54 : decode cL_alike 54 = .ok (.istore_n 3, 1) := by decide +kernel
theorem dL_alike_55 : decode cL_alike 55 = .ok (.iconst 0, 1) := by decide +kernel
theorem dL_alike_56 : decode cL_alike 56 = .ok (.istore 4, 2) := by decide +kernel
theorem dL_alike_58 : decode cL_alike 58 = .ok (.iload 4, 2) := by decide +kernel
theorem dL_alike_60 : decode cL_alike 60 = .ok (.bipush 28, 2) := by decide +kernel
theorem dL_alike_62 : decode cL_alike 62 = .ok (.if_icmp .ge 169, 3) := by decide +kernel
theorem dL_alike_65 : decode cL_alike 65 = .ok (.iload_n 3, 1) := by decide +kernel
theorem dL_alike_66 : decode cL_alike 66 = .ok (.ifCond .eq 165, 3) := by decide +kernel
theorem dL_alike_69 : decode cL_alike 69 = .ok (.aload_n 0, 1) := by decide +kernel
theorem dL_alike_70 : decode cL_alike 70 = .ok (.iconst 3, 1) := by decide +kernel
theorem dL_alike_71 : decode cL_alike 71 = .ok (.iload 4, 2) := by decide +kernel
theorem dL_alike_73 : decode cL_alike 73 = .ok (.iload_n 2, 1) := by decide +kernel
theorem dL_alike_74 : decode cL_alike 74 = .ok (.iconst 5, 1) := by decide +kernel
theorem dL_alike_75 : decode cL_alike 75 = .ok (.irem, 1) := by decide +kernel
theorem dL_alike_76 : decode cL_alike 76 = .ok (.iconst 0, 1) := by decide +kernel
theorem dL_alike_77 : decode cL_alike 77 = .ok (.invokestatic 139, 3) := by decide +kernel
theorem dL_alike_80 : decode cL_alike 80 = .ok (.aload_n 1, 1) := by decide +kernel
theorem dL_alike_81 : decode cL_alike 81 = .ok (.iconst 3, 1) := by decide +kernel
theorem dL_alike_82 : decode cL_alike 82 = .ok (.iload 4, 2) := by decide +kernel
theorem dL_alike_84 : decode cL_alike 84 = .ok (.iload_n 2, 1) := by decide +kernel
theorem dL_alike_85 : decode cL_alike 85 = .ok (.iconst 5, 1) := by decide +kernel
theorem dL_alike_86 : decode cL_alike 86 = .ok (.irem, 1) := by decide +kernel
theorem dL_alike_87 : decode cL_alike 87 = .ok (.iconst 0, 1) := by decide +kernel
theorem dL_alike_88 : decode cL_alike 88 = .ok (.invokestatic 139, 3) := by decide +kernel
theorem dL_alike_91 : decode cL_alike 91 = .ok (.if_icmp .ne 132, 3) := by decide +kernel
theorem dL_alike_94 : decode cL_alike 94 = .ok (.aload_n 0, 1) := by decide +kernel
theorem dL_alike_95 : decode cL_alike 95 = .ok (.iconst 2, 1) := by decide +kernel
theorem dL_alike_96 : decode cL_alike 96 = .ok (.iload 4, 2) := by decide +kernel
theorem dL_alike_98 : decode cL_alike 98 = .ok (.iconst 0, 1) := by decide +kernel
theorem dL_alike_99 : decode cL_alike 99 = .ok (.iconst 0, 1) := by decide +kernel
theorem dL_alike_100 : decode cL_alike 100 = .ok (.invokestatic 139, 3) := by decide +kernel
theorem dL_alike_103 : decode cL_alike 103 = .ok (.aload_n 1, 1) := by decide +kernel
theorem dL_alike_104 : decode cL_alike 104 = .ok (.iconst 2, 1) := by decide +kernel
theorem dL_alike_105 : decode cL_alike 105 = .ok (.iload 4, 2) := by decide +kernel
theorem dL_alike_107 : decode cL_alike 107 = .ok (.iconst 0, 1) := by decide +kernel
theorem dL_alike_108 : decode cL_alike 108 = .ok (.iconst 0, 1) := by decide +kernel
theorem dL_alike_109 : decode cL_alike 109 = .ok (.invokestatic 139, 3) := by decide +kernel
theorem dL_alike_112 : decode cL_alike 112 = .ok (.if_icmp .ne 111, 3) := by decide +kernel
theorem dL_alike_115 : decode cL_alike 115 = .ok (.aload_n 0, 1) := by decide +kernel
theorem dL_alike_116 : decode cL_alike 116 = .ok (.iconst 4, 1) := by decide +kernel
theorem dL_alike_117 : decode cL_alike 117 = .ok (.iload 4, 2) := by decide +kernel
theorem dL_alike_119 : decode cL_alike 119 = .ok (.iload_n 2, 1) := by decide +kernel
theorem dL_alike_120 : decode cL_alike 120 = .ok (.bipush 6, 2) := by decide +kernel
theorem dL_alike_122 : decode cL_alike 122 = .ok (.irem, 1) := by decide +kernel
theorem dL_alike_123 : decode cL_alike 123 = .ok (.iconst 0, 1) := by decide +kernel
theorem dL_alike_124 : decode cL_alike 124 = .ok (.invokestatic 139, 3) := by decide +kernel
theorem dL_alike_127 : decode cL_alike 127 = .ok (.aload_n 1, 1) := by decide +kernel
theorem dL_alike_128 : decode cL_alike 128 = .ok (.iconst 4, 1) := by decide +kernel
theorem dL_alike_129 : decode cL_alike 129 = .ok (.iload 4, 2) := by decide +kernel
theorem dL_alike_131 : decode cL_alike 131 = .ok (.iload_n 2, 1) := by decide +kernel
theorem dL_alike_132 : decode cL_alike 132 = .ok (.bipush 6, 2) := by decide +kernel
theorem dL_alike_134 : decode cL_alike 134 = .ok (.irem, 1) := by decide +kernel
theorem dL_alike_135 : decode cL_alike 135 = .ok (.iconst 0, 1) := by decide +kernel
theorem dL_alike_136 : decode cL_alike 136 = .ok (.invokestatic 139, 3) := by decide +kernel
theorem dL_alike_139 : decode cL_alike 139 = .ok (.if_icmp .ne 84, 3) := by decide +kernel
theorem dL_alike_142 : decode cL_alike 142 = .ok (.aload_n 0, 1) := by decide +kernel
theorem dL_alike_143 : decode cL_alike 143 = .ok (.iconst 5, 1) := by decide +kernel
theorem dL_alike_144 : decode cL_alike 144 = .ok (.iload 4, 2) := by decide +kernel
theorem dL_alike_146 : decode cL_alike 146 = .ok (.iload_n 2, 1) := by decide +kernel
theorem dL_alike_147 : decode cL_alike 147 = .ok (.iconst 4, 1) := by decide +kernel
theorem dL_alike_148 : decode cL_alike 148 = .ok (.irem, 1) := by decide +kernel
theorem dL_alike_149 : decode cL_alike 149 = .ok (.iconst 0, 1) := by decide +kernel
theorem dL_alike_150 : decode cL_alike 150 = .ok (.invokestatic 139, 3) := by decide +kernel
theorem dL_alike_153 : decode cL_alike 153 = .ok (.aload_n 1, 1) := by decide +kernel
theorem dL_alike_154 : decode cL_alike 154 = .ok (.iconst 5, 1) := by decide +kernel
theorem dL_alike_155 : decode cL_alike 155 = .ok (.iload 4, 2) := by decide +kernel
theorem dL_alike_157 : decode cL_alike 157 = .ok (.iload_n 2, 1) := by decide +kernel
theorem dL_alike_158 : decode cL_alike 158 = .ok (.iconst 4, 1) := by decide +kernel
theorem dL_alike_159 : decode cL_alike 159 = .ok (.irem, 1) := by decide +kernel
theorem dL_alike_160 : decode cL_alike 160 = .ok (.iconst 0, 1) := by decide +kernel
theorem dL_alike_161 : decode cL_alike 161 = .ok (.invokestatic 139, 3) := by decide +kernel
theorem dL_alike_164 : decode cL_alike 164 = .ok (.if_icmp .ne 59, 3) := by decide +kernel
theorem dL_alike_167 : decode cL_alike 167 = .ok (.aload_n 0, 1) := by decide +kernel
theorem dL_alike_168 : decode cL_alike 168 = .ok (.bipush 13, 2) := by decide +kernel
theorem dL_alike_170 : decode cL_alike 170 = .ok (.iload 4, 2) := by decide +kernel
theorem dL_alike_172 : decode cL_alike 172 = .ok (.iconst 0, 1) := by decide +kernel
theorem dL_alike_173 : decode cL_alike 173 = .ok (.iconst 0, 1) := by decide +kernel
theorem dL_alike_174 : decode cL_alike 174 = .ok (.invokestatic 139, 3) := by decide +kernel
theorem dL_alike_177 : decode cL_alike 177 = .ok (.aload_n 1, 1) := by decide +kernel
theorem dL_alike_178 : decode cL_alike 178 = .ok (.bipush 13, 2) := by decide +kernel
theorem dL_alike_180 : decode cL_alike 180 = .ok (.iload 4, 2) := by decide +kernel
theorem dL_alike_182 : decode cL_alike 182 = .ok (.iconst 0, 1) := by decide +kernel
theorem dL_alike_183 : decode cL_alike 183 = .ok (.iconst 0, 1) := by decide +kernel
theorem dL_alike_184 : decode cL_alike 184 = .ok (.invokestatic 139, 3) := by decide +kernel
theorem dL_alike_187 : decode cL_alike 187 = .ok (.if_icmp .ne 36, 3) := by decide +kernel
theorem dL_alike_190 : decode cL_alike 190 = .ok (.aload_n 0, 1) := by decide +kernel
theorem dL_alike_191 : decode cL_alike 191 = .ok (.bipush 6, 2) := by decide +kernel
theorem dL_alike_193 : decode cL_alike 193 = .ok (.iload 4, 2) := by decide +kernel
theorem dL_alike_195 : decode cL_alike 195 = .ok (.iload_n 2, 1) := by decide +kernel
theorem dL_alike_196 : decode cL_alike 196 = .ok (.bipush 25, 2) := by decide +kernel
theorem dL_alike_198 : decode cL_alike 198 = .ok (.irem, 1) := by decide +kernel
theorem dL_alike_199 : decode cL_alike 199 = .ok (.iconst 0, 1) := by decide +kernel
theorem dL_alike_200 : decode cL_alike 200 = .ok (.invokestatic 139, 3) := by decide +kernel
theorem dL_alike_203 : decode cL_alike 203 = .ok (.aload_n 1, 1) := by decide +kernel
theorem dL_alike_204 : decode cL_alike 204 = .ok (.bipush 6, 2) := by decide +kernel
theorem dL_alike_206 : decode cL_alike 206 = .ok (.iload 4, 2) := by decide +kernel
theorem dL_alike_208 : decode cL_alike 208 = .ok (.iload_n 2, 1) := by decide +kernel
theorem dL_alike_209 : decode cL_alike 209 = .ok (.bipush 25, 2) := by decide +kernel
theorem dL_alike_211 : decode cL_alike 211 = .ok (.irem, 1) := by decide +kernel
theorem dL_alike_212 : decode cL_alike 212 = .ok (.iconst 0, 1) := by decide +kernel
theorem dL_alike_213 : decode cL_alike 213 = .ok (.invokestatic 139, 3) := by decide +kernel
theorem dL_alike_216 : decode cL_alike 216 = .ok (.if_icmp .ne 7, 3) := by decide +kernel
theorem dL_alike_219 : decode cL_alike 219 = .ok (.iconst 1, 1) := by decide +kernel
theorem dL_alike_220 : decode cL_alike 220 = .ok (.goto 4, 3) := by decide +kernel
theorem dL_alike_223 : decode cL_alike 223 = .ok (.iconst 0, 1) := by decide +kernel
theorem dL_alike_224 : decode cL_alike 224 = .ok (.istore_n 3, 1) := by decide +kernel
theorem dL_alike_225 : decode cL_alike 225 = .ok (.iinc 4 1, 3) := by decide +kernel
theorem dL_alike_228 : decode cL_alike 228 = .ok (.goto (-170), 3) := by decide +kernel
theorem dL_alike_231 : decode cL_alike 231 = .ok (.iload_n 3, 1) := by decide +kernel
theorem dL_alike_232 : decode cL_alike 232 = .ok (.ireturn, 1) := by decide +kernel
theorem dL_law_0 : decode cL_law 0 = .ok (.new 8, 3) := by decide +kernel
theorem dL_law_3 : decode cL_law 3 = .ok (.dup, 1) := by decide +kernel
theorem dL_law_4 : decode cL_law 4 = .ok (.invokespecial 172, 3) := by decide +kernel
theorem dL_law_7 : decode cL_law 7 = .ok (.astore_n 1, 1) := by decide +kernel
theorem dL_law_8 : decode cL_law 8 = .ok (.new 8, 3) := by decide +kernel
theorem dL_law_11 : decode cL_law 11 = .ok (.dup, 1) := by decide +kernel
theorem dL_law_12 : decode cL_law 12 = .ok (.invokespecial 172, 3) := by decide +kernel
theorem dL_law_15 : decode cL_law 15 = .ok (.astore_n 2, 1) := by decide +kernel
theorem dL_law_16 : decode cL_law 16 = .ok (.bipush 14, 2) := by decide +kernel
theorem dL_law_18 : decode cL_law 18 = .ok (.aload_n 0, 1) := by decide +kernel
theorem dL_law_19 : decode cL_law 19 = .ok (.iconst 0, 1) := by decide +kernel
theorem dL_law_20 : decode cL_law 20 = .ok (.invokestatic 173, 3) := by decide +kernel
theorem dL_law_23 : decode cL_law 23 = .ok (.bipush 27, 2) := by decide +kernel
theorem dL_law_25 : decode cL_law 25 = .ok (.irem, 1) := by decide +kernel
theorem dL_law_26 : decode cL_law 26 = .ok (.iadd, 1) := by decide +kernel
theorem dL_law_27 : decode cL_law 27 = .ok (.istore_n 3, 1) := by decide +kernel
theorem dL_law_28 : decode cL_law 28 = .ok (.iconst 1, 1) := by decide +kernel
theorem dL_law_29 : decode cL_law 29 = .ok (.istore 4, 2) := by decide +kernel
theorem dL_law_31 : decode cL_law 31 = .ok (.iconst 0, 1) := by decide +kernel
theorem dL_law_32 : decode cL_law 32 = .ok (.istore 5, 2) := by decide +kernel
theorem dL_law_34 : decode cL_law 34 = .ok (.iload 5, 2) := by decide +kernel
theorem dL_law_36 : decode cL_law 36 = .ok (.iload_n 3, 1) := by decide +kernel
theorem dL_law_37 : decode cL_law 37 = .ok (.if_icmp .ge 134, 3) := by decide +kernel
theorem dL_law_40 : decode cL_law 40 = .ok (.iload 4, 2) := by decide +kernel
theorem dL_law_42 : decode cL_law 42 = .ok (.ifCond .eq 129, 3) := by decide +kernel
theorem dL_law_45 : decode cL_law 45 = .ok (.aload_n 0, 1) := by decide +kernel
theorem dL_law_46 : decode cL_law 46 = .ok (.iconst 1, 1) := by decide +kernel
theorem dL_law_47 : decode cL_law 47 = .ok (.iload 5, 2) := by decide +kernel
theorem dL_law_49 : decode cL_law 49 = .ok (.iadd, 1) := by decide +kernel
theorem dL_law_50 : decode cL_law 50 = .ok (.invokestatic 173, 3) := by decide +kernel
theorem dL_law_53 : decode cL_law 53 = .ok (.istore 6, 2) := by decide +kernel
theorem dL_law_55 : decode cL_law 55 = .ok (.aload_n 1, 1) := by decide +kernel
theorem dL_law_56 : decode cL_law 56 = .ok (.iload 6, 2) := by decide +kernel
theorem dL_law_58 : decode cL_law 58 = .ok (.invokestatic 177, 3) := by decide +kernel
theorem dL_law_61 : decode cL_law 61 = .ok (.istore 7, 2) := by decide +kernel
theorem dL_law_63 : decode cL_law 63 = .ok (.aload_n 2, 1) := by decide +kernel
theorem dL_law_64 : decode cL_law 64 = .ok (.iload 6, 2) := by decide +kernel
theorem dL_law_66 : decode cL_law 66 = .ok (.ldc 180, 2) := by decide +kernel
theorem dL_law_68 : decode cL_law 68 = .ok (.irem, 1) := by decide +kernel
theorem dL_law_69 : decode cL_law 69 = .ok (.invokestatic 181, 3) := by decide +kernel
theorem dL_law_72 : decode cL_law 72 = .ok (.ifCond .eq 90, 3) := by decide +kernel
theorem dL_law_75 : decode cL_law 75 = .ok (.aload_n 2, 1) := by decide +kernel
theorem dL_law_76 : decode cL_law 76 = .ok (.iload 6, 2) := by decide +kernel
theorem dL_law_78 : decode cL_law 78 = .ok (.invokestatic 177, 3) := by decide +kernel
theorem dL_law_81 : decode cL_law 81 = .ok (.iload 7, 2) := by decide +kernel
theorem dL_law_83 : decode cL_law 83 = .ok (.if_icmp .ne 79, 3) := by decide +kernel
theorem dL_law_86 : decode cL_law 86 = .ok (.aload_n 2, 1) := by decide +kernel
theorem dL_law_87 : decode cL_law 87 = .ok (.iload 6, 2) := by decide +kernel
theorem dL_law_89 : decode cL_law 89 = .ok (.sipush 1000, 3) := by decide +kernel
theorem dL_law_92 : decode cL_law 92 = .ok (.irem, 1) := by decide +kernel
theorem dL_law_93 : decode cL_law 93 = .ok (.invokestatic 181, 3) := by decide +kernel
theorem dL_law_96 : decode cL_law 96 = .ok (.ifCond .eq 66, 3) := by decide +kernel
theorem dL_law_99 : decode cL_law 99 = .ok (.aload_n 1, 1) := by decide +kernel
theorem dL_law_100 : decode cL_law 100 = .ok (.aload_n 2, 1) := by decide +kernel
theorem dL_law_101 : decode cL_law 101 = .ok (.iload 6, 2) := by decide +kernel
theorem dL_law_103 : decode cL_law 103 = .ok (.sipush 5000, 3) := by decide +kernel
theorem dL_law_106 : decode cL_law 106 = .ok (.irem, 1) := by decide +kernel
theorem dL_law_107 : decode cL_law 107 = .ok (.invokestatic 185, 3) := by decide +kernel
theorem dL_law_110 : decode cL_law 110 = .ok (.ifCond .eq 52, 3) := by decide +kernel
theorem dL_law_113 : decode cL_law 113 = .ok (.iload 5, 2) := by decide +kernel
theorem dL_law_115 : decode cL_law 115 = .ok (.iconst 2, 1) := by decide +kernel
theorem dL_law_116 : decode cL_law 116 = .ok (.irem, 1) := by decide +kernel
theorem dL_law_117 : decode cL_law 117 = .ok (.ifCond .ne 17, 3) := by decide +kernel
theorem dL_law_120 : decode cL_law 120 = .ok (.aload_n 1, 1) := by decide +kernel
theorem dL_law_121 : decode cL_law 121 = .ok (.iload 6, 2) := by decide +kernel
theorem dL_law_123 : decode cL_law 123 = .ok (.iconst 3, 1) := by decide +kernel
theorem dL_law_124 : decode cL_law 124 = .ok (.idiv, 1) := by decide +kernel
theorem dL_law_125 : decode cL_law 125 = .ok (.invokestatic 189, 3) := by decide +kernel
theorem dL_law_128 : decode cL_law 128 = .ok (.ifCond .eq 34, 3) := by decide +kernel
theorem dL_law_131 : decode cL_law 131 = .ok (.goto 14, 3) := by decide +kernel
theorem dL_law_134 : decode cL_law 134 = .ok (.aload_n 2, 1) := by decide +kernel
theorem dL_law_135 : decode cL_law 135 = .ok (.iload 6, 2) := by decide +kernel
theorem dL_law_137 : decode cL_law 137 = .ok (.iconst 3, 1) := by decide +kernel
theorem dL_law_138 : decode cL_law 138 = .ok (.idiv, 1) := by decide +kernel
theorem dL_law_139 : decode cL_law 139 = .ok (.invokestatic 189, 3) := by decide +kernel
theorem dL_law_142 : decode cL_law 142 = .ok (.ifCond .eq 20, 3) := by decide +kernel
theorem dL_law_145 : decode cL_law 145 = .ok (.aload_n 1, 1) := by decide +kernel
theorem dL_law_146 : decode cL_law 146 = .ok (.aload_n 2, 1) := by decide +kernel
theorem dL_law_147 : decode cL_law 147 = .ok (.iload 6, 2) := by decide +kernel
theorem dL_law_149 : decode cL_law 149 = .ok (.bipush 7, 2) := by decide +kernel
theorem dL_law_151 : decode cL_law 151 = .ok (.idiv, 1) := by decide +kernel
theorem dL_law_152 : decode cL_law 152 = .ok (.invokestatic 192, 3) := by decide +kernel
theorem dL_law_155 : decode cL_law 155 = .ok (.ifCond .eq 7, 3) := by decide +kernel
theorem dL_law_158 : decode cL_law 158 = .ok (.iconst 1, 1) := by decide +kernel
theorem dL_law_159 : decode cL_law 159 = .ok (.goto 4, 3) := by decide +kernel
theorem dL_law_162 : decode cL_law 162 = .ok (.iconst 0, 1) := by decide +kernel
theorem dL_law_163 : decode cL_law 163 = .ok (.istore 4, 2) := by decide +kernel
theorem dL_law_165 : decode cL_law 165 = .ok (.iinc 5 1, 3) := by decide +kernel
theorem dL_law_168 : decode cL_law 168 = .ok (.goto (-134), 3) := by decide +kernel
theorem dL_law_171 : decode cL_law 171 = .ok (.iload 4, 2) := by decide +kernel
theorem dL_law_173 : decode cL_law 173 = .ok (.ireturn, 1) := by decide +kernel
theorem dL_lays_0 : decode cL_lays 0 = .ok (.aload_n 0, 1) := by decide +kernel
theorem dL_lays_1 : decode cL_lays 1 = .ok (.iconst 2, 1) := by decide +kernel
theorem dL_lays_2 : decode cL_lays 2 = .ok (.iconst 1, 1) := by decide +kernel
theorem dL_lays_3 : decode cL_lays 3 = .ok (.iconst 0, 1) := by decide +kernel
theorem dL_lays_4 : decode cL_lays 4 = .ok (.iconst 0, 1) := by decide +kernel
theorem dL_lays_5 : decode cL_lays 5 = .ok (.invokestatic 139, 3) := by decide +kernel
theorem dL_lays_8 : decode cL_lays 8 = .ok (.iconst 1, 1) := by decide +kernel
theorem dL_lays_9 : decode cL_lays 9 = .ok (.if_icmp .eq 5, 3) := by decide +kernel
theorem dL_lays_12 : decode cL_lays 12 = .ok (.iconst 1, 1) := by decide +kernel
theorem dL_lays_13 : decode cL_lays 13 = .ok (.ireturn, 1) := by decide +kernel
theorem dL_lays_14 : decode cL_lays 14 = .ok (.iload_n 2, 1) := by decide +kernel
theorem dL_lays_15 : decode cL_lays 15 = .ok (.bipush 28, 2) := by decide +kernel
theorem dL_lays_17 : decode cL_lays 17 = .ok (.irem, 1) := by decide +kernel
theorem dL_lays_18 : decode cL_lays 18 = .ok (.istore_n 3, 1) := by decide +kernel
theorem dL_lays_19 : decode cL_lays 19 = .ok (.aload_n 0, 1) := by decide +kernel
theorem dL_lays_20 : decode cL_lays 20 = .ok (.invokevirtual 163, 3) := by decide +kernel
theorem dL_lays_23 : decode cL_lays 23 = .ok (.istore 4, 2) := by decide +kernel
theorem dL_lays_25 : decode cL_lays 25 = .ok (.iload 4, 2) := by decide +kernel
theorem dL_lays_27 : decode cL_lays 27 = .ok (.iconst (-1), 1) := by decide +kernel
theorem dL_lays_28 : decode cL_lays 28 = .ok (.if_icmp .eq 14, 3) := by decide +kernel
theorem dL_lays_31 : decode cL_lays 31 = .ok (.iload_n 2, 1) := by decide +kernel
theorem dL_lays_32 : decode cL_lays 32 = .ok (.iconst 3, 1) := by decide +kernel
theorem dL_lays_33 : decode cL_lays 33 = .ok (.irem, 1) := by decide +kernel
theorem dL_lays_34 : decode cL_lays 34 = .ok (.ifCond .ne 8, 3) := by decide +kernel
theorem dL_lays_37 : decode cL_lays 37 = .ok (.iload 4, 2) := by decide +kernel
theorem dL_lays_39 : decode cL_lays 39 = .ok (.goto 4, 3) := by decide +kernel
theorem dL_lays_42 : decode cL_lays 42 = .ok (.iload_n 3, 1) := by decide +kernel
theorem dL_lays_43 : decode cL_lays 43 = .ok (.istore_n 3, 1) := by decide +kernel
theorem dL_lays_44 : decode cL_lays 44 = .ok (.iload_n 2, 1) := by decide +kernel
theorem dL_lays_45 : decode cL_lays 45 = .ok (.bipush 28, 2) := by decide +kernel
theorem dL_lays_47 : decode cL_lays 47 = .ok (.idiv, 1) := by decide +kernel
theorem dL_lays_48 : decode cL_lays 48 = .ok (.iconst 2, 1) := by decide +kernel
theorem dL_lays_49 : decode cL_lays 49 = .ok (.irem, 1) := by decide +kernel
theorem dL_lays_50 : decode cL_lays 50 = .ok (.ifCond .ne 7, 3) := by decide +kernel
theorem dL_lays_53 : decode cL_lays 53 = .ok (.iconst 1, 1) := by decide +kernel
theorem dL_lays_54 : decode cL_lays 54 = .ok (.goto 4, 3) := by decide +kernel
theorem dL_lays_57 : decode cL_lays 57 = .ok (.iconst 0, 1) := by decide +kernel
theorem dL_lays_58 : decode cL_lays 58 = .ok (.istore 5, 2) := by decide +kernel
theorem dL_lays_60 : decode cL_lays 60 = .ok (.aload_n 0, 1) := by decide +kernel
theorem dL_lays_61 : decode cL_lays 61 = .ok (.bipush 11, 2) := by decide +kernel
theorem dL_lays_63 : decode cL_lays 63 = .ok (.iload_n 3, 1) := by decide +kernel
theorem dL_lays_64 : decode cL_lays 64 = .ok (.iconst 0, 1) := by decide +kernel
theorem dL_lays_65 : decode cL_lays 65 = .ok (.iconst 0, 1) := by decide +kernel
theorem dL_lays_66 : decode cL_lays 66 = .ok (.invokestatic 139, 3) := by decide +kernel
theorem dL_lays_69 : decode cL_lays 69 = .ok (.istore 6, 2) := by decide +kernel
theorem dL_lays_71 : decode cL_lays 71 = .ok (.aload_n 0, 1) := by decide +kernel
theorem dL_lays_72 : decode cL_lays 72 = .ok (.iconst 2, 1) := by decide +kernel
theorem dL_lays_73 : decode cL_lays 73 = .ok (.iconst 3, 1) := by decide +kernel
theorem dL_lays_74 : decode cL_lays 74 = .ok (.iconst 0, 1) := by decide +kernel
theorem dL_lays_75 : decode cL_lays 75 = .ok (.iconst 0, 1) := by decide +kernel
theorem dL_lays_76 : decode cL_lays 76 = .ok (.invokestatic 139, 3) := by decide +kernel
theorem dL_lays_79 : decode cL_lays 79 = .ok (.istore 7, 2) := by decide +kernel
theorem dL_lays_81 : decode cL_lays 81 = .ok (.aload_n 0, 1) := by decide +kernel
theorem dL_lays_82 : decode cL_lays 82 = .ok (.iconst 2, 1) := by decide +kernel
theorem dL_lays_83 : decode cL_lays 83 = .ok (.bipush 7, 2) := by decide +kernel
theorem dL_lays_85 : decode cL_lays 85 = .ok (.iconst 0, 1) := by decide +kernel
theorem dL_lays_86 : decode cL_lays 86 = .ok (.iconst 0, 1) := by decide +kernel
theorem dL_lays_87 : decode cL_lays 87 = .ok (.invokestatic 139, 3) := by decide +kernel
theorem dL_lays_90 : decode cL_lays 90 = .ok (.istore 8, 2) := by decide +kernel
theorem dL_lays_92 : decode cL_lays 92 = .ok (.aload_n 0, 1) := by decide +kernel
theorem dL_lays_93 : decode cL_lays 93 = .ok (.iconst 2, 1) := by decide +kernel
theorem dL_lays_94 : decode cL_lays 94 = .ok (.iconst 5, 1) := by decide +kernel
theorem dL_lays_95 : decode cL_lays 95 = .ok (.iconst 0, 1) := by decide +kernel
theorem dL_lays_96 : decode cL_lays 96 = .ok (.iconst 0, 1) := by decide +kernel
theorem dL_lays_97 : decode cL_lays 97 = .ok (.invokestatic 139, 3) := by decide +kernel
theorem dL_lays_100 : decode cL_lays 100 = .ok (.istore 9, 2) := by decide +kernel
theorem dL_lays_102 : decode cL_lays 102 = .ok (.aload_n 0, 1) := by decide +kernel
theorem dL_lays_103 : decode cL_lays 103 = .ok (.iconst 2, 1) := by decide +kernel
theorem dL_lays_104 : decode cL_lays 104 = .ok (.bipush 10, 2) := by decide +kernel
theorem dL_lays_106 : decode cL_lays 106 = .ok (.iconst 0, 1) := by decide +kernel
theorem dL_lays_107 : decode cL_lays 107 = .ok (.iconst 0, 1) := by decide +kernel
theorem dL_lays_108 : decode cL_lays 108 = .ok (.invokestatic 139, 3) := by decide +kernel
theorem dL_lays_111 : decode cL_lays 111 = .ok (.istore 10, 2) := by decide +kernel
theorem dL_lays_113 : decode cL_lays 113 = .ok (.aload_n 0, 1) := by decide +kernel
theorem dL_lays_114 : decode cL_lays 114 = .ok (.iconst 5, 1) := by decide +kernel
theorem dL_lays_115 : decode cL_lays 115 = .ok (.iload 7, 2) := by decide +kernel
theorem dL_lays_117 : decode cL_lays 117 = .ok (.iconst 0, 1) := by decide +kernel
theorem dL_lays_118 : decode cL_lays 118 = .ok (.iconst 0, 1) := by decide +kernel
theorem dL_lays_119 : decode cL_lays 119 = .ok (.invokestatic 139, 3) := by decide +kernel
theorem dL_lays_122 : decode cL_lays 122 = .ok (.istore 11, 2) := by decide +kernel
theorem dL_lays_124 : decode cL_lays 124 = .ok (.aload_n 0, 1) := by decide +kernel
theorem dL_lays_125 : decode cL_lays 125 = .ok (.iconst 5, 1) := by decide +kernel
theorem dL_lays_126 : decode cL_lays 126 = .ok (.iload 7, 2) := by decide +kernel
theorem dL_lays_128 : decode cL_lays 128 = .ok (.iconst 2, 1) := by decide +kernel
theorem dL_lays_129 : decode cL_lays 129 = .ok (.iconst 0, 1) := by decide +kernel
theorem dL_lays_130 : decode cL_lays 130 = .ok (.invokestatic 139, 3) := by decide +kernel
theorem dL_lays_133 : decode cL_lays 133 = .ok (.istore 12, 2) := by decide +kernel
theorem dL_lays_135 : decode cL_lays 135 = .ok (.aload_n 0, 1) := by decide +kernel
theorem dL_lays_136 : decode cL_lays 136 = .ok (.iconst 5, 1) := by decide +kernel
theorem dL_lays_137 : decode cL_lays 137 = .ok (.iconst 0, 1) := by decide +kernel
theorem dL_lays_138 : decode cL_lays 138 = .ok (.iconst 1, 1) := by decide +kernel
theorem dL_lays_139 : decode cL_lays 139 = .ok (.iconst 0, 1) := by decide +kernel
theorem dL_lays_140 : decode cL_lays 140 = .ok (.invokestatic 139, 3) := by decide +kernel
theorem dL_lays_143 : decode cL_lays 143 = .ok (.aload_n 0, 1) := by decide +kernel
theorem dL_lays_144 : decode cL_lays 144 = .ok (.iconst 5, 1) := by decide +kernel
theorem dL_lays_145 : decode cL_lays 145 = .ok (.iconst 1, 1) := by decide +kernel
theorem dL_lays_146 : decode cL_lays 146 = .ok (.iconst 1, 1) := by decide +kernel
theorem dL_lays_147 : decode cL_lays 147 = .ok (.iconst 0, 1) := by decide +kernel
theorem dL_lays_148 : decode cL_lays 148 = .ok (.invokestatic 139, 3) := by decide +kernel
theorem dL_lays_151 : decode cL_lays 151 = .ok (.iadd, 1) := by decide +kernel
theorem dL_lays_152 : decode cL_lays 152 = .ok (.aload_n 0, 1) := by decide +kernel
theorem dL_lays_153 : decode cL_lays 153 = .ok (.iconst 5, 1) := by decide +kernel
theorem dL_lays_154 : decode cL_lays 154 = .ok (.iconst 2, 1) := by decide +kernel
theorem dL_lays_155 : decode cL_lays 155 = .ok (.iconst 1, 1) := by decide +kernel
theorem dL_lays_156 : decode cL_lays 156 = .ok (.iconst 0, 1) := by decide +kernel
theorem dL_lays_157 : decode cL_lays 157 = .ok (.invokestatic 139, 3) := by decide +kernel
theorem dL_lays_160 : decode cL_lays 160 = .ok (.iadd, 1) := by decide +kernel
theorem dL_lays_161 : decode cL_lays 161 = .ok (.aload_n 0, 1) := by decide +kernel
theorem dL_lays_162 : decode cL_lays 162 = .ok (.iconst 5, 1) := by decide +kernel
theorem dL_lays_163 : decode cL_lays 163 = .ok (.iconst 3, 1) := by decide +kernel
theorem dL_lays_164 : decode cL_lays 164 = .ok (.iconst 1, 1) := by decide +kernel
theorem dL_lays_165 : decode cL_lays 165 = .ok (.iconst 0, 1) := by decide +kernel
theorem dL_lays_166 : decode cL_lays 166 = .ok (.invokestatic 139, 3) := by decide +kernel
theorem dL_lays_169 : decode cL_lays 169 = .ok (.iadd, 1) := by decide +kernel
theorem dL_lays_170 : decode cL_lays 170 = .ok (.istore 13, 2) := by decide +kernel
theorem dL_lays_172 : decode cL_lays 172 = .ok (.aload_n 0, 1) := by decide +kernel
theorem dL_lays_173 : decode cL_lays 173 = .ok (.iconst 3, 1) := by decide +kernel
theorem dL_lays_174 : decode cL_lays 174 = .ok (.iload_n 3, 1) := by decide +kernel
theorem dL_lays_175 : decode cL_lays 175 = .ok (.iconst 0, 1) := by decide +kernel
theorem dL_lays_176 : decode cL_lays 176 = .ok (.iconst 0, 1) := by decide +kernel
theorem dL_lays_177 : decode cL_lays 177 = .ok (.invokestatic 139, 3) := by decide +kernel
theorem dL_lays_180 : decode cL_lays 180 = .ok (.istore 14, 2) := by decide +kernel
theorem dL_lays_182 : decode cL_lays 182 = .ok (.aload_n 0, 1) := by decide +kernel
theorem dL_lays_183 : decode cL_lays 183 = .ok (.iconst 3, 1) := by decide +kernel
theorem dL_lays_184 : decode cL_lays 184 = .ok (.iload_n 3, 1) := by decide +kernel
theorem dL_lays_185 : decode cL_lays 185 = .ok (.iconst 1, 1) := by decide +kernel
theorem dL_lays_186 : decode cL_lays 186 = .ok (.iconst 0, 1) := by decide +kernel
theorem dL_lays_187 : decode cL_lays 187 = .ok (.invokestatic 139, 3) := by decide +kernel
theorem dL_lays_190 : decode cL_lays 190 = .ok (.istore 15, 2) := by decide +kernel
theorem dL_lays_192 : decode cL_lays 192 = .ok (.aload_n 0, 1) := by decide +kernel
theorem dL_lays_193 : decode cL_lays 193 = .ok (.iload_n 3, 1) := by decide +kernel
theorem dL_lays_194 : decode cL_lays 194 = .ok (.iload 5, 2) := by decide +kernel
theorem dL_lays_196 : decode cL_lays 196 = .ok (.invokestatic 147, 3) := by decide +kernel
theorem dL_lays_199 : decode cL_lays 199 = .ok (.iload 6, 2) := by decide +kernel
theorem dL_lays_201 : decode cL_lays 201 = .ok (.if_icmp .ne 68, 3) := by decide +kernel
theorem dL_lays_204 : decode cL_lays 204 = .ok (.aload_n 1, 1) := by decide +kernel
theorem dL_lays_205 : decode cL_lays 205 = .ok (.iload_n 3, 1) := by decide +kernel
theorem dL_lays_206 : decode cL_lays 206 = .ok (.iload 5, 2) := by decide +kernel
theorem dL_lays_208 : decode cL_lays 208 = .ok (.invokestatic 147, 3) := by decide +kernel
theorem dL_lays_211 : decode cL_lays 211 = .ok (.iload 6, 2) := by decide +kernel
theorem dL_lays_213 : decode cL_lays 213 = .ok (.if_icmp .ne 56, 3) := by decide +kernel
theorem dL_lays_216 : decode cL_lays 216 = .ok (.aload_n 0, 1) := by decide +kernel
theorem dL_lays_217 : decode cL_lays 217 = .ok (.iconst 2, 1) := by decide +kernel
theorem dL_lays_218 : decode cL_lays 218 = .ok (.bipush 10, 2) := by decide +kernel
theorem dL_lays_220 : decode cL_lays 220 = .ok (.iconst 0, 1) := by decide +kernel
theorem dL_lays_221 : decode cL_lays 221 = .ok (.iconst 0, 1) := by decide +kernel
theorem dL_lays_222 : decode cL_lays 222 = .ok (.invokestatic 139, 3) := by decide +kernel
theorem dL_lays_225 : decode cL_lays 225 = .ok (.iload 10, 2) := by decide +kernel
theorem dL_lays_227 : decode cL_lays 227 = .ok (.iload 6, 2) := by decide +kernel
theorem dL_lays_229 : decode cL_lays 229 = .ok (.ifCond .ne 7, 3) := by decide +kernel
theorem dL_lays_232 : decode cL_lays 232 = .ok (.iconst 0, 1) := by decide +kernel
theorem dL_lays_233 : decode cL_lays 233 = .ok (.goto 4, 3) := by decide +kernel
theorem dL_lays_236 : decode cL_lays 236 = .ok (.iconst 1, 1) := by decide +kernel
theorem dL_lays_237 : decode cL_lays 237 = .ok (.iadd, 1) := by decide +kernel
theorem dL_lays_238 : decode cL_lays 238 = .ok (.if_icmp .ne 31, 3) := by decide +kernel
theorem dL_lays_241 : decode cL_lays 241 = .ok (.aload_n 0, 1) := by decide +kernel
theorem dL_lays_242 : decode cL_lays 242 = .ok (.iconst 2, 1) := by decide +kernel
theorem dL_lays_243 : decode cL_lays 243 = .ok (.iconst 5, 1) := by decide +kernel
theorem dL_lays_244 : decode cL_lays 244 = .ok (.iconst 0, 1) := by decide +kernel
theorem dL_lays_245 : decode cL_lays 245 = .ok (.iconst 0, 1) := by decide +kernel
theorem dL_lays_246 : decode cL_lays 246 = .ok (.invokestatic 139, 3) := by decide +kernel
theorem dL_lays_249 : decode cL_lays 249 = .ok (.iload 9, 2) := by decide +kernel
theorem dL_lays_251 : decode cL_lays 251 = .ok (.iload 6, 2) := by decide +kernel
theorem dL_lays_253 : decode cL_lays 253 = .ok (.ifCond .ne 7, 3) := by decide +kernel
theorem dL_lays_256 : decode cL_lays 256 = .ok (.iconst 1, 1) := by decide +kernel
theorem dL_lays_257 : decode cL_lays 257 = .ok (.goto 4, 3) := by decide +kernel
theorem dL_lays_260 : decode cL_lays 260 = .ok (.iconst 0, 1) := by decide +kernel
theorem dL_lays_261 : decode cL_lays 261 = .ok (.iadd, 1) := by decide +kernel
theorem dL_lays_262 : decode cL_lays 262 = .ok (.if_icmp .ne 7, 3) := by decide +kernel
theorem dL_lays_265 : decode cL_lays 265 = .ok (.iconst 1, 1) := by decide +kernel
theorem dL_lays_266 : decode cL_lays 266 = .ok (.goto 4, 3) := by decide +kernel
theorem dL_lays_269 : decode cL_lays 269 = .ok (.iconst 0, 1) := by decide +kernel
theorem dL_lays_270 : decode cL_lays 270 = .ok (.istore 16, 2) := by decide +kernel
theorem dL_lays_272 : decode cL_lays 272 = .ok (.iload 6, 2) := by decide +kernel
theorem dL_lays_274 : decode cL_lays 274 = .ok (.ifCond .ne 197, 3) := by decide +kernel
theorem dL_lays_277 : decode cL_lays 277 = .ok (.iload 14, 2) := by decide +kernel
theorem dL_lays_279 : decode cL_lays 279 = .ok (.iload 15, 2) := by decide +kernel
theorem dL_lays_281 : decode cL_lays 281 = .ok (.if_icmp .ne 21, 3) := by decide +kernel
theorem dL_lays_284 : decode cL_lays 284 = .ok (.iload 8, 2) := by decide +kernel
theorem dL_lays_286 : decode cL_lays 286 = .ok (.iload 5, 2) := by decide +kernel
theorem dL_lays_288 : decode cL_lays 288 = .ok (.ifCond .eq 7, 3) := by decide +kernel
theorem dL_lays_291 : decode cL_lays 291 = .ok (.iconst 3, 1) := by decide +kernel
theorem dL_lays_292 : decode cL_lays 292 = .ok (.goto 4, 3) := by decide +kernel
theorem dL_lays_295 : decode cL_lays 295 = .ok (.iconst 1, 1) := by decide +kernel
theorem dL_lays_296 : decode cL_lays 296 = .ok (.iadd, 1) := by decide +kernel
theorem dL_lays_297 : decode cL_lays 297 = .ok (.iconst 4, 1) := by decide +kernel
theorem dL_lays_298 : decode cL_lays 298 = .ok (.irem, 1) := by decide +kernel
theorem dL_lays_299 : decode cL_lays 299 = .ok (.goto 5, 3) := by decide +kernel
theorem dL_lays_302 : decode cL_lays 302 = .ok (.iload 8, 2) := by decide +kernel
theorem dL_lays_304 : decode cL_lays 304 = .ok (.istore 17, 2) := by decide +kernel
theorem dL_lays_306 : decode cL_lays 306 = .ok (.iload 11, 2) := by decide +kernel
theorem dL_lays_308 : decode cL_lays 308 = .ok (.iconst 1, 1) := by decide +kernel
theorem dL_lays_309 : decode cL_lays 309 = .ok (.if_icmp .ne 7, 3) := by decide +kernel
theorem dL_lays_312 : decode cL_lays 312 = .ok (.iconst 1, 1) := by decide +kernel
theorem dL_lays_313 : decode cL_lays 313 = .ok (.goto 4, 3) := by decide +kernel
theorem dL_lays_316 : decode cL_lays 316 = .ok (.iconst 0, 1) := by decide +kernel
theorem dL_lays_317 : decode cL_lays 317 = .ok (.istore 18, 2) := by decide +kernel
theorem dL_lays_319 : decode cL_lays 319 = .ok (.iload 16, 2) := by decide +kernel
theorem dL_lays_321 : decode cL_lays 321 = .ok (.ifCond .eq 147, 3) := by decide +kernel
theorem dL_lays_324 : decode cL_lays 324 = .ok (.aload_n 0, 1) := by decide +kernel
theorem dL_lays_325 : decode cL_lays 325 = .ok (.iconst 4, 1) := by decide +kernel
theorem dL_lays_326 : decode cL_lays 326 = .ok (.iload 9, 2) := by decide +kernel
theorem dL_lays_328 : decode cL_lays 328 = .ok (.iconst 0, 1) := by decide +kernel
theorem dL_lays_329 : decode cL_lays 329 = .ok (.iconst 0, 1) := by decide +kernel
theorem dL_lays_330 : decode cL_lays 330 = .ok (.invokestatic 139, 3) := by decide +kernel
theorem dL_lays_333 : decode cL_lays 333 = .ok (.iload_n 3, 1) := by decide +kernel
theorem dL_lays_334 : decode cL_lays 334 = .ok (.if_icmp .ne 134, 3) := by decide +kernel
theorem dL_lays_337 : decode cL_lays 337 = .ok (.aload_n 0, 1) := by decide +kernel
theorem dL_lays_338 : decode cL_lays 338 = .ok (.iconst 4, 1) := by decide +kernel
theorem dL_lays_339 : decode cL_lays 339 = .ok (.iload 9, 2) := by decide +kernel
theorem dL_lays_341 : decode cL_lays 341 = .ok (.iconst 3, 1) := by decide +kernel
theorem dL_lays_342 : decode cL_lays 342 = .ok (.iconst 0, 1) := by decide +kernel
theorem dL_lays_343 : decode cL_lays 343 = .ok (.invokestatic 139, 3) := by decide +kernel
theorem dL_lays_346 : decode cL_lays 346 = .ok (.iload 8, 2) := by decide +kernel
theorem dL_lays_348 : decode cL_lays 348 = .ok (.if_icmp .ne 120, 3) := by decide +kernel
theorem dL_lays_351 : decode cL_lays 351 = .ok (.aload_n 0, 1) := by decide +kernel
theorem dL_lays_352 : decode cL_lays 352 = .ok (.iconst 2, 1) := by decide +kernel
theorem dL_lays_353 : decode cL_lays 353 = .ok (.bipush 7, 2) := by decide +kernel
theorem dL_lays_355 : decode cL_lays 355 = .ok (.iconst 0, 1) := by decide +kernel
theorem dL_lays_356 : decode cL_lays 356 = .ok (.iconst 0, 1) := by decide +kernel
theorem dL_lays_357 : decode cL_lays 357 = .ok (.invokestatic 139, 3) := by decide +kernel
theorem dL_lays_360 : decode cL_lays 360 = .ok (.iload 17, 2) := by decide +kernel
theorem dL_lays_362 : decode cL_lays 362 = .ok (.if_icmp .ne 106, 3) := by decide +kernel
theorem dL_lays_365 : decode cL_lays 365 = .ok (.aload_n 0, 1) := by decide +kernel
theorem dL_lays_366 : decode cL_lays 366 = .ok (.iconst 5, 1) := by decide +kernel
theorem dL_lays_367 : decode cL_lays 367 = .ok (.iload 7, 2) := by decide +kernel
theorem dL_lays_369 : decode cL_lays 369 = .ok (.iconst 0, 1) := by decide +kernel
theorem dL_lays_370 : decode cL_lays 370 = .ok (.iconst 0, 1) := by decide +kernel
theorem dL_lays_371 : decode cL_lays 371 = .ok (.invokestatic 139, 3) := by decide +kernel
theorem dL_lays_374 : decode cL_lays 374 = .ok (.iload 11, 2) := by decide +kernel
theorem dL_lays_376 : decode cL_lays 376 = .ok (.iconst 1, 1) := by decide +kernel
theorem dL_lays_377 : decode cL_lays 377 = .ok (.isub, 1) := by decide +kernel
theorem dL_lays_378 : decode cL_lays 378 = .ok (.if_icmp .ne 90, 3) := by decide +kernel
theorem dL_lays_381 : decode cL_lays 381 = .ok (.aload_n 0, 1) := by decide +kernel
theorem dL_lays_382 : decode cL_lays 382 = .ok (.iconst 2, 1) := by decide +kernel
theorem dL_lays_383 : decode cL_lays 383 = .ok (.iconst 1, 1) := by decide +kernel
theorem dL_lays_384 : decode cL_lays 384 = .ok (.iconst 0, 1) := by decide +kernel
theorem dL_lays_385 : decode cL_lays 385 = .ok (.iconst 0, 1) := by decide +kernel
theorem dL_lays_386 : decode cL_lays 386 = .ok (.invokestatic 139, 3) := by decide +kernel
theorem dL_lays_389 : decode cL_lays 389 = .ok (.iconst 2, 1) := by decide +kernel
theorem dL_lays_390 : decode cL_lays 390 = .ok (.if_icmp .ne 7, 3) := by decide +kernel
theorem dL_lays_393 : decode cL_lays 393 = .ok (.iconst 1, 1) := by decide +kernel
theorem dL_lays_394 : decode cL_lays 394 = .ok (.goto 4, 3) := by decide +kernel
theorem dL_lays_397 : decode cL_lays 397 = .ok (.iconst 0, 1) := by decide +kernel
theorem dL_lays_398 : decode cL_lays 398 = .ok (.iload 18, 2) := by decide +kernel
theorem dL_lays_400 : decode cL_lays 400 = .ok (.if_icmp .ne 68, 3) := by decide +kernel
theorem dL_lays_403 : decode cL_lays 403 = .ok (.aload_n 0, 1) := by decide +kernel
theorem dL_lays_404 : decode cL_lays 404 = .ok (.iconst 5, 1) := by decide +kernel
theorem dL_lays_405 : decode cL_lays 405 = .ok (.iload 7, 2) := by decide +kernel
theorem dL_lays_407 : decode cL_lays 407 = .ok (.iconst 2, 1) := by decide +kernel
theorem dL_lays_408 : decode cL_lays 408 = .ok (.iconst 0, 1) := by decide +kernel
theorem dL_lays_409 : decode cL_lays 409 = .ok (.invokestatic 139, 3) := by decide +kernel
theorem dL_lays_412 : decode cL_lays 412 = .ok (.iload 12, 2) := by decide +kernel
theorem dL_lays_414 : decode cL_lays 414 = .ok (.iload 18, 2) := by decide +kernel
theorem dL_lays_416 : decode cL_lays 416 = .ok (.ifCond .eq 14, 3) := by decide +kernel
theorem dL_lays_419 : decode cL_lays 419 = .ok (.iload 13, 2) := by decide +kernel
theorem dL_lays_421 : decode cL_lays 421 = .ok (.iload 14, 2) := by decide +kernel
theorem dL_lays_423 : decode cL_lays 423 = .ok (.isub, 1) := by decide +kernel
theorem dL_lays_424 : decode cL_lays 424 = .ok (.iload 15, 2) := by decide +kernel
theorem dL_lays_426 : decode cL_lays 426 = .ok (.isub, 1) := by decide +kernel
theorem dL_lays_427 : decode cL_lays 427 = .ok (.goto 4, 3) := by decide +kernel
theorem dL_lays_430 : decode cL_lays 430 = .ok (.iconst 0, 1) := by decide +kernel
theorem dL_lays_431 : decode cL_lays 431 = .ok (.iadd, 1) := by decide +kernel
theorem dL_lays_432 : decode cL_lays 432 = .ok (.if_icmp .ne 36, 3) := by decide +kernel
theorem dL_lays_435 : decode cL_lays 435 = .ok (.iload 18, 2) := by decide +kernel
theorem dL_lays_437 : decode cL_lays 437 = .ok (.ifCond .ne 27, 3) := by decide +kernel
theorem dL_lays_440 : decode cL_lays 440 = .ok (.aload_n 0, 1) := by decide +kernel
theorem dL_lays_441 : decode cL_lays 441 = .ok (.iconst 2, 1) := by decide +kernel
theorem dL_lays_442 : decode cL_lays 442 = .ok (.iconst 3, 1) := by decide +kernel
theorem dL_lays_443 : decode cL_lays 443 = .ok (.iconst 0, 1) := by decide +kernel
theorem dL_lays_444 : decode cL_lays 444 = .ok (.iconst 0, 1) := by decide +kernel
theorem dL_lays_445 : decode cL_lays 445 = .ok (.invokestatic 139, 3) := by decide +kernel
theorem dL_lays_448 : decode cL_lays 448 = .ok (.iload 7, 2) := by decide +kernel
theorem dL_lays_450 : decode cL_lays 450 = .ok (.iconst 1, 1) := by decide +kernel
theorem dL_lays_451 : decode cL_lays 451 = .ok (.iadd, 1) := by decide +kernel
theorem dL_lays_452 : decode cL_lays 452 = .ok (.aload_n 0, 1) := by decide +kernel
theorem dL_lays_453 : decode cL_lays 453 = .ok (.iconst 2, 1) := by decide +kernel
theorem dL_lays_454 : decode cL_lays 454 = .ok (.iconst 2, 1) := by decide +kernel
theorem dL_lays_455 : decode cL_lays 455 = .ok (.iconst 0, 1) := by decide +kernel
theorem dL_lays_456 : decode cL_lays 456 = .ok (.iconst 0, 1) := by decide +kernel
theorem dL_lays_457 : decode cL_lays 457 = .ok (.invokestatic 139, 3) := by decide +kernel
theorem dL_lays_460 : decode cL_lays 460 = .ok (.irem, 1) := by decide +kernel
theorem dL_lays_461 : decode cL_lays 461 = .ok (.if_icmp .ne 7, 3) := by decide +kernel
theorem dL_lays_464 : decode cL_lays 464 = .ok (.iconst 1, 1) := by decide +kernel
theorem dL_lays_465 : decode cL_lays 465 = .ok (.goto 4, 3) := by decide +kernel
theorem dL_lays_468 : decode cL_lays 468 = .ok (.iconst 0, 1) := by decide +kernel
theorem dL_lays_469 : decode cL_lays 469 = .ok (.istore 16, 2) := by decide +kernel
theorem dL_lays_471 : decode cL_lays 471 = .ok (.iload 16, 2) := by decide +kernel
theorem dL_lays_473 : decode cL_lays 473 = .ok (.ifCond .eq 91, 3) := by decide +kernel
theorem dL_lays_476 : decode cL_lays 476 = .ok (.aload_n 0, 1) := by decide +kernel
theorem dL_lays_477 : decode cL_lays 477 = .ok (.bipush 10, 2) := by decide +kernel
theorem dL_lays_479 : decode cL_lays 479 = .ok (.iconst 0, 1) := by decide +kernel
theorem dL_lays_480 : decode cL_lays 480 = .ok (.iconst 0, 1) := by decide +kernel
theorem dL_lays_481 : decode cL_lays 481 = .ok (.iconst 0, 1) := by decide +kernel
theorem dL_lays_482 : decode cL_lays 482 = .ok (.invokestatic 139, 3) := by decide +kernel
theorem dL_lays_485 : decode cL_lays 485 = .ok (.invokestatic 195, 3) := by decide +kernel
theorem dL_lays_488 : decode cL_lays 488 = .ok (.ifCond .ne 76, 3) := by decide +kernel
theorem dL_lays_491 : decode cL_lays 491 = .ok (.aload_n 1, 1) := by decide +kernel
theorem dL_lays_492 : decode cL_lays 492 = .ok (.bipush 10, 2) := by decide +kernel
theorem dL_lays_494 : decode cL_lays 494 = .ok (.iconst 0, 1) := by decide +kernel
theorem dL_lays_495 : decode cL_lays 495 = .ok (.iconst 0, 1) := by decide +kernel
theorem dL_lays_496 : decode cL_lays 496 = .ok (.iconst 0, 1) := by decide +kernel
theorem dL_lays_497 : decode cL_lays 497 = .ok (.invokestatic 139, 3) := by decide +kernel
theorem dL_lays_500 : decode cL_lays 500 = .ok (.invokestatic 195, 3) := by decide +kernel
theorem dL_lays_503 : decode cL_lays 503 = .ok (.ifCond .ne 61, 3) := by decide +kernel
theorem dL_lays_506 : decode cL_lays 506 = .ok (.aload_n 0, 1) := by decide +kernel
theorem dL_lays_507 : decode cL_lays 507 = .ok (.iconst 2, 1) := by decide +kernel
theorem dL_lays_508 : decode cL_lays 508 = .ok (.iconst 5, 1) := by decide +kernel
theorem dL_lays_509 : decode cL_lays 509 = .ok (.iconst 0, 1) := by decide +kernel
theorem dL_lays_510 : decode cL_lays 510 = .ok (.iconst 0, 1) := by decide +kernel
theorem dL_lays_511 : decode cL_lays 511 = .ok (.invokestatic 139, 3) := by decide +kernel
theorem dL_lays_514 : decode cL_lays 514 = .ok (.iload 9, 2) := by decide +kernel
theorem dL_lays_516 : decode cL_lays 516 = .ok (.if_icmp .ne 48, 3) := by decide +kernel
theorem dL_lays_519 : decode cL_lays 519 = .ok (.aload_n 0, 1) := by decide +kernel
theorem dL_lays_520 : decode cL_lays 520 = .ok (.iconst 2, 1) := by decide +kernel
theorem dL_lays_521 : decode cL_lays 521 = .ok (.iconst 3, 1) := by decide +kernel
theorem dL_lays_522 : decode cL_lays 522 = .ok (.iconst 0, 1) := by decide +kernel
theorem dL_lays_523 : decode cL_lays 523 = .ok (.iconst 0, 1) := by decide +kernel
theorem dL_lays_524 : decode cL_lays 524 = .ok (.invokestatic 139, 3) := by decide +kernel
theorem dL_lays_527 : decode cL_lays 527 = .ok (.iload 7, 2) := by decide +kernel
theorem dL_lays_529 : decode cL_lays 529 = .ok (.if_icmp .ne 35, 3) := by decide +kernel
theorem dL_lays_532 : decode cL_lays 532 = .ok (.aload_n 0, 1) := by decide +kernel
theorem dL_lays_533 : decode cL_lays 533 = .ok (.iconst 5, 1) := by decide +kernel
theorem dL_lays_534 : decode cL_lays 534 = .ok (.iload 7, 2) := by decide +kernel
theorem dL_lays_536 : decode cL_lays 536 = .ok (.iconst 0, 1) := by decide +kernel
theorem dL_lays_537 : decode cL_lays 537 = .ok (.iconst 0, 1) := by decide +kernel
theorem dL_lays_538 : decode cL_lays 538 = .ok (.invokestatic 139, 3) := by decide +kernel
theorem dL_lays_541 : decode cL_lays 541 = .ok (.iload 11, 2) := by decide +kernel
theorem dL_lays_543 : decode cL_lays 543 = .ok (.if_icmp .ne 21, 3) := by decide +kernel
theorem dL_lays_546 : decode cL_lays 546 = .ok (.aload_n 0, 1) := by decide +kernel
theorem dL_lays_547 : decode cL_lays 547 = .ok (.bipush 11, 2) := by decide +kernel
theorem dL_lays_549 : decode cL_lays 549 = .ok (.iload_n 3, 1) := by decide +kernel
theorem dL_lays_550 : decode cL_lays 550 = .ok (.iconst 0, 1) := by decide +kernel
theorem dL_lays_551 : decode cL_lays 551 = .ok (.iconst 0, 1) := by decide +kernel
theorem dL_lays_552 : decode cL_lays 552 = .ok (.invokestatic 139, 3) := by decide +kernel
theorem dL_lays_555 : decode cL_lays 555 = .ok (.iload 6, 2) := by decide +kernel
theorem dL_lays_557 : decode cL_lays 557 = .ok (.if_icmp .ne 7, 3) := by decide +kernel
theorem dL_lays_560 : decode cL_lays 560 = .ok (.iconst 1, 1) := by decide +kernel
theorem dL_lays_561 : decode cL_lays 561 = .ok (.goto 4, 3) := by decide +kernel
theorem dL_lays_564 : decode cL_lays 564 = .ok (.iconst 0, 1) := by decide +kernel
theorem dL_lays_565 : decode cL_lays 565 = .ok (.ireturn, 1) := by decide +kernel
end
section
/-! THE LAYER: the world is a map from addresses to cells; a method's contract says its answer and the map behind it -/
abbrev zE : Type := va_G × (ClassId × ClassId × ClassId × ClassId) × (Nat × Nat × Nat)
abbrev zD (E : zE) : va_G := E.1
abbrev zI (E : zE) : ClassId := E.2.1.1
abbrev zB (E : zE) : ClassId := E.2.1.2.1
abbrev zJ (E : zE) : ClassId := E.2.1.2.2.1
abbrev zG (E : zE) : ClassId := E.2.1.2.2.2
abbrev zN (E : zE) : Nat := E.2.2.1
abbrev zLo (E : zE) : Nat := E.2.2.2.1
abbrev zHi (E : zE) : Nat := E.2.2.2.2
abbrev zT (E : zE) : List (ClassId × FieldType) := [(zI E, .int), (zB E, .boolean), (zJ E, .long), (zG E, .object "SpiralDominoes$Game")]
def zA (E : zE) : Nat → Prop := fun q => zN E ≤ q
abbrev Hp : Type := Nat → Option va_E
def hup (h : Hp) (a : Nat) (x : va_E) : Hp := fun q => if q = a then some x else h q
def zP (E : zE) (h : Hp) (H : Heap) : Prop := ∀ (a : Nat) (x : va_E), h a = some x → zN E ≤ a ∧ va_at (zD E) vwCl (a, x) H
/-- the words that the printed list keeps apart: nest mates' links -/
def zNestM : List (String × Nat × MethodName × String) := [("SpiralDominoes", 9, ⟨"SpiralDominoes$Text", "<init>", "()V"⟩, "SpiralDominoes"), ("SpiralDominoes$Game", 26, ⟨"SpiralDominoes$Line", "<init>", "()V"⟩, "SpiralDominoes"), ("SpiralDominoes", 35, ⟨"SpiralDominoes$Slot", "<init>", "()V"⟩, "SpiralDominoes"), ("SpiralDominoes$Game", 202, ⟨"SpiralDominoes", "isTile", "(I)Z"⟩, "SpiralDominoes"), ("SpiralDominoes$Line", 58, ⟨"SpiralDominoes", "lowOf", "(I)I"⟩, "SpiralDominoes"), ("SpiralDominoes$Line", 62, ⟨"SpiralDominoes", "highOf", "(I)I"⟩, "SpiralDominoes"), ("SpiralDominoes$Line", 69, ⟨"SpiralDominoes", "stepX", "(I)I"⟩, "SpiralDominoes"), ("SpiralDominoes$Line", 72, ⟨"SpiralDominoes", "stepY", "(I)I"⟩, "SpiralDominoes"), ("SpiralDominoes$Game", 183, ⟨"SpiralDominoes", "pipsOn", "(I)I"⟩, "SpiralDominoes"), ("SpiralDominoes$Line", 105, ⟨"SpiralDominoes", "isCell", "(II)Z"⟩, "SpiralDominoes"), ("SpiralDominoes$Line", 79, ⟨"SpiralDominoes", "pipsOn", "(I)I"⟩, "SpiralDominoes"), ("SpiralDominoes$Game", 117, ⟨"SpiralDominoes", "isPlayer", "(I)Z"⟩, "SpiralDominoes"), ("SpiralDominoes$Game", 101, ⟨"SpiralDominoes", "lowOf", "(I)I"⟩, "SpiralDominoes"), ("SpiralDominoes$Game", 105, ⟨"SpiralDominoes", "highOf", "(I)I"⟩, "SpiralDominoes"), ("SpiralDominoes$Game", 199, ⟨"SpiralDominoes", "tileWith", "(II)I"⟩, "SpiralDominoes")]
def zNestF : List (String × Nat × String × String × String × String) := [("SpiralDominoes$Game", 205, "SpiralDominoes", "LOW", "[I", "SpiralDominoes"), ("SpiralDominoes$Game", 208, "SpiralDominoes", "HIGH", "[I", "SpiralDominoes")]
def zStrs : List (Nat × String) := [(45, "no character code"), (56, "the text is full"), (70, "the text is not a game"), (120, "no such number"), (130, "no such tile"), (144, "not so many tiles are on the table"), (152, "no such player"), (160, "no such cell"), (165, "no such way"), (176, "not 2 to 4 players"), (188, "no round is played"), (197, "no tile can be drawn"), (202, "no player can pass"), (205, "no state is remembered"), (217, "not 1 to 6 tiles"), (225, "not 1 to 4 commands"), (231, "negative, or too many digits"), (253, "not 1 to 200 turns"), (274, "no such save slot"), (284, "nothing has been saved")]
def zDecls : List MethodName := [Bundle.initS "java/lang/RuntimeException", Bundle.initS "java/lang/Exception", Bundle.initS Bundle.tN]
def zCasts : List String := ["java/lang/IllegalArgumentException", "java/lang/IllegalStateException", "java/lang/IndexOutOfBoundsException"]
def zNcs : List (String × String) := [("java/lang/IllegalArgumentException", "java/lang/IllegalStateException"), ("java/lang/IllegalArgumentException", "java/lang/IndexOutOfBoundsException"), ("java/lang/IllegalStateException", "java/lang/IllegalArgumentException"), ("java/lang/IllegalStateException", "java/lang/IndexOutOfBoundsException"), ("java/lang/IndexOutOfBoundsException", "java/lang/IllegalArgumentException"), ("java/lang/IndexOutOfBoundsException", "java/lang/IllegalStateException")]
def zK (E : zE) (U : State) : Prop := va_K (zD E) vwCl (zT E) U ∧ (∀ q ∈ zNestM, va_Nw (.methodLinkNest q.1 q.2.1 q.2.2.1 q.2.2.2) U) ∧ (∀ q ∈ zNestF, va_Nw (.fieldLinkNest q.1 q.2.1 q.2.2.1 q.2.2.2.1 q.2.2.2.2.1 q.2.2.2.2.2) U) ∧ (∀ q ∈ zStrs, ∃ a : Nat, vk_R RX5 q.1 q.2 a U) ∧ (∀ q ∈ zDecls, va_Nw (.declares q) U) ∧ (∀ q ∈ zCasts, va_Nw (.castable q q) U) ∧ (∀ q ∈ zNcs, va_Nc q.1 q.2 U)
def lowT : Nat → Int32 := fun j => ([0, 0, 0, 0, 0, 0, 0, 1, 1, 1, 1, 1, 1, 2, 2, 2, 2, 2, 3, 3, 3, 3, 4, 4, 4, 5, 5, 6] : List Int32).getD j 0
def highT : Nat → Int32 := fun j => ([0, 1, 2, 3, 4, 5, 6, 1, 2, 3, 4, 5, 6, 2, 3, 4, 5, 6, 3, 4, 5, 6, 4, 5, 6, 5, 6, 6] : List Int32).getD j 0
/-- what the class's own static arrays and the JDK's two statics hold: nobody writes them -/
def zS (E : zE) (U : State) (H : Heap) : Prop :=
  va_Z "SpiralDominoes" "LOW" "[I" (.ref (zLo E)) (zA E) U H ∧ va_T .int (zLo E) 28 (fun j => .int (lowT j)) (zA E) U H ∧
  va_Z "SpiralDominoes" "HIGH" "[I" (.ref (zHi E)) (zA E) U H ∧ va_T .int (zHi E) 28 (fun j => .int (highT j)) (zA E) U H ∧
  vx_Zq Bundle.tN "UNASSIGNED_STACK" Bundle.steD (zA E) U H ∧ vx_Zq Bundle.tN "SUPPRESSED_SENTINEL" Bundle.listD (zA E) U H
theorem zK.warm {E : zE} {s U : State} (hW : s.WarmedH U.vm) (h : zK E s) : zK E U :=
  ⟨h.1.moved hW.alike, fun q hq => va_Nw.warmM hW (h.2.1 q hq), fun q hq => va_Nw.warmF hW (h.2.2.1 q hq), fun q hq => by
    obtain ⟨a, ha⟩ := h.2.2.2.1 q hq
    exact ⟨a, ha.warm hW⟩, fun q hq => va_Nw.warmD hW (h.2.2.2.2.1 q hq), fun q hq => va_Nw.warmC hW (h.2.2.2.2.2.1 q hq), fun q hq => va_Nc.moved hW.alike (h.2.2.2.2.2.2 q hq)⟩
theorem zK.same {E : zE} {u U : State} (hv : U.vm = u.vm) (h : zK E u) : zK E U :=
  ⟨h.1.moved (by rw [hv]; exact Vm.Alike.refl _), fun q hq => va_Nw.same rfl hv.symm (h.2.1 q hq), fun q hq => va_Nw.same rfl hv.symm (h.2.2.1 q hq), fun q hq => by
    obtain ⟨a, ha⟩ := h.2.2.2.1 q hq
    exact ⟨a, ha.same hv⟩, fun q hq => va_Nw.same rfl hv.symm (h.2.2.2.2.1 q hq), fun q hq => va_Nw.same rfl hv.symm (h.2.2.2.2.2.1 q hq), fun q hq => va_Nc.moved (by rw [hv]; exact Vm.Alike.refl _) (h.2.2.2.2.2.2 q hq)⟩
theorem zS.moved {E : zE} {u U : State} {H : Heap} (hvm : u.vm.Alike U.vm) (h : zS E u H) : zS E U H :=
  ⟨h.1.moved hvm, h.2.1.moved hvm, h.2.2.1.moved hvm, h.2.2.2.1.moved hvm, h.2.2.2.2.1.moved hvm, h.2.2.2.2.2.moved hvm⟩
theorem zS.kept {E : zE} {U : State} {H H1 : Heap} (h : zS E U H) (hq : ∀ a : Nat, a < H.size → ¬ zA E a → H1[a]? = H[a]?) : zS E U H1 :=
  ⟨h.1.kept hq, h.2.1.kept hq, h.2.2.1.kept hq, h.2.2.2.1.kept hq, h.2.2.2.2.1.kept hq, h.2.2.2.2.2.kept hq⟩
theorem zP.up {E : zE} {h : Hp} {H H1 : Heap} {a : Nat} {x : va_E} (hP : zP E h H) (ha : zN E ≤ a) (hx : va_at (zD E) vwCl (a, x) H1) (oq : ∀ q : Nat, q ≠ a → H1[q]? = H[q]?) : zP E (hup h a x) H1 := by
  intro b y hb
  by_cases e : b = a
  · subst e
    simp only [hup, if_true] at hb
    cases hb
    exact ⟨ha, hx⟩
  · simp only [hup, if_neg e] at hb
    obtain ⟨h1, h2⟩ := hP b y hb
    exact ⟨h1, h2.kept (oq b e)⟩
theorem zP.one {E : zE} {h : Hp} {H : Heap} {a : Nat} {x : va_E} (hP : zP E h H) (ha : h a = some x) : va_P (zD E) vwCl [(a, x)] H := by
  intro k q hk
  match k, hk with
  | 0, hk => cases hk; exact (hP a x ha).2
  | k + 1, hk => simp at hk
/-- the words of all methods -/
def UU : List Cond := lw_tbl.filter goodWord
theorem UU_in {w : Cond} (h : w ∈ UU) : w ∈ lw_tbl := (List.mem_filter.mp h).1
theorem UU_good : GoodIn UU UU := fun _ h => ⟨h, good_of_word (List.mem_filter.mp h).2⟩
theorem UU_of {w : Cond} (h : w ∈ lw_tbl) (g : goodWord w = true) : w ∈ UU := List.mem_filter.mpr ⟨h, g⟩
theorem UU_cons {y : MethodName} {b : ByteArray} {n : Nat} {r : Option FieldType} (h : Cond.code y b n r ∈ UU) : GoodIn UU (Cond.code y b n r :: UU) := fun w hw => by
  rcases List.mem_cons.mp hw with e | e
  · rw [e]; exact UU_good _ h
  · exact UU_good _ e
def zPre (E : zE) (h : Hp) (U : State) : Prop := zN E ≤ U.heap.size ∧ zP E h U.heap ∧ zK E U ∧ zS E U U.heap
theorem zPre.blind (E : zE) (av : List Value) (h : Hp) : FrameBlind (va_Pc av (zPre E h)) := by
  intro a U g mk hp
  exact ⟨hp.1, hp.2.1, hp.2.2.1, zK.same rfl hp.2.2.2.1, hp.2.2.2.2.moved (Vm.Alike.refl _)⟩
def zQ (E : zE) (v : Option Value) (h : Hp) : Array Value → State → Outcome → State → Prop := fun _ st o t => o = .returned v ∧ zP E h t.heap ∧ va_F (zA E) st t
def zR (d : Nat) : Room := { frames := d, cells := 0, slots := 0, locals := 48 * d }
/-- a contract: with these arguments over the map h, the method answers v and leaves the map h'; calls stand at most d deep -/
def zM (E : zE) (l : Launch) (d : Nat) (y : MethodName) (bytes : ByteArray) (maxL : Nat) (ret : Option FieldType) (av : List Value) (h : Hp) (v : Option Value) (h' : Hp) : Prop :=
  Met l y (Cond.code y bytes maxL ret :: UU) (zR d) (va_Pc av (zPre E h)) (zQ E v h') 0 0 (zA E)
abbrev zX : Type := Program × Launch × Env × Room × State × MethodId × Array Value × List Frame × Method × Code
abbrev xp (X : zX) : Program := X.1
abbrev xl (X : zX) : Launch := X.2.1
abbrev xe (X : zX) : Env := X.2.2.1
abbrev xR (X : zX) : Room := X.2.2.2.1
abbrev xs (X : zX) : State := X.2.2.2.2.1
abbrev xm (X : zX) : MethodId := X.2.2.2.2.2.1
abbrev xa (X : zX) : Array Value := X.2.2.2.2.2.2.1
abbrev xb (X : zX) : List Frame := X.2.2.2.2.2.2.2.1
abbrev xt (X : zX) : Method := X.2.2.2.2.2.2.2.2.1
abbrev xc (X : zX) : Code := X.2.2.2.2.2.2.2.2.2
/-- what stays the same in a method's body -/
def zC (E : zE) (X : zX) (own : String) (cc : ByteArray) (nL : Nat) (ret : Option FieldType) (d : Nat) : Prop :=
  (xp X).tables.exec = Jvm.exec ∧ (xc X).code = cc ∧ (xc X).maxLocals = nL ∧ (xs X).vm.findClass own = some (xm X).cls ∧ (∀ w ∈ UU, w.before (xa X) (xs X) = true) ∧ (xt X).sig.returnType = ret ∧ (xt X).locks = false ∧ zN E ≤ (xs X).heap.size ∧ zK E (xs X) ∧ zS E (xs X) (xs X).heap ∧ d ≤ (xR X).frames ∧ 48 * d ≤ (xR X).locals
/-- from the place pc, over the map h, with the locals lv and the stack st, the machine comes to Q -/
def zW (E : zE) (X : zX) (nL : Nat) (k n : Nat) (Q : State → Prop) (pc : Nat) (h : Hp) (lv : List (Nat × Value)) (st : List Value) : Prop :=
  ∀ (H : Heap) (locs : List Loc) (ls : Array Slot), zP E h H → va_S (zA E) (xs X).heap H locs → lv_has ls nL lv → W (xp X) (xl X) (xe X) (xR X) (xs X) (xm X) (xa X) (xb X) (xt X) (xc X) H locs k n Q (F0 (xm X) pc ls st)
section ZW
variable {E : zE} {X : zX} {own : String} {cc : ByteArray} {nL d k n : Nat} {ret : Option FieldType} {Q : State → Prop} {pc : Nat} {h : Hp} {lv lv' : List (Nat × Value)} {st : List Value}
theorem z_sub (ks : List Nat) (hl : lv_pick lv ks = lv') (kk : zW E X nL k n Q pc h lv' st) : zW E X nL k n Q pc h lv st := fun H locs ls hP hS hv => kk H locs ls hP hS (lv_sub hv ks hl)
theorem z_heap {h' : Hp} (e : h = h') (kk : zW E X nL k n Q pc h' lv st) : zW E X nL k n Q pc h lv st := e ▸ kk
theorem z_stk {st' : List Value} (e : st = st') (kk : zW E X nL k n Q pc h lv st') : zW E X nL k n Q pc h lv st := e ▸ kk
theorem z_iload_n (C : zC E X own cc nL ret d) {j : Fin 4} {x : Int32} (hdg : decode cc pc = .ok (.iload_n j, 1)) (i : Nat) (hi : lv[i]? = some (j.val, .int x)) (kk : zW E X nL k n Q (pc + 1) h lv (.int x :: st)) : zW E X nL k n Q pc h lv st := fun H locs ls hP hS hl => lv_iload_n C.1 C.2.1 hdg rfl (lv_at hl i hi) (kk H locs ls hP hS hl)
theorem z_iload (C : zC E X own cc nL ret d) {j : Nat} {x : Int32} (hdg : decode cc pc = .ok (.iload j, 2)) (i : Nat) (hi : lv[i]? = some (j, .int x)) (kk : zW E X nL k n Q (pc + 2) h lv (.int x :: st)) : zW E X nL k n Q pc h lv st := fun H locs ls hP hS hl => lv_iload C.1 C.2.1 hdg (lv_at hl i hi) (kk H locs ls hP hS hl)
theorem z_lload_n (C : zC E X own cc nL ret d) {j : Fin 4} {x : Int64} (hdg : decode cc pc = .ok (.lload_n j, 1)) (i : Nat) (hi : lv[i]? = some (j.val, .long x)) (kk : zW E X nL k n Q (pc + 1) h lv (.long x :: st)) : zW E X nL k n Q pc h lv st := fun H locs ls hP hS hl => lv_lload_n C.1 C.2.1 hdg rfl (lv_at hl i hi) (kk H locs ls hP hS hl)
theorem z_lload (C : zC E X own cc nL ret d) {j : Nat} {x : Int64} (hdg : decode cc pc = .ok (.lload j, 2)) (i : Nat) (hi : lv[i]? = some (j, .long x)) (kk : zW E X nL k n Q (pc + 2) h lv (.long x :: st)) : zW E X nL k n Q pc h lv st := fun H locs ls hP hS hl => lv_lload C.1 C.2.1 hdg (lv_at hl i hi) (kk H locs ls hP hS hl)
theorem z_aload_n (C : zC E X own cc nL ret d) {j : Fin 4} {x : Nat} (hdg : decode cc pc = .ok (.aload_n j, 1)) (i : Nat) (hi : lv[i]? = some (j.val, .ref x)) (kk : zW E X nL k n Q (pc + 1) h lv (.ref x :: st)) : zW E X nL k n Q pc h lv st := fun H locs ls hP hS hl => lv_aload_n C.1 C.2.1 hdg rfl (lv_at hl i hi) (kk H locs ls hP hS hl)
theorem z_aload (C : zC E X own cc nL ret d) {j : Nat} {x : Nat} (hdg : decode cc pc = .ok (.aload j, 2)) (i : Nat) (hi : lv[i]? = some (j, .ref x)) (kk : zW E X nL k n Q (pc + 2) h lv (.ref x :: st)) : zW E X nL k n Q pc h lv st := fun H locs ls hP hS hl => lv_aload C.1 C.2.1 hdg (lv_at hl i hi) (kk H locs ls hP hS hl)
theorem z_istore_n (C : zC E X own cc nL ret d) {j : Fin 4} {x : Int32} (hdg : decode cc pc = .ok (.istore_n j, 1)) (hn : j.val < nL) (hl : (j.val, Value.int x) :: lv.filter (fun q => !(q.1 == j.val) && !(q.1 + 1 == j.val && q.2.category == 2)) = lv') (kk : zW E X nL k n Q (pc + 1) h lv' st) : zW E X nL k n Q pc h lv (.int x :: st) := fun H locs ls hP hS hv => lv_istore_n C.1 C.2.1 hdg rfl hv hn hl (fun ls' hv' => kk H locs ls' hP hS hv')
theorem z_istore (C : zC E X own cc nL ret d) {j : Nat} {x : Int32} (hdg : decode cc pc = .ok (.istore j, 2)) (hn : j < nL) (hl : (j, Value.int x) :: lv.filter (fun q => !(q.1 == j) && !(q.1 + 1 == j && q.2.category == 2)) = lv') (kk : zW E X nL k n Q (pc + 2) h lv' st) : zW E X nL k n Q pc h lv (.int x :: st) := fun H locs ls hP hS hv => lv_istore C.1 C.2.1 hdg hv hn hl (fun ls' hv' => kk H locs ls' hP hS hv')
theorem z_astore_n (C : zC E X own cc nL ret d) {j : Fin 4} {x : Nat} (hdg : decode cc pc = .ok (.astore_n j, 1)) (hn : j.val < nL) (hl : (j.val, Value.ref x) :: lv.filter (fun q => !(q.1 == j.val) && !(q.1 + 1 == j.val && q.2.category == 2)) = lv') (kk : zW E X nL k n Q (pc + 1) h lv' st) : zW E X nL k n Q pc h lv (.ref x :: st) := fun H locs ls hP hS hv => lv_astore_n C.1 C.2.1 hdg rfl hv hn hl (fun ls' hv' => kk H locs ls' hP hS hv')
theorem z_astore (C : zC E X own cc nL ret d) {j : Nat} {x : Nat} (hdg : decode cc pc = .ok (.astore j, 2)) (hn : j < nL) (hl : (j, Value.ref x) :: lv.filter (fun q => !(q.1 == j) && !(q.1 + 1 == j && q.2.category == 2)) = lv') (kk : zW E X nL k n Q (pc + 2) h lv' st) : zW E X nL k n Q pc h lv (.ref x :: st) := fun H locs ls hP hS hv => lv_astore C.1 C.2.1 hdg hv hn hl (fun ls' hv' => kk H locs ls' hP hS hv')
theorem z_lstore_n (C : zC E X own cc nL ret d) {j : Fin 4} {x : Int64} (hdg : decode cc pc = .ok (.lstore_n j, 1)) (hn : j.val + 1 < nL) (hl : (j.val, Value.long x) :: lv.filter (fun q => !(q.1 == j.val) && (!(q.1 == j.val + 1) && !(q.1 + 1 == j.val && q.2.category == 2))) = lv') (kk : zW E X nL k n Q (pc + 1) h lv' st) : zW E X nL k n Q pc h lv (.long x :: st) := fun H locs ls hP hS hv => lv_lstore_n C.1 C.2.1 hdg rfl hv hn hl (fun ls' hv' => kk H locs ls' hP hS hv')
theorem z_lstore (C : zC E X own cc nL ret d) {j : Nat} {x : Int64} (hdg : decode cc pc = .ok (.lstore j, 2)) (hn : j + 1 < nL) (hl : (j, Value.long x) :: lv.filter (fun q => !(q.1 == j) && (!(q.1 == j + 1) && !(q.1 + 1 == j && q.2.category == 2))) = lv') (kk : zW E X nL k n Q (pc + 2) h lv' st) : zW E X nL k n Q pc h lv (.long x :: st) := fun H locs ls hP hS hv => lv_lstore C.1 C.2.1 hdg hv hn hl (fun ls' hv' => kk H locs ls' hP hS hv')
theorem z_iinc (C : zC E X own cc nL ret d) {j : Nat} {z : Int} {x : Int32} (hdg : decode cc pc = .ok (.iinc j z, 3)) (i : Nat) (v : Int32) (hi : lv[i]? = some (j, .int x)) (hv : x + Int32.ofInt z = v) (hn : j < nL) (hl : (j, Value.int v) :: lv.filter (fun q => !(q.1 == j) && !(q.1 + 1 == j && q.2.category == 2)) = lv') (kk : zW E X nL k n Q (pc + 3) h lv' st) : zW E X nL k n Q pc h lv st := fun H locs ls hP hS hl0 => lv_iinc C.1 C.2.1 hdg hl0 hi hv hn hl (fun ls' hv' => kk H locs ls' hP hS hv')
def jrem (x y : Int32) : Int32 := x - x / y * y
def jushr (x y : Int32) : Int32 := (x.toUInt32 >>> (y.toUInt32 &&& Int32.toUInt32 31)).toInt32
def jshl (x y : Int32) : Int32 := x <<< (y &&& 31)
def jlrem (x y : Int64) : Int64 := x - x / y * y
def jlushr (x : Int64) (y : Int32) : Int64 := (x.toUInt64 >>> (y.toInt64.toUInt64 &&& Int64.toUInt64 63)).toInt64
def jlshl (x : Int64) (y : Int32) : Int64 := x <<< (y.toInt64 &&& 63)
theorem z_iconst (C : zC E X own cc nL ret d) {z : Int} (v : Int32) (hdg : decode cc pc = .ok (.iconst z, 1)) (hv : Int32.ofInt z = v) (kk : zW E X nL k n Q (pc + 1) h lv (.int v :: st)) : zW E X nL k n Q pc h lv st := fun H locs ls hP hS hl => lv_iconst C.1 C.2.1 hdg hv (kk H locs ls hP hS hl)
theorem z_bipush (C : zC E X own cc nL ret d) {z : Int} (v : Int32) (hdg : decode cc pc = .ok (.bipush z, 2)) (hv : (Int8.ofInt z).toInt32 = v) (kk : zW E X nL k n Q (pc + 2) h lv (.int v :: st)) : zW E X nL k n Q pc h lv st := fun H locs ls hP hS hl => lv_bipush C.1 C.2.1 hdg hv (kk H locs ls hP hS hl)
theorem z_sipush (C : zC E X own cc nL ret d) {z : Int} (v : Int32) (hdg : decode cc pc = .ok (.sipush z, 3)) (hv : (Int16.ofInt z).toInt32 = v) (kk : zW E X nL k n Q (pc + 3) h lv (.int v :: st)) : zW E X nL k n Q pc h lv st := fun H locs ls hP hS hl => lv_sipush C.1 C.2.1 hdg hv (kk H locs ls hP hS hl)
theorem z_lconst (C : zC E X own cc nL ret d) {z : Fin 2} (v : Int64) (hdg : decode cc pc = .ok (.lconst z, 1)) (hv : Int64.ofNat z.val = v) (kk : zW E X nL k n Q (pc + 1) h lv (.long v :: st)) : zW E X nL k n Q pc h lv st := fun H locs ls hP hS hl => lv_lconst C.1 C.2.1 hdg hv (kk H locs ls hP hS hl)
theorem z_ldc (C : zC E X own cc nL ret d) {idx : Nat} (v : Int32) (hdg : decode cc pc = .ok (.ldc idx, 2)) (hm : Cond.constant own idx v ∈ UU) (kk : zW E X nL k n Q (pc + 2) h lv (.int v :: st)) : zW E X nL k n Q pc h lv st := fun H locs ls hP hS hl => lv_ldc C.1 C.2.1 C.2.2.2.1 (C.2.2.2.2.1 _ hm) hdg (kk H locs ls hP hS hl)
theorem z_ldcw (C : zC E X own cc nL ret d) {idx : Nat} (v : Int32) (hdg : decode cc pc = .ok (.ldc_w idx, 3)) (hm : Cond.constant own idx v ∈ UU) (kk : zW E X nL k n Q (pc + 3) h lv (.int v :: st)) : zW E X nL k n Q pc h lv st := fun H locs ls hP hS hl => lv_ldcw C.1 C.2.1 C.2.2.2.1 (C.2.2.2.2.1 _ hm) hdg (kk H locs ls hP hS hl)
theorem z_ldc2 (C : zC E X own cc nL ret d) {idx : Nat} (v : Int64) (hdg : decode cc pc = .ok (.ldc2_w idx, 3)) (hm : Cond.constantLong own idx v ∈ UU) (kk : zW E X nL k n Q (pc + 3) h lv (.long v :: st)) : zW E X nL k n Q pc h lv st := fun H locs ls hP hS hl => lv_ldc2 C.1 C.2.1 C.2.2.2.1 (C.2.2.2.2.1 _ hm) hdg (kk H locs ls hP hS hl)
theorem z_null (C : zC E X own cc nL ret d) (hdg : decode cc pc = .ok (.aconst_null, 1)) (kk : zW E X nL k n Q (pc + 1) h lv (.null :: st)) : zW E X nL k n Q pc h lv st := fun H locs ls hP hS hl => lv_null C.1 C.2.1 hdg (kk H locs ls hP hS hl)
theorem z_iadd (C : zC E X own cc nL ret d) {x y : Int32} (hdg : decode cc pc = .ok (.iadd, 1)) (kk : zW E X nL k n Q (pc + 1) h lv (.int (x + y) :: st)) : zW E X nL k n Q pc h lv (.int y :: .int x :: st) := fun H locs ls hP hS hl => lv_iadd C.1 C.2.1 hdg (kk H locs ls hP hS hl)
theorem z_isub (C : zC E X own cc nL ret d) {x y : Int32} (hdg : decode cc pc = .ok (.isub, 1)) (kk : zW E X nL k n Q (pc + 1) h lv (.int (x - y) :: st)) : zW E X nL k n Q pc h lv (.int y :: .int x :: st) := fun H locs ls hP hS hl => lv_isub C.1 C.2.1 hdg (kk H locs ls hP hS hl)
theorem z_imul (C : zC E X own cc nL ret d) {x y : Int32} (hdg : decode cc pc = .ok (.imul, 1)) (kk : zW E X nL k n Q (pc + 1) h lv (.int (x * y) :: st)) : zW E X nL k n Q pc h lv (.int y :: .int x :: st) := fun H locs ls hP hS hl => lv_imul C.1 C.2.1 hdg (kk H locs ls hP hS hl)
theorem z_iand (C : zC E X own cc nL ret d) {x y : Int32} (hdg : decode cc pc = .ok (.iand, 1)) (kk : zW E X nL k n Q (pc + 1) h lv (.int (x &&& y) :: st)) : zW E X nL k n Q pc h lv (.int y :: .int x :: st) := fun H locs ls hP hS hl => lv_iand C.1 C.2.1 hdg (kk H locs ls hP hS hl)
theorem z_ior (C : zC E X own cc nL ret d) {x y : Int32} (hdg : decode cc pc = .ok (.ior, 1)) (kk : zW E X nL k n Q (pc + 1) h lv (.int (x ||| y) :: st)) : zW E X nL k n Q pc h lv (.int y :: .int x :: st) := fun H locs ls hP hS hl => lv_ior C.1 C.2.1 hdg (kk H locs ls hP hS hl)
theorem z_ixor (C : zC E X own cc nL ret d) {x y : Int32} (hdg : decode cc pc = .ok (.ixor, 1)) (kk : zW E X nL k n Q (pc + 1) h lv (.int (x ^^^ y) :: st)) : zW E X nL k n Q pc h lv (.int y :: .int x :: st) := fun H locs ls hP hS hl => lv_ixor C.1 C.2.1 hdg (kk H locs ls hP hS hl)
theorem z_ishl (C : zC E X own cc nL ret d) {x y : Int32} (hdg : decode cc pc = .ok (.ishl, 1)) (kk : zW E X nL k n Q (pc + 1) h lv (.int (jshl x y) :: st)) : zW E X nL k n Q pc h lv (.int y :: .int x :: st) := fun H locs ls hP hS hl => lv_ishl C.1 C.2.1 hdg (kk H locs ls hP hS hl)
theorem z_ladd (C : zC E X own cc nL ret d) {x y : Int64} (hdg : decode cc pc = .ok (.ladd, 1)) (kk : zW E X nL k n Q (pc + 1) h lv (.long (x + y) :: st)) : zW E X nL k n Q pc h lv (.long y :: .long x :: st) := fun H locs ls hP hS hl => lv_ladd C.1 C.2.1 hdg (kk H locs ls hP hS hl)
theorem z_lsub (C : zC E X own cc nL ret d) {x y : Int64} (hdg : decode cc pc = .ok (.lsub, 1)) (kk : zW E X nL k n Q (pc + 1) h lv (.long (x - y) :: st)) : zW E X nL k n Q pc h lv (.long y :: .long x :: st) := fun H locs ls hP hS hl => lv_lsub C.1 C.2.1 hdg (kk H locs ls hP hS hl)
theorem z_lmul (C : zC E X own cc nL ret d) {x y : Int64} (hdg : decode cc pc = .ok (.lmul, 1)) (kk : zW E X nL k n Q (pc + 1) h lv (.long (x * y) :: st)) : zW E X nL k n Q pc h lv (.long y :: .long x :: st) := fun H locs ls hP hS hl => lv_lmul C.1 C.2.1 hdg (kk H locs ls hP hS hl)
theorem z_land (C : zC E X own cc nL ret d) {x y : Int64} (hdg : decode cc pc = .ok (.land, 1)) (kk : zW E X nL k n Q (pc + 1) h lv (.long (x &&& y) :: st)) : zW E X nL k n Q pc h lv (.long y :: .long x :: st) := fun H locs ls hP hS hl => lv_land C.1 C.2.1 hdg (kk H locs ls hP hS hl)
theorem z_lor (C : zC E X own cc nL ret d) {x y : Int64} (hdg : decode cc pc = .ok (.lor, 1)) (kk : zW E X nL k n Q (pc + 1) h lv (.long (x ||| y) :: st)) : zW E X nL k n Q pc h lv (.long y :: .long x :: st) := fun H locs ls hP hS hl => lv_lor C.1 C.2.1 hdg (kk H locs ls hP hS hl)
theorem z_idiv (C : zC E X own cc nL ret d) {x y : Int32} (hdg : decode cc pc = .ok (.idiv, 1)) (hne : ¬ y = 0) (kk : zW E X nL k n Q (pc + 1) h lv (.int (x / y) :: st)) : zW E X nL k n Q pc h lv (.int y :: .int x :: st) := fun H locs ls hP hS hl => lv_idiv C.1 C.2.1 hdg hne (kk H locs ls hP hS hl)
theorem z_irem (C : zC E X own cc nL ret d) {x y : Int32} (hdg : decode cc pc = .ok (.irem, 1)) (hne : ¬ y = 0) (kk : zW E X nL k n Q (pc + 1) h lv (.int (jrem x y) :: st)) : zW E X nL k n Q pc h lv (.int y :: .int x :: st) := fun H locs ls hP hS hl => lv_irem C.1 C.2.1 hdg hne (kk H locs ls hP hS hl)
theorem z_ldiv (C : zC E X own cc nL ret d) {x y : Int64} (hdg : decode cc pc = .ok (.ldiv, 1)) (hne : ¬ y = 0) (kk : zW E X nL k n Q (pc + 1) h lv (.long (x / y) :: st)) : zW E X nL k n Q pc h lv (.long y :: .long x :: st) := fun H locs ls hP hS hl => lv_ldiv C.1 C.2.1 hdg hne (kk H locs ls hP hS hl)
theorem z_lrem (C : zC E X own cc nL ret d) {x y : Int64} (hdg : decode cc pc = .ok (.lrem, 1)) (hne : ¬ y = 0) (kk : zW E X nL k n Q (pc + 1) h lv (.long (jlrem x y) :: st)) : zW E X nL k n Q pc h lv (.long y :: .long x :: st) := fun H locs ls hP hS hl => lv_lrem C.1 C.2.1 hdg hne (kk H locs ls hP hS hl)
theorem z_iushr (C : zC E X own cc nL ret d) {x y : Int32} (hdg : decode cc pc = .ok (.iushr, 1)) (kk : zW E X nL k n Q (pc + 1) h lv (.int (jushr x y) :: st)) : zW E X nL k n Q pc h lv (.int y :: .int x :: st) := fun H locs ls hP hS hl => lv_iushr C.1 C.2.1 hdg rfl (kk H locs ls hP hS hl)
theorem z_lushr (C : zC E X own cc nL ret d) {x : Int64} {y : Int32} (hdg : decode cc pc = .ok (.lushr, 1)) (kk : zW E X nL k n Q (pc + 1) h lv (.long (jlushr x y) :: st)) : zW E X nL k n Q pc h lv (.int y :: .long x :: st) := fun H locs ls hP hS hl => lv_lushr C.1 C.2.1 hdg rfl (kk H locs ls hP hS hl)
theorem z_lshl (C : zC E X own cc nL ret d) {x : Int64} {y : Int32} (hdg : decode cc pc = .ok (.lshl, 1)) (kk : zW E X nL k n Q (pc + 1) h lv (.long (jlshl x y) :: st)) : zW E X nL k n Q pc h lv (.int y :: .long x :: st) := fun H locs ls hP hS hl => lv_lshl C.1 C.2.1 hdg rfl (kk H locs ls hP hS hl)
theorem z_i2l (C : zC E X own cc nL ret d) {x : Int32} (hdg : decode cc pc = .ok (.i2l, 1)) (kk : zW E X nL k n Q (pc + 1) h lv (.long x.toInt64 :: st)) : zW E X nL k n Q pc h lv (.int x :: st) := fun H locs ls hP hS hl => lv_i2l C.1 C.2.1 hdg rfl (kk H locs ls hP hS hl)
theorem z_l2i (C : zC E X own cc nL ret d) {x : Int64} (hdg : decode cc pc = .ok (.l2i, 1)) (kk : zW E X nL k n Q (pc + 1) h lv (.int x.toInt32 :: st)) : zW E X nL k n Q pc h lv (.long x :: st) := fun H locs ls hP hS hl => lv_l2i C.1 C.2.1 hdg rfl (kk H locs ls hP hS hl)
theorem z_lcmp (C : zC E X own cc nL ret d) {x y : Int64} (hdg : decode cc pc = .ok (.lcmp, 1)) (kk : zW E X nL k n Q (pc + 1) h lv (.int (lg_cmp x y) :: st)) : zW E X nL k n Q pc h lv (.long y :: .long x :: st) := fun H locs ls hP hS hl => W.lcmp C.1 C.2.1 hdg (kk H locs ls hP hS hl)
theorem z_dup (C : zC E X own cc nL ret d) {v : Value} (hdg : decode cc pc = .ok (.dup, 1)) (hv : v.category = 1) (kk : zW E X nL k n Q (pc + 1) h lv (v :: v :: st)) : zW E X nL k n Q pc h lv (v :: st) := fun H locs ls hP hS hl => lv_dup C.1 C.2.1 hdg hv (kk H locs ls hP hS hl)
theorem z_dup2 (C : zC E X own cc nL ret d) {v w : Value} (hdg : decode cc pc = .ok (.dup2, 1)) (hv : v.category = 1) (hw : w.category = 1) (kk : zW E X nL k n Q (pc + 1) h lv (v :: w :: v :: w :: st)) : zW E X nL k n Q pc h lv (v :: w :: st) := fun H locs ls hP hS hl => lv_dup2_11 C.1 C.2.1 hdg hv hw (kk H locs ls hP hS hl)
theorem z_pop (C : zC E X own cc nL ret d) {v : Value} (hdg : decode cc pc = .ok (.pop, 1)) (hv : v.category = 1) (kk : zW E X nL k n Q (pc + 1) h lv st) : zW E X nL k n Q pc h lv (v :: st) := fun H locs ls hP hS hl => lv_pop C.1 C.2.1 hdg hv (kk H locs ls hP hS hl)
theorem z_goto (C : zC E X own cc nL ret d) {off : Int} (tgt : Nat) (hdg : decode cc pc = .ok (.goto off, 3)) (ht : (pc : Int) + off = (tgt : Int)) (kk : zW E X nL k n Q tgt h lv st) : zW E X nL k n Q pc h lv st := fun H locs ls hP hS hl => lv_goto C.1 C.2.1 hdg ht (kk H locs ls hP hS hl)
theorem z_if_eq (C : zC E X own cc nL ret d) {x : Int32} {off : Int} (tgt : Nat) (hdg : decode cc pc = .ok (.ifCond .eq off, 3)) (ht : (pc : Int) + off = (tgt : Int)) (kt : x = 0 → zW E X nL k n Q tgt h lv st) (kf : ¬ x = 0 → zW E X nL k n Q (pc + 3) h lv st) : zW E X nL k n Q pc h lv (.int x :: st) := fun H locs ls hP hS hl => lv_if_eq C.1 C.2.1 hdg ht (fun c => kt c H locs ls hP hS hl) (fun c => kf c H locs ls hP hS hl)
theorem z_icmp_eq (C : zC E X own cc nL ret d) {x y : Int32} {off : Int} (tgt : Nat) (hdg : decode cc pc = .ok (.if_icmp .eq off, 3)) (ht : (pc : Int) + off = (tgt : Int)) (kt : x = y → zW E X nL k n Q tgt h lv st) (kf : ¬ x = y → zW E X nL k n Q (pc + 3) h lv st) : zW E X nL k n Q pc h lv (.int y :: .int x :: st) := fun H locs ls hP hS hl => lv_icmp_eq C.1 C.2.1 hdg ht (fun c => kt c H locs ls hP hS hl) (fun c => kf c H locs ls hP hS hl)
theorem z_if_ne (C : zC E X own cc nL ret d) {x : Int32} {off : Int} (tgt : Nat) (hdg : decode cc pc = .ok (.ifCond .ne off, 3)) (ht : (pc : Int) + off = (tgt : Int)) (kt : ¬ x = 0 → zW E X nL k n Q tgt h lv st) (kf : x = 0 → zW E X nL k n Q (pc + 3) h lv st) : zW E X nL k n Q pc h lv (.int x :: st) := fun H locs ls hP hS hl => lv_if_ne C.1 C.2.1 hdg ht (fun c => kt c H locs ls hP hS hl) (fun c => kf c H locs ls hP hS hl)
theorem z_icmp_ne (C : zC E X own cc nL ret d) {x y : Int32} {off : Int} (tgt : Nat) (hdg : decode cc pc = .ok (.if_icmp .ne off, 3)) (ht : (pc : Int) + off = (tgt : Int)) (kt : ¬ x = y → zW E X nL k n Q tgt h lv st) (kf : x = y → zW E X nL k n Q (pc + 3) h lv st) : zW E X nL k n Q pc h lv (.int y :: .int x :: st) := fun H locs ls hP hS hl => lv_icmp_ne C.1 C.2.1 hdg ht (fun c => kt c H locs ls hP hS hl) (fun c => kf c H locs ls hP hS hl)
theorem z_if_lt (C : zC E X own cc nL ret d) {x : Int32} {off : Int} (tgt : Nat) (hdg : decode cc pc = .ok (.ifCond .lt off, 3)) (ht : (pc : Int) + off = (tgt : Int)) (kt : x < 0 → zW E X nL k n Q tgt h lv st) (kf : ¬ x < 0 → zW E X nL k n Q (pc + 3) h lv st) : zW E X nL k n Q pc h lv (.int x :: st) := fun H locs ls hP hS hl => lv_if_lt C.1 C.2.1 hdg ht (fun c => kt c H locs ls hP hS hl) (fun c => kf c H locs ls hP hS hl)
theorem z_icmp_lt (C : zC E X own cc nL ret d) {x y : Int32} {off : Int} (tgt : Nat) (hdg : decode cc pc = .ok (.if_icmp .lt off, 3)) (ht : (pc : Int) + off = (tgt : Int)) (kt : x < y → zW E X nL k n Q tgt h lv st) (kf : ¬ x < y → zW E X nL k n Q (pc + 3) h lv st) : zW E X nL k n Q pc h lv (.int y :: .int x :: st) := fun H locs ls hP hS hl => lv_icmp_lt C.1 C.2.1 hdg ht (fun c => kt c H locs ls hP hS hl) (fun c => kf c H locs ls hP hS hl)
theorem z_if_ge (C : zC E X own cc nL ret d) {x : Int32} {off : Int} (tgt : Nat) (hdg : decode cc pc = .ok (.ifCond .ge off, 3)) (ht : (pc : Int) + off = (tgt : Int)) (kt : 0 ≤ x → zW E X nL k n Q tgt h lv st) (kf : ¬ 0 ≤ x → zW E X nL k n Q (pc + 3) h lv st) : zW E X nL k n Q pc h lv (.int x :: st) := fun H locs ls hP hS hl => lv_if_ge C.1 C.2.1 hdg ht (fun c => kt c H locs ls hP hS hl) (fun c => kf c H locs ls hP hS hl)
theorem z_icmp_ge (C : zC E X own cc nL ret d) {x y : Int32} {off : Int} (tgt : Nat) (hdg : decode cc pc = .ok (.if_icmp .ge off, 3)) (ht : (pc : Int) + off = (tgt : Int)) (kt : y ≤ x → zW E X nL k n Q tgt h lv st) (kf : ¬ y ≤ x → zW E X nL k n Q (pc + 3) h lv st) : zW E X nL k n Q pc h lv (.int y :: .int x :: st) := fun H locs ls hP hS hl => lv_icmp_ge C.1 C.2.1 hdg ht (fun c => kt c H locs ls hP hS hl) (fun c => kf c H locs ls hP hS hl)
theorem z_if_gt (C : zC E X own cc nL ret d) {x : Int32} {off : Int} (tgt : Nat) (hdg : decode cc pc = .ok (.ifCond .gt off, 3)) (ht : (pc : Int) + off = (tgt : Int)) (kt : 0 < x → zW E X nL k n Q tgt h lv st) (kf : ¬ 0 < x → zW E X nL k n Q (pc + 3) h lv st) : zW E X nL k n Q pc h lv (.int x :: st) := fun H locs ls hP hS hl => lv_if_gt C.1 C.2.1 hdg ht (fun c => kt c H locs ls hP hS hl) (fun c => kf c H locs ls hP hS hl)
theorem z_icmp_gt (C : zC E X own cc nL ret d) {x y : Int32} {off : Int} (tgt : Nat) (hdg : decode cc pc = .ok (.if_icmp .gt off, 3)) (ht : (pc : Int) + off = (tgt : Int)) (kt : y < x → zW E X nL k n Q tgt h lv st) (kf : ¬ y < x → zW E X nL k n Q (pc + 3) h lv st) : zW E X nL k n Q pc h lv (.int y :: .int x :: st) := fun H locs ls hP hS hl => lv_icmp_gt C.1 C.2.1 hdg ht (fun c => kt c H locs ls hP hS hl) (fun c => kf c H locs ls hP hS hl)
theorem z_if_le (C : zC E X own cc nL ret d) {x : Int32} {off : Int} (tgt : Nat) (hdg : decode cc pc = .ok (.ifCond .le off, 3)) (ht : (pc : Int) + off = (tgt : Int)) (kt : x ≤ 0 → zW E X nL k n Q tgt h lv st) (kf : ¬ x ≤ 0 → zW E X nL k n Q (pc + 3) h lv st) : zW E X nL k n Q pc h lv (.int x :: st) := fun H locs ls hP hS hl => lv_if_le C.1 C.2.1 hdg ht (fun c => kt c H locs ls hP hS hl) (fun c => kf c H locs ls hP hS hl)
theorem z_icmp_le (C : zC E X own cc nL ret d) {x y : Int32} {off : Int} (tgt : Nat) (hdg : decode cc pc = .ok (.if_icmp .le off, 3)) (ht : (pc : Int) + off = (tgt : Int)) (kt : x ≤ y → zW E X nL k n Q tgt h lv st) (kf : ¬ x ≤ y → zW E X nL k n Q (pc + 3) h lv st) : zW E X nL k n Q pc h lv (.int y :: .int x :: st) := fun H locs ls hP hS hl => lv_icmp_le C.1 C.2.1 hdg ht (fun c => kt c H locs ls hP hS hl) (fun c => kf c H locs ls hP hS hl)
theorem z_ifnull (C : zC E X own cc nL ret d) {x : Nat} {off : Int} (hdg : decode cc pc = .ok (.ifnull off, 3)) (kk : zW E X nL k n Q (pc + 3) h lv st) : zW E X nL k n Q pc h lv (.ref x :: st) := fun H locs ls hP hS hl => lv_ifnull C.1 C.2.1 hdg (kk H locs ls hP hS hl)
theorem z_ifnullN (C : zC E X own cc nL ret d) {off : Int} (tgt : Nat) (hdg : decode cc pc = .ok (.ifnull off, 3)) (ht : (pc : Int) + off = (tgt : Int)) (kk : zW E X nL k n Q tgt h lv st) : zW E X nL k n Q pc h lv (.null :: st) := fun H locs ls hP hS hl => lv_ifnullN C.1 C.2.1 hdg ht (kk H locs ls hP hS hl)
theorem z_tableIn (C : zC E X own cc nL ret d) {dflt lo hi : Int} {offs : Array Int} {len : Nat} {x : Int32} (off : Int) (tgt : Nat) (hdg : decode cc pc = .ok (.tableswitch dflt lo hi offs, len)) (h1 : ¬ x.toInt < lo) (h2 : ¬ hi < x.toInt) (ho : offs[(x.toInt - lo).toNat]? = some off) (ht : (pc : Int) + off = (tgt : Int)) (kk : zW E X nL k n Q tgt h lv st) : zW E X nL k n Q pc h lv (.int x :: st) := fun H locs ls hP hS hl => lv_tableIn C.1 C.2.1 hdg h1 h2 ho ht (kk H locs ls hP hS hl)
theorem z_tableOut (C : zC E X own cc nL ret d) {dflt lo hi : Int} {offs : Array Int} {len : Nat} {x : Int32} (tgt : Nat) (hdg : decode cc pc = .ok (.tableswitch dflt lo hi offs, len)) (hx : x.toInt < lo ∨ hi < x.toInt) (ht : (pc : Int) + dflt = (tgt : Int)) (kk : zW E X nL k n Q tgt h lv st) : zW E X nL k n Q pc h lv (.int x :: st) := fun H locs ls hP hS hl => lv_tableOut C.1 C.2.1 hdg hx ht (kk H locs ls hP hS hl)
theorem z_lookup (C : zC E X own cc nL ret d) {dflt : Int} {ps : Array (Int × Int)} {len : Nat} {x : Int32} (off : Int) (tgt : Nat) (hdg : decode cc pc = .ok (.lookupswitch dflt ps, len)) (hp : (ps.toList.zip (ps.toList.drop 1)).all (fun (a, next) => a.1 < next.1) = true) (ho : Op.lookupswitch.offset ps.toList dflt x.toInt = off) (ht : (pc : Int) + off = (tgt : Int)) (kk : zW E X nL k n Q tgt h lv st) : zW E X nL k n Q pc h lv (.int x :: st) := fun H locs ls hP hS hl => lv_lookup C.1 C.2.1 hdg hp ho ht (kk H locs ls hP hS hl)
theorem z_get (C : zC E X own cc nL ret d) {ref Cn : String} {T : u_T} {N ci index a : Nat} {fs : List Value} (hin : ∀ w ∈ u_ws Cn T N, w ∈ UU) (hc : vwCl[ci]? = some (Cn, T, N)) (f : Nat) (hf : f < N) (hm : Cond.fieldLink own index ref (T f).2.1 (T f).2.2.1 ∈ UU) (hsame : (T f).1 = ref) (ha : h a = some (.inr (ci, fs))) (v : Value) (hv : fs[f]? = some v) (hdg : decode cc pc = .ok (.getfield index, 3)) (kk : zW E X nL k n Q (pc + 3) h lv (v :: st)) : zW E X nL k n Q pc h lv (.ref a :: st) := fun H locs ls hP hS hl => 
  va_get C.1 C.2.1 C.2.2.2.2.1 hin C.2.2.2.1 C.2.2.2.2.2.2.2.2.1.1 (hP.one ha) 0 rfl hc f hf (C.2.2.2.2.1 _ hm) (fun x hx => by rw [← hsame]; exact hx) hv hdg (kk H locs ls hP hS hl)
theorem z_put (C : zC E X own cc nL ret d) {ref Cn : String} {T : u_T} {N ci index a : Nat} {fs : List Value} {v : Value} (hin : ∀ w ∈ u_ws Cn T N, w ∈ UU) (ty0 : Nat → FieldType) (hty : ∀ k, k < N → parseFieldDescriptor (T k).2.2.1 = some (ty0 k)) (hnm : ∀ a, a < N → ∀ b, b < N → a ≠ b → (T a).2.1 ≠ (T b).2.1) (hc : vwCl[ci]? = some (Cn, T, N)) (f : Nat) (hf : f < N) (hm : Cond.fieldLink own index ref (T f).2.1 (T f).2.2.1 ∈ UU) (hsame : (T f).1 = ref) (hfin : (T f).2.2.2 = false) (hn : narrow (ty0 f) v = v) (hfit : fits (ty0 f) v = true) (ha : h a = some (.inr (ci, fs))) (hlen : f < fs.length) (hdg : decode cc pc = .ok (.putfield index, 3)) (h' : Hp) (e : hup h a (.inr (ci, fs.set f v)) = h') (kk : zW E X nL k n Q (pc + 3) h' lv st) : zW E X nL k n Q pc h lv (v :: .ref a :: st) := by
  intro H locs ls hP hS hl
  have hK := C.2.2.2.2.2.2.2.2.1.1
  have hts := C.2.2.2.2.1
  have hap := va_apart (own := own) hts hin ty0 hty hnm hK hc
  obtain ⟨hNa, r, h1, cell, q1, q2, q3, q4⟩ := hP a _ ha
  have hr : r = (Cn, T, N) := Option.some.inj (h1.symm.trans hc)
  subst hr
  obtain ⟨hSl, hfc, kC, hkC, hkind⟩ := hK.1 ci _ hc
  obtain ⟨cf, kf, fi, fd, hi, hsl⟩ := hSl f hf
  have hlay := hts _ (hin _ (u_in_lay hf))
  unfold u_lay at hlay
  rw [if_neg (by rw [hfin]; decide)] at hlay
  have hst := (u_facts hfc hkC (u_lays hts hin hf) hi).1
  have h6 := u_store hfc hkC hkind hlay hi (hty f hf) hn hfit
  refine W.putK C.1 C.2.1 (f := fd) ⟨C.2.2.2.1, hts _ hm, ⟨_, _, _, by rw [← hsame]; exact hi⟩, hst⟩ (by rw [q2]; exact h6) q1 q3 (by rw [hsl]; exact k2_hasslot (q4 f hf)) rfl rfl hdg fun H' e1 e2 e3 => ?_
  rw [hsl] at e1
  refine kk H' _ ls ?_ (hS.put e2 e3 hNa) hl
  rw [← e]
  exact hP.up hNa ⟨_, hc, t_OB.to (V := updV (vp_V fs) f v) ⟨_, e1, q2, q3, t_set q4 hap hf v⟩ (fun j _ => vp_updV_set hlen v j)⟩ e3
theorem z_iald (C : zC E X own cc nL ret d) {a N : Nat} {f : Nat → Int32} {i : Int32} (ha : h a = some (.inl (zI E, N, .inl f))) (hin : vp_in i N) (hdg : decode cc pc = .ok (.iaload, 1)) (kk : zW E X nL k n Q (pc + 1) h lv (.int (f i.toNatClampNeg) :: st)) : zW E X nL k n Q pc h lv (.int i :: .ref a :: st) := fun H locs ls hP hS hl => 
  va_iald C.1 C.2.1 C.2.2.2.2.2.2.2.2.1.1 (hP.one ha) 0 0 rfl rfl hin hdg (kk H locs ls hP hS hl)
theorem z_zald (C : zC E X own cc nL ret d) {a N : Nat} {f : Nat → Int32} {i : Int32} (ha : h a = some (.inl (zB E, N, .inl f))) (hin : vp_in i N) (hdg : decode cc pc = .ok (.baload, 1)) (kk : zW E X nL k n Q (pc + 1) h lv (.int (f i.toNatClampNeg) :: st)) : zW E X nL k n Q pc h lv (.int i :: .ref a :: st) := fun H locs ls hP hS hl => 
  va_zald C.1 C.2.1 C.2.2.2.2.2.2.2.2.1.1 (hP.one ha) 0 1 rfl rfl hin hdg (kk H locs ls hP hS hl)
theorem z_lald (C : zC E X own cc nL ret d) {a N : Nat} {f : Nat → Int64} {i : Int32} (ha : h a = some (.inl (zJ E, N, .inr (.inl f)))) (hin : vp_in i N) (hdg : decode cc pc = .ok (.laload, 1)) (kk : zW E X nL k n Q (pc + 1) h lv (.long (f i.toNatClampNeg) :: st)) : zW E X nL k n Q pc h lv (.int i :: .ref a :: st) := fun H locs ls hP hS hl => 
  va_lald C.1 C.2.1 C.2.2.2.2.2.2.2.2.1.1 (hP.one ha) 0 2 rfl rfl hin hdg (kk H locs ls hP hS hl)
theorem z_iast (C : zC E X own cc nL ret d) {a N : Nat} {f : Nat → Int32} {i : Int32} {x : Int32} (ha : h a = some (.inl (zI E, N, .inl (f)))) (hin : vp_in i N) (hdg : decode cc pc = .ok (.iastore, 1)) (h' : Hp) (e : hup h a (.inl (zI E, N, .inl (upd f i.toNatClampNeg x))) = h') (kk : zW E X nL k n Q (pc + 1) h' lv st) : zW E X nL k n Q pc h lv (.int x :: .int i :: .ref a :: st) := by
  intro H locs ls hP hS hl
  have hK := C.2.2.2.2.2.2.2.2.1.1
  have hPa := (hP a _ ha).2
  have hNa := (hP a _ ha).1
  refine W.iast C.1 C.2.1 hPa ((hK.2 0 _ rfl).1 N (fun j => .int (f j))) (fun q => by cases q) (by show ¬ (i < 0 ∨ (arrV _ _ _).slots.size ≤ _); rw [arrV_size]; exact hin) rfl rfl hdg fun H1 e1 z oq => ?_
  refine kk H1 _ ls ?_ (hS.put z oq hNa) hl
  rw [← e]
  refine hP.up hNa ?_ oq
  show H1[a]? = some (vp_cell _ _)
  rw [e1]
  rw [vp_cell_i, vp_cell_i, arrV_store]
  congr 2
  funext q
  by_cases hq : q = i.toNatClampNeg
  · subst hq
    simp [updV, upd]
  · simp [updV, upd, hq]
theorem z_zast (C : zC E X own cc nL ret d) {a N : Nat} {f : Nat → Int32} {i : Int32} {x : Int32} (ha : h a = some (.inl (zB E, N, .inl (f)))) (hin : vp_in i N) (hdg : decode cc pc = .ok (.bastore, 1)) (h' : Hp) (e : hup h a (.inl (zB E, N, .inl (upd f i.toNatClampNeg (vp_nar .boolean x)))) = h') (kk : zW E X nL k n Q (pc + 1) h' lv st) : zW E X nL k n Q pc h lv (.int x :: .int i :: .ref a :: st) := by
  intro H locs ls hP hS hl
  have hK := C.2.2.2.2.2.2.2.2.1.1
  have hPa := (hP a _ ha).2
  have hNa := (hP a _ ha).1
  refine W.zast C.1 C.2.1 hPa ((hK.2 1 _ rfl).1 N (fun j => .int (f j))) (fun q => by cases q) (by show ¬ (i < 0 ∨ (arrV _ _ _).slots.size ≤ _); rw [arrV_size]; exact hin) rfl rfl hdg fun H1 e1 z oq => ?_
  refine kk H1 _ ls ?_ (hS.put z oq hNa) hl
  rw [← e]
  refine hP.up hNa ?_ oq
  show H1[a]? = some (vp_cell _ _)
  rw [e1]
  rw [vp_cell_i, vp_cell_i, arrV_store]
  congr 2
  funext q
  by_cases hq : q = i.toNatClampNeg
  · subst hq
    simp [updV, upd, vp_nar]
    try rfl
  · simp [updV, upd, hq]
theorem z_last (C : zC E X own cc nL ret d) {a N : Nat} {f : Nat → Int64} {i : Int32} {x : Int64} (ha : h a = some (.inl (zJ E, N, .inr (.inl (f))))) (hin : vp_in i N) (hdg : decode cc pc = .ok (.lastore, 1)) (h' : Hp) (e : hup h a (.inl (zJ E, N, .inr (.inl (vp_updL f i.toNatClampNeg x)))) = h') (kk : zW E X nL k n Q (pc + 1) h' lv st) : zW E X nL k n Q pc h lv (.long x :: .int i :: .ref a :: st) := by
  intro H locs ls hP hS hl
  have hK := C.2.2.2.2.2.2.2.2.1.1
  have hPa := (hP a _ ha).2
  have hNa := (hP a _ ha).1
  refine W.last C.1 C.2.1 hPa ((hK.2 2 _ rfl).1 N (fun j => .long (f j))) (fun q => by cases q) (by show ¬ (i < 0 ∨ (arrV _ _ _).slots.size ≤ _); rw [arrV_size]; exact hin) rfl rfl hdg fun H1 e1 z oq => ?_
  refine kk H1 _ ls ?_ (hS.put z oq hNa) hl
  rw [← e]
  refine hP.up hNa ?_ oq
  show H1[a]? = some (vp_cell _ _)
  rw [e1]
  rw [vp_cell_l, vp_cell_l, arrV_store]
  congr 2
  funext q
  by_cases hq : q = i.toNatClampNeg
  · subst hq
    simp [updV, vp_updL]
  · simp [updV, vp_updL, hq]
theorem z_alen (C : zC E X own cc nL ret d) {a : Nat} {x : vp_A} (ha : h a = some (.inl (zG E, x))) {v : Int32} (hv : Int32.ofNat x.1 = v) (hdg : decode cc pc = .ok (.arraylength, 1)) (kk : zW E X nL k n Q (pc + 1) h lv (.int v :: st)) : zW E X nL k n Q pc h lv (.ref a :: st) := fun H locs ls hP hS hl => 
  va_alen C.1 C.2.1 C.2.2.2.2.2.2.2.2.1.1 (hP.one ha) 0 3 rfl rfl hv hdg (kk H locs ls hP hS hl)
theorem z_aald (C : zC E X own cc nL ret d) {a N b : Nat} {f : Nat → Option Nat} {i : Int32} (ha : h a = some (.inl (zG E, N, .inr (.inr (.inr (.inr f)))))) (hin : vp_in i N) (hb : f i.toNatClampNeg = some b) (hdg : decode cc pc = .ok (.aaload, 1)) (kk : zW E X nL k n Q (pc + 1) h lv (.ref b :: st)) : zW E X nL k n Q pc h lv (.int i :: .ref a :: st) := fun H locs ls hP hS hl => 
  va_aldq C.1 C.2.1 C.2.2.2.2.2.2.2.2.1.1 (hP.one ha) 0 3 rfl rfl hin hdg (by rw [hb]; exact kk H locs ls hP hS hl)
theorem z_getsLow (C : zC E X own cc nL ret d) {index : Nat} (hm : Cond.fieldLink own index "SpiralDominoes" "LOW" "[I" ∈ UU) (hdg : decode cc pc = .ok (.getstatic index, 3)) (kk : zW E X nL k n Q (pc + 3) h lv (.ref (zLo E) :: st)) : zW E X nL k n Q pc h lv st := fun H locs ls hP hS hl => 
  va_gets C.1 C.2.1 C.2.2.2.2.2.2.2.2.2.1.1 hS C.2.2.2.1 (C.2.2.2.2.1 _ hm) (fun _ h9 => h9) hdg (kk H locs ls hP hS hl)
theorem z_getsLowN (C : zC E X own cc nL ret d) {index : Nat} (hm : (own, index, "SpiralDominoes", "LOW", "[I", "SpiralDominoes") ∈ zNestF) (hdg : decode cc pc = .ok (.getstatic index, 3)) (kk : zW E X nL k n Q (pc + 3) h lv (.ref (zLo E) :: st)) : zW E X nL k n Q pc h lv st := fun H locs ls hP hS hl => 
  va_getsN C.1 C.2.1 C.2.2.2.2.2.2.2.2.2.1.1 hS C.2.2.2.1 (va_Nw.use rfl (C.2.2.2.2.2.2.2.2.1.2.2.1 _ hm)) (fun _ h9 => h9) hdg (kk H locs ls hP hS hl)
theorem z_tldLow (C : zC E X own cc nL ret d) {i : Int32} (hin : vp_in i 28) (hdg : decode cc pc = .ok (.iaload, 1)) (kk : zW E X nL k n Q (pc + 1) h lv (.int (lowT i.toNatClampNeg) :: st)) : zW E X nL k n Q pc h lv (.int i :: .ref (zLo E) :: st) := fun H locs ls hP hS hl => 
  va_ti C.1 C.2.1 C.2.2.2.2.2.2.2.2.2.1.2.1 hS hin rfl hdg (kk H locs ls hP hS hl)
theorem z_getsHigh (C : zC E X own cc nL ret d) {index : Nat} (hm : Cond.fieldLink own index "SpiralDominoes" "HIGH" "[I" ∈ UU) (hdg : decode cc pc = .ok (.getstatic index, 3)) (kk : zW E X nL k n Q (pc + 3) h lv (.ref (zHi E) :: st)) : zW E X nL k n Q pc h lv st := fun H locs ls hP hS hl => 
  va_gets C.1 C.2.1 C.2.2.2.2.2.2.2.2.2.1.2.2.1 hS C.2.2.2.1 (C.2.2.2.2.1 _ hm) (fun _ h9 => h9) hdg (kk H locs ls hP hS hl)
theorem z_getsHighN (C : zC E X own cc nL ret d) {index : Nat} (hm : (own, index, "SpiralDominoes", "HIGH", "[I", "SpiralDominoes") ∈ zNestF) (hdg : decode cc pc = .ok (.getstatic index, 3)) (kk : zW E X nL k n Q (pc + 3) h lv (.ref (zHi E) :: st)) : zW E X nL k n Q pc h lv st := fun H locs ls hP hS hl => 
  va_getsN C.1 C.2.1 C.2.2.2.2.2.2.2.2.2.1.2.2.1 hS C.2.2.2.1 (va_Nw.use rfl (C.2.2.2.2.2.2.2.2.1.2.2.1 _ hm)) (fun _ h9 => h9) hdg (kk H locs ls hP hS hl)
theorem z_tldHigh (C : zC E X own cc nL ret d) {i : Int32} (hin : vp_in i 28) (hdg : decode cc pc = .ok (.iaload, 1)) (kk : zW E X nL k n Q (pc + 1) h lv (.int (highT i.toNatClampNeg) :: st)) : zW E X nL k n Q pc h lv (.int i :: .ref (zHi E) :: st) := fun H locs ls hP hS hl => 
  va_ti C.1 C.2.1 C.2.2.2.2.2.2.2.2.2.1.2.2.2.1 hS hin rfl hdg (kk H locs ls hP hS hl)
theorem z_ireturn (C : zC E X own cc nL (some .int) d) {v : Int32} (hdg : decode cc pc = .ok (.ireturn, 1)) : zW E X nL k n (MQ (xb X) (zQ E (some (.int v)) h) (xa X) (xs X) k n (zA E)) pc h lv [.int v] := fun H locs ls hP hS hl => W.iret C.1 C.2.1 C.2.2.2.2.2.1 (fun t ht hW => ⟨rfl, by rw [ht]; exact hP, hS.F ht⟩) hS.2.2 hdg C.2.2.2.2.2.2.1
theorem z_narB {v : Int32} (hb : v = 0 ∨ v = 1) : narrow .boolean (.int v) = .int v := by rcases hb with rfl | rfl <;> rfl
theorem z_zreturn (C : zC E X own cc nL (some .boolean) d) {v : Int32} (hb : v = 0 ∨ v = 1) (hdg : decode cc pc = .ok (.ireturn, 1)) : zW E X nL k n (MQ (xb X) (zQ E (some (.int v)) h) (xa X) (xs X) k n (zA E)) pc h lv [.int v] := fun H locs ls hP hS hl => W.zret C.1 C.2.1 C.2.2.2.2.2.1 (z_narB hb) (fun t ht hW => ⟨rfl, by rw [ht]; exact hP, hS.F ht⟩) hS.2.2 hdg C.2.2.2.2.2.2.1
theorem z_return (C : zC E X own cc nL none d) (hdg : decode cc pc = .ok (.return_, 1)) : zW E X nL k n (MQ (xb X) (zQ E none h) (xa X) (xs X) k n (zA E)) pc h lv [] := fun H locs ls hP hS hl => W.vret C.1 C.2.1 C.2.2.2.2.2.1 (fun t ht hW => ⟨rfl, by rw [ht]; exact hP, hS.F ht⟩) hS.2.2 hdg C.2.2.2.2.2.2.1
theorem z_lreturn (C : zC E X own cc nL (some .long) d) {v : Int64} (hdg : decode cc pc = .ok (.lreturn, 1)) : zW E X nL k n (MQ (xb X) (zQ E (some (.long v)) h) (xa X) (xs X) k n (zA E)) pc h lv [.long v] := fun H locs ls hP hS hl => W.lret C.1 C.2.1 C.2.2.2.2.2.1 (fun t ht hW => ⟨rfl, by rw [ht]; exact hP, hS.F ht⟩) hS.2.2 hdg C.2.2.2.2.2.2.1
theorem z_areturn {cn : String} (C : zC E X own cc nL (some (.object cn)) d) {v : Value} (hv : v = .null ∨ ∃ a, v = .ref a) (hdg : decode cc pc = .ok (.areturn, 1)) : zW E X nL k n (MQ (xb X) (zQ E (some v) h) (xa X) (xs X) k n (zA E)) pc h lv [v] := fun H locs ls hP hS hl => W.aret C.1 C.2.1 C.2.2.2.2.2.1 (Or.inl ⟨_, rfl⟩) hv (fun t ht hW => ⟨rfl, by rw [ht]; exact hP, hS.F ht⟩) hS.2.2 hdg C.2.2.2.2.2.2.1
theorem zC.pre (C : zC E X own cc nL ret d) {H : Heap} {locs : List Loc} (hP : zP E h H) (hS : va_S (zA E) (xs X).heap H locs) (U : State) (hU : U.heap = H) (hW : (xs X).WarmedH U.vm) : zPre E h U :=
  ⟨by rw [hU]; exact Nat.le_trans C.2.2.2.2.2.2.2.1 hS.1, by rw [hU]; exact hP, C.2.2.2.2.2.2.2.2.1.warm hW, by rw [hU]; exact (C.2.2.2.2.2.2.2.2.2.1.kept hS.2.1).moved hW.alike⟩
theorem z_run {pc1 : Nat} {av rest st0 : List Value} {h1 : Hp} {v : Option Value} (hpc : pc + 3 = pc1)
    (hr : ∀ (H : Heap) (locs : List Loc) (ls : Array Slot), zP E h H → va_S (zA E) (xs X).heap H locs → lv_has ls nL lv → va_Run (xp X) (xl X) (xe X) (xR X) (xs X) (xm X) (xa X) (xb X) (xt X) (xc X) H locs k n 0 0 (F0 (xm X) pc ls st0) rest (zQ E v h1 av.toArray) (zA E))
    (kk : zW E X nL k n Q pc1 h1 lv (v.toList ++ rest)) : zW E X nL k n Q pc h lv st0 := by
  subst hpc
  intro H locs ls hP hS hl T hT X9
  obtain ⟨v', st₀, t, T', L, h0, X', hL, e1, e2, ⟨hv, hP1, hz, hk⟩, st9⟩ := hr H locs ls hP hS hl T hT X9
  cases hv
  rw [h0] at hz hk
  have hS1 : va_S (zA E) (xs X).heap T'.heap (locs ++ L) := ⟨Nat.le_trans hS.1 (by rw [e1]; exact hz), fun q q1 q2 => by rw [e1, hk q (Nat.lt_of_lt_of_le q1 hS.1) q2]; exact hS.2.1 q q1 q2, fun q hq => by
    rcases List.mem_append.mp hq with q1 | q1
    · exact hS.2.2 q q1
    · exact hL q q1⟩
  obtain ⟨t2, a1, b1⟩ := kk T'.heap (locs ++ L) ls (by rw [e1]; exact hP1) hS1 hl T' rfl X'
  exact ⟨t2, st9 t2 a1, b1⟩

theorem zC.fix (C : zC E X own cc nL ret d) : CallFix (xp X) (xm X) (xc X) cc nL (xs X) (xa X) UU own := ⟨C.1, C.2.1, C.2.2.1, C.2.2.2.1, C.2.2.2.2.1⟩
theorem zC.room (C : zC E X own cc nL ret d) {d1 maxL : Nat} (h1 : d1 + 1 ≤ d) (h2 : maxL ≤ 29) : (zR d1).frames + 1 ≤ (xR X).frames ∧ 8 + (maxL + 11) + (zR d1).locals ≤ (xR X).locals := by
  obtain ⟨r1, r2⟩ := C.2.2.2.2.2.2.2.2.2.2
  refine ⟨Nat.le_trans h1 r1, ?_⟩
  show 8 + (maxL + 11) + 48 * d1 ≤ _
  omega
theorem z_callV (C : zC E X own cc nL ret d) {y : MethodName} {bytes : ByteArray} {maxL d1 index b ci N : Nat} {rt : Option FieldType} {Cn : String} {T : u_T} {fs : List Value} {h1 : Hp} {v : Option Value} (pc1 : Nat) (As rest : List Value) (hM : zM E (xl X) d1 y bytes maxL rt (.ref b :: As) h v h1)
    (hcode : Cond.code y bytes maxL rt ∈ UU) (hlink : Cond.methodLink own index y ∈ UU) (hinst : Cond.instanceMethod y ∈ UU) (hsel : Cond.selects Cn y y ∈ UU) (hini : Cond.initialized Cn ∈ UU) (hcl : vwCl[ci]? = some (Cn, T, N)) (hb : h b = some (.inr (ci, fs)))
    (hd : y.cls = Cn ∧ y.cls ≠ "java/lang/invoke/MethodHandle" ∧ y.cls ≠ "java/lang/invoke/VarHandle" ∧ (parseMethodDescriptor y.desc).map (fun d => d.parameters.length) = some As.length) (hd1 : d1 + 1 ≤ d) (hmx : maxL ≤ 29) (hst : st = As.reverse ++ .ref b :: rest) (hcat : (rest.map fun v => v.category).sum ≤ 8) (hk : k ≤ (xR X).cells ∧ n ≤ (xR X).slots) (hpc : pc + 3 = pc1) (hdg : decode cc pc = .ok (.invokevirtual index, 3))
    (kk : zW E X nL k n Q pc1 h1 lv (v.toList ++ rest)) : zW E X nL k n Q pc h lv st := by
  subst hst
  refine z_run (av := .ref b :: As) hpc (fun H locs ls hP hS hl => ?_) kk
  exact va_runV (As := As) (rest := rest) (b := b) C.fix hM ⟨callB_of As.length C.2.2.2.2.1 (UU_cons hcode) rfl rfl rfl (by rw [hd.1]; exact C.2.2.2.2.1 _ hini) (C.2.2.2.2.1 _ hlink) hd.2 (C.room hd1 hmx), C.2.2.2.2.1 _ hinst, C.2.2.2.2.1 _ hsel⟩
    ⟨zPre.blind E _ h, va_recv C.2.2.2.2.2.2.2.2.1.1 (hP.one hb) hcl (q0 := 0) rfl, fun U hU hW => ⟨rfl, C.pre hP hS U hU hW⟩⟩ rfl rfl hl.1 rfl (lv_room hcat) hdg hk
theorem z_callS (C : zC E X own cc nL ret d) {y : MethodName} {bytes : ByteArray} {maxL d1 index : Nat} {rt : Option FieldType} {h1 : Hp} {v : Option Value} (pc1 : Nat) (As rest : List Value) (hM : zM E (xl X) d1 y bytes maxL rt As h v h1)
    (hcode : Cond.code y bytes maxL rt ∈ UU) (hlink : Cond.methodLink own index y ∈ UU) (hstat : Cond.static y ∈ UU) (hini : Cond.initialized y.cls ∈ UU)
    (hd : y.cls ≠ "java/lang/invoke/MethodHandle" ∧ y.cls ≠ "java/lang/invoke/VarHandle" ∧ (parseMethodDescriptor y.desc).map (fun d => d.parameters.length) = some As.length) (hd1 : d1 + 1 ≤ d) (hmx : maxL ≤ 29) (hst : st = As.reverse ++ rest) (hcat : (rest.map fun v => v.category).sum ≤ 8) (hk : k ≤ (xR X).cells ∧ n ≤ (xR X).slots) (hpc : pc + 3 = pc1) (hdg : decode cc pc = .ok (.invokestatic index, 3))
    (kk : zW E X nL k n Q pc1 h1 lv (v.toList ++ rest)) : zW E X nL k n Q pc h lv st := by
  subst hst
  refine z_run (av := As) hpc (fun H locs ls hP hS hl => ?_) kk
  exact va_runS (As := As) (rest := rest) C.fix hM ⟨callB_of As.length C.2.2.2.2.1 (UU_cons hcode) rfl rfl rfl (C.2.2.2.2.1 _ hini) (C.2.2.2.2.1 _ hlink) hd (C.room hd1 hmx), C.2.2.2.2.1 _ hstat⟩
    ⟨zPre.blind E _ h, fun U hU hW => ⟨rfl, C.pre hP hS U hU hW⟩⟩ rfl rfl hl.1 rfl (lv_room hcat) hdg hk
theorem z_callSN (C : zC E X own cc nL ret d) {y : MethodName} {bytes : ByteArray} {maxL d1 index : Nat} {host : String} {rt : Option FieldType} {h1 : Hp} {v : Option Value} (pc1 : Nat) (As rest : List Value) (hM : zM E (xl X) d1 y bytes maxL rt As h v h1)
    (hcode : Cond.code y bytes maxL rt ∈ UU) (hlink : (own, index, y, host) ∈ zNestM) (hstat : Cond.static y ∈ UU) (hini : Cond.initialized y.cls ∈ UU)
    (hd : y.cls ≠ "java/lang/invoke/MethodHandle" ∧ y.cls ≠ "java/lang/invoke/VarHandle" ∧ (parseMethodDescriptor y.desc).map (fun d => d.parameters.length) = some As.length) (hd1 : d1 + 1 ≤ d) (hmx : maxL ≤ 29) (hst : st = As.reverse ++ rest) (hcat : (rest.map fun v => v.category).sum ≤ 8) (hk : k ≤ (xR X).cells ∧ n ≤ (xR X).slots) (hpc : pc + 3 = pc1) (hdg : decode cc pc = .ok (.invokestatic index, 3))
    (kk : zW E X nL k n Q pc1 h1 lv (v.toList ++ rest)) : zW E X nL k n Q pc h lv st := by
  subst hst
  refine z_run (av := As) hpc (fun H locs ls hP hS hl => ?_) kk
  exact va_runSN (As := As) (rest := rest) C.fix hM ⟨va_cnB As.length C.2.2.2.2.1 (UU_cons hcode) rfl rfl rfl (C.2.2.2.2.2.2.2.2.1.2.1 _ hlink) (C.2.2.2.2.1 _ hini) hd (C.room hd1 hmx), C.2.2.2.2.1 _ hstat, trivial⟩
    ⟨zPre.blind E _ h, fun U hU hW => ⟨rfl, C.pre hP hS U hU hW⟩⟩ rfl rfl hl.1 rfl (lv_room hcat) hdg hk
theorem z_max (C : zC E X own cc nL ret d) {index : Nat} {x y : Int32} (hlink : Cond.methodLink own index Lib.Math.max.name ∈ UU) (hstat : Cond.static Lib.Math.max.name ∈ UU) (hini : Cond.initialized "java/lang/Math" ∈ UU) (hcode : Cond.code Lib.Math.max.name Lib.Math.max.code 2 (some .int) ∈ UU) (hd1 : 1 ≤ d) (hcat : (st.map fun v => v.category).sum ≤ 8) (hk : k ≤ (xR X).cells ∧ n ≤ (xR X).slots) (hdg : decode cc pc = .ok (.invokestatic index, 3))
    (kk : zW E X nL k n Q (pc + 3) h lv (.int (if x < y then y else x) :: st)) : zW E X nL k n Q pc h lv (.int y :: .int x :: st) := fun H locs ls hP hS hl =>
  va_mmax C.1 C.2.1 (C.2.2.1.trans hl.1.symm) C.2.2.2.1 (C.2.2.2.2.1 _ hlink) (C.2.2.2.2.1 _ hstat) (C.2.2.2.2.1 _ hini) (C.2.2.2.2.1 _ hcode) (Nat.le_trans hd1 C.2.2.2.2.2.2.2.2.2.2.1) (by have := C.2.2.2.2.2.2.2.2.2.2.2; omega) hk.1 hk.2 hdg (kk H locs ls hP hS hl)
theorem z_min (C : zC E X own cc nL ret d) {index : Nat} {x y : Int32} (hlink : Cond.methodLink own index Lib.Math.min.name ∈ UU) (hstat : Cond.static Lib.Math.min.name ∈ UU) (hini : Cond.initialized "java/lang/Math" ∈ UU) (hcode : Cond.code Lib.Math.min.name Lib.Math.min.code 2 (some .int) ∈ UU) (hd1 : 1 ≤ d) (hcat : (st.map fun v => v.category).sum ≤ 8) (hk : k ≤ (xR X).cells ∧ n ≤ (xR X).slots) (hdg : decode cc pc = .ok (.invokestatic index, 3))
    (kk : zW E X nL k n Q (pc + 3) h lv (.int (if y < x then y else x) :: st)) : zW E X nL k n Q pc h lv (.int y :: .int x :: st) := fun H locs ls hP hS hl =>
  va_mmin C.1 C.2.1 (C.2.2.1.trans hl.1.symm) C.2.2.2.1 (C.2.2.2.2.1 _ hlink) (C.2.2.2.2.1 _ hstat) (C.2.2.2.2.1 _ hini) (C.2.2.2.2.1 _ hcode) (Nat.le_trans hd1 C.2.2.2.2.2.2.2.2.2.2.1) (by have := C.2.2.2.2.2.2.2.2.2.2.2; omega) hk.1 hk.2 hdg (kk H locs ls hP hS hl)
end ZW
/-- a method's body, from its entry -/
theorem zM_of {E : zE} {l : Launch} {d : Nat} {y : MethodName} {bytes : ByteArray} {maxL : Nat} {ret : Option FieldType} {av : List Value} {h h' : Hp} {v : Option Value} {lv : List (Nat × Value)} (hy : plainName y.cls = true) (hlen : (lg_sl av).length ≤ maxL) (hlv : lv_args 0 av = lv)
    (body : ∀ X : zX, xl X = l → zC E X y.cls bytes maxL ret d → zW E X maxL 0 0 (MQ (xb X) (zQ E v h') (xa X) (xs X) 0 0 (zA E)) 0 h lv []) : zM E l d y bytes maxL ret av h v h' := by
  refine Met.ofW (cc := bytes) (maxL := maxL) (ret := ret) hy rfl ?_
  intro p e s m args below meth c s₁ B hml hv
  obtain ⟨rfl, hN, hP, hK, hS0⟩ := hv
  have hts0 := atoms_spec (ws := Cond.code y bytes maxL ret :: UU) B.pre
  have hts : ∀ w ∈ UU, w.before av.toArray s = true := fun w hw => hts0 w (List.mem_cons_of_mem _ hw)
  have hown : s.vm.findClass y.cls = some m.cls := findClass_of_methodNamed B.named
  have hl := lv_entry av (n := maxL) hlen
  rw [lg_entry_eq]
  rw [hlv] at hl
  exact body (p, l, e, (headSpec (Cond.code y bytes maxL ret :: UU) (zR d)).room, s, m, av.toArray, below, meth, c) rfl ⟨B.exec, B.bytes, hml, hown, hts, B.returns, B.notSynchronized, hN, hK, hS0, Nat.le_refl _, Nat.le_refl _⟩ s.heap [] _ hP va_S.rf hl
/-- System.arraycopy between two int arrays of the map -/
theorem z_copy {E : zE} {X : zX} {own : String} {cc : ByteArray} {nL d k n : Nat} {ret : Option FieldType} {Q : State → Prop} {pc : Nat} {h : Hp} {lv : List (Nat × Value)} {st : List Value} (C : zC E X own cc nL ret d) {index a0 a n0 n1 : Nat} {f g : Nat → Int32} {sp dp m : Int32}
    (hlink : Cond.methodLink own index arraycopyName ∈ UU) (hnat : Cond.native arraycopyName ∈ UU) (hstat : Cond.static arraycopyName ∈ UU) (hini : Cond.initialized "java/lang/System" ∈ UU) (ha0 : h a0 = some (.inl (zI E, n0, .inl f))) (ha1 : h a = some (.inl (zI E, n1, .inl g)))
    (h1 : ¬ sp < 0) (h2 : ¬ dp < 0) (h3 : ¬ m < 0) (h4 : sp.toNatClampNeg + m.toNatClampNeg ≤ n0) (h5 : dp.toNatClampNeg + m.toNatClampNeg ≤ n1) (hd1 : 1 ≤ d) (hcat : (st.map fun v => v.category).sum ≤ 8) (hdg : decode cc pc = .ok (.invokestatic index, 3)) (h' : Hp)
    (e : hup h a (.inl (zI E, n1, .inl (va_cpy f g sp.toNatClampNeg dp.toNatClampNeg m.toNatClampNeg))) = h') (kk : zW E X nL k n Q (pc + 3) h' lv st) : zW E X nL k n Q pc h lv (.int m :: .int dp :: .ref a :: .int sp :: .ref a0 :: st) := by
  intro H locs ls hP hS hl
  have nn : ∀ z : Int32, ¬ z < 0 → z.toInt = (z.toNatClampNeg : Int) := by
    intro z hz
    have hz0 : (0 : Int) ≤ z.toInt := by
      have := Int32.not_lt.mp hz
      simpa using Int32.le_iff_toInt_le.mp this
    show z.toInt = ((z.toInt.toNat : Nat) : Int)
    omega
  intro T hT X9
  have hc0 : H[a0]? = some (vp_cell (zI E) (n0, .inl f)) := (hP a0 _ ha0).2
  have hc1 : H[a]? = some (vp_cell (zI E) (n1, .inl g)) := (hP a _ ha1).2
  have hNa := (hP a _ ha1).1
  have hK := C.2.2.2.2.2.2.2.2.1.1
  obtain ⟨-, k0, hk0, cm0, hkk0⟩ := (hK.2 0 _ rfl).1 n0 (fun j => .int (f j))
  obtain ⟨-, k1, hk1, cm1, hkk1⟩ := (hK.2 0 _ rfl).1 n1 (fun j => .int (g j))
  obtain ⟨vm', X', step⟩ := X9.arraycopy C.1 C.2.2.2.1 (C.2.2.2.2.1 _ hlink) (C.2.2.2.2.1 _ hnat) (C.2.2.2.2.1 _ hstat) (C.2.2.2.2.1 _ hini) (src := a0) (dst := a) (cs := vp_cell (zI E) (n0, .inl f)) (cd := vp_cell (zI E) (n1, .inl g)) (srcPos := sp) (destPos := dp) (n := m) (by rw [hT]; exact hc0) (by rw [hT]; exact hc1)
    (fun _ h => by cases h) (fun _ h => by cases h) (fun h => by cases h) (fun h => by cases h) hk0 hk1 hkk0 hkk1 (by rfl) h1 h2 h3
    (by rw [nn sp h1, nn m h3]; show ¬ _ > ((arrV (zI E) n0 (fun j => .int (f j))).slots.size : Int); rw [arrV_size]; omega)
    (by rw [nn dp h2, nn m h3]; show ¬ _ > ((arrV (zI E) n1 (fun j => .int (g j))).slots.size : Int); rw [arrV_size]; omega)
    (fun vm₁ _ i hi => by
      have e : (vp_cell (zI E) (n0, .inl f)).slots.getD (sp.toNatClampNeg + i) .null = .int (f (sp.toNatClampNeg + i)) := by
        show (arrV (zI E) n0 (fun j => .int (f j))).slots.getD _ _ = _
        rw [Array.getD_eq_getD_getElem?, arrV_read _ _ (by omega)]
        rfl
      refine ⟨?_, ?_⟩
      · rw [e]
        rfl
      · rw [e]
        exact trivial)
    (g := F0 (xm X) pc ls (.int m :: .int dp :: .ref a :: .int sp :: .ref a0 :: st)) rfl (by rw [C.2.2.1]; exact hl.1) (rest := st) rfl (by rw [C.2.1]; exact hdg) (Nat.le_trans hd1 C.2.2.2.2.2.2.2.2.2.2.1) (by
      have q1 := C.2.2.2.2.2.2.2.2.2.2.2
      have q2 : nativeFrameWords "java/lang/System" "arraycopy" 5 + 11 ≤ 40 := by decide +kernel
      show 2 * 0 + _ + _ ≤ _
      omega)
  have e1 : copied (vp_cell (zI E) (n0, .inl f)) (vp_cell (zI E) (n1, .inl g)) sp dp m = vp_cell (zI E) (n1, .inl (va_cpy f g sp.toNatClampNeg dp.toNatClampNeg m.toNatClampNeg)) := va_copied (fun z => .int z) (zI E) (zI E) f g h4
  rw [e1] at X' step
  have hl9 : a < H.size := (Array.getElem?_eq_some_iff.mp hc1).1
  have oq : ∀ q : Nat, q ≠ a → (H.setIfInBounds a (vp_cell (zI E) (n1, .inl (va_cpy f g sp.toNatClampNeg dp.toNatClampNeg m.toNatClampNeg))))[q]? = H[q]? := fun q hq => by simp [Array.getElem?_setIfInBounds, Ne.symm hq]
  have hheap : ((T.setVm vm').setCell a (vp_cell (zI E) (n1, .inl (va_cpy f g sp.toNatClampNeg dp.toNatClampNeg m.toNatClampNeg)))).heap = H.setIfInBounds a (vp_cell (zI E) (n1, .inl (va_cpy f g sp.toNatClampNeg dp.toNatClampNeg m.toNatClampNeg))) := by rw [← hT]; rfl
  obtain ⟨t, a1, b1⟩ := kk _ _ ls (by rw [← e]; exact hP.up hNa (show (H.setIfInBounds a _)[a]? = some _ by simp [Array.getElem?_setIfInBounds, hl9]) oq) ⟨by simp; exact hS.1, fun q g1 g2 => by
      rw [oq q (fun e => g2 (by rw [e]; exact hNa))]
      exact hS.2.1 q g1 g2, fun q hq => by
      rcases List.mem_append.mp hq with h | h
      · exact hS.2.2 q h
      · obtain ⟨z, -, hz⟩ := List.mem_map.mp h
        rw [← hz]
        exact hNa⟩ hl _ hheap X'
  exact ⟨t, step t a1, b1⟩
end
section
theorem mt_t {w : Cond} (h : w ∈ tables_1) : w ∈ lw_tbl := List.mem_append_right _ h
theorem mt_1 {w : Cond} (h : w ∈ tables_1_1) : w ∈ lw_tbl := mt_t (List.mem_append_left _ h)
theorem mt_2 {w : Cond} (h : w ∈ tables_1_2) : w ∈ lw_tbl := mt_t (List.mem_append_right _ (List.mem_append_left _ h))
theorem mt_3 {w : Cond} (h : w ∈ tables_1_3) : w ∈ lw_tbl := mt_t (List.mem_append_right _ (List.mem_append_right _ (List.mem_append_left _ h)))
theorem mt_4 {w : Cond} (h : w ∈ tables_1_4) : w ∈ lw_tbl := mt_t (List.mem_append_right _ (List.mem_append_right _ (List.mem_append_right _ (h))))
theorem ini_L : Cond.initialized RL ∈ UU := UU_of (mt_1 (List.mem_of_getElem? (i := 0) (by decide +kernel))) (by decide +kernel)
theorem ini_X5 : Cond.initialized RX5 ∈ UU := UU_of (mt_1 (List.mem_of_getElem? (i := 1) (by decide +kernel))) (by decide +kernel)
theorem ini_X4 : Cond.initialized RX4 ∈ UU := UU_of (mt_1 (List.mem_of_getElem? (i := 2) (by decide +kernel))) (by decide +kernel)
theorem ini_X0 : Cond.initialized RX0 ∈ UU := UU_of (mt_1 (List.mem_of_getElem? (i := 3) (by decide +kernel))) (by decide +kernel)
theorem ini_X2 : Cond.initialized RX2 ∈ UU := UU_of (mt_1 (List.mem_of_getElem? (i := 4) (by decide +kernel))) (by decide +kernel)
theorem ini_J7 : Cond.initialized "java/util/Arrays" ∈ UU := UU_of (mt_1 (List.mem_of_getElem? (i := 5) (by decide +kernel))) (by decide +kernel)
theorem ini_X1 : Cond.initialized RX1 ∈ UU := UU_of (mt_1 (List.mem_of_getElem? (i := 6) (by decide +kernel))) (by decide +kernel)
theorem ini_X3 : Cond.initialized RX3 ∈ UU := UU_of (mt_1 (List.mem_of_getElem? (i := 7) (by decide +kernel))) (by decide +kernel)
theorem ini_Throwable : Cond.initialized "java/lang/Throwable" ∈ UU := UU_of (mt_1 (List.mem_of_getElem? (i := 8) (by decide +kernel))) (by decide +kernel)
theorem ini_Exception : Cond.initialized "java/lang/Exception" ∈ UU := UU_of (mt_1 (List.mem_of_getElem? (i := 9) (by decide +kernel))) (by decide +kernel)
theorem ini_RuntimeException : Cond.initialized "java/lang/RuntimeException" ∈ UU := UU_of (mt_1 (List.mem_of_getElem? (i := 10) (by decide +kernel))) (by decide +kernel)
theorem ini_IllegalArgumentException : Cond.initialized "java/lang/IllegalArgumentException" ∈ UU := UU_of (mt_1 (List.mem_of_getElem? (i := 11) (by decide +kernel))) (by decide +kernel)
theorem ini_IllegalStateException : Cond.initialized "java/lang/IllegalStateException" ∈ UU := UU_of (mt_1 (List.mem_of_getElem? (i := 12) (by decide +kernel))) (by decide +kernel)
theorem ini_J6 : Cond.initialized "java/lang/Integer" ∈ UU := UU_of (mt_1 (List.mem_of_getElem? (i := 13) (by decide +kernel))) (by decide +kernel)
theorem ini_IndexOutOfBoundsException : Cond.initialized "java/lang/IndexOutOfBoundsException" ∈ UU := UU_of (mt_1 (List.mem_of_getElem? (i := 14) (by decide +kernel))) (by decide +kernel)
theorem ini_J9 : Cond.initialized "java/lang/Math" ∈ UU := UU_of (mt_1 (List.mem_of_getElem? (i := 15) (by decide +kernel))) (by decide +kernel)
theorem ini_System : Cond.initialized "java/lang/System" ∈ UU := UU_of (mt_1 (List.mem_of_getElem? (i := 16) (by decide +kernel))) (by decide +kernel)
theorem kl_L_8 : Cond.classLink RL 8 RX5 ∈ UU := UU_of (mt_1 (List.mem_of_getElem? (i := 17) (by decide +kernel))) (by decide +kernel)
theorem ib_X5 : Cond.instantiable RX5 6 ∈ UU := UU_of (mt_1 (List.mem_of_getElem? (i := 18) (by decide +kernel))) (by decide +kernel)
theorem ml_L_172 : Cond.methodLink RL 172 yX5_init ∈ UU := UU_of (mt_1 (List.mem_of_getElem? (i := 19) (by decide +kernel))) (by decide +kernel)
theorem im_X5_init : Cond.instanceMethod yX5_init ∈ UU := UU_of (mt_1 (List.mem_of_getElem? (i := 20) (by decide +kernel))) (by decide +kernel)
theorem co_X5_init : Cond.code yX5_init cX5_init 1 none ∈ UU := UU_of (mt_1 (List.mem_of_getElem? (i := 21) (by decide +kernel))) (by decide +kernel)
theorem ml_X5_1 : Cond.methodLink RX5 1 objectInit ∈ UU := UU_of (mt_1 (List.mem_of_getElem? (i := 22) (by decide +kernel))) (by decide +kernel)
theorem im_Object__init____V : Cond.instanceMethod objectInit ∈ UU := UU_of (mt_1 (List.mem_of_getElem? (i := 23) (by decide +kernel))) (by decide +kernel)
theorem co_Object__init____V : Cond.code objectInit ⟨#[0xb1]⟩ 1 none ∈ UU := UU_of (mt_1 (List.mem_of_getElem? (i := 24) (by decide +kernel))) (by decide +kernel)
theorem kl_X5_7 : Cond.classLink RX5 7 RX4 ∈ UU := UU_of (mt_1 (List.mem_of_getElem? (i := 25) (by decide +kernel))) (by decide +kernel)
theorem ib_X4 : Cond.instantiable RX4 2 ∈ UU := UU_of (mt_1 (List.mem_of_getElem? (i := 26) (by decide +kernel))) (by decide +kernel)
theorem im_X4_init : Cond.instanceMethod yX4_init ∈ UU := UU_of (mt_1 (List.mem_of_getElem? (i := 28) (by decide +kernel))) (by decide +kernel)
theorem co_X4_init : Cond.code yX4_init cX4_init 1 none ∈ UU := UU_of (mt_1 (List.mem_of_getElem? (i := 29) (by decide +kernel))) (by decide +kernel)
theorem ml_X4_3 : Cond.methodLink RX4 3 objectInit ∈ UU := UU_of (mt_1 (List.mem_of_getElem? (i := 30) (by decide +kernel))) (by decide +kernel)
theorem fl_X4_11 : Cond.fieldLink RX4 11 "SpiralDominoes$Text" "signs" "[I" ∈ UU := UU_of (mt_1 (List.mem_of_getElem? (i := 31) (by decide +kernel))) (by decide +kernel)
theorem fl_X4_15 : Cond.fieldLink RX4 15 "SpiralDominoes$Text" "length" "I" ∈ UU := UU_of (mt_1 (List.mem_of_getElem? (i := 32) (by decide +kernel))) (by decide +kernel)
theorem ac_int : Cond.arrayClass .int ∈ UU := UU_of (mt_1 (List.mem_of_getElem? (i := 38) (by decide +kernel))) (by decide +kernel)
theorem kl_X5_16 : Cond.classLink RX5 16 RX0 ∈ UU := UU_of (mt_1 (List.mem_of_getElem? (i := 39) (by decide +kernel))) (by decide +kernel)
theorem ib_X0 : Cond.instantiable RX0 13 ∈ UU := UU_of (mt_1 (List.mem_of_getElem? (i := 40) (by decide +kernel))) (by decide +kernel)
theorem ml_X5_18 : Cond.methodLink RX5 18 yX0_init ∈ UU := UU_of (mt_1 (List.mem_of_getElem? (i := 41) (by decide +kernel))) (by decide +kernel)
theorem im_X0_init : Cond.instanceMethod yX0_init ∈ UU := UU_of (mt_1 (List.mem_of_getElem? (i := 42) (by decide +kernel))) (by decide +kernel)
theorem co_X0_init : Cond.code yX0_init cX0_init 1 none ∈ UU := UU_of (mt_1 (List.mem_of_getElem? (i := 43) (by decide +kernel))) (by decide +kernel)
theorem ml_X0_3 : Cond.methodLink RX0 3 objectInit ∈ UU := UU_of (mt_1 (List.mem_of_getElem? (i := 44) (by decide +kernel))) (by decide +kernel)
theorem kl_X0_24 : Cond.classLink RX0 24 RX2 ∈ UU := UU_of (mt_1 (List.mem_of_getElem? (i := 45) (by decide +kernel))) (by decide +kernel)
theorem ib_X2 : Cond.instantiable RX2 11 ∈ UU := UU_of (mt_1 (List.mem_of_getElem? (i := 46) (by decide +kernel))) (by decide +kernel)
theorem im_X2_init : Cond.instanceMethod yX2_init ∈ UU := UU_of (mt_1 (List.mem_of_getElem? (i := 48) (by decide +kernel))) (by decide +kernel)
theorem co_X2_init : Cond.code yX2_init cX2_init 1 none ∈ UU := UU_of (mt_1 (List.mem_of_getElem? (i := 49) (by decide +kernel))) (by decide +kernel)
theorem ml_X2_3 : Cond.methodLink RX2 3 objectInit ∈ UU := UU_of (mt_1 (List.mem_of_getElem? (i := 50) (by decide +kernel))) (by decide +kernel)
theorem fl_X2_40 : Cond.fieldLink RX2 40 "SpiralDominoes$Line" "size" "I" ∈ UU := UU_of (mt_1 (List.mem_of_getElem? (i := 51) (by decide +kernel))) (by decide +kernel)
theorem fl_X2_9 : Cond.fieldLink RX2 9 "SpiralDominoes$Line" "end" "I" ∈ UU := UU_of (mt_1 (List.mem_of_getElem? (i := 52) (by decide +kernel))) (by decide +kernel)
theorem fl_X2_43 : Cond.fieldLink RX2 43 "SpiralDominoes$Line" "direction" "I" ∈ UU := UU_of (mt_1 (List.mem_of_getElem? (i := 53) (by decide +kernel))) (by decide +kernel)
theorem fl_X2_15 : Cond.fieldLink RX2 15 "SpiralDominoes$Line" "nextX" "I" ∈ UU := UU_of (mt_1 (List.mem_of_getElem? (i := 54) (by decide +kernel))) (by decide +kernel)
theorem fl_X2_18 : Cond.fieldLink RX2 18 "SpiralDominoes$Line" "nextY" "I" ∈ UU := UU_of (mt_1 (List.mem_of_getElem? (i := 55) (by decide +kernel))) (by decide +kernel)
theorem fl_X2_21 : Cond.fieldLink RX2 21 "SpiralDominoes$Line" "tiles" "[I" ∈ UU := UU_of (mt_1 (List.mem_of_getElem? (i := 56) (by decide +kernel))) (by decide +kernel)
theorem fl_X2_25 : Cond.fieldLink RX2 25 "SpiralDominoes$Line" "xs" "[I" ∈ UU := UU_of (mt_1 (List.mem_of_getElem? (i := 57) (by decide +kernel))) (by decide +kernel)
theorem fl_X2_28 : Cond.fieldLink RX2 28 "SpiralDominoes$Line" "ys" "[I" ∈ UU := UU_of (mt_1 (List.mem_of_getElem? (i := 58) (by decide +kernel))) (by decide +kernel)
theorem fl_X2_31 : Cond.fieldLink RX2 31 "SpiralDominoes$Line" "ways" "[I" ∈ UU := UU_of (mt_1 (List.mem_of_getElem? (i := 59) (by decide +kernel))) (by decide +kernel)
theorem fl_X2_34 : Cond.fieldLink RX2 34 "SpiralDominoes$Line" "firsts" "[I" ∈ UU := UU_of (mt_1 (List.mem_of_getElem? (i := 60) (by decide +kernel))) (by decide +kernel)
theorem fl_X2_37 : Cond.fieldLink RX2 37 "SpiralDominoes$Line" "covered" "[I" ∈ UU := UU_of (mt_1 (List.mem_of_getElem? (i := 61) (by decide +kernel))) (by decide +kernel)
theorem ml_X0_31 : Cond.methodLink RX0 31 yX0_becomeNew ∈ UU := UU_of (mt_1 (List.mem_of_getElem? (i := 85) (by decide +kernel))) (by decide +kernel)
theorem im_X0_becomeNew : Cond.instanceMethod yX0_becomeNew ∈ UU := UU_of (mt_1 (List.mem_of_getElem? (i := 86) (by decide +kernel))) (by decide +kernel)
theorem se_X0_becomeNew : Cond.selects RX0 yX0_becomeNew yX0_becomeNew ∈ UU := UU_of (mt_1 (List.mem_of_getElem? (i := 87) (by decide +kernel))) (by decide +kernel)
theorem co_X0_becomeNew : Cond.code yX0_becomeNew cX0_becomeNew 1 none ∈ UU := UU_of (mt_1 (List.mem_of_getElem? (i := 88) (by decide +kernel))) (by decide +kernel)
theorem ml_X0_59 : Cond.methodLink RX0 59 yJ7_fill_53178 ∈ UU := UU_of (mt_1 (List.mem_of_getElem? (i := 89) (by decide +kernel))) (by decide +kernel)
theorem st_J7_fill_53178 : Cond.static yJ7_fill_53178 ∈ UU := UU_of (mt_1 (List.mem_of_getElem? (i := 90) (by decide +kernel))) (by decide +kernel)
theorem co_J7_fill_53178 : Cond.code yJ7_fill_53178 cJ7_fill_53178 4 none ∈ UU := UU_of (mt_1 (List.mem_of_getElem? (i := 91) (by decide +kernel))) (by decide +kernel)
theorem ml_X0_65 : Cond.methodLink RX0 65 yX2_becomeEmpty ∈ UU := UU_of (mt_1 (List.mem_of_getElem? (i := 92) (by decide +kernel))) (by decide +kernel)
theorem im_X2_becomeEmpty : Cond.instanceMethod yX2_becomeEmpty ∈ UU := UU_of (mt_1 (List.mem_of_getElem? (i := 93) (by decide +kernel))) (by decide +kernel)
theorem se_X2_becomeEmpty : Cond.selects RX2 yX2_becomeEmpty yX2_becomeEmpty ∈ UU := UU_of (mt_1 (List.mem_of_getElem? (i := 94) (by decide +kernel))) (by decide +kernel)
theorem co_X2_becomeEmpty : Cond.code yX2_becomeEmpty cX2_becomeEmpty 1 none ∈ UU := UU_of (mt_1 (List.mem_of_getElem? (i := 95) (by decide +kernel))) (by decide +kernel)
theorem ml_X2_46 : Cond.methodLink RX2 46 yJ7_fill_53178 ∈ UU := UU_of (mt_1 (List.mem_of_getElem? (i := 96) (by decide +kernel))) (by decide +kernel)
theorem fl_X0_34 : Cond.fieldLink RX0 34 "SpiralDominoes$Game" "rounds" "I" ∈ UU := UU_of (mt_1 (List.mem_of_getElem? (i := 97) (by decide +kernel))) (by decide +kernel)
theorem fl_X0_38 : Cond.fieldLink RX0 38 "SpiralDominoes$Game" "refused" "I" ∈ UU := UU_of (mt_1 (List.mem_of_getElem? (i := 98) (by decide +kernel))) (by decide +kernel)
theorem fl_X0_41 : Cond.fieldLink RX0 41 "SpiralDominoes$Game" "laidInAll" "I" ∈ UU := UU_of (mt_1 (List.mem_of_getElem? (i := 99) (by decide +kernel))) (by decide +kernel)
theorem fl_X0_44 : Cond.fieldLink RX0 44 "SpiralDominoes$Game" "phase" "I" ∈ UU := UU_of (mt_1 (List.mem_of_getElem? (i := 100) (by decide +kernel))) (by decide +kernel)
theorem fl_X0_47 : Cond.fieldLink RX0 47 "SpiralDominoes$Game" "players" "I" ∈ UU := UU_of (mt_1 (List.mem_of_getElem? (i := 101) (by decide +kernel))) (by decide +kernel)
theorem fl_X0_50 : Cond.fieldLink RX0 50 "SpiralDominoes$Game" "turn" "I" ∈ UU := UU_of (mt_1 (List.mem_of_getElem? (i := 102) (by decide +kernel))) (by decide +kernel)
theorem fl_X0_53 : Cond.fieldLink RX0 53 "SpiralDominoes$Game" "passes" "I" ∈ UU := UU_of (mt_1 (List.mem_of_getElem? (i := 103) (by decide +kernel))) (by decide +kernel)
theorem fl_X0_9 : Cond.fieldLink RX0 9 "SpiralDominoes$Game" "row" "[I" ∈ UU := UU_of (mt_1 (List.mem_of_getElem? (i := 104) (by decide +kernel))) (by decide +kernel)
theorem fl_X0_56 : Cond.fieldLink RX0 56 "SpiralDominoes$Game" "heapBegin" "I" ∈ UU := UU_of (mt_1 (List.mem_of_getElem? (i := 105) (by decide +kernel))) (by decide +kernel)
theorem fl_X0_15 : Cond.fieldLink RX0 15 "SpiralDominoes$Game" "holders" "[I" ∈ UU := UU_of (mt_1 (List.mem_of_getElem? (i := 106) (by decide +kernel))) (by decide +kernel)
theorem fl_X0_18 : Cond.fieldLink RX0 18 "SpiralDominoes$Game" "scores" "[I" ∈ UU := UU_of (mt_1 (List.mem_of_getElem? (i := 107) (by decide +kernel))) (by decide +kernel)
theorem fl_X0_21 : Cond.fieldLink RX0 21 "SpiralDominoes$Game" "wins" "[I" ∈ UU := UU_of (mt_1 (List.mem_of_getElem? (i := 108) (by decide +kernel))) (by decide +kernel)
theorem fl_X0_27 : Cond.fieldLink RX0 27 "SpiralDominoes$Game" "line" "LSpiralDominoes$Line;" ∈ UU := UU_of (mt_1 (List.mem_of_getElem? (i := 109) (by decide +kernel))) (by decide +kernel)
theorem kl_X5_26 : Cond.classLink RX5 26 RX1 ∈ UU := UU_of (mt_1 (List.mem_of_getElem? (i := 137) (by decide +kernel))) (by decide +kernel)
theorem ib_X1 : Cond.instantiable RX1 3 ∈ UU := UU_of (mt_1 (List.mem_of_getElem? (i := 138) (by decide +kernel))) (by decide +kernel)
theorem ml_X5_28 : Cond.methodLink RX5 28 yX1_init ∈ UU := UU_of (mt_1 (List.mem_of_getElem? (i := 139) (by decide +kernel))) (by decide +kernel)
theorem im_X1_init : Cond.instanceMethod yX1_init ∈ UU := UU_of (mt_1 (List.mem_of_getElem? (i := 140) (by decide +kernel))) (by decide +kernel)
theorem co_X1_init : Cond.code yX1_init cX1_init 2 none ∈ UU := UU_of (mt_1 (List.mem_of_getElem? (i := 141) (by decide +kernel))) (by decide +kernel)
theorem ml_X1_3 : Cond.methodLink RX1 3 objectInit ∈ UU := UU_of (mt_1 (List.mem_of_getElem? (i := 142) (by decide +kernel))) (by decide +kernel)
theorem kl_X1_9 : Cond.classLink RX1 9 RX0 ∈ UU := UU_of (mt_1 (List.mem_of_getElem? (i := 143) (by decide +kernel))) (by decide +kernel)
theorem ml_X1_17 : Cond.methodLink RX1 17 yX0_init ∈ UU := UU_of (mt_1 (List.mem_of_getElem? (i := 145) (by decide +kernel))) (by decide +kernel)
theorem fl_X1_11 : Cond.fieldLink RX1 11 "SpiralDominoes$History" "states" "[LSpiralDominoes$Game;" ∈ UU := UU_of (mt_1 (List.mem_of_getElem? (i := 146) (by decide +kernel))) (by decide +kernel)
theorem fl_X1_22 : Cond.fieldLink RX1 22 "SpiralDominoes$History" "begin" "I" ∈ UU := UU_of (mt_1 (List.mem_of_getElem? (i := 147) (by decide +kernel))) (by decide +kernel)
theorem fl_X1_18 : Cond.fieldLink RX1 18 "SpiralDominoes$History" "size" "I" ∈ UU := UU_of (mt_1 (List.mem_of_getElem? (i := 148) (by decide +kernel))) (by decide +kernel)
theorem kl_X5_33 : Cond.classLink RX5 33 RX3 ∈ UU := UU_of (mt_1 (List.mem_of_getElem? (i := 156) (by decide +kernel))) (by decide +kernel)
theorem ib_X3 : Cond.instantiable RX3 2 ∈ UU := UU_of (mt_1 (List.mem_of_getElem? (i := 157) (by decide +kernel))) (by decide +kernel)
theorem im_X3_init : Cond.instanceMethod yX3_init ∈ UU := UU_of (mt_1 (List.mem_of_getElem? (i := 159) (by decide +kernel))) (by decide +kernel)
theorem co_X3_init : Cond.code yX3_init cX3_init 1 none ∈ UU := UU_of (mt_1 (List.mem_of_getElem? (i := 160) (by decide +kernel))) (by decide +kernel)
theorem ml_X3_1 : Cond.methodLink RX3 1 objectInit ∈ UU := UU_of (mt_1 (List.mem_of_getElem? (i := 161) (by decide +kernel))) (by decide +kernel)
theorem kl_X3_7 : Cond.classLink RX3 7 RX0 ∈ UU := UU_of (mt_1 (List.mem_of_getElem? (i := 162) (by decide +kernel))) (by decide +kernel)
theorem ml_X3_9 : Cond.methodLink RX3 9 yX0_init ∈ UU := UU_of (mt_1 (List.mem_of_getElem? (i := 163) (by decide +kernel))) (by decide +kernel)
theorem fl_X3_10 : Cond.fieldLink RX3 10 "SpiralDominoes$Slot" "kept" "LSpiralDominoes$Game;" ∈ UU := UU_of (mt_1 (List.mem_of_getElem? (i := 164) (by decide +kernel))) (by decide +kernel)
theorem fl_X3_16 : Cond.fieldLink RX3 16 "SpiralDominoes$Slot" "full" "Z" ∈ UU := UU_of (mt_1 (List.mem_of_getElem? (i := 165) (by decide +kernel))) (by decide +kernel)
theorem fl_X5_10 : Cond.fieldLink RX5 10 "SpiralDominoes" "text" "LSpiralDominoes$Text;" ∈ UU := UU_of (mt_1 (List.mem_of_getElem? (i := 171) (by decide +kernel))) (by decide +kernel)
theorem fl_X5_19 : Cond.fieldLink RX5 19 "SpiralDominoes" "now" "LSpiralDominoes$Game;" ∈ UU := UU_of (mt_1 (List.mem_of_getElem? (i := 172) (by decide +kernel))) (by decide +kernel)
theorem fl_X5_23 : Cond.fieldLink RX5 23 "SpiralDominoes" "trial" "LSpiralDominoes$Game;" ∈ UU := UU_of (mt_1 (List.mem_of_getElem? (i := 173) (by decide +kernel))) (by decide +kernel)
theorem fl_X5_29 : Cond.fieldLink RX5 29 "SpiralDominoes" "history" "LSpiralDominoes$History;" ∈ UU := UU_of (mt_1 (List.mem_of_getElem? (i := 174) (by decide +kernel))) (by decide +kernel)
theorem fl_X5_36 : Cond.fieldLink RX5 36 "SpiralDominoes" "firstSlot" "LSpiralDominoes$Slot;" ∈ UU := UU_of (mt_1 (List.mem_of_getElem? (i := 175) (by decide +kernel))) (by decide +kernel)
theorem fl_X5_40 : Cond.fieldLink RX5 40 "SpiralDominoes" "secondSlot" "LSpiralDominoes$Slot;" ∈ UU := UU_of (mt_1 (List.mem_of_getElem? (i := 176) (by decide +kernel))) (by decide +kernel)
theorem ml_L_173 : Cond.methodLink RL 173 yL_cell ∈ UU := UU_of (mt_1 (List.mem_of_getElem? (i := 190) (by decide +kernel))) (by decide +kernel)
theorem st_L_cell : Cond.static yL_cell ∈ UU := UU_of (mt_1 (List.mem_of_getElem? (i := 191) (by decide +kernel))) (by decide +kernel)
theorem co_L_cell : Cond.code yL_cell cL_cell 2 (some .int) ∈ UU := UU_of (mt_1 (List.mem_of_getElem? (i := 192) (by decide +kernel))) (by decide +kernel)
theorem cn_L_137 : Cond.constant RL 137 (15520091) ∈ UU := UU_of (mt_1 (List.mem_of_getElem? (i := 193) (by decide +kernel))) (by decide +kernel)
theorem cn_L_138 : Cond.constant RL 138 (2147483647) ∈ UU := UU_of (mt_1 (List.mem_of_getElem? (i := 194) (by decide +kernel))) (by decide +kernel)
theorem ml_L_181 : Cond.methodLink RL 181 yL_refuses ∈ UU := UU_of (mt_1 (List.mem_of_getElem? (i := 195) (by decide +kernel))) (by decide +kernel)
theorem st_L_refuses : Cond.static yL_refuses ∈ UU := UU_of (mt_1 (List.mem_of_getElem? (i := 196) (by decide +kernel))) (by decide +kernel)
set_option maxRecDepth 100000 in
theorem co_L_refuses : Cond.code yL_refuses cL_refuses 9 (some .boolean) ∈ UU := UU_of (mt_1 (List.mem_of_getElem? (i := 197) rfl)) (by decide +kernel)
theorem ml_L_139 : Cond.methodLink RL 139 yL_call ∈ UU := UU_of (mt_1 (List.mem_of_getElem? (i := 198) (by decide +kernel))) (by decide +kernel)
theorem st_L_call : Cond.static yL_call ∈ UU := UU_of (mt_1 (List.mem_of_getElem? (i := 199) (by decide +kernel))) (by decide +kernel)
theorem co_L_call : Cond.code yL_call cL_call 5 (some .int) ∈ UU := UU_of (mt_1 (List.mem_of_getElem? (i := 200) (by decide +kernel))) (by decide +kernel)
theorem ml_L_84 : Cond.methodLink RL 84 yL_tryAppend ∈ UU := UU_of (mt_1 (List.mem_of_getElem? (i := 201) (by decide +kernel))) (by decide +kernel)
theorem st_L_tryAppend : Cond.static yL_tryAppend ∈ UU := UU_of (mt_1 (List.mem_of_getElem? (i := 202) (by decide +kernel))) (by decide +kernel)
theorem co_L_tryAppend : Cond.codeWith yL_tryAppend cL_tryAppend 3 (some .int) [(0, 5, 6, 13), (0, 5, 10, 23)] ∈ UU := UU_of (mt_1 (List.mem_of_getElem? (i := 203) (by decide +kernel))) (by decide +kernel)
theorem kl_L_13 : Cond.classLink RL 13 "java/lang/IllegalArgumentException" ∈ UU := UU_of (mt_1 (List.mem_of_getElem? (i := 204) (by decide +kernel))) (by decide +kernel)
theorem kl_L_23 : Cond.classLink RL 23 "java/lang/IllegalStateException" ∈ UU := UU_of (mt_1 (List.mem_of_getElem? (i := 205) (by decide +kernel))) (by decide +kernel)
theorem ml_L_33 : Cond.methodLink RL 33 yX5_append ∈ UU := UU_of (mt_1 (List.mem_of_getElem? (i := 206) (by decide +kernel))) (by decide +kernel)
theorem im_X5_append : Cond.instanceMethod yX5_append ∈ UU := UU_of (mt_1 (List.mem_of_getElem? (i := 207) (by decide +kernel))) (by decide +kernel)
theorem se_X5_append : Cond.selects RX5 yX5_append yX5_append ∈ UU := UU_of (mt_1 (List.mem_of_getElem? (i := 208) (by decide +kernel))) (by decide +kernel)
theorem co_X5_append : Cond.code yX5_append cX5_append 2 (some .int) ∈ UU := UU_of (mt_1 (List.mem_of_getElem? (i := 209) (by decide +kernel))) (by decide +kernel)
theorem kl_X5_43 : Cond.classLink RX5 43 "java/lang/IllegalArgumentException" ∈ UU := UU_of (mt_1 (List.mem_of_getElem? (i := 210) (by decide +kernel))) (by decide +kernel)
theorem ml_X5_47 : Cond.methodLink RX5 47 (⟨"java/lang/IllegalArgumentException", "<init>", "(Ljava/lang/String;)V"⟩ : MethodName) ∈ UU := UU_of (mt_2 (List.mem_of_getElem? (i := 12) (by decide +kernel))) (by decide +kernel)
theorem ac_byte : Cond.arrayClass .byte ∈ UU := UU_of (mt_2 (List.mem_of_getElem? (i := 37) (by decide +kernel))) (by decide +kernel)
theorem ml_X5_50 : Cond.methodLink RX5 50 yX4_isFull ∈ UU := UU_of (mt_2 (List.mem_of_getElem? (i := 38) (by decide +kernel))) (by decide +kernel)
theorem im_X4_isFull : Cond.instanceMethod yX4_isFull ∈ UU := UU_of (mt_2 (List.mem_of_getElem? (i := 39) (by decide +kernel))) (by decide +kernel)
theorem se_X4_isFull : Cond.selects RX4 yX4_isFull yX4_isFull ∈ UU := UU_of (mt_2 (List.mem_of_getElem? (i := 40) (by decide +kernel))) (by decide +kernel)
theorem co_X4_isFull : Cond.code yX4_isFull cX4_isFull 1 (some .boolean) ∈ UU := UU_of (mt_2 (List.mem_of_getElem? (i := 41) (by decide +kernel))) (by decide +kernel)
theorem kl_X5_54 : Cond.classLink RX5 54 "java/lang/IllegalStateException" ∈ UU := UU_of (mt_2 (List.mem_of_getElem? (i := 42) (by decide +kernel))) (by decide +kernel)
theorem ml_X5_58 : Cond.methodLink RX5 58 (⟨"java/lang/IllegalStateException", "<init>", "(Ljava/lang/String;)V"⟩ : MethodName) ∈ UU := UU_of (mt_2 (List.mem_of_getElem? (i := 52) (by decide +kernel))) (by decide +kernel)
theorem ml_X5_59 : Cond.methodLink RX5 59 yX4_add ∈ UU := UU_of (mt_2 (List.mem_of_getElem? (i := 58) (by decide +kernel))) (by decide +kernel)
theorem im_X4_add : Cond.instanceMethod yX4_add ∈ UU := UU_of (mt_2 (List.mem_of_getElem? (i := 59) (by decide +kernel))) (by decide +kernel)
theorem se_X4_add : Cond.selects RX4 yX4_add yX4_add ∈ UU := UU_of (mt_2 (List.mem_of_getElem? (i := 60) (by decide +kernel))) (by decide +kernel)
theorem co_X4_add : Cond.code yX4_add cX4_add 2 (some .int) ∈ UU := UU_of (mt_2 (List.mem_of_getElem? (i := 61) (by decide +kernel))) (by decide +kernel)
theorem cn_L_15 : Cond.constant RL 15 (-9999002) ∈ UU := UU_of (mt_2 (List.mem_of_getElem? (i := 62) (by decide +kernel))) (by decide +kernel)
theorem cn_L_25 : Cond.constant RL 25 (-9999003) ∈ UU := UU_of (mt_2 (List.mem_of_getElem? (i := 63) (by decide +kernel))) (by decide +kernel)
theorem ml_L_90 : Cond.methodLink RL 90 yL_tryLoad ∈ UU := UU_of (mt_2 (List.mem_of_getElem? (i := 64) (by decide +kernel))) (by decide +kernel)
theorem st_L_tryLoad : Cond.static yL_tryLoad ∈ UU := UU_of (mt_2 (List.mem_of_getElem? (i := 65) (by decide +kernel))) (by decide +kernel)
theorem co_L_tryLoad : Cond.codeWith yL_tryLoad cL_tryLoad 2 (some .int) [(0, 4, 5, 23)] ∈ UU := UU_of (mt_2 (List.mem_of_getElem? (i := 66) (by decide +kernel))) (by decide +kernel)
theorem ml_L_37 : Cond.methodLink RL 37 yX5_load ∈ UU := UU_of (mt_2 (List.mem_of_getElem? (i := 67) (by decide +kernel))) (by decide +kernel)
theorem im_X5_load : Cond.instanceMethod yX5_load ∈ UU := UU_of (mt_2 (List.mem_of_getElem? (i := 68) (by decide +kernel))) (by decide +kernel)
theorem se_X5_load : Cond.selects RX5 yX5_load yX5_load ∈ UU := UU_of (mt_2 (List.mem_of_getElem? (i := 69) (by decide +kernel))) (by decide +kernel)
theorem co_X5_load : Cond.code yX5_load cX5_load 1 (some .int) ∈ UU := UU_of (mt_2 (List.mem_of_getElem? (i := 70) (by decide +kernel))) (by decide +kernel)
theorem ml_X5_67 : Cond.methodLink RX5 67 yX4_firstError ∈ UU := UU_of (mt_2 (List.mem_of_getElem? (i := 71) (by decide +kernel))) (by decide +kernel)
theorem im_X4_firstError : Cond.instanceMethod yX4_firstError ∈ UU := UU_of (mt_2 (List.mem_of_getElem? (i := 72) (by decide +kernel))) (by decide +kernel)
theorem se_X4_firstError : Cond.selects RX4 yX4_firstError yX4_firstError ∈ UU := UU_of (mt_2 (List.mem_of_getElem? (i := 73) (by decide +kernel))) (by decide +kernel)
theorem co_X4_firstError : Cond.code yX4_firstError cX4_firstError 3 (some .int) ∈ UU := UU_of (mt_2 (List.mem_of_getElem? (i := 74) (by decide +kernel))) (by decide +kernel)
theorem ml_X4_19 : Cond.methodLink RX4 19 yX4_signAt ∈ UU := UU_of (mt_2 (List.mem_of_getElem? (i := 75) (by decide +kernel))) (by decide +kernel)
theorem im_X4_signAt : Cond.instanceMethod yX4_signAt ∈ UU := UU_of (mt_2 (List.mem_of_getElem? (i := 76) (by decide +kernel))) (by decide +kernel)
theorem se_X4_signAt : Cond.selects RX4 yX4_signAt yX4_signAt ∈ UU := UU_of (mt_2 (List.mem_of_getElem? (i := 77) (by decide +kernel))) (by decide +kernel)
theorem co_X4_signAt : Cond.code yX4_signAt cX4_signAt 2 (some .int) ∈ UU := UU_of (mt_2 (List.mem_of_getElem? (i := 78) (by decide +kernel))) (by decide +kernel)
theorem ml_X4_26 : Cond.methodLink RX4 26 yX4_isAllowed ∈ UU := UU_of (mt_2 (List.mem_of_getElem? (i := 79) (by decide +kernel))) (by decide +kernel)
theorem im_X4_isAllowed : Cond.instanceMethod yX4_isAllowed ∈ UU := UU_of (mt_2 (List.mem_of_getElem? (i := 81) (by decide +kernel))) (by decide +kernel)
theorem co_X4_isAllowed : Cond.code yX4_isAllowed cX4_isAllowed 3 (some .boolean) ∈ UU := UU_of (mt_2 (List.mem_of_getElem? (i := 82) (by decide +kernel))) (by decide +kernel)
theorem ml_X4_33 : Cond.methodLink RX4 33 yX4_lengthOfCommand ∈ UU := UU_of (mt_2 (List.mem_of_getElem? (i := 83) (by decide +kernel))) (by decide +kernel)
theorem st_X4_lengthOfCommand : Cond.static yX4_lengthOfCommand ∈ UU := UU_of (mt_2 (List.mem_of_getElem? (i := 84) (by decide +kernel))) (by decide +kernel)
theorem co_X4_lengthOfCommand : Cond.code yX4_lengthOfCommand cX4_lengthOfCommand 1 (some .int) ∈ UU := UU_of (mt_2 (List.mem_of_getElem? (i := 85) (by decide +kernel))) (by decide +kernel)
theorem ml_X4_36 : Cond.methodLink RX4 36 yX4_isDigit ∈ UU := UU_of (mt_2 (List.mem_of_getElem? (i := 86) (by decide +kernel))) (by decide +kernel)
theorem im_X4_isDigit : Cond.instanceMethod yX4_isDigit ∈ UU := UU_of (mt_2 (List.mem_of_getElem? (i := 88) (by decide +kernel))) (by decide +kernel)
theorem co_X4_isDigit : Cond.code yX4_isDigit cX4_isDigit 4 (some .boolean) ∈ UU := UU_of (mt_2 (List.mem_of_getElem? (i := 89) (by decide +kernel))) (by decide +kernel)
theorem ml_X4_23 : Cond.methodLink RX4 23 yX4_digitAt ∈ UU := UU_of (mt_2 (List.mem_of_getElem? (i := 90) (by decide +kernel))) (by decide +kernel)
theorem im_X4_digitAt : Cond.instanceMethod yX4_digitAt ∈ UU := UU_of (mt_2 (List.mem_of_getElem? (i := 91) (by decide +kernel))) (by decide +kernel)
theorem se_X4_digitAt : Cond.selects RX4 yX4_digitAt yX4_digitAt ∈ UU := UU_of (mt_2 (List.mem_of_getElem? (i := 92) (by decide +kernel))) (by decide +kernel)
theorem co_X4_digitAt : Cond.code yX4_digitAt cX4_digitAt 2 (some .int) ∈ UU := UU_of (mt_2 (List.mem_of_getElem? (i := 93) (by decide +kernel))) (by decide +kernel)
theorem ml_X4_30 : Cond.methodLink RX4 30 yX4_isEndOfCommand ∈ UU := UU_of (mt_2 (List.mem_of_getElem? (i := 94) (by decide +kernel))) (by decide +kernel)
theorem im_X4_isEndOfCommand : Cond.instanceMethod yX4_isEndOfCommand ∈ UU := UU_of (mt_2 (List.mem_of_getElem? (i := 95) (by decide +kernel))) (by decide +kernel)
theorem se_X4_isEndOfCommand : Cond.selects RX4 yX4_isEndOfCommand yX4_isEndOfCommand ∈ UU := UU_of (mt_2 (List.mem_of_getElem? (i := 96) (by decide +kernel))) (by decide +kernel)
theorem co_X4_isEndOfCommand : Cond.code yX4_isEndOfCommand cX4_isEndOfCommand 3 (some .boolean) ∈ UU := UU_of (mt_2 (List.mem_of_getElem? (i := 97) (by decide +kernel))) (by decide +kernel)
theorem ml_X5_72 : Cond.methodLink RX5 72 yX0_becomeNew ∈ UU := UU_of (mt_2 (List.mem_of_getElem? (i := 99) (by decide +kernel))) (by decide +kernel)
theorem ml_X5_75 : Cond.methodLink RX5 75 yX1_forget ∈ UU := UU_of (mt_2 (List.mem_of_getElem? (i := 100) (by decide +kernel))) (by decide +kernel)
theorem im_X1_forget : Cond.instanceMethod yX1_forget ∈ UU := UU_of (mt_2 (List.mem_of_getElem? (i := 101) (by decide +kernel))) (by decide +kernel)
theorem se_X1_forget : Cond.selects RX1 yX1_forget yX1_forget ∈ UU := UU_of (mt_2 (List.mem_of_getElem? (i := 102) (by decide +kernel))) (by decide +kernel)
theorem co_X1_forget : Cond.code yX1_forget cX1_forget 1 none ∈ UU := UU_of (mt_2 (List.mem_of_getElem? (i := 103) (by decide +kernel))) (by decide +kernel)
theorem ml_X5_78 : Cond.methodLink RX5 78 yX3_becomeEmpty ∈ UU := UU_of (mt_2 (List.mem_of_getElem? (i := 104) (by decide +kernel))) (by decide +kernel)
theorem im_X3_becomeEmpty : Cond.instanceMethod yX3_becomeEmpty ∈ UU := UU_of (mt_2 (List.mem_of_getElem? (i := 105) (by decide +kernel))) (by decide +kernel)
theorem se_X3_becomeEmpty : Cond.selects RX3 yX3_becomeEmpty yX3_becomeEmpty ∈ UU := UU_of (mt_2 (List.mem_of_getElem? (i := 106) (by decide +kernel))) (by decide +kernel)
theorem co_X3_becomeEmpty : Cond.code yX3_becomeEmpty cX3_becomeEmpty 1 none ∈ UU := UU_of (mt_2 (List.mem_of_getElem? (i := 107) (by decide +kernel))) (by decide +kernel)
theorem ml_X5_80 : Cond.methodLink RX5 80 yX5_doCommandsOfText ∈ UU := UU_of (mt_2 (List.mem_of_getElem? (i := 108) (by decide +kernel))) (by decide +kernel)
theorem im_X5_doCommandsOfText : Cond.instanceMethod yX5_doCommandsOfText ∈ UU := UU_of (mt_2 (List.mem_of_getElem? (i := 110) (by decide +kernel))) (by decide +kernel)
theorem co_X5_doCommandsOfText : Cond.code yX5_doCommandsOfText cX5_doCommandsOfText 4 (some .int) ∈ UU := UU_of (mt_2 (List.mem_of_getElem? (i := 111) (by decide +kernel))) (by decide +kernel)
theorem ml_X5_83 : Cond.methodLink RX5 83 yX4_size ∈ UU := UU_of (mt_2 (List.mem_of_getElem? (i := 112) (by decide +kernel))) (by decide +kernel)
theorem im_X4_size : Cond.instanceMethod yX4_size ∈ UU := UU_of (mt_2 (List.mem_of_getElem? (i := 113) (by decide +kernel))) (by decide +kernel)
theorem se_X4_size : Cond.selects RX4 yX4_size yX4_size ∈ UU := UU_of (mt_2 (List.mem_of_getElem? (i := 114) (by decide +kernel))) (by decide +kernel)
theorem co_X4_size : Cond.code yX4_size cX4_size 1 (some .int) ∈ UU := UU_of (mt_2 (List.mem_of_getElem? (i := 115) (by decide +kernel))) (by decide +kernel)
theorem ml_X5_86 : Cond.methodLink RX5 86 yX4_isEndOfCommand ∈ UU := UU_of (mt_2 (List.mem_of_getElem? (i := 116) (by decide +kernel))) (by decide +kernel)
theorem ml_X5_90 : Cond.methodLink RX5 90 yX5_doCommandAt ∈ UU := UU_of (mt_2 (List.mem_of_getElem? (i := 117) (by decide +kernel))) (by decide +kernel)
theorem im_X5_doCommandAt : Cond.instanceMethod yX5_doCommandAt ∈ UU := UU_of (mt_2 (List.mem_of_getElem? (i := 119) (by decide +kernel))) (by decide +kernel)
theorem co_X5_doCommandAt : Cond.code yX5_doCommandAt cX5_doCommandAt 2 (some .boolean) ∈ UU := UU_of (mt_2 (List.mem_of_getElem? (i := 120) (by decide +kernel))) (by decide +kernel)
theorem ml_X5_94 : Cond.methodLink RX5 94 yX4_signAt ∈ UU := UU_of (mt_2 (List.mem_of_getElem? (i := 121) (by decide +kernel))) (by decide +kernel)
theorem ml_X5_97 : Cond.methodLink RX5 97 yX4_digitAt ∈ UU := UU_of (mt_2 (List.mem_of_getElem? (i := 122) (by decide +kernel))) (by decide +kernel)
theorem ml_X5_100 : Cond.methodLink RX5 100 yX4_numberAt ∈ UU := UU_of (mt_2 (List.mem_of_getElem? (i := 123) (by decide +kernel))) (by decide +kernel)
theorem im_X4_numberAt : Cond.instanceMethod yX4_numberAt ∈ UU := UU_of (mt_2 (List.mem_of_getElem? (i := 124) (by decide +kernel))) (by decide +kernel)
theorem se_X4_numberAt : Cond.selects RX4 yX4_numberAt yX4_numberAt ∈ UU := UU_of (mt_2 (List.mem_of_getElem? (i := 125) (by decide +kernel))) (by decide +kernel)
theorem co_X4_numberAt : Cond.code yX4_numberAt cX4_numberAt 2 (some .int) ∈ UU := UU_of (mt_2 (List.mem_of_getElem? (i := 126) (by decide +kernel))) (by decide +kernel)
theorem ml_X5_103 : Cond.methodLink RX5 103 yX0_startRound ∈ UU := UU_of (mt_2 (List.mem_of_getElem? (i := 127) (by decide +kernel))) (by decide +kernel)
theorem im_X0_startRound : Cond.instanceMethod yX0_startRound ∈ UU := UU_of (mt_2 (List.mem_of_getElem? (i := 128) (by decide +kernel))) (by decide +kernel)
theorem se_X0_startRound : Cond.selects RX0 yX0_startRound yX0_startRound ∈ UU := UU_of (mt_2 (List.mem_of_getElem? (i := 129) (by decide +kernel))) (by decide +kernel)
theorem co_X0_startRound : Cond.code yX0_startRound cX0_startRound 5 (some .boolean) ∈ UU := UU_of (mt_2 (List.mem_of_getElem? (i := 130) (by decide +kernel))) (by decide +kernel)
theorem ml_X0_135 : Cond.methodLink RX0 135 yX0_shuffle ∈ UU := UU_of (mt_2 (List.mem_of_getElem? (i := 131) (by decide +kernel))) (by decide +kernel)
theorem im_X0_shuffle : Cond.instanceMethod yX0_shuffle ∈ UU := UU_of (mt_2 (List.mem_of_getElem? (i := 133) (by decide +kernel))) (by decide +kernel)
theorem co_X0_shuffle : Cond.code yX0_shuffle cX0_shuffle 8 none ∈ UU := UU_of (mt_2 (List.mem_of_getElem? (i := 134) (by decide +kernel))) (by decide +kernel)
theorem cn_X0_143 : Cond.constantLong RX0 143 (6364136223846793005) ∈ UU := UU_of (mt_2 (List.mem_of_getElem? (i := 135) (by decide +kernel))) (by decide +kernel)
theorem cn_X0_145 : Cond.constantLong RX0 145 (1442695040888963407) ∈ UU := UU_of (mt_2 (List.mem_of_getElem? (i := 136) (by decide +kernel))) (by decide +kernel)
theorem ml_X0_139 : Cond.methodLink RX0 139 yX0_giveTo ∈ UU := UU_of (mt_2 (List.mem_of_getElem? (i := 137) (by decide +kernel))) (by decide +kernel)
theorem im_X0_giveTo : Cond.instanceMethod yX0_giveTo ∈ UU := UU_of (mt_2 (List.mem_of_getElem? (i := 139) (by decide +kernel))) (by decide +kernel)
theorem co_X0_giveTo : Cond.code yX0_giveTo cX0_giveTo 3 none ∈ UU := UU_of (mt_2 (List.mem_of_getElem? (i := 140) (by decide +kernel))) (by decide +kernel)
theorem st_X5_isTile : Cond.static yX5_isTile ∈ UU := UU_of (mt_2 (List.mem_of_getElem? (i := 142) (by decide +kernel))) (by decide +kernel)
theorem co_X5_isTile : Cond.code yX5_isTile cX5_isTile 1 (some .boolean) ∈ UU := UU_of (mt_2 (List.mem_of_getElem? (i := 143) (by decide +kernel))) (by decide +kernel)
theorem ml_X5_107 : Cond.methodLink RX5 107 yX0_layIfPossible ∈ UU := UU_of (mt_2 (List.mem_of_getElem? (i := 144) (by decide +kernel))) (by decide +kernel)
theorem im_X0_layIfPossible : Cond.instanceMethod yX0_layIfPossible ∈ UU := UU_of (mt_2 (List.mem_of_getElem? (i := 145) (by decide +kernel))) (by decide +kernel)
theorem se_X0_layIfPossible : Cond.selects RX0 yX0_layIfPossible yX0_layIfPossible ∈ UU := UU_of (mt_2 (List.mem_of_getElem? (i := 146) (by decide +kernel))) (by decide +kernel)
theorem co_X0_layIfPossible : Cond.code yX0_layIfPossible cX0_layIfPossible 3 (some .boolean) ∈ UU := UU_of (mt_2 (List.mem_of_getElem? (i := 147) (by decide +kernel))) (by decide +kernel)
theorem ml_X0_153 : Cond.methodLink RX0 153 yX0_reasonAgainst ∈ UU := UU_of (mt_2 (List.mem_of_getElem? (i := 148) (by decide +kernel))) (by decide +kernel)
theorem im_X0_reasonAgainst : Cond.instanceMethod yX0_reasonAgainst ∈ UU := UU_of (mt_2 (List.mem_of_getElem? (i := 149) (by decide +kernel))) (by decide +kernel)
theorem se_X0_reasonAgainst : Cond.selects RX0 yX0_reasonAgainst yX0_reasonAgainst ∈ UU := UU_of (mt_2 (List.mem_of_getElem? (i := 150) (by decide +kernel))) (by decide +kernel)
theorem co_X0_reasonAgainst : Cond.code yX0_reasonAgainst cX0_reasonAgainst 2 (some .int) ∈ UU := UU_of (mt_2 (List.mem_of_getElem? (i := 151) (by decide +kernel))) (by decide +kernel)
theorem ml_X0_78 : Cond.methodLink RX0 78 yX0_isPlayed ∈ UU := UU_of (mt_2 (List.mem_of_getElem? (i := 152) (by decide +kernel))) (by decide +kernel)
theorem im_X0_isPlayed : Cond.instanceMethod yX0_isPlayed ∈ UU := UU_of (mt_2 (List.mem_of_getElem? (i := 153) (by decide +kernel))) (by decide +kernel)
theorem se_X0_isPlayed : Cond.selects RX0 yX0_isPlayed yX0_isPlayed ∈ UU := UU_of (mt_2 (List.mem_of_getElem? (i := 154) (by decide +kernel))) (by decide +kernel)
theorem co_X0_isPlayed : Cond.code yX0_isPlayed cX0_isPlayed 1 (some .boolean) ∈ UU := UU_of (mt_2 (List.mem_of_getElem? (i := 155) (by decide +kernel))) (by decide +kernel)
theorem ml_X0_108 : Cond.methodLink RX0 108 yX0_holderOf ∈ UU := UU_of (mt_2 (List.mem_of_getElem? (i := 156) (by decide +kernel))) (by decide +kernel)
theorem im_X0_holderOf : Cond.instanceMethod yX0_holderOf ∈ UU := UU_of (mt_2 (List.mem_of_getElem? (i := 158) (by decide +kernel))) (by decide +kernel)
theorem co_X0_holderOf : Cond.code yX0_holderOf cX0_holderOf 2 (some .int) ∈ UU := UU_of (mt_2 (List.mem_of_getElem? (i := 159) (by decide +kernel))) (by decide +kernel)
theorem ml_X0_147 : Cond.methodLink RX0 147 yX2_fits ∈ UU := UU_of (mt_2 (List.mem_of_getElem? (i := 160) (by decide +kernel))) (by decide +kernel)
theorem im_X2_fits : Cond.instanceMethod yX2_fits ∈ UU := UU_of (mt_2 (List.mem_of_getElem? (i := 161) (by decide +kernel))) (by decide +kernel)
theorem se_X2_fits : Cond.selects RX2 yX2_fits yX2_fits ∈ UU := UU_of (mt_2 (List.mem_of_getElem? (i := 162) (by decide +kernel))) (by decide +kernel)
theorem co_X2_fits : Cond.code yX2_fits cX2_fits 2 (some .boolean) ∈ UU := UU_of (mt_2 (List.mem_of_getElem? (i := 163) (by decide +kernel))) (by decide +kernel)
theorem st_X5_lowOf : Cond.static yX5_lowOf ∈ UU := UU_of (mt_2 (List.mem_of_getElem? (i := 165) (by decide +kernel))) (by decide +kernel)
theorem co_X5_lowOf : Cond.code yX5_lowOf cX5_lowOf 1 (some .int) ∈ UU := UU_of (mt_2 (List.mem_of_getElem? (i := 166) (by decide +kernel))) (by decide +kernel)
theorem fl_X5_289 : Cond.fieldLink RX5 289 "SpiralDominoes" "LOW" "[I" ∈ UU := UU_of (mt_2 (List.mem_of_getElem? (i := 167) (by decide +kernel))) (by decide +kernel)
theorem st_X5_highOf : Cond.static yX5_highOf ∈ UU := UU_of (mt_2 (List.mem_of_getElem? (i := 170) (by decide +kernel))) (by decide +kernel)
theorem co_X5_highOf : Cond.code yX5_highOf cX5_highOf 1 (some .int) ∈ UU := UU_of (mt_2 (List.mem_of_getElem? (i := 171) (by decide +kernel))) (by decide +kernel)
theorem fl_X5_293 : Cond.fieldLink RX5 293 "SpiralDominoes" "HIGH" "[I" ∈ UU := UU_of (mt_2 (List.mem_of_getElem? (i := 172) (by decide +kernel))) (by decide +kernel)
theorem ml_X0_150 : Cond.methodLink RX0 150 yX2_hasRoom ∈ UU := UU_of (mt_2 (List.mem_of_getElem? (i := 174) (by decide +kernel))) (by decide +kernel)
theorem im_X2_hasRoom : Cond.instanceMethod yX2_hasRoom ∈ UU := UU_of (mt_2 (List.mem_of_getElem? (i := 175) (by decide +kernel))) (by decide +kernel)
theorem se_X2_hasRoom : Cond.selects RX2 yX2_hasRoom yX2_hasRoom ∈ UU := UU_of (mt_2 (List.mem_of_getElem? (i := 176) (by decide +kernel))) (by decide +kernel)
theorem co_X2_hasRoom : Cond.code yX2_hasRoom cX2_hasRoom 1 (some .boolean) ∈ UU := UU_of (mt_2 (List.mem_of_getElem? (i := 177) (by decide +kernel))) (by decide +kernel)
theorem ml_X2_65 : Cond.methodLink RX2 65 yX2_isFree ∈ UU := UU_of (mt_2 (List.mem_of_getElem? (i := 178) (by decide +kernel))) (by decide +kernel)
theorem im_X2_isFree : Cond.instanceMethod yX2_isFree ∈ UU := UU_of (mt_2 (List.mem_of_getElem? (i := 180) (by decide +kernel))) (by decide +kernel)
theorem co_X2_isFree : Cond.code yX2_isFree cX2_isFree 3 (some .boolean) ∈ UU := UU_of (mt_2 (List.mem_of_getElem? (i := 181) (by decide +kernel))) (by decide +kernel)
theorem st_X5_stepX : Cond.static yX5_stepX ∈ UU := UU_of (mt_2 (List.mem_of_getElem? (i := 183) (by decide +kernel))) (by decide +kernel)
theorem co_X5_stepX : Cond.code yX5_stepX cX5_stepX 1 (some .int) ∈ UU := UU_of (mt_2 (List.mem_of_getElem? (i := 184) (by decide +kernel))) (by decide +kernel)
theorem st_X5_stepY : Cond.static yX5_stepY ∈ UU := UU_of (mt_2 (List.mem_of_getElem? (i := 186) (by decide +kernel))) (by decide +kernel)
theorem co_X5_stepY : Cond.code yX5_stepY cX5_stepY 1 (some .int) ∈ UU := UU_of (mt_2 (List.mem_of_getElem? (i := 187) (by decide +kernel))) (by decide +kernel)
theorem ml_X0_160 : Cond.methodLink RX0 160 yX2_add ∈ UU := UU_of (mt_2 (List.mem_of_getElem? (i := 188) (by decide +kernel))) (by decide +kernel)
theorem im_X2_add : Cond.instanceMethod yX2_add ∈ UU := UU_of (mt_2 (List.mem_of_getElem? (i := 189) (by decide +kernel))) (by decide +kernel)
theorem se_X2_add : Cond.selects RX2 yX2_add yX2_add ∈ UU := UU_of (mt_2 (List.mem_of_getElem? (i := 190) (by decide +kernel))) (by decide +kernel)
theorem co_X2_add : Cond.code yX2_add cX2_add 6 none ∈ UU := UU_of (mt_2 (List.mem_of_getElem? (i := 191) (by decide +kernel))) (by decide +kernel)
theorem ml_X2_75 : Cond.methodLink RX2 75 yX2_cover ∈ UU := UU_of (mt_2 (List.mem_of_getElem? (i := 192) (by decide +kernel))) (by decide +kernel)
theorem im_X2_cover : Cond.instanceMethod yX2_cover ∈ UU := UU_of (mt_2 (List.mem_of_getElem? (i := 194) (by decide +kernel))) (by decide +kernel)
theorem co_X2_cover : Cond.code yX2_cover cX2_cover 3 none ∈ UU := UU_of (mt_2 (List.mem_of_getElem? (i := 195) (by decide +kernel))) (by decide +kernel)
theorem st_X5_isCell : Cond.static yX5_isCell ∈ UU := UU_of (mt_2 (List.mem_of_getElem? (i := 197) (by decide +kernel))) (by decide +kernel)
theorem co_X5_isCell : Cond.code yX5_isCell cX5_isCell 2 (some .boolean) ∈ UU := UU_of (mt_2 (List.mem_of_getElem? (i := 198) (by decide +kernel))) (by decide +kernel)
theorem st_X5_pipsOn : Cond.static yX5_pipsOn ∈ UU := UU_of (mt_2 (List.mem_of_getElem? (i := 200) (by decide +kernel))) (by decide +kernel)
theorem co_X5_pipsOn : Cond.code yX5_pipsOn cX5_pipsOn 1 (some .int) ∈ UU := UU_of (mt_2 (List.mem_of_getElem? (i := 201) (by decide +kernel))) (by decide +kernel)
theorem ml_X0_121 : Cond.methodLink RX0 121 yX0_tilesOf ∈ UU := UU_of (mt_2 (List.mem_of_getElem? (i := 202) (by decide +kernel))) (by decide +kernel)
theorem im_X0_tilesOf : Cond.instanceMethod yX0_tilesOf ∈ UU := UU_of (mt_2 (List.mem_of_getElem? (i := 203) (by decide +kernel))) (by decide +kernel)
theorem se_X0_tilesOf : Cond.selects RX0 yX0_tilesOf yX0_tilesOf ∈ UU := UU_of (mt_2 (List.mem_of_getElem? (i := 204) (by decide +kernel))) (by decide +kernel)
theorem co_X0_tilesOf : Cond.code yX0_tilesOf cX0_tilesOf 2 (some .int) ∈ UU := UU_of (mt_2 (List.mem_of_getElem? (i := 205) (by decide +kernel))) (by decide +kernel)
theorem ml_X0_127 : Cond.methodLink RX0 127 yX0_handOf ∈ UU := UU_of (mt_2 (List.mem_of_getElem? (i := 206) (by decide +kernel))) (by decide +kernel)
theorem im_X0_handOf : Cond.instanceMethod yX0_handOf ∈ UU := UU_of (mt_2 (List.mem_of_getElem? (i := 208) (by decide +kernel))) (by decide +kernel)
theorem co_X0_handOf : Cond.code yX0_handOf cX0_handOf 4 (some .int) ∈ UU := UU_of (mt_2 (List.mem_of_getElem? (i := 209) (by decide +kernel))) (by decide +kernel)
theorem ml_X0_130 : Cond.methodLink RX0 130 yJ6_bitCount_0f7a4 ∈ UU := UU_of (mt_2 (List.mem_of_getElem? (i := 210) (by decide +kernel))) (by decide +kernel)
theorem st_J6_bitCount_0f7a4 : Cond.static yJ6_bitCount_0f7a4 ∈ UU := UU_of (mt_2 (List.mem_of_getElem? (i := 211) (by decide +kernel))) (by decide +kernel)
theorem co_J6_bitCount_0f7a4 : Cond.code yJ6_bitCount_0f7a4 cJ6_bitCount_0f7a4 1 (some .int) ∈ UU := UU_of (mt_2 (List.mem_of_getElem? (i := 212) (by decide +kernel))) (by decide +kernel)
theorem cn_J6_265 : Cond.constant RJ6 265 (1431655765) ∈ UU := UU_of (mt_2 (List.mem_of_getElem? (i := 213) (by decide +kernel))) (by decide +kernel)
theorem cn_J6_266 : Cond.constant RJ6 266 (858993459) ∈ UU := UU_of (mt_2 (List.mem_of_getElem? (i := 214) (by decide +kernel))) (by decide +kernel)
theorem cn_J6_267 : Cond.constant RJ6 267 (252645135) ∈ UU := UU_of (mt_2 (List.mem_of_getElem? (i := 215) (by decide +kernel))) (by decide +kernel)
theorem ml_X0_164 : Cond.methodLink RX0 164 yX0_winRound ∈ UU := UU_of (mt_2 (List.mem_of_getElem? (i := 216) (by decide +kernel))) (by decide +kernel)
theorem im_X0_winRound : Cond.instanceMethod yX0_winRound ∈ UU := UU_of (mt_2 (List.mem_of_getElem? (i := 218) (by decide +kernel))) (by decide +kernel)
theorem co_X0_winRound : Cond.code yX0_winRound cX0_winRound 4 none ∈ UU := UU_of (mt_2 (List.mem_of_getElem? (i := 219) (by decide +kernel))) (by decide +kernel)
theorem st_X5_isPlayer : Cond.static yX5_isPlayer ∈ UU := UU_of (mt_2 (List.mem_of_getElem? (i := 221) (by decide +kernel))) (by decide +kernel)
theorem co_X5_isPlayer : Cond.code yX5_isPlayer cX5_isPlayer 1 (some .boolean) ∈ UU := UU_of (mt_2 (List.mem_of_getElem? (i := 222) (by decide +kernel))) (by decide +kernel)
theorem ml_X0_124 : Cond.methodLink RX0 124 yX0_pipsOf ∈ UU := UU_of (mt_2 (List.mem_of_getElem? (i := 223) (by decide +kernel))) (by decide +kernel)
theorem im_X0_pipsOf : Cond.instanceMethod yX0_pipsOf ∈ UU := UU_of (mt_2 (List.mem_of_getElem? (i := 225) (by decide +kernel))) (by decide +kernel)
theorem co_X0_pipsOf : Cond.code yX0_pipsOf cX0_pipsOf 4 (some .int) ∈ UU := UU_of (mt_2 (List.mem_of_getElem? (i := 226) (by decide +kernel))) (by decide +kernel)
theorem ml_X0_168 : Cond.methodLink RX0 168 yX0_goToNextPlayer ∈ UU := UU_of (mt_2 (List.mem_of_getElem? (i := 229) (by decide +kernel))) (by decide +kernel)
theorem im_X0_goToNextPlayer : Cond.instanceMethod yX0_goToNextPlayer ∈ UU := UU_of (mt_2 (List.mem_of_getElem? (i := 231) (by decide +kernel))) (by decide +kernel)
theorem co_X0_goToNextPlayer : Cond.code yX0_goToNextPlayer cX0_goToNextPlayer 1 none ∈ UU := UU_of (mt_2 (List.mem_of_getElem? (i := 232) (by decide +kernel))) (by decide +kernel)
theorem ml_X5_111 : Cond.methodLink RX5 111 yX0_takeFromHeap ∈ UU := UU_of (mt_2 (List.mem_of_getElem? (i := 233) (by decide +kernel))) (by decide +kernel)
theorem im_X0_takeFromHeap : Cond.instanceMethod yX0_takeFromHeap ∈ UU := UU_of (mt_2 (List.mem_of_getElem? (i := 234) (by decide +kernel))) (by decide +kernel)
theorem se_X0_takeFromHeap : Cond.selects RX0 yX0_takeFromHeap yX0_takeFromHeap ∈ UU := UU_of (mt_2 (List.mem_of_getElem? (i := 235) (by decide +kernel))) (by decide +kernel)
theorem co_X0_takeFromHeap : Cond.code yX0_takeFromHeap cX0_takeFromHeap 2 (some .int) ∈ UU := UU_of (mt_2 (List.mem_of_getElem? (i := 236) (by decide +kernel))) (by decide +kernel)
theorem ml_X0_174 : Cond.methodLink RX0 174 yX0_canTakeFromHeap ∈ UU := UU_of (mt_2 (List.mem_of_getElem? (i := 237) (by decide +kernel))) (by decide +kernel)
theorem im_X0_canTakeFromHeap : Cond.instanceMethod yX0_canTakeFromHeap ∈ UU := UU_of (mt_2 (List.mem_of_getElem? (i := 238) (by decide +kernel))) (by decide +kernel)
theorem se_X0_canTakeFromHeap : Cond.selects RX0 yX0_canTakeFromHeap yX0_canTakeFromHeap ∈ UU := UU_of (mt_2 (List.mem_of_getElem? (i := 239) (by decide +kernel))) (by decide +kernel)
theorem co_X0_canTakeFromHeap : Cond.code yX0_canTakeFromHeap cX0_canTakeFromHeap 1 (some .boolean) ∈ UU := UU_of (mt_3 (List.mem_of_getElem? (i := 0) (by decide +kernel))) (by decide +kernel)
theorem ml_X5_114 : Cond.methodLink RX5 114 yX0_skipTurn ∈ UU := UU_of (mt_3 (List.mem_of_getElem? (i := 1) (by decide +kernel))) (by decide +kernel)
theorem im_X0_skipTurn : Cond.instanceMethod yX0_skipTurn ∈ UU := UU_of (mt_3 (List.mem_of_getElem? (i := 2) (by decide +kernel))) (by decide +kernel)
theorem se_X0_skipTurn : Cond.selects RX0 yX0_skipTurn yX0_skipTurn ∈ UU := UU_of (mt_3 (List.mem_of_getElem? (i := 3) (by decide +kernel))) (by decide +kernel)
theorem co_X0_skipTurn : Cond.code yX0_skipTurn cX0_skipTurn 1 (some .int) ∈ UU := UU_of (mt_3 (List.mem_of_getElem? (i := 4) (by decide +kernel))) (by decide +kernel)
theorem ml_X0_177 : Cond.methodLink RX0 177 yX0_canSkipTurn ∈ UU := UU_of (mt_3 (List.mem_of_getElem? (i := 5) (by decide +kernel))) (by decide +kernel)
theorem im_X0_canSkipTurn : Cond.instanceMethod yX0_canSkipTurn ∈ UU := UU_of (mt_3 (List.mem_of_getElem? (i := 6) (by decide +kernel))) (by decide +kernel)
theorem se_X0_canSkipTurn : Cond.selects RX0 yX0_canSkipTurn yX0_canSkipTurn ∈ UU := UU_of (mt_3 (List.mem_of_getElem? (i := 7) (by decide +kernel))) (by decide +kernel)
theorem co_X0_canSkipTurn : Cond.code yX0_canSkipTurn cX0_canSkipTurn 1 (some .boolean) ∈ UU := UU_of (mt_3 (List.mem_of_getElem? (i := 8) (by decide +kernel))) (by decide +kernel)
theorem ml_X0_180 : Cond.methodLink RX0 180 yX0_playerWithFewestPips ∈ UU := UU_of (mt_3 (List.mem_of_getElem? (i := 9) (by decide +kernel))) (by decide +kernel)
theorem im_X0_playerWithFewestPips : Cond.instanceMethod yX0_playerWithFewestPips ∈ UU := UU_of (mt_3 (List.mem_of_getElem? (i := 11) (by decide +kernel))) (by decide +kernel)
theorem co_X0_playerWithFewestPips : Cond.code yX0_playerWithFewestPips cX0_playerWithFewestPips 3 (some .int) ∈ UU := UU_of (mt_3 (List.mem_of_getElem? (i := 12) (by decide +kernel))) (by decide +kernel)
theorem ml_X5_117 : Cond.methodLink RX5 117 yX0_heaviestPlayable ∈ UU := UU_of (mt_3 (List.mem_of_getElem? (i := 13) (by decide +kernel))) (by decide +kernel)
theorem im_X0_heaviestPlayable : Cond.instanceMethod yX0_heaviestPlayable ∈ UU := UU_of (mt_3 (List.mem_of_getElem? (i := 14) (by decide +kernel))) (by decide +kernel)
theorem se_X0_heaviestPlayable : Cond.selects RX0 yX0_heaviestPlayable yX0_heaviestPlayable ∈ UU := UU_of (mt_3 (List.mem_of_getElem? (i := 15) (by decide +kernel))) (by decide +kernel)
theorem co_X0_heaviestPlayable : Cond.code yX0_heaviestPlayable cX0_heaviestPlayable 3 (some .int) ∈ UU := UU_of (mt_3 (List.mem_of_getElem? (i := 16) (by decide +kernel))) (by decide +kernel)
theorem ml_L_94 : Cond.methodLink RL 94 yL_tryAbout ∈ UU := UU_of (mt_3 (List.mem_of_getElem? (i := 18) (by decide +kernel))) (by decide +kernel)
theorem st_L_tryAbout : Cond.static yL_tryAbout ∈ UU := UU_of (mt_3 (List.mem_of_getElem? (i := 19) (by decide +kernel))) (by decide +kernel)
theorem co_L_tryAbout : Cond.codeWith yL_tryAbout cL_tryAbout 3 (some .int) [(0, 5, 6, 13)] ∈ UU := UU_of (mt_3 (List.mem_of_getElem? (i := 20) (by decide +kernel))) (by decide +kernel)
theorem ml_L_41 : Cond.methodLink RL 41 yX5_about ∈ UU := UU_of (mt_3 (List.mem_of_getElem? (i := 21) (by decide +kernel))) (by decide +kernel)
theorem im_X5_about : Cond.instanceMethod yX5_about ∈ UU := UU_of (mt_3 (List.mem_of_getElem? (i := 22) (by decide +kernel))) (by decide +kernel)
theorem se_X5_about : Cond.selects RX5 yX5_about yX5_about ∈ UU := UU_of (mt_3 (List.mem_of_getElem? (i := 23) (by decide +kernel))) (by decide +kernel)
theorem co_X5_about : Cond.code yX5_about cX5_about 2 (some .int) ∈ UU := UU_of (mt_3 (List.mem_of_getElem? (i := 24) (by decide +kernel))) (by decide +kernel)
theorem ml_X5_122 : Cond.methodLink RX5 122 yX0_numberOfGame ∈ UU := UU_of (mt_3 (List.mem_of_getElem? (i := 26) (by decide +kernel))) (by decide +kernel)
theorem im_X0_numberOfGame : Cond.instanceMethod yX0_numberOfGame ∈ UU := UU_of (mt_3 (List.mem_of_getElem? (i := 27) (by decide +kernel))) (by decide +kernel)
theorem se_X0_numberOfGame : Cond.selects RX0 yX0_numberOfGame yX0_numberOfGame ∈ UU := UU_of (mt_3 (List.mem_of_getElem? (i := 28) (by decide +kernel))) (by decide +kernel)
theorem co_X0_numberOfGame : Cond.code yX0_numberOfGame cX0_numberOfGame 2 (some .int) ∈ UU := UU_of (mt_3 (List.mem_of_getElem? (i := 29) (by decide +kernel))) (by decide +kernel)
theorem ml_X0_82 : Cond.methodLink RX0 82 yX0_playerToMove ∈ UU := UU_of (mt_3 (List.mem_of_getElem? (i := 30) (by decide +kernel))) (by decide +kernel)
theorem im_X0_playerToMove : Cond.instanceMethod yX0_playerToMove ∈ UU := UU_of (mt_3 (List.mem_of_getElem? (i := 31) (by decide +kernel))) (by decide +kernel)
theorem se_X0_playerToMove : Cond.selects RX0 yX0_playerToMove yX0_playerToMove ∈ UU := UU_of (mt_3 (List.mem_of_getElem? (i := 32) (by decide +kernel))) (by decide +kernel)
theorem co_X0_playerToMove : Cond.code yX0_playerToMove cX0_playerToMove 1 (some .int) ∈ UU := UU_of (mt_3 (List.mem_of_getElem? (i := 33) (by decide +kernel))) (by decide +kernel)
theorem ml_X0_86 : Cond.methodLink RX0 86 yX0_heapSize ∈ UU := UU_of (mt_3 (List.mem_of_getElem? (i := 34) (by decide +kernel))) (by decide +kernel)
theorem im_X0_heapSize : Cond.instanceMethod yX0_heapSize ∈ UU := UU_of (mt_3 (List.mem_of_getElem? (i := 35) (by decide +kernel))) (by decide +kernel)
theorem se_X0_heapSize : Cond.selects RX0 yX0_heapSize yX0_heapSize ∈ UU := UU_of (mt_3 (List.mem_of_getElem? (i := 36) (by decide +kernel))) (by decide +kernel)
theorem co_X0_heapSize : Cond.code yX0_heapSize cX0_heapSize 1 (some .int) ∈ UU := UU_of (mt_3 (List.mem_of_getElem? (i := 37) (by decide +kernel))) (by decide +kernel)
theorem ml_X0_89 : Cond.methodLink RX0 89 yX2_size ∈ UU := UU_of (mt_3 (List.mem_of_getElem? (i := 38) (by decide +kernel))) (by decide +kernel)
theorem im_X2_size : Cond.instanceMethod yX2_size ∈ UU := UU_of (mt_3 (List.mem_of_getElem? (i := 39) (by decide +kernel))) (by decide +kernel)
theorem se_X2_size : Cond.selects RX2 yX2_size yX2_size ∈ UU := UU_of (mt_3 (List.mem_of_getElem? (i := 40) (by decide +kernel))) (by decide +kernel)
theorem co_X2_size : Cond.code yX2_size cX2_size 1 (some .int) ∈ UU := UU_of (mt_3 (List.mem_of_getElem? (i := 41) (by decide +kernel))) (by decide +kernel)
theorem ml_X0_92 : Cond.methodLink RX0 92 yX2_endOfNow ∈ UU := UU_of (mt_3 (List.mem_of_getElem? (i := 42) (by decide +kernel))) (by decide +kernel)
theorem im_X2_endOfNow : Cond.instanceMethod yX2_endOfNow ∈ UU := UU_of (mt_3 (List.mem_of_getElem? (i := 43) (by decide +kernel))) (by decide +kernel)
theorem se_X2_endOfNow : Cond.selects RX2 yX2_endOfNow yX2_endOfNow ∈ UU := UU_of (mt_3 (List.mem_of_getElem? (i := 44) (by decide +kernel))) (by decide +kernel)
theorem co_X2_endOfNow : Cond.code yX2_endOfNow cX2_endOfNow 1 (some .int) ∈ UU := UU_of (mt_3 (List.mem_of_getElem? (i := 45) (by decide +kernel))) (by decide +kernel)
theorem ml_X0_95 : Cond.methodLink RX0 95 yX2_directionOfNow ∈ UU := UU_of (mt_3 (List.mem_of_getElem? (i := 46) (by decide +kernel))) (by decide +kernel)
theorem im_X2_directionOfNow : Cond.instanceMethod yX2_directionOfNow ∈ UU := UU_of (mt_3 (List.mem_of_getElem? (i := 47) (by decide +kernel))) (by decide +kernel)
theorem se_X2_directionOfNow : Cond.selects RX2 yX2_directionOfNow yX2_directionOfNow ∈ UU := UU_of (mt_3 (List.mem_of_getElem? (i := 48) (by decide +kernel))) (by decide +kernel)
theorem co_X2_directionOfNow : Cond.code yX2_directionOfNow cX2_directionOfNow 1 (some .int) ∈ UU := UU_of (mt_3 (List.mem_of_getElem? (i := 49) (by decide +kernel))) (by decide +kernel)
theorem ml_X0_98 : Cond.methodLink RX0 98 yX2_pips ∈ UU := UU_of (mt_3 (List.mem_of_getElem? (i := 50) (by decide +kernel))) (by decide +kernel)
theorem im_X2_pips : Cond.instanceMethod yX2_pips ∈ UU := UU_of (mt_3 (List.mem_of_getElem? (i := 51) (by decide +kernel))) (by decide +kernel)
theorem se_X2_pips : Cond.selects RX2 yX2_pips yX2_pips ∈ UU := UU_of (mt_3 (List.mem_of_getElem? (i := 52) (by decide +kernel))) (by decide +kernel)
theorem co_X2_pips : Cond.code yX2_pips cX2_pips 3 (some .int) ∈ UU := UU_of (mt_3 (List.mem_of_getElem? (i := 53) (by decide +kernel))) (by decide +kernel)
theorem ml_L_97 : Cond.methodLink RL 97 yL_tryTile ∈ UU := UU_of (mt_3 (List.mem_of_getElem? (i := 54) (by decide +kernel))) (by decide +kernel)
theorem st_L_tryTile : Cond.static yL_tryTile ∈ UU := UU_of (mt_3 (List.mem_of_getElem? (i := 55) (by decide +kernel))) (by decide +kernel)
theorem co_L_tryTile : Cond.codeWith yL_tryTile cL_tryTile 4 (some .int) [(0, 6, 7, 20), (0, 6, 11, 13)] ∈ UU := UU_of (mt_3 (List.mem_of_getElem? (i := 56) (by decide +kernel))) (by decide +kernel)
theorem kl_L_20 : Cond.classLink RL 20 "java/lang/IndexOutOfBoundsException" ∈ UU := UU_of (mt_3 (List.mem_of_getElem? (i := 57) (by decide +kernel))) (by decide +kernel)
theorem ml_L_44 : Cond.methodLink RL 44 yX5_tileOf ∈ UU := UU_of (mt_3 (List.mem_of_getElem? (i := 58) (by decide +kernel))) (by decide +kernel)
theorem im_X5_tileOf : Cond.instanceMethod yX5_tileOf ∈ UU := UU_of (mt_3 (List.mem_of_getElem? (i := 59) (by decide +kernel))) (by decide +kernel)
theorem se_X5_tileOf : Cond.selects RX5 yX5_tileOf yX5_tileOf ∈ UU := UU_of (mt_3 (List.mem_of_getElem? (i := 60) (by decide +kernel))) (by decide +kernel)
theorem co_X5_tileOf : Cond.code yX5_tileOf cX5_tileOf 3 (some .int) ∈ UU := UU_of (mt_3 (List.mem_of_getElem? (i := 61) (by decide +kernel))) (by decide +kernel)
theorem ml_X5_125 : Cond.methodLink RX5 125 yX5_isTile ∈ UU := UU_of (mt_3 (List.mem_of_getElem? (i := 62) (by decide +kernel))) (by decide +kernel)
theorem kl_X5_128 : Cond.classLink RX5 128 "java/lang/IndexOutOfBoundsException" ∈ UU := UU_of (mt_3 (List.mem_of_getElem? (i := 63) (by decide +kernel))) (by decide +kernel)
theorem ml_X5_132 : Cond.methodLink RX5 132 (⟨"java/lang/IndexOutOfBoundsException", "<init>", "(Ljava/lang/String;)V"⟩ : MethodName) ∈ UU := UU_of (mt_3 (List.mem_of_getElem? (i := 73) (by decide +kernel))) (by decide +kernel)
theorem ml_X5_133 : Cond.methodLink RX5 133 yX0_numberOfTile ∈ UU := UU_of (mt_3 (List.mem_of_getElem? (i := 79) (by decide +kernel))) (by decide +kernel)
theorem im_X0_numberOfTile : Cond.instanceMethod yX0_numberOfTile ∈ UU := UU_of (mt_3 (List.mem_of_getElem? (i := 80) (by decide +kernel))) (by decide +kernel)
theorem se_X0_numberOfTile : Cond.selects RX0 yX0_numberOfTile yX0_numberOfTile ∈ UU := UU_of (mt_3 (List.mem_of_getElem? (i := 81) (by decide +kernel))) (by decide +kernel)
theorem co_X0_numberOfTile : Cond.code yX0_numberOfTile cX0_numberOfTile 3 (some .int) ∈ UU := UU_of (mt_3 (List.mem_of_getElem? (i := 82) (by decide +kernel))) (by decide +kernel)
theorem ml_X0_111 : Cond.methodLink RX0 111 yX2_placeOf ∈ UU := UU_of (mt_3 (List.mem_of_getElem? (i := 85) (by decide +kernel))) (by decide +kernel)
theorem im_X2_placeOf : Cond.instanceMethod yX2_placeOf ∈ UU := UU_of (mt_3 (List.mem_of_getElem? (i := 86) (by decide +kernel))) (by decide +kernel)
theorem se_X2_placeOf : Cond.selects RX2 yX2_placeOf yX2_placeOf ∈ UU := UU_of (mt_3 (List.mem_of_getElem? (i := 87) (by decide +kernel))) (by decide +kernel)
theorem co_X2_placeOf : Cond.code yX2_placeOf cX2_placeOf 3 (some .int) ∈ UU := UU_of (mt_3 (List.mem_of_getElem? (i := 88) (by decide +kernel))) (by decide +kernel)
theorem ml_X0_114 : Cond.methodLink RX0 114 yX0_placeInHeap ∈ UU := UU_of (mt_3 (List.mem_of_getElem? (i := 89) (by decide +kernel))) (by decide +kernel)
theorem im_X0_placeInHeap : Cond.instanceMethod yX0_placeInHeap ∈ UU := UU_of (mt_3 (List.mem_of_getElem? (i := 91) (by decide +kernel))) (by decide +kernel)
theorem co_X0_placeInHeap : Cond.code yX0_placeInHeap cX0_placeInHeap 3 (some .int) ∈ UU := UU_of (mt_3 (List.mem_of_getElem? (i := 92) (by decide +kernel))) (by decide +kernel)
theorem cn_L_22 : Cond.constant RL 22 (-9999001) ∈ UU := UU_of (mt_3 (List.mem_of_getElem? (i := 93) (by decide +kernel))) (by decide +kernel)
theorem ml_L_101 : Cond.methodLink RL 101 yL_tryLaid ∈ UU := UU_of (mt_3 (List.mem_of_getElem? (i := 94) (by decide +kernel))) (by decide +kernel)
theorem st_L_tryLaid : Cond.static yL_tryLaid ∈ UU := UU_of (mt_3 (List.mem_of_getElem? (i := 95) (by decide +kernel))) (by decide +kernel)
theorem co_L_tryLaid : Cond.codeWith yL_tryLaid cL_tryLaid 4 (some .int) [(0, 6, 7, 20), (0, 6, 11, 13)] ∈ UU := UU_of (mt_3 (List.mem_of_getElem? (i := 96) (by decide +kernel))) (by decide +kernel)
theorem ml_L_48 : Cond.methodLink RL 48 yX5_laid ∈ UU := UU_of (mt_3 (List.mem_of_getElem? (i := 97) (by decide +kernel))) (by decide +kernel)
theorem im_X5_laid : Cond.instanceMethod yX5_laid ∈ UU := UU_of (mt_3 (List.mem_of_getElem? (i := 98) (by decide +kernel))) (by decide +kernel)
theorem se_X5_laid : Cond.selects RX5 yX5_laid yX5_laid ∈ UU := UU_of (mt_3 (List.mem_of_getElem? (i := 99) (by decide +kernel))) (by decide +kernel)
theorem co_X5_laid : Cond.code yX5_laid cX5_laid 3 (some .int) ∈ UU := UU_of (mt_3 (List.mem_of_getElem? (i := 100) (by decide +kernel))) (by decide +kernel)
theorem ml_X5_137 : Cond.methodLink RX5 137 yX0_line ∈ UU := UU_of (mt_3 (List.mem_of_getElem? (i := 101) (by decide +kernel))) (by decide +kernel)
theorem im_X0_line : Cond.instanceMethod yX0_line ∈ UU := UU_of (mt_3 (List.mem_of_getElem? (i := 102) (by decide +kernel))) (by decide +kernel)
theorem se_X0_line : Cond.selects RX0 yX0_line yX0_line ∈ UU := UU_of (mt_3 (List.mem_of_getElem? (i := 103) (by decide +kernel))) (by decide +kernel)
theorem co_X0_line : Cond.code yX0_line cX0_line 1 (some (.object "SpiralDominoes$Line")) ∈ UU := UU_of (mt_3 (List.mem_of_getElem? (i := 104) (by decide +kernel))) (by decide +kernel)
theorem ml_X5_141 : Cond.methodLink RX5 141 yX2_size ∈ UU := UU_of (mt_3 (List.mem_of_getElem? (i := 105) (by decide +kernel))) (by decide +kernel)
theorem ml_X5_146 : Cond.methodLink RX5 146 yX2_numberOfPlace ∈ UU := UU_of (mt_3 (List.mem_of_getElem? (i := 107) (by decide +kernel))) (by decide +kernel)
theorem im_X2_numberOfPlace : Cond.instanceMethod yX2_numberOfPlace ∈ UU := UU_of (mt_3 (List.mem_of_getElem? (i := 108) (by decide +kernel))) (by decide +kernel)
theorem se_X2_numberOfPlace : Cond.selects RX2 yX2_numberOfPlace yX2_numberOfPlace ∈ UU := UU_of (mt_3 (List.mem_of_getElem? (i := 109) (by decide +kernel))) (by decide +kernel)
theorem co_X2_numberOfPlace : Cond.code yX2_numberOfPlace cX2_numberOfPlace 3 (some .int) ∈ UU := UU_of (mt_3 (List.mem_of_getElem? (i := 110) (by decide +kernel))) (by decide +kernel)
theorem ml_L_104 : Cond.methodLink RL 104 yL_tryPlayer ∈ UU := UU_of (mt_3 (List.mem_of_getElem? (i := 111) (by decide +kernel))) (by decide +kernel)
theorem st_L_tryPlayer : Cond.static yL_tryPlayer ∈ UU := UU_of (mt_3 (List.mem_of_getElem? (i := 112) (by decide +kernel))) (by decide +kernel)
theorem co_L_tryPlayer : Cond.codeWith yL_tryPlayer cL_tryPlayer 4 (some .int) [(0, 6, 7, 20), (0, 6, 11, 13)] ∈ UU := UU_of (mt_3 (List.mem_of_getElem? (i := 113) (by decide +kernel))) (by decide +kernel)
theorem ml_L_51 : Cond.methodLink RL 51 yX5_playerOf ∈ UU := UU_of (mt_3 (List.mem_of_getElem? (i := 114) (by decide +kernel))) (by decide +kernel)
theorem im_X5_playerOf : Cond.instanceMethod yX5_playerOf ∈ UU := UU_of (mt_3 (List.mem_of_getElem? (i := 115) (by decide +kernel))) (by decide +kernel)
theorem se_X5_playerOf : Cond.selects RX5 yX5_playerOf yX5_playerOf ∈ UU := UU_of (mt_3 (List.mem_of_getElem? (i := 116) (by decide +kernel))) (by decide +kernel)
theorem co_X5_playerOf : Cond.code yX5_playerOf cX5_playerOf 3 (some .int) ∈ UU := UU_of (mt_3 (List.mem_of_getElem? (i := 117) (by decide +kernel))) (by decide +kernel)
theorem ml_X5_149 : Cond.methodLink RX5 149 yX5_isPlayer ∈ UU := UU_of (mt_3 (List.mem_of_getElem? (i := 118) (by decide +kernel))) (by decide +kernel)
theorem ml_X5_154 : Cond.methodLink RX5 154 yX0_numberOfPlayer ∈ UU := UU_of (mt_3 (List.mem_of_getElem? (i := 120) (by decide +kernel))) (by decide +kernel)
theorem im_X0_numberOfPlayer : Cond.instanceMethod yX0_numberOfPlayer ∈ UU := UU_of (mt_3 (List.mem_of_getElem? (i := 121) (by decide +kernel))) (by decide +kernel)
theorem se_X0_numberOfPlayer : Cond.selects RX0 yX0_numberOfPlayer yX0_numberOfPlayer ∈ UU := UU_of (mt_3 (List.mem_of_getElem? (i := 122) (by decide +kernel))) (by decide +kernel)
theorem co_X0_numberOfPlayer : Cond.code yX0_numberOfPlayer cX0_numberOfPlayer 3 (some .int) ∈ UU := UU_of (mt_3 (List.mem_of_getElem? (i := 123) (by decide +kernel))) (by decide +kernel)
theorem ml_L_107 : Cond.methodLink RL 107 yL_tryAt ∈ UU := UU_of (mt_3 (List.mem_of_getElem? (i := 124) (by decide +kernel))) (by decide +kernel)
theorem st_L_tryAt : Cond.static yL_tryAt ∈ UU := UU_of (mt_3 (List.mem_of_getElem? (i := 125) (by decide +kernel))) (by decide +kernel)
theorem co_L_tryAt : Cond.codeWith yL_tryAt cL_tryAt 4 (some .int) [(0, 6, 7, 20)] ∈ UU := UU_of (mt_3 (List.mem_of_getElem? (i := 126) (by decide +kernel))) (by decide +kernel)
theorem ml_L_54 : Cond.methodLink RL 54 yX5_at ∈ UU := UU_of (mt_3 (List.mem_of_getElem? (i := 127) (by decide +kernel))) (by decide +kernel)
theorem im_X5_at : Cond.instanceMethod yX5_at ∈ UU := UU_of (mt_3 (List.mem_of_getElem? (i := 128) (by decide +kernel))) (by decide +kernel)
theorem se_X5_at : Cond.selects RX5 yX5_at yX5_at ∈ UU := UU_of (mt_3 (List.mem_of_getElem? (i := 129) (by decide +kernel))) (by decide +kernel)
theorem co_X5_at : Cond.code yX5_at cX5_at 3 (some .int) ∈ UU := UU_of (mt_3 (List.mem_of_getElem? (i := 130) (by decide +kernel))) (by decide +kernel)
theorem ml_X5_157 : Cond.methodLink RX5 157 yX5_isCell ∈ UU := UU_of (mt_3 (List.mem_of_getElem? (i := 131) (by decide +kernel))) (by decide +kernel)
theorem ml_X5_162 : Cond.methodLink RX5 162 yX2_pipsAt ∈ UU := UU_of (mt_3 (List.mem_of_getElem? (i := 133) (by decide +kernel))) (by decide +kernel)
theorem im_X2_pipsAt : Cond.instanceMethod yX2_pipsAt ∈ UU := UU_of (mt_3 (List.mem_of_getElem? (i := 134) (by decide +kernel))) (by decide +kernel)
theorem se_X2_pipsAt : Cond.selects RX2 yX2_pipsAt yX2_pipsAt ∈ UU := UU_of (mt_3 (List.mem_of_getElem? (i := 135) (by decide +kernel))) (by decide +kernel)
theorem co_X2_pipsAt : Cond.code yX2_pipsAt cX2_pipsAt 4 (some .int) ∈ UU := UU_of (mt_3 (List.mem_of_getElem? (i := 136) (by decide +kernel))) (by decide +kernel)
theorem ml_L_110 : Cond.methodLink RL 110 yL_tryFree ∈ UU := UU_of (mt_3 (List.mem_of_getElem? (i := 137) (by decide +kernel))) (by decide +kernel)
theorem st_L_tryFree : Cond.static yL_tryFree ∈ UU := UU_of (mt_3 (List.mem_of_getElem? (i := 138) (by decide +kernel))) (by decide +kernel)
theorem co_L_tryFree : Cond.codeWith yL_tryFree cL_tryFree 3 (some .int) [(0, 5, 6, 13)] ∈ UU := UU_of (mt_3 (List.mem_of_getElem? (i := 139) (by decide +kernel))) (by decide +kernel)
theorem ml_L_57 : Cond.methodLink RL 57 yX5_free ∈ UU := UU_of (mt_3 (List.mem_of_getElem? (i := 140) (by decide +kernel))) (by decide +kernel)
theorem im_X5_free : Cond.instanceMethod yX5_free ∈ UU := UU_of (mt_3 (List.mem_of_getElem? (i := 141) (by decide +kernel))) (by decide +kernel)
theorem se_X5_free : Cond.selects RX5 yX5_free yX5_free ∈ UU := UU_of (mt_3 (List.mem_of_getElem? (i := 142) (by decide +kernel))) (by decide +kernel)
theorem co_X5_free : Cond.code yX5_free cX5_free 2 (some .int) ∈ UU := UU_of (mt_3 (List.mem_of_getElem? (i := 143) (by decide +kernel))) (by decide +kernel)
theorem ml_X5_167 : Cond.methodLink RX5 167 yX2_freeByCells ∈ UU := UU_of (mt_3 (List.mem_of_getElem? (i := 145) (by decide +kernel))) (by decide +kernel)
theorem im_X2_freeByCells : Cond.instanceMethod yX2_freeByCells ∈ UU := UU_of (mt_3 (List.mem_of_getElem? (i := 146) (by decide +kernel))) (by decide +kernel)
theorem se_X2_freeByCells : Cond.selects RX2 yX2_freeByCells yX2_freeByCells ∈ UU := UU_of (mt_3 (List.mem_of_getElem? (i := 147) (by decide +kernel))) (by decide +kernel)
theorem co_X2_freeByCells : Cond.code yX2_freeByCells cX2_freeByCells 4 (some .int) ∈ UU := UU_of (mt_3 (List.mem_of_getElem? (i := 148) (by decide +kernel))) (by decide +kernel)
theorem ml_X5_170 : Cond.methodLink RX5 170 yX2_freeByTiles ∈ UU := UU_of (mt_3 (List.mem_of_getElem? (i := 149) (by decide +kernel))) (by decide +kernel)
theorem im_X2_freeByTiles : Cond.instanceMethod yX2_freeByTiles ∈ UU := UU_of (mt_3 (List.mem_of_getElem? (i := 150) (by decide +kernel))) (by decide +kernel)
theorem se_X2_freeByTiles : Cond.selects RX2 yX2_freeByTiles yX2_freeByTiles ∈ UU := UU_of (mt_3 (List.mem_of_getElem? (i := 151) (by decide +kernel))) (by decide +kernel)
theorem co_X2_freeByTiles : Cond.code yX2_freeByTiles cX2_freeByTiles 1 (some .int) ∈ UU := UU_of (mt_3 (List.mem_of_getElem? (i := 152) (by decide +kernel))) (by decide +kernel)
theorem ml_L_113 : Cond.methodLink RL 113 yL_tryDraw ∈ UU := UU_of (mt_3 (List.mem_of_getElem? (i := 153) (by decide +kernel))) (by decide +kernel)
theorem st_L_tryDraw : Cond.static yL_tryDraw ∈ UU := UU_of (mt_3 (List.mem_of_getElem? (i := 154) (by decide +kernel))) (by decide +kernel)
theorem co_L_tryDraw : Cond.codeWith yL_tryDraw cL_tryDraw 2 (some .int) [(0, 4, 5, 23)] ∈ UU := UU_of (mt_3 (List.mem_of_getElem? (i := 155) (by decide +kernel))) (by decide +kernel)
theorem ml_L_60 : Cond.methodLink RL 60 yX5_draw ∈ UU := UU_of (mt_3 (List.mem_of_getElem? (i := 156) (by decide +kernel))) (by decide +kernel)
theorem im_X5_draw : Cond.instanceMethod yX5_draw ∈ UU := UU_of (mt_3 (List.mem_of_getElem? (i := 157) (by decide +kernel))) (by decide +kernel)
theorem se_X5_draw : Cond.selects RX5 yX5_draw yX5_draw ∈ UU := UU_of (mt_3 (List.mem_of_getElem? (i := 158) (by decide +kernel))) (by decide +kernel)
theorem co_X5_draw : Cond.code yX5_draw cX5_draw 1 (some .int) ∈ UU := UU_of (mt_3 (List.mem_of_getElem? (i := 159) (by decide +kernel))) (by decide +kernel)
theorem ml_X5_194 : Cond.methodLink RX5 194 yX0_canTakeFromHeap ∈ UU := UU_of (mt_3 (List.mem_of_getElem? (i := 160) (by decide +kernel))) (by decide +kernel)
theorem ml_X5_178 : Cond.methodLink RX5 178 yX1_remember ∈ UU := UU_of (mt_3 (List.mem_of_getElem? (i := 162) (by decide +kernel))) (by decide +kernel)
theorem im_X1_remember : Cond.instanceMethod yX1_remember ∈ UU := UU_of (mt_3 (List.mem_of_getElem? (i := 163) (by decide +kernel))) (by decide +kernel)
theorem se_X1_remember : Cond.selects RX1 yX1_remember yX1_remember ∈ UU := UU_of (mt_3 (List.mem_of_getElem? (i := 164) (by decide +kernel))) (by decide +kernel)
theorem co_X1_remember : Cond.code yX1_remember cX1_remember 3 none ∈ UU := UU_of (mt_3 (List.mem_of_getElem? (i := 165) (by decide +kernel))) (by decide +kernel)
theorem ml_X1_25 : Cond.methodLink RX1 25 yX1_stateOf ∈ UU := UU_of (mt_3 (List.mem_of_getElem? (i := 166) (by decide +kernel))) (by decide +kernel)
theorem im_X1_stateOf : Cond.instanceMethod yX1_stateOf ∈ UU := UU_of (mt_3 (List.mem_of_getElem? (i := 168) (by decide +kernel))) (by decide +kernel)
theorem co_X1_stateOf : Cond.code yX1_stateOf cX1_stateOf 3 (some (.object "SpiralDominoes$Game")) ∈ UU := UU_of (mt_3 (List.mem_of_getElem? (i := 169) (by decide +kernel))) (by decide +kernel)
theorem ml_X1_33 : Cond.methodLink RX1 33 yJ9_floorMod_7cf53 ∈ UU := UU_of (mt_3 (List.mem_of_getElem? (i := 170) (by decide +kernel))) (by decide +kernel)
theorem st_J9_floorMod_7cf53 : Cond.static yJ9_floorMod_7cf53 ∈ UU := UU_of (mt_3 (List.mem_of_getElem? (i := 171) (by decide +kernel))) (by decide +kernel)
theorem co_J9_floorMod_7cf53 : Cond.code yJ9_floorMod_7cf53 cJ9_floorMod_7cf53 3 (some .int) ∈ UU := UU_of (mt_3 (List.mem_of_getElem? (i := 172) (by decide +kernel))) (by decide +kernel)
theorem ml_X1_29 : Cond.methodLink RX1 29 yX0_becomeLike ∈ UU := UU_of (mt_3 (List.mem_of_getElem? (i := 173) (by decide +kernel))) (by decide +kernel)
theorem im_X0_becomeLike : Cond.instanceMethod yX0_becomeLike ∈ UU := UU_of (mt_3 (List.mem_of_getElem? (i := 174) (by decide +kernel))) (by decide +kernel)
theorem se_X0_becomeLike : Cond.selects RX0 yX0_becomeLike yX0_becomeLike ∈ UU := UU_of (mt_3 (List.mem_of_getElem? (i := 175) (by decide +kernel))) (by decide +kernel)
theorem co_X0_becomeLike : Cond.code yX0_becomeLike cX0_becomeLike 2 none ∈ UU := UU_of (mt_3 (List.mem_of_getElem? (i := 176) (by decide +kernel))) (by decide +kernel)
theorem ml_X0_68 : Cond.methodLink RX0 68 arraycopyName ∈ UU := UU_of (mt_3 (List.mem_of_getElem? (i := 177) (by decide +kernel))) (by decide +kernel)
theorem st_System_arraycopy : Cond.static arraycopyName ∈ UU := UU_of (mt_3 (List.mem_of_getElem? (i := 178) (by decide +kernel))) (by decide +kernel)
theorem na_System_arraycopy : Cond.native arraycopyName ∈ UU := UU_of (mt_3 (List.mem_of_getElem? (i := 179) (by decide +kernel))) (by decide +kernel)
theorem ml_X0_74 : Cond.methodLink RX0 74 yX2_becomeLike ∈ UU := UU_of (mt_3 (List.mem_of_getElem? (i := 180) (by decide +kernel))) (by decide +kernel)
theorem im_X2_becomeLike : Cond.instanceMethod yX2_becomeLike ∈ UU := UU_of (mt_3 (List.mem_of_getElem? (i := 181) (by decide +kernel))) (by decide +kernel)
theorem se_X2_becomeLike : Cond.selects RX2 yX2_becomeLike yX2_becomeLike ∈ UU := UU_of (mt_3 (List.mem_of_getElem? (i := 182) (by decide +kernel))) (by decide +kernel)
theorem co_X2_becomeLike : Cond.code yX2_becomeLike cX2_becomeLike 2 none ∈ UU := UU_of (mt_3 (List.mem_of_getElem? (i := 183) (by decide +kernel))) (by decide +kernel)
theorem ml_X2_52 : Cond.methodLink RX2 52 arraycopyName ∈ UU := UU_of (mt_3 (List.mem_of_getElem? (i := 184) (by decide +kernel))) (by decide +kernel)
theorem ml_L_116 : Cond.methodLink RL 116 yL_tryPass ∈ UU := UU_of (mt_3 (List.mem_of_getElem? (i := 185) (by decide +kernel))) (by decide +kernel)
theorem st_L_tryPass : Cond.static yL_tryPass ∈ UU := UU_of (mt_3 (List.mem_of_getElem? (i := 186) (by decide +kernel))) (by decide +kernel)
theorem co_L_tryPass : Cond.codeWith yL_tryPass cL_tryPass 2 (some .int) [(0, 4, 5, 23)] ∈ UU := UU_of (mt_3 (List.mem_of_getElem? (i := 187) (by decide +kernel))) (by decide +kernel)
theorem ml_L_63 : Cond.methodLink RL 63 yX5_pass ∈ UU := UU_of (mt_3 (List.mem_of_getElem? (i := 188) (by decide +kernel))) (by decide +kernel)
theorem im_X5_pass : Cond.instanceMethod yX5_pass ∈ UU := UU_of (mt_3 (List.mem_of_getElem? (i := 189) (by decide +kernel))) (by decide +kernel)
theorem se_X5_pass : Cond.selects RX5 yX5_pass yX5_pass ∈ UU := UU_of (mt_3 (List.mem_of_getElem? (i := 190) (by decide +kernel))) (by decide +kernel)
theorem co_X5_pass : Cond.code yX5_pass cX5_pass 1 (some .int) ∈ UU := UU_of (mt_3 (List.mem_of_getElem? (i := 191) (by decide +kernel))) (by decide +kernel)
theorem ml_X5_199 : Cond.methodLink RX5 199 yX0_canSkipTurn ∈ UU := UU_of (mt_3 (List.mem_of_getElem? (i := 192) (by decide +kernel))) (by decide +kernel)
theorem ml_L_119 : Cond.methodLink RL 119 yL_tryUndo ∈ UU := UU_of (mt_3 (List.mem_of_getElem? (i := 194) (by decide +kernel))) (by decide +kernel)
theorem st_L_tryUndo : Cond.static yL_tryUndo ∈ UU := UU_of (mt_3 (List.mem_of_getElem? (i := 195) (by decide +kernel))) (by decide +kernel)
theorem co_L_tryUndo : Cond.codeWith yL_tryUndo cL_tryUndo 2 (some .int) [(0, 4, 5, 23)] ∈ UU := UU_of (mt_3 (List.mem_of_getElem? (i := 196) (by decide +kernel))) (by decide +kernel)
theorem ml_L_66 : Cond.methodLink RL 66 yX5_undo ∈ UU := UU_of (mt_3 (List.mem_of_getElem? (i := 197) (by decide +kernel))) (by decide +kernel)
theorem im_X5_undo : Cond.instanceMethod yX5_undo ∈ UU := UU_of (mt_3 (List.mem_of_getElem? (i := 198) (by decide +kernel))) (by decide +kernel)
theorem se_X5_undo : Cond.selects RX5 yX5_undo yX5_undo ∈ UU := UU_of (mt_3 (List.mem_of_getElem? (i := 199) (by decide +kernel))) (by decide +kernel)
theorem co_X5_undo : Cond.code yX5_undo cX5_undo 1 (some .int) ∈ UU := UU_of (mt_3 (List.mem_of_getElem? (i := 200) (by decide +kernel))) (by decide +kernel)
theorem ml_X5_204 : Cond.methodLink RX5 204 yX1_size ∈ UU := UU_of (mt_3 (List.mem_of_getElem? (i := 201) (by decide +kernel))) (by decide +kernel)
theorem im_X1_size : Cond.instanceMethod yX1_size ∈ UU := UU_of (mt_3 (List.mem_of_getElem? (i := 202) (by decide +kernel))) (by decide +kernel)
theorem se_X1_size : Cond.selects RX1 yX1_size yX1_size ∈ UU := UU_of (mt_3 (List.mem_of_getElem? (i := 203) (by decide +kernel))) (by decide +kernel)
theorem co_X1_size : Cond.code yX1_size cX1_size 1 (some .int) ∈ UU := UU_of (mt_3 (List.mem_of_getElem? (i := 204) (by decide +kernel))) (by decide +kernel)
theorem ml_X5_207 : Cond.methodLink RX5 207 yX1_takeBack ∈ UU := UU_of (mt_3 (List.mem_of_getElem? (i := 206) (by decide +kernel))) (by decide +kernel)
theorem im_X1_takeBack : Cond.instanceMethod yX1_takeBack ∈ UU := UU_of (mt_3 (List.mem_of_getElem? (i := 207) (by decide +kernel))) (by decide +kernel)
theorem se_X1_takeBack : Cond.selects RX1 yX1_takeBack yX1_takeBack ∈ UU := UU_of (mt_3 (List.mem_of_getElem? (i := 208) (by decide +kernel))) (by decide +kernel)
theorem co_X1_takeBack : Cond.code yX1_takeBack cX1_takeBack 3 (some .int) ∈ UU := UU_of (mt_3 (List.mem_of_getElem? (i := 209) (by decide +kernel))) (by decide +kernel)
theorem ml_L_122 : Cond.methodLink RL 122 yL_tryWhy ∈ UU := UU_of (mt_3 (List.mem_of_getElem? (i := 210) (by decide +kernel))) (by decide +kernel)
theorem st_L_tryWhy : Cond.static yL_tryWhy ∈ UU := UU_of (mt_3 (List.mem_of_getElem? (i := 211) (by decide +kernel))) (by decide +kernel)
theorem co_L_tryWhy : Cond.codeWith yL_tryWhy cL_tryWhy 3 (some .int) [(0, 5, 6, 20)] ∈ UU := UU_of (mt_3 (List.mem_of_getElem? (i := 212) (by decide +kernel))) (by decide +kernel)
theorem ml_L_69 : Cond.methodLink RL 69 yX5_why ∈ UU := UU_of (mt_3 (List.mem_of_getElem? (i := 213) (by decide +kernel))) (by decide +kernel)
theorem im_X5_why : Cond.instanceMethod yX5_why ∈ UU := UU_of (mt_3 (List.mem_of_getElem? (i := 214) (by decide +kernel))) (by decide +kernel)
theorem se_X5_why : Cond.selects RX5 yX5_why yX5_why ∈ UU := UU_of (mt_3 (List.mem_of_getElem? (i := 215) (by decide +kernel))) (by decide +kernel)
theorem co_X5_why : Cond.code yX5_why cX5_why 2 (some .int) ∈ UU := UU_of (mt_3 (List.mem_of_getElem? (i := 216) (by decide +kernel))) (by decide +kernel)
theorem ml_X5_211 : Cond.methodLink RX5 211 yX0_reasonAgainst ∈ UU := UU_of (mt_3 (List.mem_of_getElem? (i := 217) (by decide +kernel))) (by decide +kernel)
theorem ml_L_125 : Cond.methodLink RL 125 yL_tryChain ∈ UU := UU_of (mt_3 (List.mem_of_getElem? (i := 218) (by decide +kernel))) (by decide +kernel)
theorem st_L_tryChain : Cond.static yL_tryChain ∈ UU := UU_of (mt_3 (List.mem_of_getElem? (i := 219) (by decide +kernel))) (by decide +kernel)
theorem co_L_tryChain : Cond.codeWith yL_tryChain cL_tryChain 4 (some .int) [(0, 6, 7, 20), (0, 6, 11, 13)] ∈ UU := UU_of (mt_3 (List.mem_of_getElem? (i := 220) (by decide +kernel))) (by decide +kernel)
theorem ml_L_72 : Cond.methodLink RL 72 yX5_chain ∈ UU := UU_of (mt_3 (List.mem_of_getElem? (i := 221) (by decide +kernel))) (by decide +kernel)
theorem im_X5_chain : Cond.instanceMethod yX5_chain ∈ UU := UU_of (mt_3 (List.mem_of_getElem? (i := 222) (by decide +kernel))) (by decide +kernel)
theorem se_X5_chain : Cond.selects RX5 yX5_chain yX5_chain ∈ UU := UU_of (mt_3 (List.mem_of_getElem? (i := 223) (by decide +kernel))) (by decide +kernel)
theorem co_X5_chain : Cond.code yX5_chain cX5_chain 3 (some .int) ∈ UU := UU_of (mt_3 (List.mem_of_getElem? (i := 224) (by decide +kernel))) (by decide +kernel)
theorem ml_X5_219 : Cond.methodLink RX5 219 yX0_longestChainOf ∈ UU := UU_of (mt_3 (List.mem_of_getElem? (i := 226) (by decide +kernel))) (by decide +kernel)
theorem im_X0_longestChainOf : Cond.instanceMethod yX0_longestChainOf ∈ UU := UU_of (mt_3 (List.mem_of_getElem? (i := 227) (by decide +kernel))) (by decide +kernel)
theorem se_X0_longestChainOf : Cond.selects RX0 yX0_longestChainOf yX0_longestChainOf ∈ UU := UU_of (mt_3 (List.mem_of_getElem? (i := 228) (by decide +kernel))) (by decide +kernel)
theorem co_X0_longestChainOf : Cond.code yX0_longestChainOf cX0_longestChainOf 4 (some .int) ∈ UU := UU_of (mt_3 (List.mem_of_getElem? (i := 229) (by decide +kernel))) (by decide +kernel)
theorem ml_X0_186 : Cond.methodLink RX0 186 yX0_mostBehind ∈ UU := UU_of (mt_3 (List.mem_of_getElem? (i := 230) (by decide +kernel))) (by decide +kernel)
theorem st_X0_mostBehind : Cond.static yX0_mostBehind ∈ UU := UU_of (mt_3 (List.mem_of_getElem? (i := 231) (by decide +kernel))) (by decide +kernel)
theorem co_X0_mostBehind : Cond.code yX0_mostBehind cX0_mostBehind 6 (some .int) ∈ UU := UU_of (mt_3 (List.mem_of_getElem? (i := 232) (by decide +kernel))) (by decide +kernel)
theorem st_X5_tileWith : Cond.static yX5_tileWith ∈ UU := UU_of (mt_3 (List.mem_of_getElem? (i := 234) (by decide +kernel))) (by decide +kernel)
theorem co_X5_tileWith : Cond.code yX5_tileWith cX5_tileWith 3 (some .int) ∈ UU := UU_of (mt_3 (List.mem_of_getElem? (i := 235) (by decide +kernel))) (by decide +kernel)
theorem ml_X5_296 : Cond.methodLink RX5 296 Lib.Math.min.name ∈ UU := UU_of (mt_3 (List.mem_of_getElem? (i := 236) (by decide +kernel))) (by decide +kernel)
theorem st_Math_min : Cond.static Lib.Math.min.name ∈ UU := UU_of (mt_3 (List.mem_of_getElem? (i := 237) (by decide +kernel))) (by decide +kernel)
theorem co_Math_min : Cond.code Lib.Math.min.name Lib.Math.min.code 2 (some .int) ∈ UU := UU_of (mt_3 (List.mem_of_getElem? (i := 238) (by decide +kernel))) (by decide +kernel)
theorem ml_X5_301 : Cond.methodLink RX5 301 Lib.Math.max.name ∈ UU := UU_of (mt_3 (List.mem_of_getElem? (i := 239) (by decide +kernel))) (by decide +kernel)
theorem st_Math_max : Cond.static Lib.Math.max.name ∈ UU := UU_of (mt_4 (List.mem_of_getElem? (i := 0) (by decide +kernel))) (by decide +kernel)
theorem co_Math_max : Cond.code Lib.Math.max.name Lib.Math.max.code 2 (some .int) ∈ UU := UU_of (mt_4 (List.mem_of_getElem? (i := 1) (by decide +kernel))) (by decide +kernel)
theorem ml_X0_194 : Cond.methodLink RX0 194 Lib.Math.max.name ∈ UU := UU_of (mt_4 (List.mem_of_getElem? (i := 2) (by decide +kernel))) (by decide +kernel)
theorem ml_X0_190 : Cond.methodLink RX0 190 yX0_mostFromAnyTile ∈ UU := UU_of (mt_4 (List.mem_of_getElem? (i := 3) (by decide +kernel))) (by decide +kernel)
theorem st_X0_mostFromAnyTile : Cond.static yX0_mostFromAnyTile ∈ UU := UU_of (mt_4 (List.mem_of_getElem? (i := 4) (by decide +kernel))) (by decide +kernel)
theorem co_X0_mostFromAnyTile : Cond.code yX0_mostFromAnyTile cX0_mostFromAnyTile 4 (some .int) ∈ UU := UU_of (mt_4 (List.mem_of_getElem? (i := 5) (by decide +kernel))) (by decide +kernel)
theorem ml_L_128 : Cond.methodLink RL 128 yL_tryReach ∈ UU := UU_of (mt_4 (List.mem_of_getElem? (i := 6) (by decide +kernel))) (by decide +kernel)
theorem st_L_tryReach : Cond.static yL_tryReach ∈ UU := UU_of (mt_4 (List.mem_of_getElem? (i := 7) (by decide +kernel))) (by decide +kernel)
theorem co_L_tryReach : Cond.codeWith yL_tryReach cL_tryReach 3 (some .int) [(0, 5, 6, 13)] ∈ UU := UU_of (mt_4 (List.mem_of_getElem? (i := 8) (by decide +kernel))) (by decide +kernel)
theorem ml_L_75 : Cond.methodLink RL 75 yX5_reach ∈ UU := UU_of (mt_4 (List.mem_of_getElem? (i := 9) (by decide +kernel))) (by decide +kernel)
theorem im_X5_reach : Cond.instanceMethod yX5_reach ∈ UU := UU_of (mt_4 (List.mem_of_getElem? (i := 10) (by decide +kernel))) (by decide +kernel)
theorem se_X5_reach : Cond.selects RX5 yX5_reach yX5_reach ∈ UU := UU_of (mt_4 (List.mem_of_getElem? (i := 11) (by decide +kernel))) (by decide +kernel)
theorem co_X5_reach : Cond.code yX5_reach cX5_reach 2 (some .int) ∈ UU := UU_of (mt_4 (List.mem_of_getElem? (i := 12) (by decide +kernel))) (by decide +kernel)
theorem ml_X5_222 : Cond.methodLink RX5 222 yX2_numberOfReach ∈ UU := UU_of (mt_4 (List.mem_of_getElem? (i := 13) (by decide +kernel))) (by decide +kernel)
theorem im_X2_numberOfReach : Cond.instanceMethod yX2_numberOfReach ∈ UU := UU_of (mt_4 (List.mem_of_getElem? (i := 14) (by decide +kernel))) (by decide +kernel)
theorem se_X2_numberOfReach : Cond.selects RX2 yX2_numberOfReach yX2_numberOfReach ∈ UU := UU_of (mt_4 (List.mem_of_getElem? (i := 15) (by decide +kernel))) (by decide +kernel)
theorem co_X2_numberOfReach : Cond.code yX2_numberOfReach cX2_numberOfReach 2 (some .int) ∈ UU := UU_of (mt_4 (List.mem_of_getElem? (i := 16) (by decide +kernel))) (by decide +kernel)
theorem ml_X2_82 : Cond.methodLink RX2 82 yX2_least ∈ UU := UU_of (mt_4 (List.mem_of_getElem? (i := 17) (by decide +kernel))) (by decide +kernel)
theorem im_X2_least : Cond.instanceMethod yX2_least ∈ UU := UU_of (mt_4 (List.mem_of_getElem? (i := 19) (by decide +kernel))) (by decide +kernel)
theorem co_X2_least : Cond.code yX2_least cX2_least 5 (some .int) ∈ UU := UU_of (mt_4 (List.mem_of_getElem? (i := 20) (by decide +kernel))) (by decide +kernel)
theorem ml_X2_92 : Cond.methodLink RX2 92 yX2_step ∈ UU := UU_of (mt_4 (List.mem_of_getElem? (i := 21) (by decide +kernel))) (by decide +kernel)
theorem im_X2_step : Cond.instanceMethod yX2_step ∈ UU := UU_of (mt_4 (List.mem_of_getElem? (i := 23) (by decide +kernel))) (by decide +kernel)
theorem co_X2_step : Cond.code yX2_step cX2_step 3 (some .int) ∈ UU := UU_of (mt_4 (List.mem_of_getElem? (i := 24) (by decide +kernel))) (by decide +kernel)
theorem ml_X2_96 : Cond.methodLink RX2 96 Lib.Math.min.name ∈ UU := UU_of (mt_4 (List.mem_of_getElem? (i := 25) (by decide +kernel))) (by decide +kernel)
theorem ml_X2_86 : Cond.methodLink RX2 86 yX2_greatest ∈ UU := UU_of (mt_4 (List.mem_of_getElem? (i := 26) (by decide +kernel))) (by decide +kernel)
theorem im_X2_greatest : Cond.instanceMethod yX2_greatest ∈ UU := UU_of (mt_4 (List.mem_of_getElem? (i := 28) (by decide +kernel))) (by decide +kernel)
theorem co_X2_greatest : Cond.code yX2_greatest cX2_greatest 5 (some .int) ∈ UU := UU_of (mt_4 (List.mem_of_getElem? (i := 29) (by decide +kernel))) (by decide +kernel)
theorem ml_X2_102 : Cond.methodLink RX2 102 Lib.Math.max.name ∈ UU := UU_of (mt_4 (List.mem_of_getElem? (i := 30) (by decide +kernel))) (by decide +kernel)
theorem ml_X2_89 : Cond.methodLink RX2 89 yX2_turnsTo ∈ UU := UU_of (mt_4 (List.mem_of_getElem? (i := 31) (by decide +kernel))) (by decide +kernel)
theorem im_X2_turnsTo : Cond.instanceMethod yX2_turnsTo ∈ UU := UU_of (mt_4 (List.mem_of_getElem? (i := 33) (by decide +kernel))) (by decide +kernel)
theorem co_X2_turnsTo : Cond.code yX2_turnsTo cX2_turnsTo 5 (some .int) ∈ UU := UU_of (mt_4 (List.mem_of_getElem? (i := 34) (by decide +kernel))) (by decide +kernel)
theorem ml_L_131 : Cond.methodLink RL 131 yL_tryKeep ∈ UU := UU_of (mt_4 (List.mem_of_getElem? (i := 35) (by decide +kernel))) (by decide +kernel)
theorem st_L_tryKeep : Cond.static yL_tryKeep ∈ UU := UU_of (mt_4 (List.mem_of_getElem? (i := 36) (by decide +kernel))) (by decide +kernel)
theorem co_L_tryKeep : Cond.codeWith yL_tryKeep cL_tryKeep 3 (some .int) [(0, 5, 6, 20)] ∈ UU := UU_of (mt_4 (List.mem_of_getElem? (i := 37) (by decide +kernel))) (by decide +kernel)
theorem ml_L_78 : Cond.methodLink RL 78 yX5_save ∈ UU := UU_of (mt_4 (List.mem_of_getElem? (i := 38) (by decide +kernel))) (by decide +kernel)
theorem im_X5_save : Cond.instanceMethod yX5_save ∈ UU := UU_of (mt_4 (List.mem_of_getElem? (i := 39) (by decide +kernel))) (by decide +kernel)
theorem se_X5_save : Cond.selects RX5 yX5_save yX5_save ∈ UU := UU_of (mt_4 (List.mem_of_getElem? (i := 40) (by decide +kernel))) (by decide +kernel)
theorem co_X5_save : Cond.code yX5_save cX5_save 2 (some .int) ∈ UU := UU_of (mt_4 (List.mem_of_getElem? (i := 41) (by decide +kernel))) (by decide +kernel)
theorem ml_X5_276 : Cond.methodLink RX5 276 yX5_slotOf ∈ UU := UU_of (mt_4 (List.mem_of_getElem? (i := 43) (by decide +kernel))) (by decide +kernel)
theorem im_X5_slotOf : Cond.instanceMethod yX5_slotOf ∈ UU := UU_of (mt_4 (List.mem_of_getElem? (i := 45) (by decide +kernel))) (by decide +kernel)
theorem co_X5_slotOf : Cond.code yX5_slotOf cX5_slotOf 2 (some (.object "SpiralDominoes$Slot")) ∈ UU := UU_of (mt_4 (List.mem_of_getElem? (i := 46) (by decide +kernel))) (by decide +kernel)
theorem ml_X5_280 : Cond.methodLink RX5 280 yX3_keep ∈ UU := UU_of (mt_4 (List.mem_of_getElem? (i := 47) (by decide +kernel))) (by decide +kernel)
theorem im_X3_keep : Cond.instanceMethod yX3_keep ∈ UU := UU_of (mt_4 (List.mem_of_getElem? (i := 48) (by decide +kernel))) (by decide +kernel)
theorem se_X3_keep : Cond.selects RX3 yX3_keep yX3_keep ∈ UU := UU_of (mt_4 (List.mem_of_getElem? (i := 49) (by decide +kernel))) (by decide +kernel)
theorem co_X3_keep : Cond.code yX3_keep cX3_keep 2 none ∈ UU := UU_of (mt_4 (List.mem_of_getElem? (i := 50) (by decide +kernel))) (by decide +kernel)
theorem ml_X3_20 : Cond.methodLink RX3 20 yX0_becomeLike ∈ UU := UU_of (mt_4 (List.mem_of_getElem? (i := 51) (by decide +kernel))) (by decide +kernel)
theorem ml_X5_182 : Cond.methodLink RX5 182 yX0_roundsSoFar ∈ UU := UU_of (mt_4 (List.mem_of_getElem? (i := 52) (by decide +kernel))) (by decide +kernel)
theorem im_X0_roundsSoFar : Cond.instanceMethod yX0_roundsSoFar ∈ UU := UU_of (mt_4 (List.mem_of_getElem? (i := 53) (by decide +kernel))) (by decide +kernel)
theorem se_X0_roundsSoFar : Cond.selects RX0 yX0_roundsSoFar yX0_roundsSoFar ∈ UU := UU_of (mt_4 (List.mem_of_getElem? (i := 54) (by decide +kernel))) (by decide +kernel)
theorem co_X0_roundsSoFar : Cond.code yX0_roundsSoFar cX0_roundsSoFar 1 (some .int) ∈ UU := UU_of (mt_4 (List.mem_of_getElem? (i := 55) (by decide +kernel))) (by decide +kernel)
theorem ml_L_134 : Cond.methodLink RL 134 yL_tryBack ∈ UU := UU_of (mt_4 (List.mem_of_getElem? (i := 56) (by decide +kernel))) (by decide +kernel)
theorem st_L_tryBack : Cond.static yL_tryBack ∈ UU := UU_of (mt_4 (List.mem_of_getElem? (i := 57) (by decide +kernel))) (by decide +kernel)
theorem co_L_tryBack : Cond.codeWith yL_tryBack cL_tryBack 3 (some .int) [(0, 5, 6, 20), (0, 5, 10, 23)] ∈ UU := UU_of (mt_4 (List.mem_of_getElem? (i := 58) (by decide +kernel))) (by decide +kernel)
theorem ml_L_81 : Cond.methodLink RL 81 yX5_restore ∈ UU := UU_of (mt_4 (List.mem_of_getElem? (i := 59) (by decide +kernel))) (by decide +kernel)
theorem im_X5_restore : Cond.instanceMethod yX5_restore ∈ UU := UU_of (mt_4 (List.mem_of_getElem? (i := 60) (by decide +kernel))) (by decide +kernel)
theorem se_X5_restore : Cond.selects RX5 yX5_restore yX5_restore ∈ UU := UU_of (mt_4 (List.mem_of_getElem? (i := 61) (by decide +kernel))) (by decide +kernel)
theorem co_X5_restore : Cond.code yX5_restore cX5_restore 2 (some .int) ∈ UU := UU_of (mt_4 (List.mem_of_getElem? (i := 62) (by decide +kernel))) (by decide +kernel)
theorem ml_X5_283 : Cond.methodLink RX5 283 yX3_isFull ∈ UU := UU_of (mt_4 (List.mem_of_getElem? (i := 63) (by decide +kernel))) (by decide +kernel)
theorem im_X3_isFull : Cond.instanceMethod yX3_isFull ∈ UU := UU_of (mt_4 (List.mem_of_getElem? (i := 64) (by decide +kernel))) (by decide +kernel)
theorem se_X3_isFull : Cond.selects RX3 yX3_isFull yX3_isFull ∈ UU := UU_of (mt_4 (List.mem_of_getElem? (i := 65) (by decide +kernel))) (by decide +kernel)
theorem co_X3_isFull : Cond.code yX3_isFull cX3_isFull 1 (some .boolean) ∈ UU := UU_of (mt_4 (List.mem_of_getElem? (i := 66) (by decide +kernel))) (by decide +kernel)
theorem ml_X5_286 : Cond.methodLink RX5 286 yX3_giveBack ∈ UU := UU_of (mt_4 (List.mem_of_getElem? (i := 68) (by decide +kernel))) (by decide +kernel)
theorem im_X3_giveBack : Cond.instanceMethod yX3_giveBack ∈ UU := UU_of (mt_4 (List.mem_of_getElem? (i := 69) (by decide +kernel))) (by decide +kernel)
theorem se_X3_giveBack : Cond.selects RX3 yX3_giveBack yX3_giveBack ∈ UU := UU_of (mt_4 (List.mem_of_getElem? (i := 70) (by decide +kernel))) (by decide +kernel)
theorem co_X3_giveBack : Cond.code yX3_giveBack cX3_giveBack 2 none ∈ UU := UU_of (mt_4 (List.mem_of_getElem? (i := 71) (by decide +kernel))) (by decide +kernel)
theorem ml_L_143 : Cond.methodLink RL 143 yL_deals ∈ UU := UU_of (mt_4 (List.mem_of_getElem? (i := 72) (by decide +kernel))) (by decide +kernel)
theorem st_L_deals : Cond.static yL_deals ∈ UU := UU_of (mt_4 (List.mem_of_getElem? (i := 73) (by decide +kernel))) (by decide +kernel)
theorem co_L_deals : Cond.codeWith yL_deals cL_deals 5 (some .int) [(0, 6, 7, 13)] ∈ UU := UU_of (mt_4 (List.mem_of_getElem? (i := 74) (by decide +kernel))) (by decide +kernel)
theorem ml_L_7 : Cond.methodLink RL 7 yX5_deal ∈ UU := UU_of (mt_4 (List.mem_of_getElem? (i := 75) (by decide +kernel))) (by decide +kernel)
theorem im_X5_deal : Cond.instanceMethod yX5_deal ∈ UU := UU_of (mt_4 (List.mem_of_getElem? (i := 76) (by decide +kernel))) (by decide +kernel)
theorem se_X5_deal : Cond.selects RX5 yX5_deal yX5_deal ∈ UU := UU_of (mt_4 (List.mem_of_getElem? (i := 77) (by decide +kernel))) (by decide +kernel)
theorem co_X5_deal : Cond.code yX5_deal cX5_deal 4 (some .int) ∈ UU := UU_of (mt_4 (List.mem_of_getElem? (i := 78) (by decide +kernel))) (by decide +kernel)
theorem ml_X5_173 : Cond.methodLink RX5 173 yX5_isNumberOfPlayers ∈ UU := UU_of (mt_4 (List.mem_of_getElem? (i := 79) (by decide +kernel))) (by decide +kernel)
theorem st_X5_isNumberOfPlayers : Cond.static yX5_isNumberOfPlayers ∈ UU := UU_of (mt_4 (List.mem_of_getElem? (i := 80) (by decide +kernel))) (by decide +kernel)
theorem co_X5_isNumberOfPlayers : Cond.code yX5_isNumberOfPlayers cX5_isNumberOfPlayers 1 (some .boolean) ∈ UU := UU_of (mt_4 (List.mem_of_getElem? (i := 81) (by decide +kernel))) (by decide +kernel)
theorem ml_L_147 : Cond.methodLink RL 147 yL_plays ∈ UU := UU_of (mt_4 (List.mem_of_getElem? (i := 83) (by decide +kernel))) (by decide +kernel)
theorem st_L_plays : Cond.static yL_plays ∈ UU := UU_of (mt_4 (List.mem_of_getElem? (i := 84) (by decide +kernel))) (by decide +kernel)
theorem co_L_plays : Cond.codeWith yL_plays cL_plays 4 (some .int) [(0, 6, 7, 20), (0, 6, 11, 23)] ∈ UU := UU_of (mt_4 (List.mem_of_getElem? (i := 85) (by decide +kernel))) (by decide +kernel)
theorem ml_L_16 : Cond.methodLink RL 16 yX5_play ∈ UU := UU_of (mt_4 (List.mem_of_getElem? (i := 86) (by decide +kernel))) (by decide +kernel)
theorem im_X5_play : Cond.instanceMethod yX5_play ∈ UU := UU_of (mt_4 (List.mem_of_getElem? (i := 87) (by decide +kernel))) (by decide +kernel)
theorem se_X5_play : Cond.selects RX5 yX5_play yX5_play ∈ UU := UU_of (mt_4 (List.mem_of_getElem? (i := 88) (by decide +kernel))) (by decide +kernel)
theorem co_X5_play : Cond.code yX5_play cX5_play 3 (some .int) ∈ UU := UU_of (mt_4 (List.mem_of_getElem? (i := 89) (by decide +kernel))) (by decide +kernel)
theorem ml_X5_185 : Cond.methodLink RX5 185 yX0_isPlayed ∈ UU := UU_of (mt_4 (List.mem_of_getElem? (i := 90) (by decide +kernel))) (by decide +kernel)
theorem ml_X5_190 : Cond.methodLink RX5 190 yX0_layOrRefuse ∈ UU := UU_of (mt_4 (List.mem_of_getElem? (i := 92) (by decide +kernel))) (by decide +kernel)
theorem im_X0_layOrRefuse : Cond.instanceMethod yX0_layOrRefuse ∈ UU := UU_of (mt_4 (List.mem_of_getElem? (i := 93) (by decide +kernel))) (by decide +kernel)
theorem se_X0_layOrRefuse : Cond.selects RX0 yX0_layOrRefuse yX0_layOrRefuse ∈ UU := UU_of (mt_4 (List.mem_of_getElem? (i := 94) (by decide +kernel))) (by decide +kernel)
theorem co_X0_layOrRefuse : Cond.code yX0_layOrRefuse cX0_layOrRefuse 4 (some .int) ∈ UU := UU_of (mt_4 (List.mem_of_getElem? (i := 95) (by decide +kernel))) (by decide +kernel)
theorem ml_X0_156 : Cond.methodLink RX0 156 yX0_layIfPossible ∈ UU := UU_of (mt_4 (List.mem_of_getElem? (i := 96) (by decide +kernel))) (by decide +kernel)
theorem ml_L_151 : Cond.methodLink RL 151 yL_doScript ∈ UU := UU_of (mt_4 (List.mem_of_getElem? (i := 97) (by decide +kernel))) (by decide +kernel)
theorem st_L_doScript : Cond.static yL_doScript ∈ UU := UU_of (mt_4 (List.mem_of_getElem? (i := 98) (by decide +kernel))) (by decide +kernel)
theorem co_L_doScript : Cond.codeWith yL_doScript cL_doScript 5 (some .int) [(0, 6, 7, 13)] ∈ UU := UU_of (mt_4 (List.mem_of_getElem? (i := 99) (by decide +kernel))) (by decide +kernel)
theorem ml_L_26 : Cond.methodLink RL 26 yX5_runScript ∈ UU := UU_of (mt_4 (List.mem_of_getElem? (i := 100) (by decide +kernel))) (by decide +kernel)
theorem im_X5_runScript : Cond.instanceMethod yX5_runScript ∈ UU := UU_of (mt_4 (List.mem_of_getElem? (i := 101) (by decide +kernel))) (by decide +kernel)
theorem se_X5_runScript : Cond.selects RX5 yX5_runScript yX5_runScript ∈ UU := UU_of (mt_4 (List.mem_of_getElem? (i := 102) (by decide +kernel))) (by decide +kernel)
theorem co_X5_runScript : Cond.code yX5_runScript cX5_runScript 5 (some .int) ∈ UU := UU_of (mt_4 (List.mem_of_getElem? (i := 103) (by decide +kernel))) (by decide +kernel)
theorem ml_X5_227 : Cond.methodLink RX5 227 yX5_withoutGroups ∈ UU := UU_of (mt_4 (List.mem_of_getElem? (i := 105) (by decide +kernel))) (by decide +kernel)
theorem st_X5_withoutGroups : Cond.static yX5_withoutGroups ∈ UU := UU_of (mt_4 (List.mem_of_getElem? (i := 106) (by decide +kernel))) (by decide +kernel)
theorem co_X5_withoutGroups : Cond.code yX5_withoutGroups cX5_withoutGroups 6 (some .long) ∈ UU := UU_of (mt_4 (List.mem_of_getElem? (i := 107) (by decide +kernel))) (by decide +kernel)
theorem cn_X5_236 : Cond.constantLong RX5 236 (10000) ∈ UU := UU_of (mt_4 (List.mem_of_getElem? (i := 108) (by decide +kernel))) (by decide +kernel)
theorem ml_X5_233 : Cond.methodLink RX5 233 yX0_becomeLike ∈ UU := UU_of (mt_4 (List.mem_of_getElem? (i := 110) (by decide +kernel))) (by decide +kernel)
theorem ml_X5_238 : Cond.methodLink RX5 238 yX5_succeeds ∈ UU := UU_of (mt_4 (List.mem_of_getElem? (i := 111) (by decide +kernel))) (by decide +kernel)
theorem im_X5_succeeds : Cond.instanceMethod yX5_succeeds ∈ UU := UU_of (mt_4 (List.mem_of_getElem? (i := 113) (by decide +kernel))) (by decide +kernel)
theorem co_X5_succeeds : Cond.code yX5_succeeds cX5_succeeds 4 (some .boolean) ∈ UU := UU_of (mt_4 (List.mem_of_getElem? (i := 114) (by decide +kernel))) (by decide +kernel)
theorem ml_X5_241 : Cond.methodLink RX5 241 yX0_layHeaviest ∈ UU := UU_of (mt_4 (List.mem_of_getElem? (i := 115) (by decide +kernel))) (by decide +kernel)
theorem im_X0_layHeaviest : Cond.instanceMethod yX0_layHeaviest ∈ UU := UU_of (mt_4 (List.mem_of_getElem? (i := 116) (by decide +kernel))) (by decide +kernel)
theorem se_X0_layHeaviest : Cond.selects RX0 yX0_layHeaviest yX0_layHeaviest ∈ UU := UU_of (mt_4 (List.mem_of_getElem? (i := 117) (by decide +kernel))) (by decide +kernel)
theorem co_X0_layHeaviest : Cond.code yX0_layHeaviest cX0_layHeaviest 3 (some .boolean) ∈ UU := UU_of (mt_4 (List.mem_of_getElem? (i := 118) (by decide +kernel))) (by decide +kernel)
theorem ml_X0_171 : Cond.methodLink RX0 171 yX0_heaviestPlayable ∈ UU := UU_of (mt_4 (List.mem_of_getElem? (i := 119) (by decide +kernel))) (by decide +kernel)
theorem ml_X5_244 : Cond.methodLink RX5 244 yX0_playerToMove ∈ UU := UU_of (mt_4 (List.mem_of_getElem? (i := 120) (by decide +kernel))) (by decide +kernel)
theorem ml_X5_247 : Cond.methodLink RX5 247 yX0_tilesOf ∈ UU := UU_of (mt_4 (List.mem_of_getElem? (i := 121) (by decide +kernel))) (by decide +kernel)
theorem ml_X5_250 : Cond.methodLink RX5 250 yX2_endOfNow ∈ UU := UU_of (mt_4 (List.mem_of_getElem? (i := 122) (by decide +kernel))) (by decide +kernel)
theorem cn_L_154 : Cond.constantLong RL 154 (10000) ∈ UU := UU_of (mt_4 (List.mem_of_getElem? (i := 123) (by decide +kernel))) (by decide +kernel)
theorem ml_L_156 : Cond.methodLink RL 156 yL_doSimulate ∈ UU := UU_of (mt_4 (List.mem_of_getElem? (i := 124) (by decide +kernel))) (by decide +kernel)
theorem st_L_doSimulate : Cond.static yL_doSimulate ∈ UU := UU_of (mt_4 (List.mem_of_getElem? (i := 125) (by decide +kernel))) (by decide +kernel)
theorem co_L_doSimulate : Cond.codeWith yL_doSimulate cL_doSimulate 5 (some .int) [(0, 6, 7, 13)] ∈ UU := UU_of (mt_4 (List.mem_of_getElem? (i := 126) (by decide +kernel))) (by decide +kernel)
theorem ml_L_29 : Cond.methodLink RL 29 yX5_simulate ∈ UU := UU_of (mt_4 (List.mem_of_getElem? (i := 127) (by decide +kernel))) (by decide +kernel)
theorem im_X5_simulate : Cond.instanceMethod yX5_simulate ∈ UU := UU_of (mt_4 (List.mem_of_getElem? (i := 128) (by decide +kernel))) (by decide +kernel)
theorem se_X5_simulate : Cond.selects RX5 yX5_simulate yX5_simulate ∈ UU := UU_of (mt_4 (List.mem_of_getElem? (i := 129) (by decide +kernel))) (by decide +kernel)
theorem co_X5_simulate : Cond.code yX5_simulate cX5_simulate 7 (some .int) ∈ UU := UU_of (mt_4 (List.mem_of_getElem? (i := 130) (by decide +kernel))) (by decide +kernel)
theorem cn_X5_255 : Cond.constantLong RX5 255 (6364136223846793005) ∈ UU := UU_of (mt_4 (List.mem_of_getElem? (i := 132) (by decide +kernel))) (by decide +kernel)
theorem cn_X5_257 : Cond.constantLong RX5 257 (1442695040888963407) ∈ UU := UU_of (mt_4 (List.mem_of_getElem? (i := 133) (by decide +kernel))) (by decide +kernel)
theorem ml_X5_259 : Cond.methodLink RX5 259 yX5_simulateTurn ∈ UU := UU_of (mt_4 (List.mem_of_getElem? (i := 134) (by decide +kernel))) (by decide +kernel)
theorem im_X5_simulateTurn : Cond.instanceMethod yX5_simulateTurn ∈ UU := UU_of (mt_4 (List.mem_of_getElem? (i := 136) (by decide +kernel))) (by decide +kernel)
theorem co_X5_simulateTurn : Cond.code yX5_simulateTurn cX5_simulateTurn 5 none ∈ UU := UU_of (mt_4 (List.mem_of_getElem? (i := 137) (by decide +kernel))) (by decide +kernel)
theorem ml_X5_214 : Cond.methodLink RX5 214 yX0_playable ∈ UU := UU_of (mt_4 (List.mem_of_getElem? (i := 138) (by decide +kernel))) (by decide +kernel)
theorem im_X0_playable : Cond.instanceMethod yX0_playable ∈ UU := UU_of (mt_4 (List.mem_of_getElem? (i := 139) (by decide +kernel))) (by decide +kernel)
theorem se_X0_playable : Cond.selects RX0 yX0_playable yX0_playable ∈ UU := UU_of (mt_4 (List.mem_of_getElem? (i := 140) (by decide +kernel))) (by decide +kernel)
theorem co_X0_playable : Cond.code yX0_playable cX0_playable 3 (some .int) ∈ UU := UU_of (mt_4 (List.mem_of_getElem? (i := 141) (by decide +kernel))) (by decide +kernel)
theorem ml_X5_266 : Cond.methodLink RX5 266 yJ6_bitCount_0f7a4 ∈ UU := UU_of (mt_4 (List.mem_of_getElem? (i := 142) (by decide +kernel))) (by decide +kernel)
theorem ml_X5_271 : Cond.methodLink RX5 271 yX5_memberOf ∈ UU := UU_of (mt_4 (List.mem_of_getElem? (i := 143) (by decide +kernel))) (by decide +kernel)
theorem st_X5_memberOf : Cond.static yX5_memberOf ∈ UU := UU_of (mt_4 (List.mem_of_getElem? (i := 144) (by decide +kernel))) (by decide +kernel)
theorem co_X5_memberOf : Cond.code yX5_memberOf cX5_memberOf 4 (some .int) ∈ UU := UU_of (mt_4 (List.mem_of_getElem? (i := 145) (by decide +kernel))) (by decide +kernel)
theorem ml_X5_263 : Cond.methodLink RX5 263 yX0_heapSize ∈ UU := UU_of (mt_4 (List.mem_of_getElem? (i := 146) (by decide +kernel))) (by decide +kernel)
theorem ml_L_160 : Cond.methodLink RL 160 yX5_legal ∈ UU := UU_of (mt_4 (List.mem_of_getElem? (i := 147) (by decide +kernel))) (by decide +kernel)
theorem im_X5_legal : Cond.instanceMethod yX5_legal ∈ UU := UU_of (mt_4 (List.mem_of_getElem? (i := 148) (by decide +kernel))) (by decide +kernel)
theorem se_X5_legal : Cond.selects RX5 yX5_legal yX5_legal ∈ UU := UU_of (mt_4 (List.mem_of_getElem? (i := 149) (by decide +kernel))) (by decide +kernel)
theorem co_X5_legal : Cond.code yX5_legal cX5_legal 1 (some .int) ∈ UU := UU_of (mt_4 (List.mem_of_getElem? (i := 150) (by decide +kernel))) (by decide +kernel)
theorem ml_L_163 : Cond.methodLink RL 163 yX5_best ∈ UU := UU_of (mt_4 (List.mem_of_getElem? (i := 151) (by decide +kernel))) (by decide +kernel)
theorem im_X5_best : Cond.instanceMethod yX5_best ∈ UU := UU_of (mt_4 (List.mem_of_getElem? (i := 152) (by decide +kernel))) (by decide +kernel)
theorem se_X5_best : Cond.selects RX5 yX5_best yX5_best ∈ UU := UU_of (mt_4 (List.mem_of_getElem? (i := 153) (by decide +kernel))) (by decide +kernel)
theorem co_X5_best : Cond.code yX5_best cX5_best 1 (some .int) ∈ UU := UU_of (mt_4 (List.mem_of_getElem? (i := 154) (by decide +kernel))) (by decide +kernel)
theorem ml_L_189 : Cond.methodLink RL 189 yL_holds ∈ UU := UU_of (mt_4 (List.mem_of_getElem? (i := 155) (by decide +kernel))) (by decide +kernel)
theorem st_L_holds : Cond.static yL_holds ∈ UU := UU_of (mt_4 (List.mem_of_getElem? (i := 156) (by decide +kernel))) (by decide +kernel)
set_option maxRecDepth 100000 in
theorem co_L_holds : Cond.code yL_holds cL_holds 24 (some .boolean) ∈ UU := UU_of (mt_4 (List.mem_of_getElem? (i := 157) rfl)) (by decide +kernel)
theorem ml_L_166 : Cond.methodLink RL 166 yL_next ∈ UU := UU_of (mt_4 (List.mem_of_getElem? (i := 158) (by decide +kernel))) (by decide +kernel)
theorem st_L_next : Cond.static yL_next ∈ UU := UU_of (mt_4 (List.mem_of_getElem? (i := 159) (by decide +kernel))) (by decide +kernel)
theorem co_L_next : Cond.code yL_next cL_next 9 (some .boolean) ∈ UU := UU_of (mt_4 (List.mem_of_getElem? (i := 160) (by decide +kernel))) (by decide +kernel)
theorem ml_L_177 : Cond.methodLink RL 177 yL_act ∈ UU := UU_of (mt_4 (List.mem_of_getElem? (i := 161) (by decide +kernel))) (by decide +kernel)
theorem st_L_act : Cond.static yL_act ∈ UU := UU_of (mt_4 (List.mem_of_getElem? (i := 162) (by decide +kernel))) (by decide +kernel)
set_option maxRecDepth 100000 in
theorem co_L_act : Cond.code yL_act cL_act 8 (some .int) ∈ UU := UU_of (mt_4 (List.mem_of_getElem? (i := 163) rfl)) (by decide +kernel)
theorem cn_L_170 : Cond.constantLong RL 170 (4294967437) ∈ UU := UU_of (mt_4 (List.mem_of_getElem? (i := 164) (by decide +kernel))) (by decide +kernel)
theorem ml_L_185 : Cond.methodLink RL 185 yL_alike ∈ UU := UU_of (mt_4 (List.mem_of_getElem? (i := 165) (by decide +kernel))) (by decide +kernel)
theorem st_L_alike : Cond.static yL_alike ∈ UU := UU_of (mt_4 (List.mem_of_getElem? (i := 166) (by decide +kernel))) (by decide +kernel)
theorem co_L_alike : Cond.code yL_alike cL_alike 5 (some .boolean) ∈ UU := UU_of (mt_4 (List.mem_of_getElem? (i := 167) (by decide +kernel))) (by decide +kernel)
theorem ml_L_192 : Cond.methodLink RL 192 yL_lays ∈ UU := UU_of (mt_4 (List.mem_of_getElem? (i := 168) (by decide +kernel))) (by decide +kernel)
theorem st_L_lays : Cond.static yL_lays ∈ UU := UU_of (mt_4 (List.mem_of_getElem? (i := 169) (by decide +kernel))) (by decide +kernel)
set_option maxRecDepth 100000 in
theorem co_L_lays : Cond.code yL_lays cL_lays 19 (some .boolean) ∈ UU := UU_of (mt_4 (List.mem_of_getElem? (i := 170) rfl)) (by decide +kernel)
theorem ml_L_195 : Cond.methodLink RL 195 yL_thrown ∈ UU := UU_of (mt_4 (List.mem_of_getElem? (i := 171) (by decide +kernel))) (by decide +kernel)
theorem st_L_thrown : Cond.static yL_thrown ∈ UU := UU_of (mt_4 (List.mem_of_getElem? (i := 172) (by decide +kernel))) (by decide +kernel)
theorem co_L_thrown : Cond.code yL_thrown cL_thrown 1 (some .boolean) ∈ UU := UU_of (mt_4 (List.mem_of_getElem? (i := 173) (by decide +kernel))) (by decide +kernel)
theorem cn_L_180 : Cond.constant RL 180 (100000) ∈ UU := UU_of (mt_4 (List.mem_of_getElem? (i := 174) (by decide +kernel))) (by decide +kernel)
theorem se_X4_isAllowed : Cond.selects RX4 yX4_isAllowed yX4_isAllowed ∈ UU := UU_of (List.mem_append_left _ (by decide +kernel)) (by decide +kernel)
theorem se_X4_isDigit : Cond.selects RX4 yX4_isDigit yX4_isDigit ∈ UU := UU_of (List.mem_append_left _ (by decide +kernel)) (by decide +kernel)
theorem se_X5_doCommandsOfText : Cond.selects RX5 yX5_doCommandsOfText yX5_doCommandsOfText ∈ UU := UU_of (List.mem_append_left _ (by decide +kernel)) (by decide +kernel)
theorem se_X5_doCommandAt : Cond.selects RX5 yX5_doCommandAt yX5_doCommandAt ∈ UU := UU_of (List.mem_append_left _ (by decide +kernel)) (by decide +kernel)
theorem se_X0_shuffle : Cond.selects RX0 yX0_shuffle yX0_shuffle ∈ UU := UU_of (List.mem_append_left _ (by decide +kernel)) (by decide +kernel)
theorem se_X0_giveTo : Cond.selects RX0 yX0_giveTo yX0_giveTo ∈ UU := UU_of (List.mem_append_left _ (by decide +kernel)) (by decide +kernel)
theorem se_X0_holderOf : Cond.selects RX0 yX0_holderOf yX0_holderOf ∈ UU := UU_of (List.mem_append_left _ (by decide +kernel)) (by decide +kernel)
theorem se_X2_isFree : Cond.selects RX2 yX2_isFree yX2_isFree ∈ UU := UU_of (List.mem_append_left _ (by decide +kernel)) (by decide +kernel)
theorem se_X2_cover : Cond.selects RX2 yX2_cover yX2_cover ∈ UU := UU_of (List.mem_append_left _ (by decide +kernel)) (by decide +kernel)
theorem se_X0_handOf : Cond.selects RX0 yX0_handOf yX0_handOf ∈ UU := UU_of (List.mem_append_left _ (by decide +kernel)) (by decide +kernel)
theorem se_X0_winRound : Cond.selects RX0 yX0_winRound yX0_winRound ∈ UU := UU_of (List.mem_append_left _ (by decide +kernel)) (by decide +kernel)
theorem se_X0_pipsOf : Cond.selects RX0 yX0_pipsOf yX0_pipsOf ∈ UU := UU_of (List.mem_append_left _ (by decide +kernel)) (by decide +kernel)
theorem se_X0_goToNextPlayer : Cond.selects RX0 yX0_goToNextPlayer yX0_goToNextPlayer ∈ UU := UU_of (List.mem_append_left _ (by decide +kernel)) (by decide +kernel)
theorem se_X0_playerWithFewestPips : Cond.selects RX0 yX0_playerWithFewestPips yX0_playerWithFewestPips ∈ UU := UU_of (List.mem_append_left _ (by decide +kernel)) (by decide +kernel)
theorem se_X0_placeInHeap : Cond.selects RX0 yX0_placeInHeap yX0_placeInHeap ∈ UU := UU_of (List.mem_append_left _ (by decide +kernel)) (by decide +kernel)
theorem se_X1_stateOf : Cond.selects RX1 yX1_stateOf yX1_stateOf ∈ UU := UU_of (List.mem_append_left _ (by decide +kernel)) (by decide +kernel)
theorem se_X2_least : Cond.selects RX2 yX2_least yX2_least ∈ UU := UU_of (List.mem_append_left _ (by decide +kernel)) (by decide +kernel)
theorem se_X2_step : Cond.selects RX2 yX2_step yX2_step ∈ UU := UU_of (List.mem_append_left _ (by decide +kernel)) (by decide +kernel)
theorem se_X2_greatest : Cond.selects RX2 yX2_greatest yX2_greatest ∈ UU := UU_of (List.mem_append_left _ (by decide +kernel)) (by decide +kernel)
theorem se_X2_turnsTo : Cond.selects RX2 yX2_turnsTo yX2_turnsTo ∈ UU := UU_of (List.mem_append_left _ (by decide +kernel)) (by decide +kernel)
theorem se_X5_slotOf : Cond.selects RX5 yX5_slotOf yX5_slotOf ∈ UU := UU_of (List.mem_append_left _ (by decide +kernel)) (by decide +kernel)
theorem se_X5_succeeds : Cond.selects RX5 yX5_succeeds yX5_succeeds ∈ UU := UU_of (List.mem_append_left _ (by decide +kernel)) (by decide +kernel)
theorem se_X5_simulateTurn : Cond.selects RX5 yX5_simulateTurn yX5_simulateTurn ∈ UU := UU_of (List.mem_append_left _ (by decide +kernel)) (by decide +kernel)
theorem inX0 : ∀ w ∈ u_ws RX0 TX0 13, w ∈ UU := fun w h => UU_of (of_decide_eq_true (List.all_eq_true.mp (show (u_ws RX0 TX0 13).all (fun w => decide (w ∈ lw_tbl)) = true by decide +kernel) w h)) (List.all_eq_true.mp (show (u_ws RX0 TX0 13).all goodWord = true by decide +kernel) w h)
theorem inX1 : ∀ w ∈ u_ws RX1 TX1 3, w ∈ UU := fun w h => UU_of (of_decide_eq_true (List.all_eq_true.mp (show (u_ws RX1 TX1 3).all (fun w => decide (w ∈ lw_tbl)) = true by decide +kernel) w h)) (List.all_eq_true.mp (show (u_ws RX1 TX1 3).all goodWord = true by decide +kernel) w h)
theorem inX2 : ∀ w ∈ u_ws RX2 TX2 11, w ∈ UU := fun w h => UU_of (of_decide_eq_true (List.all_eq_true.mp (show (u_ws RX2 TX2 11).all (fun w => decide (w ∈ lw_tbl)) = true by decide +kernel) w h)) (List.all_eq_true.mp (show (u_ws RX2 TX2 11).all goodWord = true by decide +kernel) w h)
theorem inX3 : ∀ w ∈ u_ws RX3 TX3 2, w ∈ UU := fun w h => UU_of (of_decide_eq_true (List.all_eq_true.mp (show (u_ws RX3 TX3 2).all (fun w => decide (w ∈ lw_tbl)) = true by decide +kernel) w h)) (List.all_eq_true.mp (show (u_ws RX3 TX3 2).all goodWord = true by decide +kernel) w h)
theorem inX4 : ∀ w ∈ u_ws RX4 TX4 2, w ∈ UU := fun w h => UU_of (of_decide_eq_true (List.all_eq_true.mp (show (u_ws RX4 TX4 2).all (fun w => decide (w ∈ lw_tbl)) = true by decide +kernel) w h)) (List.all_eq_true.mp (show (u_ws RX4 TX4 2).all goodWord = true by decide +kernel) w h)
theorem inX5 : ∀ w ∈ u_ws RX5 TX5 6, w ∈ UU := fun w h => UU_of (of_decide_eq_true (List.all_eq_true.mp (show (u_ws RX5 TX5 6).all (fun w => decide (w ∈ lw_tbl)) = true by decide +kernel) w h)) (List.all_eq_true.mp (show (u_ws RX5 TX5 6).all goodWord = true by decide +kernel) w h)
end
