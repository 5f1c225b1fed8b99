/-! THE CLAIM OUT OF ONE WALK OF THE LAW'S BODY. Your part is whole_start (and what it stands on); all else here is the same for every law, but numbers. -/
def R_law : String := "SpiralDominoesLaw"
def lw_P (b : Addr) (xs : List Int32) (args : Array Value) (s : State) : Prop := args = #[.ref b] ∧ s.IntsAt b xs ∧ xs.length ≤ 260 ∧ (Jvm.Cond.and given_1 narrow_1).before args s = true
def lw_Q (_ : Array Value) (s : State) (o : Outcome) (t : State) : Prop := o = .returned (some (.int 1)) ∧ Framed s o t [] 650656 7149499
def lw_Z (below : List Frame) (a : Array Value) (s : State) : State → Prop := fun t => ∃ o, t.status = .running ∧ Ended t below o ∧ lw_Q a s o t
/-- the law's own end, with 1 on the stack, nothing written that was there before, its room as the claim has it -/
theorem lw_ret {p : Program} {l : Launch} {e : Env} {s : State} {m : MethodId} {below : List Frame} {meth : Method} {c : Code} {b : Nat} (hx : p.tables.exec = Jvm.exec) (hb : c.code = code) (hr : meth.sig.returnType = ret) (hlocks : meth.locks = false) {pc : Nat} {H : Heap} {ls : Array Slot} (hdg : decode code pc = .ok (.ireturn, 1)) : W p l e room_1 s m #[Value.ref b] below meth c H [] 650656 7149499 (lw_Z below #[Value.ref b] s) (F0 m pc ls [.int 1]) := by
  intro T hT X
  obtain ⟨fs, hret, hrun, hended, hW, hframe⟩ := X.leave (v := some (.int 1)) (hlocks := hlocks) (fun h => by rw [hr] at h; cases h)
  have hmeth' : T.vm.method? m = some meth := X.method'
  refine ⟨T.setFrames fs, ?_, .returned (some (.int 1)), hrun, hended, rfl, ⟨_, rfl⟩, hW, hframe⟩
  jvm_step X.here [X.here.top, hx, hb, hdg, hmeth', hr, ret, narrow_b1]
  (try refine ⟨rfl, ?_⟩); (try refine ⟨rfl, ?_⟩)
  first | (intro acts; rw [hret _ acts rfl rfl rfl]) | rw [hret _ _ rfl rfl rfl]
  exact Steps.refl _
/-- what holds at the law's entry: the machine, the code, the tables' words (any of lw_tbl by 'hts w (by decide +kernel)'), the script of L ints xs at the cell b, what the Statement gives of the start (any of its parts by flat_of_before) -/
def lw_At (p : Program) (s : State) (m : MethodId) (meth : Method) (c : Code) (b L : Nat) (xs : Nat → Int32) : Prop :=
  p.tables.exec = Jvm.exec ∧ c.code = code ∧ meth.sig.returnType = ret ∧ c.maxLocals = 8 ∧ s.vm.findClass R_law = some m.cls ∧ (∀ w ∈ lw_tbl, w.before #[Value.ref b] s = true) ∧ va_X b L xs s s.heap ∧ b < s.heap.size ∧ meth.locks = false ∧ (Jvm.Cond.and given_1 narrow_1).before #[Value.ref b] s = true

/-! THE START: what the Statement gives of it, as the layer's world -/
abbrev lw_giv : Cond := Jvm.Cond.and given_1 narrow_1
theorem lw_classes {s : State} {args : Array Value} (hU : ∀ w ∈ UU, w.before args s = true) : ∃ D : va_G, ∀ (c : Nat) (q : vw_C), vwCl[c]? = some q → u_Kn s q.1 q.2.1 q.2.2 (D.1 c) (D.2 c) := by
  have h : ∀ c : Nat, ∃ y : ClassId × (Nat → Nat), ∀ q : vw_C, vwCl[c]? = some q → u_Kn s q.1 q.2.1 q.2.2 y.1 y.2 := by
    intro c
    have one : ∀ q : vw_C, vwCl[c]? = some q → ∃ y : ClassId × (Nat → Nat), u_Kn s q.1 q.2.1 q.2.2 y.1 y.2 := by
      intro q hq
      match c, hq with
      | 0, hq => cases hq; obtain ⟨a, b, h⟩ := u_known hU inX0 (hU _ ib_X0); exact ⟨(a, b), h⟩
      | 1, hq => cases hq; obtain ⟨a, b, h⟩ := u_known hU inX1 (hU _ ib_X1); exact ⟨(a, b), h⟩
      | 2, hq => cases hq; obtain ⟨a, b, h⟩ := u_known hU inX2 (hU _ ib_X2); exact ⟨(a, b), h⟩
      | 3, hq => cases hq; obtain ⟨a, b, h⟩ := u_known hU inX3 (hU _ ib_X3); exact ⟨(a, b), h⟩
      | 4, hq => cases hq; obtain ⟨a, b, h⟩ := u_known hU inX4 (hU _ ib_X4); exact ⟨(a, b), h⟩
      | 5, hq => cases hq; obtain ⟨a, b, h⟩ := u_known hU inX5 (hU _ ib_X5); exact ⟨(a, b), h⟩
      | n + 6, hq => cases hq
    cases hq : vwCl[c]? with
    | none => exact ⟨(0, fun _ => 0), fun q h => by cases h⟩
    | some q0 =>
      obtain ⟨y, hy⟩ := one q0 hq
      exact ⟨y, fun q h => by cases h; exact hy⟩
  obtain ⟨f, hf⟩ := Classical.axiomOfChoice h
  exact ⟨(fun c => (f c).1, fun c => (f c).2), hf⟩
def lw_col (nm : String) : Term := .static "SpiralDominoes" nm "[I"
theorem lw_strs1 : zStrs.all (fun q => decide (Cond.stringRef RX5 q.1 q.2 ∈ lw_tbl)) = true := by decide +kernel
theorem lw_nestM : zNestM.all (fun q => decide (Cond.methodLinkNest q.1 q.2.1 q.2.2.1 q.2.2.2 ∈ lw_tbl)) = true := by decide +kernel
theorem lw_nestF : zNestF.all (fun q => decide (Cond.fieldLinkNest q.1 q.2.1 q.2.2.1 q.2.2.2.1 q.2.2.2.2.1 q.2.2.2.2.2 ∈ lw_tbl)) = true := by decide +kernel
theorem lw_decls : zDecls.all (fun q => decide (Cond.declares q ∈ lw_tbl)) = true := by decide +kernel
theorem lw_casts : zCasts.all (fun q => decide (Cond.castable q q ∈ lw_tbl)) = true := by decide +kernel
theorem lw_all {α : Type} {L : List α} {p : α → Prop} [DecidablePred p] (h : L.all (fun q => decide (p q)) = true) : ∀ q ∈ L, p q := fun q hq => of_decide_eq_true (List.all_eq_true.mp h q hq)
def hNil : Hp := fun _ => none
set_option maxRecDepth 100000 in
set_option maxHeartbeats 4000000 in
theorem law_walk {E : zE} {X : zX} {b L n n1 : Nat} {sc : Nat → Int32} {Q : State → Prop} {G0 : GS} {r : CS × CS × Int32} (C : zC E X RL cL_law 8 ret 19) (hst : (xl X).stackTraces = false) (hAO : va_AO "SpiralDominoes$Game" (xs X)) (hsz : (xs X).heap.size = zN E) (hR1 : 56083 ≤ (xR X).cells) (hR2 : 343228 ≤ (xR X).slots) (G9 : zG9 E X b L sc)
    (hG : f_X0_becomeNew n1 GI = some G0) (hf : f_L_law n L sc (cI0 G0) (cI0 G0) = some r) (hEnd : ∀ (k n9 : Nat) (h : Hp) (lv : List (Nat × Value)), k ≤ 56083 → n9 ≤ 343228 → zW E X 8 k n9 Q 173 h lv [.int 1]) : zW E X 8 0 0 Q 0 hNil [(0, .ref b)] [] := by
  refine z_new (ci := 5) C [.null, .null, .null, .null, .null, .null] inX5 tyX5 tyX5_ok kl_L_8 ib_X5 ini_X5 rfl (by decide +kernel) (Or.inl rfl) ⟨by omega, by omega⟩ dL_law_0 (zN E) (by omega) ?_
  refine z_dup C dL_law_3 rfl ?_
  refine z_callI (sz := zN E + 1) C hAO [] [.ref (zN E)] (ct_X5_init (x := zN E) hG) (by omega) (Or.inr ⟨.inr (5, [.null, .null, .null, .null, .null, .null]), by rw [hsz]; simp [hup]⟩) co_X5_init ml_L_172 im_X5_init ini_X5 rfl ⟨by decide +kernel, by decide +kernel, by decide +kernel⟩ (by decide) (by decide) rfl (Nat.le_of_ble_eq_true rfl) ⟨by omega, by omega⟩ dL_law_4 ?_
  refine z_astore_n C dL_law_7 (by decide) rfl ?_
  refine z_new (ci := 5) C [.null, .null, .null, .null, .null, .null] inX5 tyX5 tyX5_ok kl_L_8 ib_X5 ini_X5 rfl (by decide +kernel) (Or.inr ⟨_, by rw [hsz]; exact pC_at (k := 222) rfl⟩) ⟨by omega, by omega⟩ dL_law_8 (zN E + 223) (by omega) ?_
  refine z_dup C dL_law_11 rfl ?_
  refine z_callI (sz := zN E + 223 + 1) C hAO [] [.ref (zN E + 223)] (ct_X5_init (x := zN E + 223) hG) (by omega) (Or.inr ⟨.inr (5, [.null, .null, .null, .null, .null, .null]), by rw [hsz]; simp [hup]⟩) co_X5_init ml_L_172 im_X5_init ini_X5 rfl ⟨by decide +kernel, by decide +kernel, by decide +kernel⟩ (by decide) (by decide) rfl (Nat.le_of_ble_eq_true rfl) ⟨by omega, by omega⟩ dL_law_12 ?_
  refine z_astore_n C dL_law_15 (by decide) rfl ?_
  exact law_body (h0 := hNil) (x := zN E) (y := zN E + 223) C (Or.inl (Nat.le_refl _)) hst hR1 hR2 G9 hEnd hf
theorem law_start {p : Program} {e : Env} {s : State} {m : MethodId} {below : List Frame} {meth : Method} {c : Code} (l : Launch) (hflags : l.flags = flags0) {b L : Nat} {xs : Nat → Int32} (C0 : lw_At p s m meth c b L xs)
    {n n1 : Nat} {G0 : GS} {r : CS × CS × Int32} (hG : f_X0_becomeNew n1 GI = some G0) (hf : f_L_law n L xs (cI0 G0) (cI0 G0) = some r) :
    W p l e room_1 s m #[Value.ref b] below meth c s.heap [] 0 0 (lw_Z below #[Value.ref b] s) (entryFrame m ([Value.ref b] : List Value).toArray 8) := by
  obtain ⟨hx, hb, hr, hml, hown, hts, hX, hbl, hlocks, hgv⟩ := C0
  have hf9 := flat_of_before _ hgv
  have hU : ∀ w ∈ UU, w.before #[.ref b] s = true := fun w hw => hts w (UU_in hw)
  have hst : l.stackTraces = false := by
    unfold Launch.stackTraces
    rw [hflags]
    decide +kernel
  have hcL : ∀ j : Nat, j < 28 → (Cond.eq (.elem (lw_col "LOW") (.int (Int32.ofNat j))) (.int (lowT j))).before #[.ref b] s = true := by
    intro j hj
    match j, hj with
    | 0, _ => exact hf9 _ (by decide +kernel)
    | 1, _ => exact hf9 _ (by decide +kernel)
    | 2, _ => exact hf9 _ (by decide +kernel)
    | 3, _ => exact hf9 _ (by decide +kernel)
    | 4, _ => exact hf9 _ (by decide +kernel)
    | 5, _ => exact hf9 _ (by decide +kernel)
    | 6, _ => exact hf9 _ (by decide +kernel)
    | 7, _ => exact hf9 _ (by decide +kernel)
    | 8, _ => exact hf9 _ (by decide +kernel)
    | 9, _ => exact hf9 _ (by decide +kernel)
    | 10, _ => exact hf9 _ (by decide +kernel)
    | 11, _ => exact hf9 _ (by decide +kernel)
    | 12, _ => exact hf9 _ (by decide +kernel)
    | 13, _ => exact hf9 _ (by decide +kernel)
    | 14, _ => exact hf9 _ (by decide +kernel)
    | 15, _ => exact hf9 _ (by decide +kernel)
    | 16, _ => exact hf9 _ (by decide +kernel)
    | 17, _ => exact hf9 _ (by decide +kernel)
    | 18, _ => exact hf9 _ (by decide +kernel)
    | 19, _ => exact hf9 _ (by decide +kernel)
    | 20, _ => exact hf9 _ (by decide +kernel)
    | 21, _ => exact hf9 _ (by decide +kernel)
    | 22, _ => exact hf9 _ (by decide +kernel)
    | 23, _ => exact hf9 _ (by decide +kernel)
    | 24, _ => exact hf9 _ (by decide +kernel)
    | 25, _ => exact hf9 _ (by decide +kernel)
    | 26, _ => exact hf9 _ (by decide +kernel)
    | 27, _ => exact hf9 _ (by decide +kernel)
    | n + 28, hj => omega
  have hcH : ∀ j : Nat, j < 28 → (Cond.eq (.elem (lw_col "HIGH") (.int (Int32.ofNat j))) (.int (highT j))).before #[.ref b] s = true := by
    intro j hj
    match j, hj with
    | 0, _ => exact hf9 _ (by decide +kernel)
    | 1, _ => exact hf9 _ (by decide +kernel)
    | 2, _ => exact hf9 _ (by decide +kernel)
    | 3, _ => exact hf9 _ (by decide +kernel)
    | 4, _ => exact hf9 _ (by decide +kernel)
    | 5, _ => exact hf9 _ (by decide +kernel)
    | 6, _ => exact hf9 _ (by decide +kernel)
    | 7, _ => exact hf9 _ (by decide +kernel)
    | 8, _ => exact hf9 _ (by decide +kernel)
    | 9, _ => exact hf9 _ (by decide +kernel)
    | 10, _ => exact hf9 _ (by decide +kernel)
    | 11, _ => exact hf9 _ (by decide +kernel)
    | 12, _ => exact hf9 _ (by decide +kernel)
    | 13, _ => exact hf9 _ (by decide +kernel)
    | 14, _ => exact hf9 _ (by decide +kernel)
    | 15, _ => exact hf9 _ (by decide +kernel)
    | 16, _ => exact hf9 _ (by decide +kernel)
    | 17, _ => exact hf9 _ (by decide +kernel)
    | 18, _ => exact hf9 _ (by decide +kernel)
    | 19, _ => exact hf9 _ (by decide +kernel)
    | 20, _ => exact hf9 _ (by decide +kernel)
    | 21, _ => exact hf9 _ (by decide +kernel)
    | 22, _ => exact hf9 _ (by decide +kernel)
    | 23, _ => exact hf9 _ (by decide +kernel)
    | 24, _ => exact hf9 _ (by decide +kernel)
    | 25, _ => exact hf9 _ (by decide +kernel)
    | 26, _ => exact hf9 _ (by decide +kernel)
    | 27, _ => exact hf9 _ (by decide +kernel)
    | n + 28, hj => omega
  have hs2 : ∀ q ∈ zStrs, (Cond.exactly (.string RX5 q.1) "java/lang/String").before #[.ref b] s = true := by
    refine List.forall_mem_cons.mpr ⟨hf9 _ (by decide +kernel), List.forall_mem_cons.mpr ⟨hf9 _ (by decide +kernel), List.forall_mem_cons.mpr ⟨hf9 _ (by decide +kernel), List.forall_mem_cons.mpr ⟨hf9 _ (by decide +kernel), List.forall_mem_cons.mpr ⟨hf9 _ (by decide +kernel), List.forall_mem_cons.mpr ⟨hf9 _ (by decide +kernel), List.forall_mem_cons.mpr ⟨hf9 _ (by decide +kernel), List.forall_mem_cons.mpr ⟨hf9 _ (by decide +kernel), List.forall_mem_cons.mpr ⟨hf9 _ (by decide +kernel), List.forall_mem_cons.mpr ⟨hf9 _ (by decide +kernel), List.forall_mem_cons.mpr ⟨hf9 _ (by decide +kernel), List.forall_mem_cons.mpr ⟨hf9 _ (by decide +kernel), List.forall_mem_cons.mpr ⟨hf9 _ (by decide +kernel), List.forall_mem_cons.mpr ⟨hf9 _ (by decide +kernel), List.forall_mem_cons.mpr ⟨hf9 _ (by decide +kernel), List.forall_mem_cons.mpr ⟨hf9 _ (by decide +kernel), List.forall_mem_cons.mpr ⟨hf9 _ (by decide +kernel), List.forall_mem_cons.mpr ⟨hf9 _ (by decide +kernel), List.forall_mem_cons.mpr ⟨hf9 _ (by decide +kernel), List.forall_mem_cons.mpr ⟨hf9 _ (by decide +kernel), fun _ h => absurd h List.not_mem_nil⟩⟩⟩⟩⟩⟩⟩⟩⟩⟩⟩⟩⟩⟩⟩⟩⟩⟩⟩⟩
  have hn2 : ∀ q ∈ zNcs, (Cond.not (.castable q.1 q.2)).before #[.ref b] s = true := by
    refine List.forall_mem_cons.mpr ⟨hf9 _ (by decide +kernel), List.forall_mem_cons.mpr ⟨hf9 _ (by decide +kernel), List.forall_mem_cons.mpr ⟨hf9 _ (by decide +kernel), List.forall_mem_cons.mpr ⟨hf9 _ (by decide +kernel), List.forall_mem_cons.mpr ⟨hf9 _ (by decide +kernel), List.forall_mem_cons.mpr ⟨hf9 _ (by decide +kernel), fun _ h => absurd h List.not_mem_nil⟩⟩⟩⟩⟩⟩
  obtain ⟨D, hD⟩ := lw_classes hU
  obtain ⟨cI, kI, compI, i1, i2, i3⟩ := Cond.arrayClass_spec (hU _ ac_int)
  have hao : (Cond.arrayOver (.object "SpiralDominoes$Game")).before #[.ref b] s = true := hts _ (by decide +kernel)
  obtain ⟨compG, cG, kG, g1, g2, g3, g4, g5⟩ := Cond.arrayOver_spec hao
  have hA0 : ∀ a : Nat, a < s.heap.size → ¬ (fun q : Nat => s.heap.size ≤ q) a := fun a h1 h2 => Nat.lt_irrefl _ (Nat.lt_of_lt_of_le h1 h2)
  obtain ⟨tL, hL1, hL2⟩ := va_Tof (args := #[.ref b]) (s := s) (tm := lw_col "LOW") (ty := .int) (N := 28) (f := fun j => .int (lowT j)) (by decide) (hf9 _ (by decide +kernel)) (Cond.eq_int (hf9 (.eq (.length (lw_col "LOW")) (.int 28)) (by decide +kernel)) rfl)
    (fun j hj => Cond.eq_int (hcL j hj) rfl) hA0
  obtain ⟨tH, hH1, hH2⟩ := va_Tof (args := #[.ref b]) (s := s) (tm := lw_col "HIGH") (ty := .int) (N := 28) (f := fun j => .int (highT j)) (by decide) (hf9 _ (by decide +kernel)) (Cond.eq_int (hf9 (.eq (.length (lw_col "HIGH")) (.int 28)) (by decide +kernel)) rfl)
    (fun j hj => Cond.eq_int (hcH j hj) rfl) hA0
  let E : zE := (D, (cI, cI, cI, cG), (s.heap.size, tL, tH))
  have hK : zK E s := by
    refine ⟨⟨hD, ?_⟩, fun q hq => va_Nw.of rfl (hts _ (lw_all lw_nestM q hq)), fun q hq => va_Nw.of rfl (hts _ (lw_all lw_nestF q hq)), fun q hq => ?_, fun q hq => va_Nw.of rfl (hts _ (lw_all lw_decls q hq)), fun q hq => va_Nw.of rfl (hts _ (lw_all lw_casts q hq)), fun q hq => va_Nc.of (hn2 q hq)⟩
    · intro k q hq
      match k, hq with
      | 0, hq => cases hq; exact ⟨fun n z => ⟨(fun k h => by cases h), kI, i2, compI, i3⟩, i1⟩
      | 1, hq => cases hq; exact ⟨fun n z => ⟨(fun k h => by cases h), kI, i2, compI, i3⟩, i1⟩
      | 2, hq => cases hq; exact ⟨fun n z => ⟨(fun k h => by cases h), kI, i2, compI, i3⟩, i1⟩
      | 3, hq => cases hq; exact ⟨fun n z => ⟨(fun k h => by cases h), kG, g3, compG, g4⟩, kG, compG, g3, g4, g1, g5⟩
      | n + 4, hq => cases hq
    · obtain ⟨a, -, -, -, q1, -⟩ := Cond.exactly_spec (hs2 q hq)
      exact ⟨a, vk_R.of (hts _ (lw_all lw_strs1 q hq)) q1⟩
  have hS : zS E s s.heap := ⟨va_Zof (hts _ (by decide +kernel)) (hU _ ini_X5) hL1 hA0, hL2, va_Zof (hts _ (by decide +kernel)) (hU _ ini_X5) hH1 hA0, hH2, vx_Zqof (hts _ (by decide +kernel)) (hU _ ini_Throwable) (hf9 _ (by decide +kernel)) hA0, vx_Zqof (hts _ (by decide +kernel)) (hU _ ini_Throwable) (hf9 _ (by decide +kernel)) hA0⟩
  have C : zC E (p, l, e, room_1, s, m, #[.ref b], below, meth, c) RL cL_law 8 ret 19 := ⟨hx, hb, hml, hown, hU, hr, hlocks, Nat.le_refl _, hK, hS, Nat.le_of_ble_eq_true rfl, Nat.le_of_ble_eq_true rfl⟩
  have hl := lv_entry [Value.ref b] (n := 8) (Nat.le_of_ble_eq_true rfl)
  rw [lg_entry_eq]
  refine law_walk C hst (va_AO.of hao) rfl (Nat.le_of_ble_eq_true rfl) (Nat.le_of_ble_eq_true rfl) ⟨hX, hbl, fun h => Nat.lt_irrefl _ (Nat.lt_of_lt_of_le hbl h)⟩ hG hf (fun k n9 h lv hk hn9 => ?_) s.heap [] _ (fun a x h => by cases h) va_S.rf hl
  intro H locs ls hP hS9 hl9
  refine W.widen (k := 650656) (n := 7149499) (by omega) (by omega) ?_
  exact va_forget (fun q hq => hS9.2.2 q hq) (lw_ret hx hb hr hlocks dL_law_173)
