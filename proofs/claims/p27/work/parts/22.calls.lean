/-! CALLS THAT MAY THROW, IN A METHOD WITH HANDLERS -/
theorem cC_out {E : zE} {x : Nat} {c : CS} {k : Nat} (h : 223 ≤ k) : cC E x c k = none := by
  unfold cC
  rw [if_neg (by omega), if_neg (by omega), if_neg (by omega), if_neg (by omega), if_neg (by omega), if_neg (by omega), if_neg (by omega)]
  cases hg : gi k with
  | none => rfl
  | some i =>
    obtain ⟨h1, h2, h3⟩ := gi_inv hg
    exfalso
    unfold ga at h3
    repeat' split at h3
    all_goals omega
theorem pC_out {E : zE} {h0 : Hp} {x : Nat} {c : CS} {a : Nat} (h : a < x ∨ x + 223 ≤ a) : pC E h0 x c a = h0 a := by
  unfold pC
  by_cases h1 : a < x
  · rw [if_pos h1]
  · rw [if_neg h1, cC_out (by omega)]
theorem pC_hup {E : zE} {h0 : Hp} {x : Nat} {c : CS} {o : Nat} {e : va_E} (h : o < x ∨ x + 223 ≤ o) : hup (pC E h0 x c) o e = pC E (hup h0 o e) x c := by
  funext a
  by_cases h1 : a = o
  · subst h1
    rw [pC_out h]
    simp [hup]
  · unfold pC hup
    simp only [if_neg h1]
theorem hup_same {h0 : Hp} {o : Nat} {e : va_E} (h : h0 o = some e) : hup h0 o e = h0 := by
  funext a
  by_cases h1 : a = o
  · subst h1
    simp [hup, h]
  · simp [hup, h1]
/-- a wrapper's contract: it answers k, whatever the method inside throws -/
def zMW (E : zE) (l : Launch) (d : Nat) (y : MethodName) (bytes : ByteArray) (maxL : Nat) (hh : List (Nat × Nat × Nat × Nat)) (av : List Value) (h : Hp) (k : Int32) (h' : Hp) : Prop :=
  Met l y (Cond.codeWith y bytes maxL (some .int) hh :: UU) (zRX d) (va_Pc av (zPre E h)) (zQ E (some (.int k)) h') 1 6 (zA E)
theorem zMW_of {E : zE} {l : Launch} {d : Nat} {y : MethodName} {bytes : ByteArray} {maxL : Nat} {hh : List (Nat × Nat × Nat × Nat)} {av : List Value} {h h' : Hp} {k : Int32} {lv : List (Nat × Value)} (hy : plainName y.cls = true) (hlen : (lg_sl av).length ≤ maxL) (hlv : lv_args 0 av = lv)
    (body : ∀ X : zX, xl X = l → zC E X y.cls bytes maxL (some .int) d → (xc X).exceptionTable.toList = tableOf hh → xR X = (headSpec (Cond.codeWith y bytes maxL (some .int) hh :: UU) (zRX d)).room → zW E X maxL 0 0 (MQ (xb X) (zQ E (some (.int k)) h') (xa X) (xs X) 1 6 (zA E)) 0 h lv []) : zMW E l d y bytes maxL hh av h k h' := by
  unfold zMW Met
  refine MetFree.of_bodyS (code := bytes) (maxLocals := maxL) (ret := some .int) hy ?_ ?_
  · intro args s m h9 hn
    obtain ⟨m9, meth, c, hn9, h1, h2, h3, h4, -, h5, h6, -⟩ := Cond.codeWith_spec (atoms_spec (ws := Cond.codeWith y bytes maxL (some .int) hh :: UU) h9 _ List.mem_cons_self)
    cases hn.symm.trans hn9
    exact ⟨meth, c, h1, h2, h3, h4, h5, h6⟩
  · intro p e s m args below meth c s₁ B hml hv _
    have hh0 : s₁.heap = s.heap := by rw [B.state]; rfl
    obtain ⟨rfl, hN, hP, hK, hS0⟩ := hv
    have hts0 := atoms_spec (ws := Cond.codeWith y bytes maxL (some .int) hh :: UU) B.pre
    have hts : ∀ w ∈ UU, w.before av.toArray s = true := fun w hw => hts0 w (List.mem_cons_of_mem _ hw)
    have hown : s.vm.findClass y.cls = some m.cls := findClass_of_methodNamed B.named
    have htab := vx_table (x := y) B (hts0 _ List.mem_cons_self)
    have hl := lv_entry av (n := maxL) hlen
    rw [lg_entry_eq]
    rw [hlv] at hl
    obtain ⟨t, a1, o, b1, b2, b3⟩ := body (p, l, e, (headSpec (Cond.codeWith y bytes maxL (some .int) hh :: UU) (zRX d)).room, s, m, av.toArray, below, meth, c) rfl ⟨B.exec, B.bytes, hml, hown, hts, B.returns, B.notSynchronized, hN, hK, hS0, Nat.le_refl _, Nat.le_refl _⟩ htab rfl s.heap [] _ hP va_S.rf hl s₁ hh0 (Stand.of_body B)
    exact ⟨t, o, a1, b1, b2, b3⟩
section CX
variable {E : zE} {X : zX} {own : String} {cc : ByteArray} {nL d k n : Nat} {ret : Option FieldType} {Q : State → Prop} {pc : Nat} {h : Hp} {lv : List (Nat × Value)} {st : List Value}
/-- the same place, with a cell of class cls thrown over it -/
def zVW (E : zE) (X : zX) (nL k n : Nat) (Q : State → Prop) (pc : Nat) (h : Hp) (lv : List (Nat × Value)) (rest : List Value) (cls : String) : Prop :=
  ∀ (H : Heap) (locs : List Loc) (ls : Array Slot) (q : Addr) (ce : Cell), zP E h H → va_S (zA E) (xs X).heap H locs → lv_has ls nL lv → H[q]? = some ce → ce.vm = .none → (xs X).vm.findClass cls = some ce.cls → vx_W (xp X) (xl X) (xe X) (xR X) (xs X) (xm X) (xa X) (xb X) (xt X) (xc X) H locs k n Q (F0 (xm X) pc ls rest) q
theorem z_callX (C : zC E X own cc nL ret d) {y : MethodName} {bytes : ByteArray} {maxL d1 index b ci N : Nat} {rt : Option FieldType} {Cn : String} {T : u_T} {fs : List Value} {h1 : Hp} {v : Option Value} {kx : Int32} (pc1 : Nat) (As rest : List Value) (hM : zMX E (xl X) d1 y bytes maxL rt (.ref b :: As) h kx v h1)
    (hcode : Cond.code y bytes maxL rt ∈ UU) (hlink : Cond.methodLink own index y ∈ UU) (hinst : Cond.instanceMethod y ∈ UU) (hsel : Cond.selects Cn y y ∈ UU) (hini : Cond.initialized Cn ∈ UU) (hcl : vwCl[ci]? = some (Cn, T, N)) (hb : h b = some (.inr (ci, fs)))
    (hd : y.cls = Cn ∧ y.cls ≠ "java/lang/invoke/MethodHandle" ∧ y.cls ≠ "java/lang/invoke/VarHandle" ∧ (parseMethodDescriptor y.desc).map (fun d => d.parameters.length) = some As.length) (hd1 : d1 + 1 ≤ d) (hmx : maxL ≤ 29) (hst : st = As.reverse ++ .ref b :: rest) (hcat : (rest.map fun v => v.category).sum ≤ 8) (hk : k + 1 ≤ (xR X).cells ∧ n + 6 ≤ (xR X).slots) (hpc : pc + 3 = pc1) (hdg : decode cc pc = .ok (.invokevirtual index, 3))
    (kk : kx = 0 → zW E X nL (k + 1) (n + 6) Q pc1 h1 lv (v.toList ++ rest)) (kt : ¬ kx = 0 → zVW E X nL (k + 1) (n + 6) Q pc h1 lv rest (exN kx)) : zW E X nL k n Q pc h lv st := by
  subst hst
  subst hpc
  intro H locs ls hP hS hl T9 hT X9
  have hr : vx_Run (xp X) (xl X) (xe X) (xR X) (xs X) (xm X) (xa X) (xb X) (xt X) (xc X) H locs k n 1 6 (F0 (xm X) pc ls (As.reverse ++ .ref b :: rest)) rest (zQr E kx v h1 (Value.ref b :: As).toArray) (zXC E h1 kx) (zA E) := vx_runV (As := As) (rest := rest) (b := b) (g := F0 (xm X) pc ls (As.reverse ++ .ref b :: rest)) C.fix hM ⟨callB_of As.length C.2.2.2.2.1 (UU_cons hcode) rfl rfl rfl (by rw [hd.1]; exact C.2.2.2.2.1 _ hini) (C.2.2.2.2.1 _ hlink) hd.2 (C.room hd1 hmx), C.2.2.2.2.1 _ hinst, C.2.2.2.2.1 _ hsel⟩
    ⟨zPre.blind E _ h, va_recv C.2.2.2.2.2.2.2.2.1.1 (hP.one hb) hcl (q0 := 0) rfl, fun U hU hW => ⟨rfl, C.pre hP hS U hU hW⟩⟩ rfl rfl hl.1 rfl (lv_room hcat) hdg hk
  have keep : ∀ (st₀ t T' : State) (L : List Loc), st₀.heap = H → T'.heap = t.heap → (∀ q ∈ L, zA E q.base) → va_F (zA E) st₀ t → va_S (zA E) (xs X).heap T'.heap (locs ++ L) := by
    intro st₀ t T' L h0 e1 hL hF
    obtain ⟨hz, hk9⟩ := hF
    rw [h0] at hz hk9
    exact ⟨Nat.le_trans hS.1 (by rw [e1]; exact hz), fun q q1 q2 => by rw [e1, hk9 q (Nat.lt_of_lt_of_le q1 hS.1) q2]; exact hS.2.1 q q1 q2, fun q hq => by
      rcases List.mem_append.mp hq with q1 | q1
      · exact hS.2.2 q q1
      · exact hL q q1⟩
  rcases hr T9 hT X9 with ⟨v', st₀, t, T', L, h0, X', hL, e1, e2, ⟨hk0, hv, hP1, hF⟩, st9⟩ | ⟨q, st₀, t, T', L, Ec, ce, h0, X', hL, e1, e2, ⟨hk0, hcls, hP1, hF⟩, hce, hcv, hcl9, st9⟩
  · cases hv
    obtain ⟨t2, a1, b1⟩ := kk hk0 T'.heap (locs ++ L) ls (by rw [e1]; exact hP1) (keep _ _ _ _ h0 e1 hL hF) hl T' rfl X'
    exact ⟨t2, st9 t2 a1, b1⟩
  · obtain ⟨t2, a1, b1⟩ := kt hk0 T'.heap (locs ++ L) ls q ce (by rw [e1]; exact hP1) (keep _ _ _ _ h0 e1 hL hF) hl (by rw [e1]; exact hce) hcv (by rw [hcls]; exact hcl9) T' rfl X'
    exact ⟨t2, st9.trans a1, b1⟩
theorem z_catch1 (C : zC E X own cc nL ret d) {hh : List (Nat × Nat × Nat × Nat)} (htab : (xc X).exceptionTable.toList = tableOf hh) {cls : String} {rest : List Value} (x : Nat × Nat × Nat × Nat) (suf : List (Nat × Nat × Nat × Nat)) (hsplit : hh = x :: suf) (hx : covers ⟨x.1, x.2.1, x.2.2.1, x.2.2.2⟩ pc = true) (h0 : x.2.2.2 ≠ 0) (hlink : Cond.classLink own x.2.2.2 cls ∈ UU) (hcast : cls ∈ zCasts)
    (kk : ∀ q : Nat, zW E X nL k n Q x.2.2.1 h lv [.ref q]) : zVW E X nL k n Q pc h lv rest cls := by
  intro H locs ls q ce hP hS hl hce hcv hcl
  exact vx_catch (name := cls) C.2.2.2.1 [] ⟨x.1, x.2.1, x.2.2.1, x.2.2.2⟩ (tableOf suf) (by rw [htab, hsplit]; rfl) (fun z hz => by cases hz) hx h0 (C.2.2.2.2.1 _ hlink) (va_Nw.use rfl (C.2.2.2.2.2.2.2.2.1.2.2.2.2.2.1 cls hcast)) hce hcv hcl (kk q H locs ls hP hS hl)
theorem z_catch2 (C : zC E X own cc nL ret d) {hh : List (Nat × Nat × Nat × Nat)} (htab : (xc X).exceptionTable.toList = tableOf hh) {cls nm : String} {rest : List Value} (z x : Nat × Nat × Nat × Nat) (suf : List (Nat × Nat × Nat × Nat)) (hsplit : hh = z :: x :: suf) (hz0 : z.2.2.2 ≠ 0) (hzl : Cond.classLink own z.2.2.2 nm ∈ UU) (hnc : (cls, nm) ∈ zNcs) (hx : covers ⟨x.1, x.2.1, x.2.2.1, x.2.2.2⟩ pc = true) (h0 : x.2.2.2 ≠ 0) (hlink : Cond.classLink own x.2.2.2 cls ∈ UU) (hcast : cls ∈ zCasts)
    (kk : ∀ q : Nat, zW E X nL k n Q x.2.2.1 h lv [.ref q]) : zVW E X nL k n Q pc h lv rest cls := by
  intro H locs ls q ce hP hS hl hce hcv hcl
  refine vx_catch (name := cls) C.2.2.2.1 [⟨z.1, z.2.1, z.2.2.1, z.2.2.2⟩] ⟨x.1, x.2.1, x.2.2.1, x.2.2.2⟩ (tableOf suf) (by rw [htab, hsplit]; rfl) (fun z9 hz => ?_) hx h0 (C.2.2.2.2.1 _ hlink) (va_Nw.use rfl (C.2.2.2.2.2.2.2.2.1.2.2.2.2.2.1 cls hcast)) hce hcv hcl (kk q H locs ls hP hS hl)
  rw [List.mem_singleton.mp hz]
  exact Or.inr ⟨hz0, nm, C.2.2.2.2.1 _ hzl, C.2.2.2.2.2.2.2.2.1.2.2.2.2.2.2 _ hnc⟩
theorem z_catchR (C : zC E X own cc nL (some .int) d) {R : Int32} {v : Option Value} (hk : k ≤ 1) (hn : n ≤ 6) (hdg : decode cc pc = .ok (.ireturn, 1)) (kv : v = some (.int R)) : zW E X nL k n (MQ (xb X) (zQ E v h) (xa X) (xs X) 1 6 (zA E)) pc h lv [.int R] := by
  subst kv
  intro H locs ls hP hS hl
  refine W.widen hk hn ?_
  exact W.iret C.1 C.2.1 C.2.2.2.2.2.1 (fun t ht hW => ⟨rfl, by rw [ht]; exact hP, hS.F ht⟩) hS.2.2 hdg C.2.2.2.2.2.2.1
end CX
def jsshr (x y : Int32) : Int32 := x >>> (y &&& 31)
section LAWROWS
variable {E : zE} {X : zX} {own : String} {cc : ByteArray} {nL d k n : Nat} {ret : Option FieldType} {Q : State → Prop} {pc : Nat} {h : Hp} {lv : List (Nat × Value)} {st : List Value}
/-- the script -/
def zG9 (E : zE) (X : zX) (b L : Nat) (sc : Nat → Int32) : Prop := va_X b L sc (xs X) (xs X).heap ∧ b < (xs X).heap.size ∧ ¬ zA E b
theorem z_sld (C : zC E X own cc nL ret d) {b L : Nat} {sc : Nat → Int32} (G : zG9 E X b L sc) {i : Int32} (hin : vp_in i L) (hdg : decode cc pc = .ok (.iaload, 1)) (kk : zW E X nL k n Q (pc + 1) h lv (.int (sc i.toNatClampNeg) :: st)) : zW E X nL k n Q pc h lv (.int i :: .ref b :: st) := fun H locs ls hP hS hl => va_sld C.1 C.2.1 G.1 G.2.1 G.2.2 hS hin hdg (kk H locs ls hP hS hl)
theorem z_slen (C : zC E X own cc nL ret d) {b L : Nat} {sc : Nat → Int32} (G : zG9 E X b L sc) (hdg : decode cc pc = .ok (.arraylength, 1)) (kk : zW E X nL k n Q (pc + 1) h lv (.int (nI L) :: st)) : zW E X nL k n Q pc h lv (.ref b :: st) := fun H locs ls hP hS hl => va_slen C.1 C.2.1 G.1 G.2.1 G.2.2 hS hdg (kk H locs ls hP hS hl)
theorem z_widen {k1 n1 : Nat} (hk : k ≤ k1) (hn : n ≤ n1) (kk : zW E X nL k1 n1 Q pc h lv st) : zW E X nL k n Q pc h lv st := fun H locs ls hP hS hl => W.widen hk hn (kk H locs ls hP hS hl)
theorem UU_cons1 {w : Cond} (h : w ∈ UU) : GoodIn UU (w :: UU) := fun w1 hw => by
  rcases List.mem_cons.mp hw with e | e
  · rw [e]; exact UU_good _ h
  · exact UU_good _ e
theorem z_callSW (C : zC E X own cc nL ret d) {y : MethodName} {bytes : ByteArray} {maxL d1 index : Nat} {hh : List (Nat × Nat × Nat × Nat)} {h1 : Hp} {kx : Int32} (pc1 : Nat) (As rest : List Value) (hM : zMW E (xl X) d1 y bytes maxL hh As h kx h1)
    (hcode : Cond.codeWith y bytes maxL (some .int) hh ∈ UU) (hlink : Cond.methodLink own index y ∈ UU) (hstat : Cond.static y ∈ UU) (hini : Cond.initialized y.cls ∈ UU)
    (hd : y.cls ≠ "java/lang/invoke/MethodHandle" ∧ y.cls ≠ "java/lang/invoke/VarHandle" ∧ (parseMethodDescriptor y.desc).map (fun d => d.parameters.length) = some As.length) (hd1 : d1 + 1 ≤ d) (hmx : maxL ≤ 29) (hst : st = As.reverse ++ rest) (hcat : (rest.map fun v => v.category).sum ≤ 8) (hk : k + 1 ≤ (xR X).cells ∧ n + 6 ≤ (xR X).slots) (hpc : pc + 3 = pc1) (hdg : decode cc pc = .ok (.invokestatic index, 3))
    (kk : zW E X nL (k + 1) (n + 6) Q pc1 h1 lv (.int kx :: rest)) : zW E X nL k n Q pc h lv st := by
  subst hst
  subst hpc
  intro H locs ls hP hS hl T9 hT X9
  have hr : va_Run (xp X) (xl X) (xe X) (xR X) (xs X) (xm X) (xa X) (xb X) (xt X) (xc X) H locs k n 1 6 (F0 (xm X) pc ls (As.reverse ++ rest)) rest (zQ E (some (.int kx)) h1 As.toArray) (zA E) := vx_runSW (As := As) (rest := rest) (hh := hh) C.fix hM
    ⟨⟨rfl, rfl, (C.room hd1 hmx).1, (C.room hd1 hmx).2, pay_in C.2.2.2.2.1 (UU_cons1 hcode), List.mem_cons_self⟩, C.2.2.2.2.1 _ hcode, C.2.2.2.2.1 _ hini, ⟨hd.1, hd.2.1⟩, fun sig h9 => by
      have h2 := hd.2.2
      rw [h9] at h2
      exact (Option.some.inj h2).symm, C.2.2.2.2.1 _ hlink, C.2.2.2.2.1 _ hstat⟩
    ⟨zPre.blind E _ h, fun U hU hW => ⟨rfl, C.pre hP hS U hU hW⟩⟩ rfl rfl hl.1 rfl (lv_room hcat) hdg hk
  obtain ⟨v', st₀, t, T', L, h0, X', hL, e1, e2, ⟨hv, hP1, hz, hk9⟩, st9⟩ := hr T9 hT X9
  cases hv
  rw [h0] at hz hk9
  have hS1 : va_S (zA E) (xs X).heap T'.heap (locs ++ L) := ⟨Nat.le_trans hS.1 (by rw [e1]; exact hz), fun q q1 q2 => by rw [e1, hk9 q (Nat.lt_of_lt_of_le q1 hS.1) q2]; exact hS.2.1 q q1 q2, fun q hq => by
    rcases List.mem_append.mp hq with q1 | q1
    · exact hS.2.2 q q1
    · exact hL q q1⟩
  obtain ⟨t2, a1, b1⟩ := kk T'.heap (locs ++ L) ls (by rw [e1]; exact hP1) hS1 hl T' rfl X'
  exact ⟨t2, st9 t2 a1, b1⟩
theorem z_ishr (C : zC E X own cc nL ret d) {x y : Int32} (hdg : decode cc pc = .ok (.ishr, 1)) (kk : zW E X nL k n Q (pc + 1) h lv (.int (jsshr x y) :: st)) : zW E X nL k n Q pc h lv (.int y :: .int x :: st) := fun H locs ls hP hS hl => lv_ishr C.1 C.2.1 hdg (kk H locs ls hP hS hl)
theorem z_retK (C : zC E X own cc nL (some .int) d) {R : Int32} {v : Option Value} {K N : Nat} (hk : k ≤ K) (hn : n ≤ N) (hdg : decode cc pc = .ok (.ireturn, 1)) (kv : v = some (.int R)) : zW E X nL k n (MQ (xb X) (zQ E v h) (xa X) (xs X) K N (zA E)) pc h lv [.int R] := by
  subst kv
  intro H locs ls hP hS hl
  refine W.widen hk hn ?_
  exact W.iret C.1 C.2.1 C.2.2.2.2.2.1 (fun t ht hW => ⟨rfl, by rw [ht]; exact hP, hS.F ht⟩) hS.2.2 hdg C.2.2.2.2.2.2.1
theorem z_zretK (C : zC E X own cc nL (some .boolean) d) {R : Int32} {v : Option Value} {K N : Nat} (hb : R = 0 ∨ R = 1) (hk : k ≤ K) (hn : n ≤ N) (hdg : decode cc pc = .ok (.ireturn, 1)) (kv : v = some (.int R)) : zW E X nL k n (MQ (xb X) (zQ E v h) (xa X) (xs X) K N (zA E)) pc h lv [.int R] := by
  subst kv
  intro H locs ls hP hS hl
  refine W.widen hk hn ?_
  exact W.zret C.1 C.2.1 C.2.2.2.2.2.1 (z_narB hb) (fun t ht hW => ⟨rfl, by rw [ht]; exact hP, hS.F ht⟩) hS.2.2 hdg C.2.2.2.2.2.2.1
/-- a contract of a method of the law: it makes at most K cells (exceptions) of 6 K slots -/
def zRK (d K : Nat) : Room := { frames := d, cells := K, slots := 6 * K, locals := 48 * d }
def zMK (E : zE) (l : Launch) (d K : Nat) (y : MethodName) (bytes : ByteArray) (maxL : Nat) (ret : Option FieldType) (av : List Value) (h : Hp) (v : Option Value) (h' : Hp) : Prop :=
  Met l y (Cond.code y bytes maxL ret :: UU) (zRK d K) (va_Pc av (zPre E h)) (zQ E v h') K (6 * K) (zA E)
theorem z_runK {pc1 K : Nat} {av rest st0 : List Value} {h1 : Hp} {v : Option Value} (hpc : pc + 3 = pc1)
    (hr : ∀ (H : Heap) (locs : List Loc) (ls : Array Slot), zP E h H → va_S (zA E) (xs X).heap H locs → lv_has ls nL lv → va_Run (xp X) (xl X) (xe X) (xR X) (xs X) (xm X) (xa X) (xb X) (xt X) (xc X) H locs k n K (6 * K) (F0 (xm X) pc ls st0) rest (zQ E v h1 av.toArray) (zA E))
    (kk : zW E X nL (k + K) (n + 6 * K) Q pc1 h1 lv (v.toList ++ rest)) : zW E X nL k n Q pc h lv st0 := by
  subst hpc
  intro H locs ls hP hS hl T hT X9
  obtain ⟨v', st₀, t, T', L, h0, X', hL, e1, e2, ⟨hv, hP1, hz, hk⟩, st9⟩ := hr H locs ls hP hS hl T hT X9
  cases hv
  rw [h0] at hz hk
  have hS1 : va_S (zA E) (xs X).heap T'.heap (locs ++ L) := ⟨Nat.le_trans hS.1 (by rw [e1]; exact hz), fun q q1 q2 => by rw [e1, hk q (Nat.lt_of_lt_of_le q1 hS.1) q2]; exact hS.2.1 q q1 q2, fun q hq => by
    rcases List.mem_append.mp hq with q1 | q1
    · exact hS.2.2 q q1
    · exact hL q q1⟩
  obtain ⟨t2, a1, b1⟩ := kk T'.heap (locs ++ L) ls (by rw [e1]; exact hP1) hS1 hl T' rfl X'
  exact ⟨t2, st9 t2 a1, b1⟩
theorem z_callK (C : zC E X own cc nL ret d) {y : MethodName} {bytes : ByteArray} {maxL d1 index K : Nat} {rt : Option FieldType} {h1 : Hp} {v : Option Value} (pc1 : Nat) (As rest : List Value) (hM : zMK E (xl X) d1 K y bytes maxL rt As h v h1)
    (hcode : Cond.code y bytes maxL rt ∈ UU) (hlink : Cond.methodLink own index y ∈ UU) (hstat : Cond.static y ∈ UU) (hini : Cond.initialized y.cls ∈ UU)
    (hd : y.cls ≠ "java/lang/invoke/MethodHandle" ∧ y.cls ≠ "java/lang/invoke/VarHandle" ∧ (parseMethodDescriptor y.desc).map (fun d => d.parameters.length) = some As.length) (hd1 : d1 + 1 ≤ d) (hmx : maxL ≤ 29) (hst : st = As.reverse ++ rest) (hcat : (rest.map fun v => v.category).sum ≤ 8) (hk : k + K ≤ (xR X).cells ∧ n + 6 * K ≤ (xR X).slots) (hpc : pc + 3 = pc1) (hdg : decode cc pc = .ok (.invokestatic index, 3))
    (kk : zW E X nL (k + K) (n + 6 * K) Q pc1 h1 lv (v.toList ++ rest)) : zW E X nL k n Q pc h lv st := by
  subst hst
  refine z_runK (av := As) hpc (fun H locs ls hP hS hl => ?_) kk
  exact va_runS (As := As) (rest := rest) C.fix hM ⟨callB_of As.length C.2.2.2.2.1 (UU_cons hcode) rfl rfl rfl (C.2.2.2.2.1 _ hini) (C.2.2.2.2.1 _ hlink) hd (C.room hd1 hmx), C.2.2.2.2.1 _ hstat⟩
    ⟨zPre.blind E _ h, fun U hU hW => ⟨rfl, C.pre hP hS U hU hW⟩⟩ rfl rfl hl.1 rfl (lv_room hcat) hdg hk
end LAWROWS
theorem zMK_of {E : zE} {l : Launch} {d K : Nat} {y : MethodName} {bytes : ByteArray} {maxL : Nat} {ret : Option FieldType} {av : List Value} {h h' : Hp} {v : Option Value} {lv : List (Nat × Value)} (hy : plainName y.cls = true) (hlen : (lg_sl av).length ≤ maxL) (hlv : lv_args 0 av = lv)
    (body : ∀ X : zX, xl X = l → zC E X y.cls bytes maxL ret d → xR X = zRK d K → zW E X maxL 0 0 (MQ (xb X) (zQ E v h') (xa X) (xs X) K (6 * K) (zA E)) 0 h lv []) : zMK E l d K y bytes maxL ret av h v h' := by
  refine Met.ofW (cc := bytes) (maxL := maxL) (ret := ret) hy rfl ?_
  intro p e s m args below meth c s₁ B hml hv
  obtain ⟨rfl, hN, hP, hK, hS0⟩ := hv
  have hts0 := atoms_spec (ws := Cond.code y bytes maxL ret :: UU) B.pre
  have hts : ∀ w ∈ UU, w.before av.toArray s = true := fun w hw => hts0 w (List.mem_cons_of_mem _ hw)
  have hown : s.vm.findClass y.cls = some m.cls := findClass_of_methodNamed B.named
  have hl := lv_entry av (n := maxL) hlen
  rw [lg_entry_eq]
  rw [hlv] at hl
  exact body (p, l, e, (headSpec (Cond.code y bytes maxL ret :: UU) (zRK d K)).room, s, m, av.toArray, below, meth, c) rfl ⟨B.exec, B.bytes, hml, hown, hts, B.returns, B.notSynchronized, hN, hK, hS0, Nat.le_refl _, Nat.le_refl _⟩ rfl s.heap [] _ hP va_S.rf hl
def f_L_tryAppend (c : CS) (x1 : Int32) : Option (CS × Int32) :=
  (f_X5_append c x1).bind (fun r => if r.1 = 0 then some (r.2.1, r.2.2) else if r.1 = 1 then some (r.2.1, (-9999002 : Int32)) else if r.1 = 2 then some (r.2.1, (-9999003 : Int32)) else none)
set_option maxRecDepth 100000 in
set_option maxHeartbeats 4000000 in
theorem ct_L_tryAppend {E : zE} {l : Launch} {h0 : Hp} {x : Nat} {c : CS} {x1 : Int32} {r : CS × Int32} (hst : l.stackTraces = false) (hf : f_L_tryAppend c x1 = some r) : zMW E l 7 yL_tryAppend cL_tryAppend 3 [(0, 5, 6, 13), (0, 5, 10, 23)] [.ref x, .int x1] (pC E h0 x c) r.2 (pC E h0 x r.1) := by
  refine zMW_of (lv := [(0, .ref x), (1, .int x1)]) (by decide +kernel) (Nat.le_of_ble_eq_true rfl) rfl (fun X hX C htab hR => ?_)
  subst hX
  replace C : zC E X RL cL_tryAppend 3 (some .int) 7 := C
  unfold f_L_tryAppend at hf
  obtain ⟨q, hq, hf⟩ := bd_some hf
  refine z_aload_n C dL_tryAppend_0 0 rfl ?_
  refine z_iload_n C dL_tryAppend_1 1 rfl ?_
  refine z_callX (Cn := RX5) (T := TX5) (N := 6) (ci := 5) C 5 [.int x1] [] (ct_X5_append hst hq) co_X5_append ml_L_33 im_X5_append se_X5_append ini_X5 rfl pC_o ⟨rfl, by decide +kernel, by decide +kernel, by show _ = some 1; decide +kernel⟩ (by decide) (by decide) rfl (Nat.le_of_ble_eq_true rfl) (by rw [hR]; exact ⟨Nat.le_refl _, Nat.le_refl _⟩) rfl dL_tryAppend_2 (fun hk0 => ?_) (fun hne => ?_)
  · replace hf := ip hk0 hf
    obtain rfl := Option.some.inj hf
    exact z_catchR C (Nat.le_refl _) (Nat.le_refl _) dL_tryAppend_5 rfl
  · replace hf := iN hne hf
    by_cases e0 : q.1 = 1
    · replace hf := ip e0 hf
      obtain rfl := Option.some.inj hf
      rw [e0, show exN (1 : Int32) = "java/lang/IllegalArgumentException" by decide +kernel]
      refine z_catch1 C htab (0, 5, 6, 13) _ rfl (by decide) (by decide) kl_L_13 (by decide +kernel) (fun qa => ?_)
      refine z_astore_n C dL_tryAppend_6 (by decide) rfl ?_
      refine z_ldc C (-9999002 : Int32) dL_tryAppend_7 cn_L_15 ?_
      exact z_catchR C (Nat.le_refl _) (Nat.le_refl _) dL_tryAppend_9 rfl
    · replace hf := iN e0 hf
      by_cases e1 : q.1 = 2
      · replace hf := ip e1 hf
        obtain rfl := Option.some.inj hf
        rw [e1, show exN (2 : Int32) = "java/lang/IllegalStateException" by decide +kernel]
        refine z_catch2 (nm := "java/lang/IllegalArgumentException") C htab (0, 5, 6, 13) (0, 5, 10, 23) _ rfl (by decide) kl_L_13 (by decide +kernel) (by decide) (by decide) kl_L_23 (by decide +kernel) (fun qa => ?_)
        refine z_astore_n C dL_tryAppend_10 (by decide) rfl ?_
        refine z_ldc C (-9999003 : Int32) dL_tryAppend_11 cn_L_25 ?_
        exact z_catchR C (Nat.le_refl _) (Nat.le_refl _) dL_tryAppend_13 rfl
      · replace hf := iN e1 hf
        cases hf
def f_L_tryLoad (n : Nat) (c : CS) : Option (CS × Int32) :=
  (f_X5_load n c).bind (fun r => if r.1 = 0 then some (r.2.1, r.2.2) else if r.1 = 2 then some (r.2.1, (-9999003 : Int32)) else none)
set_option maxRecDepth 100000 in
set_option maxHeartbeats 4000000 in
theorem ct_L_tryLoad {E : zE} {l : Launch} {h0 : Hp} {x : Nat} {n : Nat} {c : CS} {r : CS × Int32} (hst : l.stackTraces = false) (hf : f_L_tryLoad n c = some r) : zMW E l 8 yL_tryLoad cL_tryLoad 2 [(0, 4, 5, 23)] [.ref x] (pC E h0 x c) r.2 (pC E h0 x r.1) := by
  refine zMW_of (lv := [(0, .ref x)]) (by decide +kernel) (Nat.le_of_ble_eq_true rfl) rfl (fun X hX C htab hR => ?_)
  subst hX
  replace C : zC E X RL cL_tryLoad 2 (some .int) 8 := C
  unfold f_L_tryLoad at hf
  obtain ⟨q, hq, hf⟩ := bd_some hf
  refine z_aload_n C dL_tryLoad_0 0 rfl ?_
  refine z_callX (Cn := RX5) (T := TX5) (N := 6) (ci := 5) C 4 [] [] (ct_X5_load hst hq) co_X5_load ml_L_37 im_X5_load se_X5_load ini_X5 rfl pC_o ⟨rfl, by decide +kernel, by decide +kernel, by show _ = some 0; decide +kernel⟩ (by decide) (by decide) rfl (Nat.le_of_ble_eq_true rfl) (by rw [hR]; exact ⟨Nat.le_refl _, Nat.le_refl _⟩) rfl dL_tryLoad_1 (fun hk0 => ?_) (fun hne => ?_)
  · replace hf := ip hk0 hf
    obtain rfl := Option.some.inj hf
    exact z_catchR C (Nat.le_refl _) (Nat.le_refl _) dL_tryLoad_4 rfl
  · replace hf := iN hne hf
    by_cases e0 : q.1 = 2
    · replace hf := ip e0 hf
      obtain rfl := Option.some.inj hf
      rw [e0, show exN (2 : Int32) = "java/lang/IllegalStateException" by decide +kernel]
      refine z_catch1 C htab (0, 4, 5, 23) _ rfl (by decide) (by decide) kl_L_23 (by decide +kernel) (fun qa => ?_)
      refine z_astore_n C dL_tryLoad_5 (by decide) rfl ?_
      refine z_ldc C (-9999003 : Int32) dL_tryLoad_6 cn_L_25 ?_
      exact z_catchR C (Nat.le_refl _) (Nat.le_refl _) dL_tryLoad_8 rfl
    · replace hf := iN e0 hf
      cases hf
def f_L_tryAbout (n : Nat) (c : CS) (x1 : Int32) : Option (CS × Int32) :=
  (f_X5_about n c x1).bind (fun r => if r.1 = 0 then some (r.2.1, r.2.2) else if r.1 = 1 then some (r.2.1, (-9999002 : Int32)) else none)
set_option maxRecDepth 100000 in
set_option maxHeartbeats 4000000 in
theorem ct_L_tryAbout {E : zE} {l : Launch} {h0 : Hp} {x : Nat} {n : Nat} {c : CS} {x1 : Int32} {r : CS × Int32} (hst : l.stackTraces = false) (hf : f_L_tryAbout n c x1 = some r) : zMW E l 7 yL_tryAbout cL_tryAbout 3 [(0, 5, 6, 13)] [.ref x, .int x1] (pC E h0 x c) r.2 (pC E h0 x r.1) := by
  refine zMW_of (lv := [(0, .ref x), (1, .int x1)]) (by decide +kernel) (Nat.le_of_ble_eq_true rfl) rfl (fun X hX C htab hR => ?_)
  subst hX
  replace C : zC E X RL cL_tryAbout 3 (some .int) 7 := C
  unfold f_L_tryAbout at hf
  obtain ⟨q, hq, hf⟩ := bd_some hf
  refine z_aload_n C dL_tryAbout_0 0 rfl ?_
  refine z_iload_n C dL_tryAbout_1 1 rfl ?_
  refine z_callX (Cn := RX5) (T := TX5) (N := 6) (ci := 5) C 5 [.int x1] [] (ct_X5_about hst hq) co_X5_about ml_L_41 im_X5_about se_X5_about ini_X5 rfl pC_o ⟨rfl, by decide +kernel, by decide +kernel, by show _ = some 1; decide +kernel⟩ (by decide) (by decide) rfl (Nat.le_of_ble_eq_true rfl) (by rw [hR]; exact ⟨Nat.le_refl _, Nat.le_refl _⟩) rfl dL_tryAbout_2 (fun hk0 => ?_) (fun hne => ?_)
  · replace hf := ip hk0 hf
    obtain rfl := Option.some.inj hf
    exact z_catchR C (Nat.le_refl _) (Nat.le_refl _) dL_tryAbout_5 rfl
  · replace hf := iN hne hf
    by_cases e0 : q.1 = 1
    · replace hf := ip e0 hf
      obtain rfl := Option.some.inj hf
      rw [e0, show exN (1 : Int32) = "java/lang/IllegalArgumentException" by decide +kernel]
      refine z_catch1 C htab (0, 5, 6, 13) _ rfl (by decide) (by decide) kl_L_13 (by decide +kernel) (fun qa => ?_)
      refine z_astore_n C dL_tryAbout_6 (by decide) rfl ?_
      refine z_ldc C (-9999002 : Int32) dL_tryAbout_7 cn_L_15 ?_
      exact z_catchR C (Nat.le_refl _) (Nat.le_refl _) dL_tryAbout_9 rfl
    · replace hf := iN e0 hf
      cases hf
def f_L_tryTile (n : Nat) (c : CS) (x1 : Int32) (x2 : Int32) : Option (CS × Int32) :=
  (f_X5_tileOf n c x1 x2).bind (fun r => if r.1 = 0 then some (r.2.1, r.2.2) else if r.1 = 3 then some (r.2.1, (-9999001 : Int32)) else if r.1 = 1 then some (r.2.1, (-9999002 : Int32)) else none)
set_option maxRecDepth 100000 in
set_option maxHeartbeats 4000000 in
theorem ct_L_tryTile {E : zE} {l : Launch} {h0 : Hp} {x : Nat} {n : Nat} {c : CS} {x1 : Int32} {x2 : Int32} {r : CS × Int32} (hst : l.stackTraces = false) (hf : f_L_tryTile n c x1 x2 = some r) : zMW E l 7 yL_tryTile cL_tryTile 4 [(0, 6, 7, 20), (0, 6, 11, 13)] [.ref x, .int x1, .int x2] (pC E h0 x c) r.2 (pC E h0 x r.1) := by
  refine zMW_of (lv := [(0, .ref x), (1, .int x1), (2, .int x2)]) (by decide +kernel) (Nat.le_of_ble_eq_true rfl) rfl (fun X hX C htab hR => ?_)
  subst hX
  replace C : zC E X RL cL_tryTile 4 (some .int) 7 := C
  unfold f_L_tryTile at hf
  obtain ⟨q, hq, hf⟩ := bd_some hf
  refine z_aload_n C dL_tryTile_0 0 rfl ?_
  refine z_iload_n C dL_tryTile_1 1 rfl ?_
  refine z_iload_n C dL_tryTile_2 2 rfl ?_
  refine z_callX (Cn := RX5) (T := TX5) (N := 6) (ci := 5) C 6 [.int x1, .int x2] [] (ct_X5_tileOf hst hq) co_X5_tileOf ml_L_44 im_X5_tileOf se_X5_tileOf ini_X5 rfl pC_o ⟨rfl, by decide +kernel, by decide +kernel, by show _ = some 2; decide +kernel⟩ (by decide) (by decide) rfl (Nat.le_of_ble_eq_true rfl) (by rw [hR]; exact ⟨Nat.le_refl _, Nat.le_refl _⟩) rfl dL_tryTile_3 (fun hk0 => ?_) (fun hne => ?_)
  · replace hf := ip hk0 hf
    obtain rfl := Option.some.inj hf
    exact z_catchR C (Nat.le_refl _) (Nat.le_refl _) dL_tryTile_6 rfl
  · replace hf := iN hne hf
    by_cases e0 : q.1 = 3
    · replace hf := ip e0 hf
      obtain rfl := Option.some.inj hf
      rw [e0, show exN (3 : Int32) = "java/lang/IndexOutOfBoundsException" by decide +kernel]
      refine z_catch1 C htab (0, 6, 7, 20) _ rfl (by decide) (by decide) kl_L_20 (by decide +kernel) (fun qa => ?_)
      refine z_astore_n C dL_tryTile_7 (by decide) rfl ?_
      refine z_ldc C (-9999001 : Int32) dL_tryTile_8 cn_L_22 ?_
      exact z_catchR C (Nat.le_refl _) (Nat.le_refl _) dL_tryTile_10 rfl
    · replace hf := iN e0 hf
      by_cases e1 : q.1 = 1
      · replace hf := ip e1 hf
        obtain rfl := Option.some.inj hf
        rw [e1, show exN (1 : Int32) = "java/lang/IllegalArgumentException" by decide +kernel]
        refine z_catch2 (nm := "java/lang/IndexOutOfBoundsException") C htab (0, 6, 7, 20) (0, 6, 11, 13) _ rfl (by decide) kl_L_20 (by decide +kernel) (by decide) (by decide) kl_L_13 (by decide +kernel) (fun qa => ?_)
        refine z_astore_n C dL_tryTile_11 (by decide) rfl ?_
        refine z_ldc C (-9999002 : Int32) dL_tryTile_12 cn_L_15 ?_
        exact z_catchR C (Nat.le_refl _) (Nat.le_refl _) dL_tryTile_14 rfl
      · replace hf := iN e1 hf
        cases hf
def f_L_tryLaid (c : CS) (x1 : Int32) (x2 : Int32) : Option (CS × Int32) :=
  (f_X5_laid c x1 x2).bind (fun r => if r.1 = 0 then some (r.2.1, r.2.2) else if r.1 = 3 then some (r.2.1, (-9999001 : Int32)) else if r.1 = 1 then some (r.2.1, (-9999002 : Int32)) else none)
set_option maxRecDepth 100000 in
set_option maxHeartbeats 4000000 in
theorem ct_L_tryLaid {E : zE} {l : Launch} {h0 : Hp} {x : Nat} {c : CS} {x1 : Int32} {x2 : Int32} {r : CS × Int32} (hst : l.stackTraces = false) (hf : f_L_tryLaid c x1 x2 = some r) : zMW E l 7 yL_tryLaid cL_tryLaid 4 [(0, 6, 7, 20), (0, 6, 11, 13)] [.ref x, .int x1, .int x2] (pC E h0 x c) r.2 (pC E h0 x r.1) := by
  refine zMW_of (lv := [(0, .ref x), (1, .int x1), (2, .int x2)]) (by decide +kernel) (Nat.le_of_ble_eq_true rfl) rfl (fun X hX C htab hR => ?_)
  subst hX
  replace C : zC E X RL cL_tryLaid 4 (some .int) 7 := C
  unfold f_L_tryLaid at hf
  obtain ⟨q, hq, hf⟩ := bd_some hf
  refine z_aload_n C dL_tryLaid_0 0 rfl ?_
  refine z_iload_n C dL_tryLaid_1 1 rfl ?_
  refine z_iload_n C dL_tryLaid_2 2 rfl ?_
  refine z_callX (Cn := RX5) (T := TX5) (N := 6) (ci := 5) C 6 [.int x1, .int x2] [] (ct_X5_laid hst hq) co_X5_laid ml_L_48 im_X5_laid se_X5_laid ini_X5 rfl pC_o ⟨rfl, by decide +kernel, by decide +kernel, by show _ = some 2; decide +kernel⟩ (by decide) (by decide) rfl (Nat.le_of_ble_eq_true rfl) (by rw [hR]; exact ⟨Nat.le_refl _, Nat.le_refl _⟩) rfl dL_tryLaid_3 (fun hk0 => ?_) (fun hne => ?_)
  · replace hf := ip hk0 hf
    obtain rfl := Option.some.inj hf
    exact z_catchR C (Nat.le_refl _) (Nat.le_refl _) dL_tryLaid_6 rfl
  · replace hf := iN hne hf
    by_cases e0 : q.1 = 3
    · replace hf := ip e0 hf
      obtain rfl := Option.some.inj hf
      rw [e0, show exN (3 : Int32) = "java/lang/IndexOutOfBoundsException" by decide +kernel]
      refine z_catch1 C htab (0, 6, 7, 20) _ rfl (by decide) (by decide) kl_L_20 (by decide +kernel) (fun qa => ?_)
      refine z_astore_n C dL_tryLaid_7 (by decide) rfl ?_
      refine z_ldc C (-9999001 : Int32) dL_tryLaid_8 cn_L_22 ?_
      exact z_catchR C (Nat.le_refl _) (Nat.le_refl _) dL_tryLaid_10 rfl
    · replace hf := iN e0 hf
      by_cases e1 : q.1 = 1
      · replace hf := ip e1 hf
        obtain rfl := Option.some.inj hf
        rw [e1, show exN (1 : Int32) = "java/lang/IllegalArgumentException" by decide +kernel]
        refine z_catch2 (nm := "java/lang/IndexOutOfBoundsException") C htab (0, 6, 7, 20) (0, 6, 11, 13) _ rfl (by decide) kl_L_20 (by decide +kernel) (by decide) (by decide) kl_L_13 (by decide +kernel) (fun qa => ?_)
        refine z_astore_n C dL_tryLaid_11 (by decide) rfl ?_
        refine z_ldc C (-9999002 : Int32) dL_tryLaid_12 cn_L_15 ?_
        exact z_catchR C (Nat.le_refl _) (Nat.le_refl _) dL_tryLaid_14 rfl
      · replace hf := iN e1 hf
        cases hf
def f_L_tryPlayer (n : Nat) (c : CS) (x1 : Int32) (x2 : Int32) : Option (CS × Int32) :=
  (f_X5_playerOf n c x1 x2).bind (fun r => if r.1 = 0 then some (r.2.1, r.2.2) else if r.1 = 3 then some (r.2.1, (-9999001 : Int32)) else if r.1 = 1 then some (r.2.1, (-9999002 : Int32)) else none)
set_option maxRecDepth 100000 in
set_option maxHeartbeats 4000000 in
theorem ct_L_tryPlayer {E : zE} {l : Launch} {h0 : Hp} {x : Nat} {n : Nat} {c : CS} {x1 : Int32} {x2 : Int32} {r : CS × Int32} (hst : l.stackTraces = false) (hf : f_L_tryPlayer n c x1 x2 = some r) : zMW E l 7 yL_tryPlayer cL_tryPlayer 4 [(0, 6, 7, 20), (0, 6, 11, 13)] [.ref x, .int x1, .int x2] (pC E h0 x c) r.2 (pC E h0 x r.1) := by
  refine zMW_of (lv := [(0, .ref x), (1, .int x1), (2, .int x2)]) (by decide +kernel) (Nat.le_of_ble_eq_true rfl) rfl (fun X hX C htab hR => ?_)
  subst hX
  replace C : zC E X RL cL_tryPlayer 4 (some .int) 7 := C
  unfold f_L_tryPlayer at hf
  obtain ⟨q, hq, hf⟩ := bd_some hf
  refine z_aload_n C dL_tryPlayer_0 0 rfl ?_
  refine z_iload_n C dL_tryPlayer_1 1 rfl ?_
  refine z_iload_n C dL_tryPlayer_2 2 rfl ?_
  refine z_callX (Cn := RX5) (T := TX5) (N := 6) (ci := 5) C 6 [.int x1, .int x2] [] (ct_X5_playerOf hst hq) co_X5_playerOf ml_L_51 im_X5_playerOf se_X5_playerOf ini_X5 rfl pC_o ⟨rfl, by decide +kernel, by decide +kernel, by show _ = some 2; decide +kernel⟩ (by decide) (by decide) rfl (Nat.le_of_ble_eq_true rfl) (by rw [hR]; exact ⟨Nat.le_refl _, Nat.le_refl _⟩) rfl dL_tryPlayer_3 (fun hk0 => ?_) (fun hne => ?_)
  · replace hf := ip hk0 hf
    obtain rfl := Option.some.inj hf
    exact z_catchR C (Nat.le_refl _) (Nat.le_refl _) dL_tryPlayer_6 rfl
  · replace hf := iN hne hf
    by_cases e0 : q.1 = 3
    · replace hf := ip e0 hf
      obtain rfl := Option.some.inj hf
      rw [e0, show exN (3 : Int32) = "java/lang/IndexOutOfBoundsException" by decide +kernel]
      refine z_catch1 C htab (0, 6, 7, 20) _ rfl (by decide) (by decide) kl_L_20 (by decide +kernel) (fun qa => ?_)
      refine z_astore_n C dL_tryPlayer_7 (by decide) rfl ?_
      refine z_ldc C (-9999001 : Int32) dL_tryPlayer_8 cn_L_22 ?_
      exact z_catchR C (Nat.le_refl _) (Nat.le_refl _) dL_tryPlayer_10 rfl
    · replace hf := iN e0 hf
      by_cases e1 : q.1 = 1
      · replace hf := ip e1 hf
        obtain rfl := Option.some.inj hf
        rw [e1, show exN (1 : Int32) = "java/lang/IllegalArgumentException" by decide +kernel]
        refine z_catch2 (nm := "java/lang/IndexOutOfBoundsException") C htab (0, 6, 7, 20) (0, 6, 11, 13) _ rfl (by decide) kl_L_20 (by decide +kernel) (by decide) (by decide) kl_L_13 (by decide +kernel) (fun qa => ?_)
        refine z_astore_n C dL_tryPlayer_11 (by decide) rfl ?_
        refine z_ldc C (-9999002 : Int32) dL_tryPlayer_12 cn_L_15 ?_
        exact z_catchR C (Nat.le_refl _) (Nat.le_refl _) dL_tryPlayer_14 rfl
      · replace hf := iN e1 hf
        cases hf
def f_L_tryAt (n : Nat) (c : CS) (x1 : Int32) (x2 : Int32) : Option (CS × Int32) :=
  (f_X5_at n c x1 x2).bind (fun r => if r.1 = 0 then some (r.2.1, r.2.2) else if r.1 = 3 then some (r.2.1, (-9999001 : Int32)) else none)
set_option maxRecDepth 100000 in
set_option maxHeartbeats 4000000 in
theorem ct_L_tryAt {E : zE} {l : Launch} {h0 : Hp} {x : Nat} {n : Nat} {c : CS} {x1 : Int32} {x2 : Int32} {r : CS × Int32} (hst : l.stackTraces = false) (hf : f_L_tryAt n c x1 x2 = some r) : zMW E l 7 yL_tryAt cL_tryAt 4 [(0, 6, 7, 20)] [.ref x, .int x1, .int x2] (pC E h0 x c) r.2 (pC E h0 x r.1) := by
  refine zMW_of (lv := [(0, .ref x), (1, .int x1), (2, .int x2)]) (by decide +kernel) (Nat.le_of_ble_eq_true rfl) rfl (fun X hX C htab hR => ?_)
  subst hX
  replace C : zC E X RL cL_tryAt 4 (some .int) 7 := C
  unfold f_L_tryAt at hf
  obtain ⟨q, hq, hf⟩ := bd_some hf
  refine z_aload_n C dL_tryAt_0 0 rfl ?_
  refine z_iload_n C dL_tryAt_1 1 rfl ?_
  refine z_iload_n C dL_tryAt_2 2 rfl ?_
  refine z_callX (Cn := RX5) (T := TX5) (N := 6) (ci := 5) C 6 [.int x1, .int x2] [] (ct_X5_at hst hq) co_X5_at ml_L_54 im_X5_at se_X5_at ini_X5 rfl pC_o ⟨rfl, by decide +kernel, by decide +kernel, by show _ = some 2; decide +kernel⟩ (by decide) (by decide) rfl (Nat.le_of_ble_eq_true rfl) (by rw [hR]; exact ⟨Nat.le_refl _, Nat.le_refl _⟩) rfl dL_tryAt_3 (fun hk0 => ?_) (fun hne => ?_)
  · replace hf := ip hk0 hf
    obtain rfl := Option.some.inj hf
    exact z_catchR C (Nat.le_refl _) (Nat.le_refl _) dL_tryAt_6 rfl
  · replace hf := iN hne hf
    by_cases e0 : q.1 = 3
    · replace hf := ip e0 hf
      obtain rfl := Option.some.inj hf
      rw [e0, show exN (3 : Int32) = "java/lang/IndexOutOfBoundsException" by decide +kernel]
      refine z_catch1 C htab (0, 6, 7, 20) _ rfl (by decide) (by decide) kl_L_20 (by decide +kernel) (fun qa => ?_)
      refine z_astore_n C dL_tryAt_7 (by decide) rfl ?_
      refine z_ldc C (-9999001 : Int32) dL_tryAt_8 cn_L_22 ?_
      exact z_catchR C (Nat.le_refl _) (Nat.le_refl _) dL_tryAt_10 rfl
    · replace hf := iN e0 hf
      cases hf
def f_L_tryFree (n : Nat) (c : CS) (x1 : Int32) : Option (CS × Int32) :=
  (f_X5_free n c x1).bind (fun r => if r.1 = 0 then some (r.2.1, r.2.2) else if r.1 = 1 then some (r.2.1, (-9999002 : Int32)) else none)
set_option maxRecDepth 100000 in
set_option maxHeartbeats 4000000 in
theorem ct_L_tryFree {E : zE} {l : Launch} {h0 : Hp} {x : Nat} {n : Nat} {c : CS} {x1 : Int32} {r : CS × Int32} (hst : l.stackTraces = false) (hf : f_L_tryFree n c x1 = some r) : zMW E l 7 yL_tryFree cL_tryFree 3 [(0, 5, 6, 13)] [.ref x, .int x1] (pC E h0 x c) r.2 (pC E h0 x r.1) := by
  refine zMW_of (lv := [(0, .ref x), (1, .int x1)]) (by decide +kernel) (Nat.le_of_ble_eq_true rfl) rfl (fun X hX C htab hR => ?_)
  subst hX
  replace C : zC E X RL cL_tryFree 3 (some .int) 7 := C
  unfold f_L_tryFree at hf
  obtain ⟨q, hq, hf⟩ := bd_some hf
  refine z_aload_n C dL_tryFree_0 0 rfl ?_
  refine z_iload_n C dL_tryFree_1 1 rfl ?_
  refine z_callX (Cn := RX5) (T := TX5) (N := 6) (ci := 5) C 5 [.int x1] [] (ct_X5_free hst hq) co_X5_free ml_L_57 im_X5_free se_X5_free ini_X5 rfl pC_o ⟨rfl, by decide +kernel, by decide +kernel, by show _ = some 1; decide +kernel⟩ (by decide) (by decide) rfl (Nat.le_of_ble_eq_true rfl) (by rw [hR]; exact ⟨Nat.le_refl _, Nat.le_refl _⟩) rfl dL_tryFree_2 (fun hk0 => ?_) (fun hne => ?_)
  · replace hf := ip hk0 hf
    obtain rfl := Option.some.inj hf
    exact z_catchR C (Nat.le_refl _) (Nat.le_refl _) dL_tryFree_5 rfl
  · replace hf := iN hne hf
    by_cases e0 : q.1 = 1
    · replace hf := ip e0 hf
      obtain rfl := Option.some.inj hf
      rw [e0, show exN (1 : Int32) = "java/lang/IllegalArgumentException" by decide +kernel]
      refine z_catch1 C htab (0, 5, 6, 13) _ rfl (by decide) (by decide) kl_L_13 (by decide +kernel) (fun qa => ?_)
      refine z_astore_n C dL_tryFree_6 (by decide) rfl ?_
      refine z_ldc C (-9999002 : Int32) dL_tryFree_7 cn_L_15 ?_
      exact z_catchR C (Nat.le_refl _) (Nat.le_refl _) dL_tryFree_9 rfl
    · replace hf := iN e0 hf
      cases hf
def f_L_tryDraw (c : CS) : Option (CS × Int32) :=
  (f_X5_draw c).bind (fun r => if r.1 = 0 then some (r.2.1, r.2.2) else if r.1 = 2 then some (r.2.1, (-9999003 : Int32)) else none)
set_option maxRecDepth 100000 in
set_option maxHeartbeats 4000000 in
theorem ct_L_tryDraw {E : zE} {l : Launch} {h0 : Hp} {x : Nat} {c : CS} {r : CS × Int32} (hst : l.stackTraces = false) (hf : f_L_tryDraw c = some r) : zMW E l 7 yL_tryDraw cL_tryDraw 2 [(0, 4, 5, 23)] [.ref x] (pC E h0 x c) r.2 (pC E h0 x r.1) := by
  refine zMW_of (lv := [(0, .ref x)]) (by decide +kernel) (Nat.le_of_ble_eq_true rfl) rfl (fun X hX C htab hR => ?_)
  subst hX
  replace C : zC E X RL cL_tryDraw 2 (some .int) 7 := C
  unfold f_L_tryDraw at hf
  obtain ⟨q, hq, hf⟩ := bd_some hf
  refine z_aload_n C dL_tryDraw_0 0 rfl ?_
  refine z_callX (Cn := RX5) (T := TX5) (N := 6) (ci := 5) C 4 [] [] (ct_X5_draw hst hq) co_X5_draw ml_L_60 im_X5_draw se_X5_draw ini_X5 rfl pC_o ⟨rfl, by decide +kernel, by decide +kernel, by show _ = some 0; decide +kernel⟩ (by decide) (by decide) rfl (Nat.le_of_ble_eq_true rfl) (by rw [hR]; exact ⟨Nat.le_refl _, Nat.le_refl _⟩) rfl dL_tryDraw_1 (fun hk0 => ?_) (fun hne => ?_)
  · replace hf := ip hk0 hf
    obtain rfl := Option.some.inj hf
    exact z_catchR C (Nat.le_refl _) (Nat.le_refl _) dL_tryDraw_4 rfl
  · replace hf := iN hne hf
    by_cases e0 : q.1 = 2
    · replace hf := ip e0 hf
      obtain rfl := Option.some.inj hf
      rw [e0, show exN (2 : Int32) = "java/lang/IllegalStateException" by decide +kernel]
      refine z_catch1 C htab (0, 4, 5, 23) _ rfl (by decide) (by decide) kl_L_23 (by decide +kernel) (fun qa => ?_)
      refine z_astore_n C dL_tryDraw_5 (by decide) rfl ?_
      refine z_ldc C (-9999003 : Int32) dL_tryDraw_6 cn_L_25 ?_
      exact z_catchR C (Nat.le_refl _) (Nat.le_refl _) dL_tryDraw_8 rfl
    · replace hf := iN e0 hf
      cases hf
def f_L_tryPass (n : Nat) (c : CS) : Option (CS × Int32) :=
  (f_X5_pass n c).bind (fun r => if r.1 = 0 then some (r.2.1, r.2.2) else if r.1 = 2 then some (r.2.1, (-9999003 : Int32)) else none)
set_option maxRecDepth 100000 in
set_option maxHeartbeats 4000000 in
theorem ct_L_tryPass {E : zE} {l : Launch} {h0 : Hp} {x : Nat} {n : Nat} {c : CS} {r : CS × Int32} (hst : l.stackTraces = false) (hf : f_L_tryPass n c = some r) : zMW E l 7 yL_tryPass cL_tryPass 2 [(0, 4, 5, 23)] [.ref x] (pC E h0 x c) r.2 (pC E h0 x r.1) := by
  refine zMW_of (lv := [(0, .ref x)]) (by decide +kernel) (Nat.le_of_ble_eq_true rfl) rfl (fun X hX C htab hR => ?_)
  subst hX
  replace C : zC E X RL cL_tryPass 2 (some .int) 7 := C
  unfold f_L_tryPass at hf
  obtain ⟨q, hq, hf⟩ := bd_some hf
  refine z_aload_n C dL_tryPass_0 0 rfl ?_
  refine z_callX (Cn := RX5) (T := TX5) (N := 6) (ci := 5) C 4 [] [] (ct_X5_pass hst hq) co_X5_pass ml_L_63 im_X5_pass se_X5_pass ini_X5 rfl pC_o ⟨rfl, by decide +kernel, by decide +kernel, by show _ = some 0; decide +kernel⟩ (by decide) (by decide) rfl (Nat.le_of_ble_eq_true rfl) (by rw [hR]; exact ⟨Nat.le_refl _, Nat.le_refl _⟩) rfl dL_tryPass_1 (fun hk0 => ?_) (fun hne => ?_)
  · replace hf := ip hk0 hf
    obtain rfl := Option.some.inj hf
    exact z_catchR C (Nat.le_refl _) (Nat.le_refl _) dL_tryPass_4 rfl
  · replace hf := iN hne hf
    by_cases e0 : q.1 = 2
    · replace hf := ip e0 hf
      obtain rfl := Option.some.inj hf
      rw [e0, show exN (2 : Int32) = "java/lang/IllegalStateException" by decide +kernel]
      refine z_catch1 C htab (0, 4, 5, 23) _ rfl (by decide) (by decide) kl_L_23 (by decide +kernel) (fun qa => ?_)
      refine z_astore_n C dL_tryPass_5 (by decide) rfl ?_
      refine z_ldc C (-9999003 : Int32) dL_tryPass_6 cn_L_25 ?_
      exact z_catchR C (Nat.le_refl _) (Nat.le_refl _) dL_tryPass_8 rfl
    · replace hf := iN e0 hf
      cases hf
def f_L_tryUndo (c : CS) : Option (CS × Int32) :=
  (f_X5_undo c).bind (fun r => if r.1 = 0 then some (r.2.1, r.2.2) else if r.1 = 2 then some (r.2.1, (-9999003 : Int32)) else none)
set_option maxRecDepth 100000 in
set_option maxHeartbeats 4000000 in
theorem ct_L_tryUndo {E : zE} {l : Launch} {h0 : Hp} {x : Nat} {c : CS} {r : CS × Int32} (hst : l.stackTraces = false) (hf : f_L_tryUndo c = some r) : zMW E l 7 yL_tryUndo cL_tryUndo 2 [(0, 4, 5, 23)] [.ref x] (pC E h0 x c) r.2 (pC E h0 x r.1) := by
  refine zMW_of (lv := [(0, .ref x)]) (by decide +kernel) (Nat.le_of_ble_eq_true rfl) rfl (fun X hX C htab hR => ?_)
  subst hX
  replace C : zC E X RL cL_tryUndo 2 (some .int) 7 := C
  unfold f_L_tryUndo at hf
  obtain ⟨q, hq, hf⟩ := bd_some hf
  refine z_aload_n C dL_tryUndo_0 0 rfl ?_
  refine z_callX (Cn := RX5) (T := TX5) (N := 6) (ci := 5) C 4 [] [] (ct_X5_undo hst hq) co_X5_undo ml_L_66 im_X5_undo se_X5_undo ini_X5 rfl pC_o ⟨rfl, by decide +kernel, by decide +kernel, by show _ = some 0; decide +kernel⟩ (by decide) (by decide) rfl (Nat.le_of_ble_eq_true rfl) (by rw [hR]; exact ⟨Nat.le_refl _, Nat.le_refl _⟩) rfl dL_tryUndo_1 (fun hk0 => ?_) (fun hne => ?_)
  · replace hf := ip hk0 hf
    obtain rfl := Option.some.inj hf
    exact z_catchR C (Nat.le_refl _) (Nat.le_refl _) dL_tryUndo_4 rfl
  · replace hf := iN hne hf
    by_cases e0 : q.1 = 2
    · replace hf := ip e0 hf
      obtain rfl := Option.some.inj hf
      rw [e0, show exN (2 : Int32) = "java/lang/IllegalStateException" by decide +kernel]
      refine z_catch1 C htab (0, 4, 5, 23) _ rfl (by decide) (by decide) kl_L_23 (by decide +kernel) (fun qa => ?_)
      refine z_astore_n C dL_tryUndo_5 (by decide) rfl ?_
      refine z_ldc C (-9999003 : Int32) dL_tryUndo_6 cn_L_25 ?_
      exact z_catchR C (Nat.le_refl _) (Nat.le_refl _) dL_tryUndo_8 rfl
    · replace hf := iN e0 hf
      cases hf
def f_L_tryWhy (c : CS) (x1 : Int32) : Option (CS × Int32) :=
  (f_X5_why c x1).bind (fun r => if r.1 = 0 then some (r.2.1, r.2.2) else if r.1 = 3 then some (r.2.1, (-9999001 : Int32)) else none)
set_option maxRecDepth 100000 in
set_option maxHeartbeats 4000000 in
theorem ct_L_tryWhy {E : zE} {l : Launch} {h0 : Hp} {x : Nat} {c : CS} {x1 : Int32} {r : CS × Int32} (hst : l.stackTraces = false) (hf : f_L_tryWhy c x1 = some r) : zMW E l 7 yL_tryWhy cL_tryWhy 3 [(0, 5, 6, 20)] [.ref x, .int x1] (pC E h0 x c) r.2 (pC E h0 x r.1) := by
  refine zMW_of (lv := [(0, .ref x), (1, .int x1)]) (by decide +kernel) (Nat.le_of_ble_eq_true rfl) rfl (fun X hX C htab hR => ?_)
  subst hX
  replace C : zC E X RL cL_tryWhy 3 (some .int) 7 := C
  unfold f_L_tryWhy at hf
  obtain ⟨q, hq, hf⟩ := bd_some hf
  refine z_aload_n C dL_tryWhy_0 0 rfl ?_
  refine z_iload_n C dL_tryWhy_1 1 rfl ?_
  refine z_callX (Cn := RX5) (T := TX5) (N := 6) (ci := 5) C 5 [.int x1] [] (ct_X5_why hst hq) co_X5_why ml_L_69 im_X5_why se_X5_why ini_X5 rfl pC_o ⟨rfl, by decide +kernel, by decide +kernel, by show _ = some 1; decide +kernel⟩ (by decide) (by decide) rfl (Nat.le_of_ble_eq_true rfl) (by rw [hR]; exact ⟨Nat.le_refl _, Nat.le_refl _⟩) rfl dL_tryWhy_2 (fun hk0 => ?_) (fun hne => ?_)
  · replace hf := ip hk0 hf
    obtain rfl := Option.some.inj hf
    exact z_catchR C (Nat.le_refl _) (Nat.le_refl _) dL_tryWhy_5 rfl
  · replace hf := iN hne hf
    by_cases e0 : q.1 = 3
    · replace hf := ip e0 hf
      obtain rfl := Option.some.inj hf
      rw [e0, show exN (3 : Int32) = "java/lang/IndexOutOfBoundsException" by decide +kernel]
      refine z_catch1 C htab (0, 5, 6, 20) _ rfl (by decide) (by decide) kl_L_20 (by decide +kernel) (fun qa => ?_)
      refine z_astore_n C dL_tryWhy_6 (by decide) rfl ?_
      refine z_ldc C (-9999001 : Int32) dL_tryWhy_7 cn_L_22 ?_
      exact z_catchR C (Nat.le_refl _) (Nat.le_refl _) dL_tryWhy_9 rfl
    · replace hf := iN e0 hf
      cases hf
def f_L_tryChain (n : Nat) (c : CS) (x1 : Int32) (x2 : Int32) : Option (CS × Int32) :=
  (f_X5_chain n c x1 x2).bind (fun r => if r.1 = 0 then some (r.2.1, r.2.2) else if r.1 = 3 then some (r.2.1, (-9999001 : Int32)) else if r.1 = 1 then some (r.2.1, (-9999002 : Int32)) else none)
set_option maxRecDepth 100000 in
set_option maxHeartbeats 4000000 in
theorem ct_L_tryChain {E : zE} {l : Launch} {h0 : Hp} {x : Nat} {n : Nat} {c : CS} {x1 : Int32} {x2 : Int32} {r : CS × Int32} (hst : l.stackTraces = false) (hf : f_L_tryChain n c x1 x2 = some r) : zMW E l 15 yL_tryChain cL_tryChain 4 [(0, 6, 7, 20), (0, 6, 11, 13)] [.ref x, .int x1, .int x2] (pC E h0 x c) r.2 (pC E h0 x r.1) := by
  refine zMW_of (lv := [(0, .ref x), (1, .int x1), (2, .int x2)]) (by decide +kernel) (Nat.le_of_ble_eq_true rfl) rfl (fun X hX C htab hR => ?_)
  subst hX
  replace C : zC E X RL cL_tryChain 4 (some .int) 15 := C
  unfold f_L_tryChain at hf
  obtain ⟨q, hq, hf⟩ := bd_some hf
  refine z_aload_n C dL_tryChain_0 0 rfl ?_
  refine z_iload_n C dL_tryChain_1 1 rfl ?_
  refine z_iload_n C dL_tryChain_2 2 rfl ?_
  refine z_callX (Cn := RX5) (T := TX5) (N := 6) (ci := 5) C 6 [.int x1, .int x2] [] (ct_X5_chain hst hq) co_X5_chain ml_L_72 im_X5_chain se_X5_chain ini_X5 rfl pC_o ⟨rfl, by decide +kernel, by decide +kernel, by show _ = some 2; decide +kernel⟩ (by decide) (by decide) rfl (Nat.le_of_ble_eq_true rfl) (by rw [hR]; exact ⟨Nat.le_refl _, Nat.le_refl _⟩) rfl dL_tryChain_3 (fun hk0 => ?_) (fun hne => ?_)
  · replace hf := ip hk0 hf
    obtain rfl := Option.some.inj hf
    exact z_catchR C (Nat.le_refl _) (Nat.le_refl _) dL_tryChain_6 rfl
  · replace hf := iN hne hf
    by_cases e0 : q.1 = 3
    · replace hf := ip e0 hf
      obtain rfl := Option.some.inj hf
      rw [e0, show exN (3 : Int32) = "java/lang/IndexOutOfBoundsException" by decide +kernel]
      refine z_catch1 C htab (0, 6, 7, 20) _ rfl (by decide) (by decide) kl_L_20 (by decide +kernel) (fun qa => ?_)
      refine z_astore_n C dL_tryChain_7 (by decide) rfl ?_
      refine z_ldc C (-9999001 : Int32) dL_tryChain_8 cn_L_22 ?_
      exact z_catchR C (Nat.le_refl _) (Nat.le_refl _) dL_tryChain_10 rfl
    · replace hf := iN e0 hf
      by_cases e1 : q.1 = 1
      · replace hf := ip e1 hf
        obtain rfl := Option.some.inj hf
        rw [e1, show exN (1 : Int32) = "java/lang/IllegalArgumentException" by decide +kernel]
        refine z_catch2 (nm := "java/lang/IndexOutOfBoundsException") C htab (0, 6, 7, 20) (0, 6, 11, 13) _ rfl (by decide) kl_L_20 (by decide +kernel) (by decide) (by decide) kl_L_13 (by decide +kernel) (fun qa => ?_)
        refine z_astore_n C dL_tryChain_11 (by decide) rfl ?_
        refine z_ldc C (-9999002 : Int32) dL_tryChain_12 cn_L_15 ?_
        exact z_catchR C (Nat.le_refl _) (Nat.le_refl _) dL_tryChain_14 rfl
      · replace hf := iN e1 hf
        cases hf
def f_L_tryReach (n : Nat) (c : CS) (x1 : Int32) : Option (CS × Int32) :=
  (f_X5_reach n c x1).bind (fun r => if r.1 = 0 then some (r.2.1, r.2.2) else if r.1 = 1 then some (r.2.1, (-9999002 : Int32)) else none)
set_option maxRecDepth 100000 in
set_option maxHeartbeats 4000000 in
theorem ct_L_tryReach {E : zE} {l : Launch} {h0 : Hp} {x : Nat} {n : Nat} {c : CS} {x1 : Int32} {r : CS × Int32} (hst : l.stackTraces = false) (hf : f_L_tryReach n c x1 = some r) : zMW E l 7 yL_tryReach cL_tryReach 3 [(0, 5, 6, 13)] [.ref x, .int x1] (pC E h0 x c) r.2 (pC E h0 x r.1) := by
  refine zMW_of (lv := [(0, .ref x), (1, .int x1)]) (by decide +kernel) (Nat.le_of_ble_eq_true rfl) rfl (fun X hX C htab hR => ?_)
  subst hX
  replace C : zC E X RL cL_tryReach 3 (some .int) 7 := C
  unfold f_L_tryReach at hf
  obtain ⟨q, hq, hf⟩ := bd_some hf
  refine z_aload_n C dL_tryReach_0 0 rfl ?_
  refine z_iload_n C dL_tryReach_1 1 rfl ?_
  refine z_callX (Cn := RX5) (T := TX5) (N := 6) (ci := 5) C 5 [.int x1] [] (ct_X5_reach hst hq) co_X5_reach ml_L_75 im_X5_reach se_X5_reach ini_X5 rfl pC_o ⟨rfl, by decide +kernel, by decide +kernel, by show _ = some 1; decide +kernel⟩ (by decide) (by decide) rfl (Nat.le_of_ble_eq_true rfl) (by rw [hR]; exact ⟨Nat.le_refl _, Nat.le_refl _⟩) rfl dL_tryReach_2 (fun hk0 => ?_) (fun hne => ?_)
  · replace hf := ip hk0 hf
    obtain rfl := Option.some.inj hf
    exact z_catchR C (Nat.le_refl _) (Nat.le_refl _) dL_tryReach_5 rfl
  · replace hf := iN hne hf
    by_cases e0 : q.1 = 1
    · replace hf := ip e0 hf
      obtain rfl := Option.some.inj hf
      rw [e0, show exN (1 : Int32) = "java/lang/IllegalArgumentException" by decide +kernel]
      refine z_catch1 C htab (0, 5, 6, 13) _ rfl (by decide) (by decide) kl_L_13 (by decide +kernel) (fun qa => ?_)
      refine z_astore_n C dL_tryReach_6 (by decide) rfl ?_
      refine z_ldc C (-9999002 : Int32) dL_tryReach_7 cn_L_15 ?_
      exact z_catchR C (Nat.le_refl _) (Nat.le_refl _) dL_tryReach_9 rfl
    · replace hf := iN e0 hf
      cases hf
def f_L_tryKeep (c : CS) (x1 : Int32) : Option (CS × Int32) :=
  (f_X5_save c x1).bind (fun r => if r.1 = 0 then some (r.2.1, r.2.2) else if r.1 = 3 then some (r.2.1, (-9999001 : Int32)) else none)
set_option maxRecDepth 100000 in
set_option maxHeartbeats 4000000 in
theorem ct_L_tryKeep {E : zE} {l : Launch} {h0 : Hp} {x : Nat} {c : CS} {x1 : Int32} {r : CS × Int32} (hst : l.stackTraces = false) (hf : f_L_tryKeep c x1 = some r) : zMW E l 7 yL_tryKeep cL_tryKeep 3 [(0, 5, 6, 20)] [.ref x, .int x1] (pC E h0 x c) r.2 (pC E h0 x r.1) := by
  refine zMW_of (lv := [(0, .ref x), (1, .int x1)]) (by decide +kernel) (Nat.le_of_ble_eq_true rfl) rfl (fun X hX C htab hR => ?_)
  subst hX
  replace C : zC E X RL cL_tryKeep 3 (some .int) 7 := C
  unfold f_L_tryKeep at hf
  obtain ⟨q, hq, hf⟩ := bd_some hf
  refine z_aload_n C dL_tryKeep_0 0 rfl ?_
  refine z_iload_n C dL_tryKeep_1 1 rfl ?_
  refine z_callX (Cn := RX5) (T := TX5) (N := 6) (ci := 5) C 5 [.int x1] [] (ct_X5_save hst hq) co_X5_save ml_L_78 im_X5_save se_X5_save ini_X5 rfl pC_o ⟨rfl, by decide +kernel, by decide +kernel, by show _ = some 1; decide +kernel⟩ (by decide) (by decide) rfl (Nat.le_of_ble_eq_true rfl) (by rw [hR]; exact ⟨Nat.le_refl _, Nat.le_refl _⟩) rfl dL_tryKeep_2 (fun hk0 => ?_) (fun hne => ?_)
  · replace hf := ip hk0 hf
    obtain rfl := Option.some.inj hf
    exact z_catchR C (Nat.le_refl _) (Nat.le_refl _) dL_tryKeep_5 rfl
  · replace hf := iN hne hf
    by_cases e0 : q.1 = 3
    · replace hf := ip e0 hf
      obtain rfl := Option.some.inj hf
      rw [e0, show exN (3 : Int32) = "java/lang/IndexOutOfBoundsException" by decide +kernel]
      refine z_catch1 C htab (0, 5, 6, 20) _ rfl (by decide) (by decide) kl_L_20 (by decide +kernel) (fun qa => ?_)
      refine z_astore_n C dL_tryKeep_6 (by decide) rfl ?_
      refine z_ldc C (-9999001 : Int32) dL_tryKeep_7 cn_L_22 ?_
      exact z_catchR C (Nat.le_refl _) (Nat.le_refl _) dL_tryKeep_9 rfl
    · replace hf := iN e0 hf
      cases hf
def f_L_tryBack (c : CS) (x1 : Int32) : Option (CS × Int32) :=
  (f_X5_restore c x1).bind (fun r => if r.1 = 0 then some (r.2.1, r.2.2) else if r.1 = 3 then some (r.2.1, (-9999001 : Int32)) else if r.1 = 2 then some (r.2.1, (-9999003 : Int32)) else none)
set_option maxRecDepth 100000 in
set_option maxHeartbeats 4000000 in
theorem ct_L_tryBack {E : zE} {l : Launch} {h0 : Hp} {x : Nat} {c : CS} {x1 : Int32} {r : CS × Int32} (hst : l.stackTraces = false) (hf : f_L_tryBack c x1 = some r) : zMW E l 7 yL_tryBack cL_tryBack 3 [(0, 5, 6, 20), (0, 5, 10, 23)] [.ref x, .int x1] (pC E h0 x c) r.2 (pC E h0 x r.1) := by
  refine zMW_of (lv := [(0, .ref x), (1, .int x1)]) (by decide +kernel) (Nat.le_of_ble_eq_true rfl) rfl (fun X hX C htab hR => ?_)
  subst hX
  replace C : zC E X RL cL_tryBack 3 (some .int) 7 := C
  unfold f_L_tryBack at hf
  obtain ⟨q, hq, hf⟩ := bd_some hf
  refine z_aload_n C dL_tryBack_0 0 rfl ?_
  refine z_iload_n C dL_tryBack_1 1 rfl ?_
  refine z_callX (Cn := RX5) (T := TX5) (N := 6) (ci := 5) C 5 [.int x1] [] (ct_X5_restore hst hq) co_X5_restore ml_L_81 im_X5_restore se_X5_restore ini_X5 rfl pC_o ⟨rfl, by decide +kernel, by decide +kernel, by show _ = some 1; decide +kernel⟩ (by decide) (by decide) rfl (Nat.le_of_ble_eq_true rfl) (by rw [hR]; exact ⟨Nat.le_refl _, Nat.le_refl _⟩) rfl dL_tryBack_2 (fun hk0 => ?_) (fun hne => ?_)
  · replace hf := ip hk0 hf
    obtain rfl := Option.some.inj hf
    exact z_catchR C (Nat.le_refl _) (Nat.le_refl _) dL_tryBack_5 rfl
  · replace hf := iN hne hf
    by_cases e0 : q.1 = 3
    · replace hf := ip e0 hf
      obtain rfl := Option.some.inj hf
      rw [e0, show exN (3 : Int32) = "java/lang/IndexOutOfBoundsException" by decide +kernel]
      refine z_catch1 C htab (0, 5, 6, 20) _ rfl (by decide) (by decide) kl_L_20 (by decide +kernel) (fun qa => ?_)
      refine z_astore_n C dL_tryBack_6 (by decide) rfl ?_
      refine z_ldc C (-9999001 : Int32) dL_tryBack_7 cn_L_22 ?_
      exact z_catchR C (Nat.le_refl _) (Nat.le_refl _) dL_tryBack_9 rfl
    · replace hf := iN e0 hf
      by_cases e1 : q.1 = 2
      · replace hf := ip e1 hf
        obtain rfl := Option.some.inj hf
        rw [e1, show exN (2 : Int32) = "java/lang/IllegalStateException" by decide +kernel]
        refine z_catch2 (nm := "java/lang/IndexOutOfBoundsException") C htab (0, 5, 6, 20) (0, 5, 10, 23) _ rfl (by decide) kl_L_20 (by decide +kernel) (by decide) (by decide) kl_L_23 (by decide +kernel) (fun qa => ?_)
        refine z_astore_n C dL_tryBack_10 (by decide) rfl ?_
        refine z_ldc C (-9999003 : Int32) dL_tryBack_11 cn_L_25 ?_
        exact z_catchR C (Nat.le_refl _) (Nat.le_refl _) dL_tryBack_13 rfl
      · replace hf := iN e1 hf
        cases hf
def f_L_deals (n : Nat) (c : CS) (x1 : Int32) (y2 : Int64) : Option (CS × Int32) :=
  (f_X5_deal n c x1 y2).bind (fun r => if r.1 = 0 then some (r.2.1, r.2.2) else if r.1 = 1 then some (r.2.1, (-9999002 : Int32)) else none)
set_option maxRecDepth 100000 in
set_option maxHeartbeats 4000000 in
theorem ct_L_deals {E : zE} {l : Launch} {h0 : Hp} {x : Nat} {n : Nat} {c : CS} {x1 : Int32} {y2 : Int64} {r : CS × Int32} (hst : l.stackTraces = false) (hf : f_L_deals n c x1 y2 = some r) : zMW E l 7 yL_deals cL_deals 5 [(0, 6, 7, 13)] [.ref x, .int x1, .long y2] (pC E h0 x c) r.2 (pC E h0 x r.1) := by
  refine zMW_of (lv := [(0, .ref x), (1, .int x1), (2, .long y2)]) (by decide +kernel) (Nat.le_of_ble_eq_true rfl) rfl (fun X hX C htab hR => ?_)
  subst hX
  replace C : zC E X RL cL_deals 5 (some .int) 7 := C
  unfold f_L_deals at hf
  obtain ⟨q, hq, hf⟩ := bd_some hf
  refine z_aload_n C dL_deals_0 0 rfl ?_
  refine z_iload_n C dL_deals_1 1 rfl ?_
  refine z_lload_n C dL_deals_2 2 rfl ?_
  refine z_callX (Cn := RX5) (T := TX5) (N := 6) (ci := 5) C 6 [.int x1, .long y2] [] (ct_X5_deal hst hq) co_X5_deal ml_L_7 im_X5_deal se_X5_deal ini_X5 rfl pC_o ⟨rfl, by decide +kernel, by decide +kernel, by show _ = some 2; decide +kernel⟩ (by decide) (by decide) rfl (Nat.le_of_ble_eq_true rfl) (by rw [hR]; exact ⟨Nat.le_refl _, Nat.le_refl _⟩) rfl dL_deals_3 (fun hk0 => ?_) (fun hne => ?_)
  · replace hf := ip hk0 hf
    obtain rfl := Option.some.inj hf
    exact z_catchR C (Nat.le_refl _) (Nat.le_refl _) dL_deals_6 rfl
  · replace hf := iN hne hf
    by_cases e0 : q.1 = 1
    · replace hf := ip e0 hf
      obtain rfl := Option.some.inj hf
      rw [e0, show exN (1 : Int32) = "java/lang/IllegalArgumentException" by decide +kernel]
      refine z_catch1 C htab (0, 6, 7, 13) _ rfl (by decide) (by decide) kl_L_13 (by decide +kernel) (fun qa => ?_)
      refine z_astore C dL_deals_7 (by decide) rfl ?_
      refine z_ldc C (-9999002 : Int32) dL_deals_9 cn_L_15 ?_
      exact z_catchR C (Nat.le_refl _) (Nat.le_refl _) dL_deals_11 rfl
    · replace hf := iN e0 hf
      cases hf
def f_L_plays (n : Nat) (c : CS) (x1 : Int32) (x2 : Int32) : Option (CS × Int32) :=
  (f_X5_play n c x1 x2).bind (fun r => if r.1 = 0 then some (r.2.1, r.2.2) else if r.1 = 3 then some (r.2.1, (-9999001 : Int32)) else if r.1 = 2 then some (r.2.1, (-9999003 : Int32)) else none)
set_option maxRecDepth 100000 in
set_option maxHeartbeats 4000000 in
theorem ct_L_plays {E : zE} {l : Launch} {h0 : Hp} {x : Nat} {n : Nat} {c : CS} {x1 : Int32} {x2 : Int32} {r : CS × Int32} (hst : l.stackTraces = false) (hf : f_L_plays n c x1 x2 = some r) : zMW E l 7 yL_plays cL_plays 4 [(0, 6, 7, 20), (0, 6, 11, 23)] [.ref x, .int x1, .int x2] (pC E h0 x c) r.2 (pC E h0 x r.1) := by
  refine zMW_of (lv := [(0, .ref x), (1, .int x1), (2, .int x2)]) (by decide +kernel) (Nat.le_of_ble_eq_true rfl) rfl (fun X hX C htab hR => ?_)
  subst hX
  replace C : zC E X RL cL_plays 4 (some .int) 7 := C
  unfold f_L_plays at hf
  obtain ⟨q, hq, hf⟩ := bd_some hf
  refine z_aload_n C dL_plays_0 0 rfl ?_
  refine z_iload_n C dL_plays_1 1 rfl ?_
  refine z_iload_n C dL_plays_2 2 rfl ?_
  refine z_callX (Cn := RX5) (T := TX5) (N := 6) (ci := 5) C 6 [.int x1, .int x2] [] (ct_X5_play hst hq) co_X5_play ml_L_16 im_X5_play se_X5_play ini_X5 rfl pC_o ⟨rfl, by decide +kernel, by decide +kernel, by show _ = some 2; decide +kernel⟩ (by decide) (by decide) rfl (Nat.le_of_ble_eq_true rfl) (by rw [hR]; exact ⟨Nat.le_refl _, Nat.le_refl _⟩) rfl dL_plays_3 (fun hk0 => ?_) (fun hne => ?_)
  · replace hf := ip hk0 hf
    obtain rfl := Option.some.inj hf
    exact z_catchR C (Nat.le_refl _) (Nat.le_refl _) dL_plays_6 rfl
  · replace hf := iN hne hf
    by_cases e0 : q.1 = 3
    · replace hf := ip e0 hf
      obtain rfl := Option.some.inj hf
      rw [e0, show exN (3 : Int32) = "java/lang/IndexOutOfBoundsException" by decide +kernel]
      refine z_catch1 C htab (0, 6, 7, 20) _ rfl (by decide) (by decide) kl_L_20 (by decide +kernel) (fun qa => ?_)
      refine z_astore_n C dL_plays_7 (by decide) rfl ?_
      refine z_ldc C (-9999001 : Int32) dL_plays_8 cn_L_22 ?_
      exact z_catchR C (Nat.le_refl _) (Nat.le_refl _) dL_plays_10 rfl
    · replace hf := iN e0 hf
      by_cases e1 : q.1 = 2
      · replace hf := ip e1 hf
        obtain rfl := Option.some.inj hf
        rw [e1, show exN (2 : Int32) = "java/lang/IllegalStateException" by decide +kernel]
        refine z_catch2 (nm := "java/lang/IndexOutOfBoundsException") C htab (0, 6, 7, 20) (0, 6, 11, 23) _ rfl (by decide) kl_L_20 (by decide +kernel) (by decide) (by decide) kl_L_23 (by decide +kernel) (fun qa => ?_)
        refine z_astore_n C dL_plays_11 (by decide) rfl ?_
        refine z_ldc C (-9999003 : Int32) dL_plays_12 cn_L_25 ?_
        exact z_catchR C (Nat.le_refl _) (Nat.le_refl _) dL_plays_14 rfl
      · replace hf := iN e1 hf
        cases hf
def f_L_doScript (n : Nat) (c : CS) (x1 : Int32) (y2 : Int64) : Option (CS × Int32) :=
  (f_X5_runScript n c x1 y2).bind (fun r => if r.1 = 0 then some (r.2.1, r.2.2) else if r.1 = 1 then some (r.2.1, (-9999002 : Int32)) else none)
set_option maxRecDepth 100000 in
set_option maxHeartbeats 4000000 in
theorem ct_L_doScript {E : zE} {l : Launch} {h0 : Hp} {x : Nat} {n : Nat} {c : CS} {x1 : Int32} {y2 : Int64} {r : CS × Int32} (hst : l.stackTraces = false) (hf : f_L_doScript n c x1 y2 = some r) : zMW E l 8 yL_doScript cL_doScript 5 [(0, 6, 7, 13)] [.ref x, .int x1, .long y2] (pC E h0 x c) r.2 (pC E h0 x r.1) := by
  refine zMW_of (lv := [(0, .ref x), (1, .int x1), (2, .long y2)]) (by decide +kernel) (Nat.le_of_ble_eq_true rfl) rfl (fun X hX C htab hR => ?_)
  subst hX
  replace C : zC E X RL cL_doScript 5 (some .int) 8 := C
  unfold f_L_doScript at hf
  obtain ⟨q, hq, hf⟩ := bd_some hf
  refine z_aload_n C dL_doScript_0 0 rfl ?_
  refine z_iload_n C dL_doScript_1 1 rfl ?_
  refine z_lload_n C dL_doScript_2 2 rfl ?_
  refine z_callX (Cn := RX5) (T := TX5) (N := 6) (ci := 5) C 6 [.int x1, .long y2] [] (ct_X5_runScript hst hq) co_X5_runScript ml_L_26 im_X5_runScript se_X5_runScript ini_X5 rfl pC_o ⟨rfl, by decide +kernel, by decide +kernel, by show _ = some 2; decide +kernel⟩ (by decide) (by decide) rfl (Nat.le_of_ble_eq_true rfl) (by rw [hR]; exact ⟨Nat.le_refl _, Nat.le_refl _⟩) rfl dL_doScript_3 (fun hk0 => ?_) (fun hne => ?_)
  · replace hf := ip hk0 hf
    obtain rfl := Option.some.inj hf
    exact z_catchR C (Nat.le_refl _) (Nat.le_refl _) dL_doScript_6 rfl
  · replace hf := iN hne hf
    by_cases e0 : q.1 = 1
    · replace hf := ip e0 hf
      obtain rfl := Option.some.inj hf
      rw [e0, show exN (1 : Int32) = "java/lang/IllegalArgumentException" by decide +kernel]
      refine z_catch1 C htab (0, 6, 7, 13) _ rfl (by decide) (by decide) kl_L_13 (by decide +kernel) (fun qa => ?_)
      refine z_astore C dL_doScript_7 (by decide) rfl ?_
      refine z_ldc C (-9999002 : Int32) dL_doScript_9 cn_L_15 ?_
      exact z_catchR C (Nat.le_refl _) (Nat.le_refl _) dL_doScript_11 rfl
    · replace hf := iN e0 hf
      cases hf
def f_L_doSimulate (n : Nat) (c : CS) (y1 : Int64) (x3 : Int32) : Option (CS × Int32) :=
  (f_X5_simulate n c y1 x3).bind (fun r => if r.1 = 0 then some (r.2.1, r.2.2) else if r.1 = 1 then some (r.2.1, (-9999002 : Int32)) else none)
set_option maxRecDepth 100000 in
set_option maxHeartbeats 4000000 in
theorem ct_L_doSimulate {E : zE} {l : Launch} {h0 : Hp} {x : Nat} {n : Nat} {c : CS} {y1 : Int64} {x3 : Int32} {r : CS × Int32} (hst : l.stackTraces = false) (hf : f_L_doSimulate n c y1 x3 = some r) : zMW E l 7 yL_doSimulate cL_doSimulate 5 [(0, 6, 7, 13)] [.ref x, .long y1, .int x3] (pC E h0 x c) r.2 (pC E h0 x r.1) := by
  refine zMW_of (lv := [(0, .ref x), (1, .long y1), (3, .int x3)]) (by decide +kernel) (Nat.le_of_ble_eq_true rfl) rfl (fun X hX C htab hR => ?_)
  subst hX
  replace C : zC E X RL cL_doSimulate 5 (some .int) 7 := C
  unfold f_L_doSimulate at hf
  obtain ⟨q, hq, hf⟩ := bd_some hf
  refine z_aload_n C dL_doSimulate_0 0 rfl ?_
  refine z_lload_n C dL_doSimulate_1 1 rfl ?_
  refine z_iload_n C dL_doSimulate_2 2 rfl ?_
  refine z_callX (Cn := RX5) (T := TX5) (N := 6) (ci := 5) C 6 [.long y1, .int x3] [] (ct_X5_simulate hst hq) co_X5_simulate ml_L_29 im_X5_simulate se_X5_simulate ini_X5 rfl pC_o ⟨rfl, by decide +kernel, by decide +kernel, by show _ = some 2; decide +kernel⟩ (by decide) (by decide) rfl (Nat.le_of_ble_eq_true rfl) (by rw [hR]; exact ⟨Nat.le_refl _, Nat.le_refl _⟩) rfl dL_doSimulate_3 (fun hk0 => ?_) (fun hne => ?_)
  · replace hf := ip hk0 hf
    obtain rfl := Option.some.inj hf
    exact z_catchR C (Nat.le_refl _) (Nat.le_refl _) dL_doSimulate_6 rfl
  · replace hf := iN hne hf
    by_cases e0 : q.1 = 1
    · replace hf := ip e0 hf
      obtain rfl := Option.some.inj hf
      rw [e0, show exN (1 : Int32) = "java/lang/IllegalArgumentException" by decide +kernel]
      refine z_catch1 C htab (0, 6, 7, 13) _ rfl (by decide) (by decide) kl_L_13 (by decide +kernel) (fun qa => ?_)
      refine z_astore C dL_doSimulate_7 (by decide) rfl ?_
      refine z_ldc C (-9999002 : Int32) dL_doSimulate_9 cn_L_15 ?_
      exact z_catchR C (Nat.le_refl _) (Nat.le_refl _) dL_doSimulate_11 rfl
    · replace hf := iN e0 hf
      cases hf
