/-! METHODS THAT THROW: the answer's first number is 0, or the kind of the exception -/
def exN (k : Int32) : String := if k = 1 then "java/lang/IllegalArgumentException" else if k = 2 then "java/lang/IllegalStateException" else "java/lang/IndexOutOfBoundsException"
def zQr (E : zE) (k : Int32) (v : Option Value) (h : Hp) : Array Value → State → Outcome → State → Prop := fun a st o t => k = 0 ∧ zQ E v h a st o t
def zXC (E : zE) (h : Hp) (k : Int32) : String → State → State → Prop := fun cls st t => ¬ k = 0 ∧ exN k = cls ∧ zP E h t.heap ∧ va_F (zA E) st t
def zRX (d : Nat) : Room := { frames := d, cells := 1, slots := 6, locals := 48 * d }
def zMX (E : zE) (l : Launch) (d : Nat) (y : MethodName) (bytes : ByteArray) (maxL : Nat) (ret : Option FieldType) (av : List Value) (h : Hp) (k : Int32) (v : Option Value) (h' : Hp) : Prop :=
  vx_Met l y (Cond.code y bytes maxL ret :: UU) (zRX d) (va_Pc av (zPre E h)) (zQr E k v h') (zXC E h' k) 1 6 (zA E)
/-- what a body that throws needs beside -/
def zCx (X : zX) : Prop := (∀ x ∈ (xc X).exceptionTable.toList, False) ∧ (xl X).stackTraces = false ∧ 1 ≤ (xR X).cells ∧ 6 ≤ (xR X).slots
abbrev exNames : List String := ["java/lang/RuntimeException", "java/lang/Exception"]
section THR
variable {E : zE} {X : zX} {own : String} {cc : ByteArray} {nL d : Nat} {ret : Option FieldType} {pc : Nat} {h : Hp} {lv : List (Nat × Value)} {st : List Value}
theorem z_atoms (C : zC E X own cc nL ret d) {L : List Cond} (hL : L.all (fun w => (decide (w ∈ lw_tbl) && goodWord w) || decide (w ∈ zDecls.map Cond.declares) || decide (w ∈ zCasts.map (fun q => Cond.castable q q))) = true) : ∀ w ∈ L, w.before (xa X) (xs X) = true := by
  intro w hw
  have h1 := List.all_eq_true.mp hL w hw
  simp only [Bool.or_eq_true, Bool.and_eq_true, decide_eq_true_eq] at h1
  rcases h1 with (⟨h2, h3⟩ | h2) | h2
  · exact C.2.2.2.2.1 w (UU_of h2 h3)
  · obtain ⟨q, hq, rfl⟩ := List.mem_map.mp h2
    exact va_Nw.use rfl (C.2.2.2.2.2.2.2.2.1.2.2.2.2.1 q hq)
  · obtain ⟨q, hq, rfl⟩ := List.mem_map.mp h2
    exact va_Nw.use rfl (C.2.2.2.2.2.2.2.2.1.2.2.2.2.2.1 q hq)
theorem z_xc (C : zC E X own cc nL ret d) {k : Int32} {H : Heap} {locs : List Loc} (hP : zP E h H) (hS : va_S (zA E) (xs X).heap H locs) (hk : ¬ k = 0) {cls : String} (hc : exN k = cls) (t : State) (_ : (xs X).vm.Alike t.vm) (h1 : H.size ≤ t.heap.size) (h2 : ∀ q : Nat, q < H.size → t.heap[q]? = H[q]?) : zXC E h k cls (xs X) t := by
  refine ⟨hk, hc, fun a x ha => ?_, Nat.le_trans hS.1 h1, fun q q1 q2 => ?_⟩
  · obtain ⟨g1, g2⟩ := hP a x ha
    exact ⟨g1, g2.kept (h2 a g2.lt)⟩
  · rw [h2 q (Nat.lt_of_lt_of_le q1 hS.1)]
    exact hS.2.1 q q1 q2
theorem z_throwS (C : zC E X own cc nL ret d) (CX : zCx X) {ik is ic : Nat} {cls text : String} {v : Option Value} (k : Int32) (hown : own = RX5) (hd : 6 ≤ d) (hfit : Bundle.fit cls = true) (hk : ¬ k = 0) (hcls : exN k = cls) (hkl : Cond.classLink own ik cls ∈ UU) (hini : Cond.initialized cls ∈ UU) (hstr : (is, text) ∈ zStrs)
    (hat : (vx_atS own ic cls exNames).all (fun w => (decide (w ∈ lw_tbl) && goodWord w) || decide (w ∈ zDecls.map Cond.declares) || decide (w ∈ zCasts.map (fun q => Cond.castable q q))) = true)
    (hgood : (Cond.classLink own ik cls :: Cond.initialized cls :: vx_atS own ic cls exNames).all vx_ot = true) (hcat : (st.map fun v => v.category).sum ≤ 8)
    (d0 : decode cc pc = .ok (.new ik, 3)) (d3 : decode cc (pc + 3) = .ok (.dup, 1)) (d4 : decode cc (pc + 4) = .ok (.ldc is, 2)) (d6 : decode cc (pc + 6) = .ok (.invokespecial ic, 3)) (d9 : decode cc (pc + 9) = .ok (.athrow, 1)) :
    zW E X nL 0 0 (vx_MQ (xb X) (zQr E k v h) (zXC E h k) (xa X) (xs X) 1 6 (zA E)) pc h lv st := by
  intro H locs ls hP hS hl
  obtain ⟨sa, hsa⟩ := C.2.2.2.2.2.2.2.2.1.2.2.2.1 _ hstr
  obtain ⟨r1, r2⟩ := C.2.2.2.2.2.2.2.2.2.2
  exact vx_throwS C.1 C.2.1 CX.2.1 C.2.2.2.1 hfit (by decide +kernel) (C.2.2.2.2.1 _ hkl) (C.2.2.2.2.1 _ hini) (by rw [hown]; exact hsa) (z_atoms C hat) (List.all_eq_true.mp hgood) C.2.2.2.2.2.2.2.2.2.1.2.2.2.2.1 C.2.2.2.2.2.2.2.2.2.1.2.2.2.2.2 hS (hl.1.trans C.2.2.1.symm) d0 d3 d4 d6 d9 (fun x hx => (CX.1 x hx).elim)
    (by show 2 + 3 < _; omega) (by show _ + (13 * (2 + 1) + 43) ≤ _; omega) (by have := CX.2.2.1; omega) (by have := CX.2.2.2; omega) C.2.2.2.2.2.2.1 (z_xc C hP hS hk hcls) hS.2.2 (Nat.le_refl _) (Nat.le_refl _)
theorem z_throwSW (C : zC E X own cc nL ret d) (CX : zCx X) {ik is ic : Nat} {cls text : String} {v : Option Value} (k : Int32) (hown : own = RX5) (hd : 6 ≤ d) (hfit : Bundle.fit cls = true) (hk : ¬ k = 0) (hcls : exN k = cls) (hkl : Cond.classLink own ik cls ∈ UU) (hini : Cond.initialized cls ∈ UU) (hstr : (is, text) ∈ zStrs)
    (hat : (vx_atS own ic cls exNames).all (fun w => (decide (w ∈ lw_tbl) && goodWord w) || decide (w ∈ zDecls.map Cond.declares) || decide (w ∈ zCasts.map (fun q => Cond.castable q q))) = true)
    (hgood : (Cond.classLink own ik cls :: Cond.initialized cls :: vx_atS own ic cls exNames).all vx_ot = true) (hcat : (st.map fun v => v.category).sum ≤ 8)
    (d0 : decode cc pc = .ok (.new ik, 3)) (d3 : decode cc (pc + 3) = .ok (.dup, 1)) (d4 : decode cc (pc + 4) = .ok (.ldc_w is, 3)) (d7 : decode cc (pc + 7) = .ok (.invokespecial ic, 3)) (d10 : decode cc (pc + 10) = .ok (.athrow, 1)) :
    zW E X nL 0 0 (vx_MQ (xb X) (zQr E k v h) (zXC E h k) (xa X) (xs X) 1 6 (zA E)) pc h lv st := by
  intro H locs ls hP hS hl
  obtain ⟨sa, hsa⟩ := C.2.2.2.2.2.2.2.2.1.2.2.2.1 _ hstr
  obtain ⟨r1, r2⟩ := C.2.2.2.2.2.2.2.2.2.2
  exact vx_throwSW C.1 C.2.1 CX.2.1 C.2.2.2.1 hfit (by decide +kernel) (C.2.2.2.2.1 _ hkl) (C.2.2.2.2.1 _ hini) (by rw [hown]; exact hsa) (z_atoms C hat) (List.all_eq_true.mp hgood) C.2.2.2.2.2.2.2.2.2.1.2.2.2.2.1 C.2.2.2.2.2.2.2.2.2.1.2.2.2.2.2 hS (hl.1.trans C.2.2.1.symm) d0 d3 d4 d7 d10 (fun x hx => (CX.1 x hx).elim)
    (by show 2 + 3 < _; omega) (by show _ + (13 * (2 + 1) + 43) ≤ _; omega) (by have := CX.2.2.1; omega) (by have := CX.2.2.2; omega) C.2.2.2.2.2.2.1 (z_xc C hP hS hk hcls) hS.2.2 (Nat.le_refl _) (Nat.le_refl _)
theorem z_xireturn (C : zC E X own cc nL (some .int) d) {v : Int32} {XC : String → State → State → Prop} (hdg : decode cc pc = .ok (.ireturn, 1)) : zW E X nL 0 0 (vx_MQ (xb X) (zQr E 0 (some (.int v)) h) XC (xa X) (xs X) 1 6 (zA E)) pc h lv [.int v] := by
  intro H locs ls hP hS hl
  refine W.widen (k := 1) (n := 6) (Nat.zero_le _) (Nat.zero_le _) (vx_ret ?_)
  exact W.iret C.1 C.2.1 C.2.2.2.2.2.1 (fun t ht hW => ⟨rfl, rfl, by rw [ht]; exact hP, hS.F ht⟩) hS.2.2 hdg C.2.2.2.2.2.2.1
end THR
/-- a throwing method's body, from its entry -/
theorem zMX_of {E : zE} {l : Launch} {d : Nat} {y : MethodName} {bytes : ByteArray} {maxL : Nat} {ret : Option FieldType} {av : List Value} {h h' : Hp} {k : Int32} {v : Option Value} {lv : List (Nat × Value)} (hst : l.stackTraces = false) (hy : plainName y.cls = true) (hlen : (lg_sl av).length ≤ maxL) (hlv : lv_args 0 av = lv)
    (body : ∀ X : zX, xl X = l → zC E X y.cls bytes maxL ret d → zCx X → zW E X maxL 0 0 (vx_MQ (xb X) (zQr E k v h') (zXC E h' k) (xa X) (xs X) 1 6 (zA E)) 0 h lv []) : zMX E l d y bytes maxL ret av h k v h' := by
  refine vx_ofW (cc := bytes) (maxL := maxL) (ret := ret) hy rfl ?_
  intro p e s m args below meth c s₁ B hml hex hv
  obtain ⟨rfl, hN, hP, hK, hS0⟩ := hv
  have hts0 := atoms_spec (ws := Cond.code y bytes maxL ret :: UU) B.pre
  have hts : ∀ w ∈ UU, w.before av.toArray s = true := fun w hw => hts0 w (List.mem_cons_of_mem _ hw)
  have hown : s.vm.findClass y.cls = some m.cls := findClass_of_methodNamed B.named
  have hl := lv_entry av (n := maxL) hlen
  rw [lg_entry_eq]
  rw [hlv] at hl
  exact body (p, l, e, (headSpec (Cond.code y bytes maxL ret :: UU) (zRX d)).room, s, m, av.toArray, below, meth, c) rfl ⟨B.exec, B.bytes, hml, hown, hts, B.returns, B.notSynchronized, hN, hK, hS0, Nat.le_refl _, Nat.le_refl _⟩ ⟨hex, hst, Nat.le_refl _, Nat.le_refl _⟩ s.heap [] _ hP va_S.rf hl
def oc {β : Type} (q : Option Nat) (a : Option β) (b : Nat → Option β) : Option β := match q with
  | none => a
  | some i => b i
theorem oc_n {β : Type} {a : Option β} {b : Nat → Option β} {r : β} (h : oc none a b = some r) : a = some r := h
theorem oc_s {β : Type} {i : Nat} {a : Option β} {b : Nat → Option β} {r : β} (h : oc (some i) a b = some r) : b i = some r := h
