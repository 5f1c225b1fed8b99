/-! THE LAYER: the world is a map from addresses to cells; a method's contract says its answer and the map behind it -/
abbrev zE : Type := va_G × (ClassId × ClassId × ClassId × ClassId) × (Nat × Nat × Nat)
abbrev zD (E : zE) : va_G := E.1
abbrev zI (E : zE) : ClassId := E.2.1.1
abbrev zB (E : zE) : ClassId := E.2.1.2.1
abbrev zJ (E : zE) : ClassId := E.2.1.2.2.1
abbrev zG (E : zE) : ClassId := E.2.1.2.2.2
abbrev zN (E : zE) : Nat := E.2.2.1
abbrev zLo (E : zE) : Nat := E.2.2.2.1
abbrev zHi (E : zE) : Nat := E.2.2.2.2
abbrev zT (E : zE) : List (ClassId × FieldType) := [(zI E, .int), (zI E, .int), (zI E, .int), (zG E, .object "SpiralDominoes$Game")]
def zA (E : zE) : Nat → Prop := fun q => zN E ≤ q
abbrev Hp : Type := Nat → Option va_E
def hup (h : Hp) (a : Nat) (x : va_E) : Hp := fun q => if q = a then some x else h q
def zP (E : zE) (h : Hp) (H : Heap) : Prop := ∀ (a : Nat) (x : va_E), h a = some x → zN E ≤ a ∧ va_at (zD E) vwCl (a, x) H
/-- the words that the printed list keeps apart: nest mates' links -/
def zNestM : List (String × Nat × MethodName × String) := [("SpiralDominoes", 9, ⟨"SpiralDominoes$Text", "<init>", "()V"⟩, "SpiralDominoes"), ("SpiralDominoes$Game", 26, ⟨"SpiralDominoes$Line", "<init>", "()V"⟩, "SpiralDominoes"), ("SpiralDominoes", 35, ⟨"SpiralDominoes$Slot", "<init>", "()V"⟩, "SpiralDominoes"), ("SpiralDominoes$Game", 202, ⟨"SpiralDominoes", "isTile", "(I)Z"⟩, "SpiralDominoes"), ("SpiralDominoes$Line", 58, ⟨"SpiralDominoes", "lowOf", "(I)I"⟩, "SpiralDominoes"), ("SpiralDominoes$Line", 62, ⟨"SpiralDominoes", "highOf", "(I)I"⟩, "SpiralDominoes"), ("SpiralDominoes$Line", 69, ⟨"SpiralDominoes", "stepX", "(I)I"⟩, "SpiralDominoes"), ("SpiralDominoes$Line", 72, ⟨"SpiralDominoes", "stepY", "(I)I"⟩, "SpiralDominoes"), ("SpiralDominoes$Game", 183, ⟨"SpiralDominoes", "pipsOn", "(I)I"⟩, "SpiralDominoes"), ("SpiralDominoes$Line", 105, ⟨"SpiralDominoes", "isCell", "(II)Z"⟩, "SpiralDominoes"), ("SpiralDominoes$Line", 79, ⟨"SpiralDominoes", "pipsOn", "(I)I"⟩, "SpiralDominoes"), ("SpiralDominoes$Game", 117, ⟨"SpiralDominoes", "isPlayer", "(I)Z"⟩, "SpiralDominoes"), ("SpiralDominoes$Game", 101, ⟨"SpiralDominoes", "lowOf", "(I)I"⟩, "SpiralDominoes"), ("SpiralDominoes$Game", 105, ⟨"SpiralDominoes", "highOf", "(I)I"⟩, "SpiralDominoes"), ("SpiralDominoes$Game", 199, ⟨"SpiralDominoes", "tileWith", "(II)I"⟩, "SpiralDominoes")]
def zNestF : List (String × Nat × String × String × String × String) := [("SpiralDominoes$Game", 205, "SpiralDominoes", "LOW", "[I", "SpiralDominoes"), ("SpiralDominoes$Game", 208, "SpiralDominoes", "HIGH", "[I", "SpiralDominoes")]
def zStrs : List (Nat × String) := [(45, "no character code"), (56, "the text is full"), (70, "the text is not a game"), (120, "no such number"), (130, "no such tile"), (144, "not so many tiles are on the table"), (152, "no such player"), (160, "no such cell"), (165, "no such way"), (176, "not 2 to 4 players"), (188, "no round is played"), (197, "no tile can be drawn"), (202, "no player can pass"), (205, "no state is remembered"), (217, "not 1 to 6 tiles"), (225, "not 1 to 4 commands"), (231, "negative, or too many digits"), (253, "not 1 to 200 turns"), (274, "no such save slot"), (284, "nothing has been saved")]
def zDecls : List MethodName := [Bundle.initS "java/lang/RuntimeException", Bundle.initS "java/lang/Exception", Bundle.initS Bundle.tN]
def zCasts : List String := ["java/lang/IllegalArgumentException", "java/lang/IllegalStateException", "java/lang/IndexOutOfBoundsException"]
def zNcs : List (String × String) := [("java/lang/IllegalArgumentException", "java/lang/IllegalStateException"), ("java/lang/IllegalArgumentException", "java/lang/IndexOutOfBoundsException"), ("java/lang/IllegalStateException", "java/lang/IllegalArgumentException"), ("java/lang/IllegalStateException", "java/lang/IndexOutOfBoundsException"), ("java/lang/IndexOutOfBoundsException", "java/lang/IllegalArgumentException"), ("java/lang/IndexOutOfBoundsException", "java/lang/IllegalStateException")]
def zK (E : zE) (U : State) : Prop := va_K (zD E) vwCl (zT E) U ∧ (∀ q ∈ zNestM, va_Nw (.methodLinkNest q.1 q.2.1 q.2.2.1 q.2.2.2) U) ∧ (∀ q ∈ zNestF, va_Nw (.fieldLinkNest q.1 q.2.1 q.2.2.1 q.2.2.2.1 q.2.2.2.2.1 q.2.2.2.2.2) U) ∧ (∀ q ∈ zStrs, ∃ a : Nat, vk_R RX5 q.1 q.2 a U) ∧ (∀ q ∈ zDecls, va_Nw (.declares q) U) ∧ (∀ q ∈ zCasts, va_Nw (.castable q q) U) ∧ (∀ q ∈ zNcs, va_Nc q.1 q.2 U)
def lowT : Nat → Int32 := fun j => ([0, 0, 0, 0, 0, 0, 0, 1, 1, 1, 1, 1, 1, 2, 2, 2, 2, 2, 3, 3, 3, 3, 4, 4, 4, 5, 5, 6] : List Int32).getD j 0
def highT : Nat → Int32 := fun j => ([0, 1, 2, 3, 4, 5, 6, 1, 2, 3, 4, 5, 6, 2, 3, 4, 5, 6, 3, 4, 5, 6, 4, 5, 6, 5, 6, 6] : List Int32).getD j 0
/-- what the class's own static arrays and the JDK's two statics hold: nobody writes them -/
def zS (E : zE) (U : State) (H : Heap) : Prop :=
  va_Z "SpiralDominoes" "LOW" "[I" (.ref (zLo E)) (zA E) U H ∧ va_T .int (zLo E) 28 (fun j => .int (lowT j)) (zA E) U H ∧
  va_Z "SpiralDominoes" "HIGH" "[I" (.ref (zHi E)) (zA E) U H ∧ va_T .int (zHi E) 28 (fun j => .int (highT j)) (zA E) U H ∧
  vx_Zq Bundle.tN "UNASSIGNED_STACK" Bundle.steD (zA E) U H ∧ vx_Zq Bundle.tN "SUPPRESSED_SENTINEL" Bundle.listD (zA E) U H
theorem zK.warm {E : zE} {s U : State} (hW : s.WarmedH U.vm) (h : zK E s) : zK E U :=
  ⟨h.1.moved hW.alike, fun q hq => va_Nw.warmM hW (h.2.1 q hq), fun q hq => va_Nw.warmF hW (h.2.2.1 q hq), fun q hq => by
    obtain ⟨a, ha⟩ := h.2.2.2.1 q hq
    exact ⟨a, ha.warm hW⟩, fun q hq => va_Nw.warmD hW (h.2.2.2.2.1 q hq), fun q hq => va_Nw.warmC hW (h.2.2.2.2.2.1 q hq), fun q hq => va_Nc.moved hW.alike (h.2.2.2.2.2.2 q hq)⟩
theorem zK.same {E : zE} {u U : State} (hv : U.vm = u.vm) (h : zK E u) : zK E U :=
  ⟨h.1.moved (by rw [hv]; exact Vm.Alike.refl _), fun q hq => va_Nw.same rfl hv.symm (h.2.1 q hq), fun q hq => va_Nw.same rfl hv.symm (h.2.2.1 q hq), fun q hq => by
    obtain ⟨a, ha⟩ := h.2.2.2.1 q hq
    exact ⟨a, ha.same hv⟩, fun q hq => va_Nw.same rfl hv.symm (h.2.2.2.2.1 q hq), fun q hq => va_Nw.same rfl hv.symm (h.2.2.2.2.2.1 q hq), fun q hq => va_Nc.moved (by rw [hv]; exact Vm.Alike.refl _) (h.2.2.2.2.2.2 q hq)⟩
theorem zS.moved {E : zE} {u U : State} {H : Heap} (hvm : u.vm.Alike U.vm) (h : zS E u H) : zS E U H :=
  ⟨h.1.moved hvm, h.2.1.moved hvm, h.2.2.1.moved hvm, h.2.2.2.1.moved hvm, h.2.2.2.2.1.moved hvm, h.2.2.2.2.2.moved hvm⟩
theorem zS.kept {E : zE} {U : State} {H H1 : Heap} (h : zS E U H) (hq : ∀ a : Nat, a < H.size → ¬ zA E a → H1[a]? = H[a]?) : zS E U H1 :=
  ⟨h.1.kept hq, h.2.1.kept hq, h.2.2.1.kept hq, h.2.2.2.1.kept hq, h.2.2.2.2.1.kept hq, h.2.2.2.2.2.kept hq⟩
theorem zP.up {E : zE} {h : Hp} {H H1 : Heap} {a : Nat} {x : va_E} (hP : zP E h H) (ha : zN E ≤ a) (hx : va_at (zD E) vwCl (a, x) H1) (oq : ∀ q : Nat, q ≠ a → H1[q]? = H[q]?) : zP E (hup h a x) H1 := by
  intro b y hb
  by_cases e : b = a
  · subst e
    simp only [hup, if_true] at hb
    cases hb
    exact ⟨ha, hx⟩
  · simp only [hup, if_neg e] at hb
    obtain ⟨h1, h2⟩ := hP b y hb
    exact ⟨h1, h2.kept (oq b e)⟩
theorem zP.one {E : zE} {h : Hp} {H : Heap} {a : Nat} {x : va_E} (hP : zP E h H) (ha : h a = some x) : va_P (zD E) vwCl [(a, x)] H := by
  intro k q hk
  match k, hk with
  | 0, hk => cases hk; exact (hP a x ha).2
  | k + 1, hk => simp at hk
/-- the words of all methods -/
def UU : List Cond := lw_tbl.filter goodWord
theorem UU_in {w : Cond} (h : w ∈ UU) : w ∈ lw_tbl := (List.mem_filter.mp h).1
theorem UU_good : GoodIn UU UU := fun _ h => ⟨h, good_of_word (List.mem_filter.mp h).2⟩
theorem UU_of {w : Cond} (h : w ∈ lw_tbl) (g : goodWord w = true) : w ∈ UU := List.mem_filter.mpr ⟨h, g⟩
theorem UU_cons {y : MethodName} {b : ByteArray} {n : Nat} {r : Option FieldType} (h : Cond.code y b n r ∈ UU) : GoodIn UU (Cond.code y b n r :: UU) := fun w hw => by
  rcases List.mem_cons.mp hw with e | e
  · rw [e]; exact UU_good _ h
  · exact UU_good _ e
def zPre (E : zE) (h : Hp) (U : State) : Prop := zN E ≤ U.heap.size ∧ zP E h U.heap ∧ zK E U ∧ zS E U U.heap
theorem zPre.blind (E : zE) (av : List Value) (h : Hp) : FrameBlind (va_Pc av (zPre E h)) := by
  intro a U g mk hp
  exact ⟨hp.1, hp.2.1, hp.2.2.1, zK.same rfl hp.2.2.2.1, hp.2.2.2.2.moved (Vm.Alike.refl _)⟩
def zQ (E : zE) (v : Option Value) (h : Hp) : Array Value → State → Outcome → State → Prop := fun _ st o t => o = .returned v ∧ zP E h t.heap ∧ va_F (zA E) st t
def zR (d : Nat) : Room := { frames := d, cells := 0, slots := 0, locals := 48 * d }
/-- a contract: with these arguments over the map h, the method answers v and leaves the map h'; calls stand at most d deep -/
def zM (E : zE) (l : Launch) (d : Nat) (y : MethodName) (bytes : ByteArray) (maxL : Nat) (ret : Option FieldType) (av : List Value) (h : Hp) (v : Option Value) (h' : Hp) : Prop :=
  Met l y (Cond.code y bytes maxL ret :: UU) (zR d) (va_Pc av (zPre E h)) (zQ E v h') 0 0 (zA E)
abbrev zX : Type := Program × Launch × Env × Room × State × MethodId × Array Value × List Frame × Method × Code
abbrev xp (X : zX) : Program := X.1
abbrev xl (X : zX) : Launch := X.2.1
abbrev xe (X : zX) : Env := X.2.2.1
abbrev xR (X : zX) : Room := X.2.2.2.1
abbrev xs (X : zX) : State := X.2.2.2.2.1
abbrev xm (X : zX) : MethodId := X.2.2.2.2.2.1
abbrev xa (X : zX) : Array Value := X.2.2.2.2.2.2.1
abbrev xb (X : zX) : List Frame := X.2.2.2.2.2.2.2.1
abbrev xt (X : zX) : Method := X.2.2.2.2.2.2.2.2.1
abbrev xc (X : zX) : Code := X.2.2.2.2.2.2.2.2.2
/-- what stays the same in a method's body -/
def zC (E : zE) (X : zX) (own : String) (cc : ByteArray) (nL : Nat) (ret : Option FieldType) (d : Nat) : Prop :=
  (xp X).tables.exec = Jvm.exec ∧ (xc X).code = cc ∧ (xc X).maxLocals = nL ∧ (xs X).vm.findClass own = some (xm X).cls ∧ (∀ w ∈ UU, w.before (xa X) (xs X) = true) ∧ (xt X).sig.returnType = ret ∧ (xt X).locks = false ∧ zN E ≤ (xs X).heap.size ∧ zK E (xs X) ∧ zS E (xs X) (xs X).heap ∧ d ≤ (xR X).frames ∧ 48 * d ≤ (xR X).locals
/-- from the place pc, over the map h, with the locals lv and the stack st, the machine comes to Q -/
def zW (E : zE) (X : zX) (nL : Nat) (k n : Nat) (Q : State → Prop) (pc : Nat) (h : Hp) (lv : List (Nat × Value)) (st : List Value) : Prop :=
  ∀ (H : Heap) (locs : List Loc) (ls : Array Slot), zP E h H → va_S (zA E) (xs X).heap H locs → lv_has ls nL lv → W (xp X) (xl X) (xe X) (xR X) (xs X) (xm X) (xa X) (xb X) (xt X) (xc X) H locs k n Q (F0 (xm X) pc ls st)
section ZW
variable {E : zE} {X : zX} {own : String} {cc : ByteArray} {nL d k n : Nat} {ret : Option FieldType} {Q : State → Prop} {pc : Nat} {h : Hp} {lv lv' : List (Nat × Value)} {st : List Value}
theorem z_sub (ks : List Nat) (hl : lv_pick lv ks = lv') (kk : zW E X nL k n Q pc h lv' st) : zW E X nL k n Q pc h lv st := fun H locs ls hP hS hv => kk H locs ls hP hS (lv_sub hv ks hl)
theorem z_heap {h' : Hp} (e : h = h') (kk : zW E X nL k n Q pc h' lv st) : zW E X nL k n Q pc h lv st := e ▸ kk
theorem z_stk {st' : List Value} (e : st = st') (kk : zW E X nL k n Q pc h lv st') : zW E X nL k n Q pc h lv st := e ▸ kk
theorem z_iload_n (C : zC E X own cc nL ret d) {j : Fin 4} {x : Int32} (hdg : decode cc pc = .ok (.iload_n j, 1)) (i : Nat) (hi : lv[i]? = some (j.val, .int x)) (kk : zW E X nL k n Q (pc + 1) h lv (.int x :: st)) : zW E X nL k n Q pc h lv st := fun H locs ls hP hS hl => lv_iload_n C.1 C.2.1 hdg rfl (lv_at hl i hi) (kk H locs ls hP hS hl)
theorem z_iload (C : zC E X own cc nL ret d) {j : Nat} {x : Int32} (hdg : decode cc pc = .ok (.iload j, 2)) (i : Nat) (hi : lv[i]? = some (j, .int x)) (kk : zW E X nL k n Q (pc + 2) h lv (.int x :: st)) : zW E X nL k n Q pc h lv st := fun H locs ls hP hS hl => lv_iload C.1 C.2.1 hdg (lv_at hl i hi) (kk H locs ls hP hS hl)
theorem z_lload_n (C : zC E X own cc nL ret d) {j : Fin 4} {x : Int64} (hdg : decode cc pc = .ok (.lload_n j, 1)) (i : Nat) (hi : lv[i]? = some (j.val, .long x)) (kk : zW E X nL k n Q (pc + 1) h lv (.long x :: st)) : zW E X nL k n Q pc h lv st := fun H locs ls hP hS hl => lv_lload_n C.1 C.2.1 hdg rfl (lv_at hl i hi) (kk H locs ls hP hS hl)
theorem z_lload (C : zC E X own cc nL ret d) {j : Nat} {x : Int64} (hdg : decode cc pc = .ok (.lload j, 2)) (i : Nat) (hi : lv[i]? = some (j, .long x)) (kk : zW E X nL k n Q (pc + 2) h lv (.long x :: st)) : zW E X nL k n Q pc h lv st := fun H locs ls hP hS hl => lv_lload C.1 C.2.1 hdg (lv_at hl i hi) (kk H locs ls hP hS hl)
theorem z_aload_n (C : zC E X own cc nL ret d) {j : Fin 4} {x : Nat} (hdg : decode cc pc = .ok (.aload_n j, 1)) (i : Nat) (hi : lv[i]? = some (j.val, .ref x)) (kk : zW E X nL k n Q (pc + 1) h lv (.ref x :: st)) : zW E X nL k n Q pc h lv st := fun H locs ls hP hS hl => lv_aload_n C.1 C.2.1 hdg rfl (lv_at hl i hi) (kk H locs ls hP hS hl)
theorem z_aload (C : zC E X own cc nL ret d) {j : Nat} {x : Nat} (hdg : decode cc pc = .ok (.aload j, 2)) (i : Nat) (hi : lv[i]? = some (j, .ref x)) (kk : zW E X nL k n Q (pc + 2) h lv (.ref x :: st)) : zW E X nL k n Q pc h lv st := fun H locs ls hP hS hl => lv_aload C.1 C.2.1 hdg (lv_at hl i hi) (kk H locs ls hP hS hl)
theorem z_istore_n (C : zC E X own cc nL ret d) {j : Fin 4} {x : Int32} (hdg : decode cc pc = .ok (.istore_n j, 1)) (hn : j.val < nL) (hl : (j.val, Value.int x) :: lv.filter (fun q => !(q.1 == j.val) && !(q.1 + 1 == j.val && q.2.category == 2)) = lv') (kk : zW E X nL k n Q (pc + 1) h lv' st) : zW E X nL k n Q pc h lv (.int x :: st) := fun H locs ls hP hS hv => lv_istore_n C.1 C.2.1 hdg rfl hv hn hl (fun ls' hv' => kk H locs ls' hP hS hv')
theorem z_istore (C : zC E X own cc nL ret d) {j : Nat} {x : Int32} (hdg : decode cc pc = .ok (.istore j, 2)) (hn : j < nL) (hl : (j, Value.int x) :: lv.filter (fun q => !(q.1 == j) && !(q.1 + 1 == j && q.2.category == 2)) = lv') (kk : zW E X nL k n Q (pc + 2) h lv' st) : zW E X nL k n Q pc h lv (.int x :: st) := fun H locs ls hP hS hv => lv_istore C.1 C.2.1 hdg hv hn hl (fun ls' hv' => kk H locs ls' hP hS hv')
theorem z_astore_n (C : zC E X own cc nL ret d) {j : Fin 4} {x : Nat} (hdg : decode cc pc = .ok (.astore_n j, 1)) (hn : j.val < nL) (hl : (j.val, Value.ref x) :: lv.filter (fun q => !(q.1 == j.val) && !(q.1 + 1 == j.val && q.2.category == 2)) = lv') (kk : zW E X nL k n Q (pc + 1) h lv' st) : zW E X nL k n Q pc h lv (.ref x :: st) := fun H locs ls hP hS hv => lv_astore_n C.1 C.2.1 hdg rfl hv hn hl (fun ls' hv' => kk H locs ls' hP hS hv')
theorem z_astore (C : zC E X own cc nL ret d) {j : Nat} {x : Nat} (hdg : decode cc pc = .ok (.astore j, 2)) (hn : j < nL) (hl : (j, Value.ref x) :: lv.filter (fun q => !(q.1 == j) && !(q.1 + 1 == j && q.2.category == 2)) = lv') (kk : zW E X nL k n Q (pc + 2) h lv' st) : zW E X nL k n Q pc h lv (.ref x :: st) := fun H locs ls hP hS hv => lv_astore C.1 C.2.1 hdg hv hn hl (fun ls' hv' => kk H locs ls' hP hS hv')
theorem z_lstore_n (C : zC E X own cc nL ret d) {j : Fin 4} {x : Int64} (hdg : decode cc pc = .ok (.lstore_n j, 1)) (hn : j.val + 1 < nL) (hl : (j.val, Value.long x) :: lv.filter (fun q => !(q.1 == j.val) && (!(q.1 == j.val + 1) && !(q.1 + 1 == j.val && q.2.category == 2))) = lv') (kk : zW E X nL k n Q (pc + 1) h lv' st) : zW E X nL k n Q pc h lv (.long x :: st) := fun H locs ls hP hS hv => lv_lstore_n C.1 C.2.1 hdg rfl hv hn hl (fun ls' hv' => kk H locs ls' hP hS hv')
theorem z_lstore (C : zC E X own cc nL ret d) {j : Nat} {x : Int64} (hdg : decode cc pc = .ok (.lstore j, 2)) (hn : j + 1 < nL) (hl : (j, Value.long x) :: lv.filter (fun q => !(q.1 == j) && (!(q.1 == j + 1) && !(q.1 + 1 == j && q.2.category == 2))) = lv') (kk : zW E X nL k n Q (pc + 2) h lv' st) : zW E X nL k n Q pc h lv (.long x :: st) := fun H locs ls hP hS hv => lv_lstore C.1 C.2.1 hdg hv hn hl (fun ls' hv' => kk H locs ls' hP hS hv')
theorem z_iinc (C : zC E X own cc nL ret d) {j : Nat} {z : Int} {x : Int32} (hdg : decode cc pc = .ok (.iinc j z, 3)) (i : Nat) (v : Int32) (hi : lv[i]? = some (j, .int x)) (hv : x + Int32.ofInt z = v) (hn : j < nL) (hl : (j, Value.int v) :: lv.filter (fun q => !(q.1 == j) && !(q.1 + 1 == j && q.2.category == 2)) = lv') (kk : zW E X nL k n Q (pc + 3) h lv' st) : zW E X nL k n Q pc h lv st := fun H locs ls hP hS hl0 => lv_iinc C.1 C.2.1 hdg hl0 hi hv hn hl (fun ls' hv' => kk H locs ls' hP hS hv')
def jrem (x y : Int32) : Int32 := x - x / y * y
def jushr (x y : Int32) : Int32 := (x.toUInt32 >>> (y.toUInt32 &&& Int32.toUInt32 31)).toInt32
def jshl (x y : Int32) : Int32 := x <<< (y &&& 31)
def jlrem (x y : Int64) : Int64 := x - x / y * y
def jlushr (x : Int64) (y : Int32) : Int64 := (x.toUInt64 >>> (y.toInt64.toUInt64 &&& Int64.toUInt64 63)).toInt64
def jlshl (x : Int64) (y : Int32) : Int64 := x <<< (y.toInt64 &&& 63)
theorem z_iconst (C : zC E X own cc nL ret d) {z : Int} (v : Int32) (hdg : decode cc pc = .ok (.iconst z, 1)) (hv : Int32.ofInt z = v) (kk : zW E X nL k n Q (pc + 1) h lv (.int v :: st)) : zW E X nL k n Q pc h lv st := fun H locs ls hP hS hl => lv_iconst C.1 C.2.1 hdg hv (kk H locs ls hP hS hl)
theorem z_bipush (C : zC E X own cc nL ret d) {z : Int} (v : Int32) (hdg : decode cc pc = .ok (.bipush z, 2)) (hv : (Int8.ofInt z).toInt32 = v) (kk : zW E X nL k n Q (pc + 2) h lv (.int v :: st)) : zW E X nL k n Q pc h lv st := fun H locs ls hP hS hl => lv_bipush C.1 C.2.1 hdg hv (kk H locs ls hP hS hl)
theorem z_sipush (C : zC E X own cc nL ret d) {z : Int} (v : Int32) (hdg : decode cc pc = .ok (.sipush z, 3)) (hv : (Int16.ofInt z).toInt32 = v) (kk : zW E X nL k n Q (pc + 3) h lv (.int v :: st)) : zW E X nL k n Q pc h lv st := fun H locs ls hP hS hl => lv_sipush C.1 C.2.1 hdg hv (kk H locs ls hP hS hl)
theorem z_lconst (C : zC E X own cc nL ret d) {z : Fin 2} (v : Int64) (hdg : decode cc pc = .ok (.lconst z, 1)) (hv : Int64.ofNat z.val = v) (kk : zW E X nL k n Q (pc + 1) h lv (.long v :: st)) : zW E X nL k n Q pc h lv st := fun H locs ls hP hS hl => lv_lconst C.1 C.2.1 hdg hv (kk H locs ls hP hS hl)
theorem z_ldc (C : zC E X own cc nL ret d) {idx : Nat} (v : Int32) (hdg : decode cc pc = .ok (.ldc idx, 2)) (hm : Cond.constant own idx v ∈ UU) (kk : zW E X nL k n Q (pc + 2) h lv (.int v :: st)) : zW E X nL k n Q pc h lv st := fun H locs ls hP hS hl => lv_ldc C.1 C.2.1 C.2.2.2.1 (C.2.2.2.2.1 _ hm) hdg (kk H locs ls hP hS hl)
theorem z_ldcw (C : zC E X own cc nL ret d) {idx : Nat} (v : Int32) (hdg : decode cc pc = .ok (.ldc_w idx, 3)) (hm : Cond.constant own idx v ∈ UU) (kk : zW E X nL k n Q (pc + 3) h lv (.int v :: st)) : zW E X nL k n Q pc h lv st := fun H locs ls hP hS hl => lv_ldcw C.1 C.2.1 C.2.2.2.1 (C.2.2.2.2.1 _ hm) hdg (kk H locs ls hP hS hl)
theorem z_ldc2 (C : zC E X own cc nL ret d) {idx : Nat} (v : Int64) (hdg : decode cc pc = .ok (.ldc2_w idx, 3)) (hm : Cond.constantLong own idx v ∈ UU) (kk : zW E X nL k n Q (pc + 3) h lv (.long v :: st)) : zW E X nL k n Q pc h lv st := fun H locs ls hP hS hl => lv_ldc2 C.1 C.2.1 C.2.2.2.1 (C.2.2.2.2.1 _ hm) hdg (kk H locs ls hP hS hl)
theorem z_null (C : zC E X own cc nL ret d) (hdg : decode cc pc = .ok (.aconst_null, 1)) (kk : zW E X nL k n Q (pc + 1) h lv (.null :: st)) : zW E X nL k n Q pc h lv st := fun H locs ls hP hS hl => lv_null C.1 C.2.1 hdg (kk H locs ls hP hS hl)
theorem z_iadd (C : zC E X own cc nL ret d) {x y : Int32} (hdg : decode cc pc = .ok (.iadd, 1)) (kk : zW E X nL k n Q (pc + 1) h lv (.int (x + y) :: st)) : zW E X nL k n Q pc h lv (.int y :: .int x :: st) := fun H locs ls hP hS hl => lv_iadd C.1 C.2.1 hdg (kk H locs ls hP hS hl)
theorem z_isub (C : zC E X own cc nL ret d) {x y : Int32} (hdg : decode cc pc = .ok (.isub, 1)) (kk : zW E X nL k n Q (pc + 1) h lv (.int (x - y) :: st)) : zW E X nL k n Q pc h lv (.int y :: .int x :: st) := fun H locs ls hP hS hl => lv_isub C.1 C.2.1 hdg (kk H locs ls hP hS hl)
theorem z_imul (C : zC E X own cc nL ret d) {x y : Int32} (hdg : decode cc pc = .ok (.imul, 1)) (kk : zW E X nL k n Q (pc + 1) h lv (.int (x * y) :: st)) : zW E X nL k n Q pc h lv (.int y :: .int x :: st) := fun H locs ls hP hS hl => lv_imul C.1 C.2.1 hdg (kk H locs ls hP hS hl)
theorem z_iand (C : zC E X own cc nL ret d) {x y : Int32} (hdg : decode cc pc = .ok (.iand, 1)) (kk : zW E X nL k n Q (pc + 1) h lv (.int (x &&& y) :: st)) : zW E X nL k n Q pc h lv (.int y :: .int x :: st) := fun H locs ls hP hS hl => lv_iand C.1 C.2.1 hdg (kk H locs ls hP hS hl)
theorem z_ior (C : zC E X own cc nL ret d) {x y : Int32} (hdg : decode cc pc = .ok (.ior, 1)) (kk : zW E X nL k n Q (pc + 1) h lv (.int (x ||| y) :: st)) : zW E X nL k n Q pc h lv (.int y :: .int x :: st) := fun H locs ls hP hS hl => lv_ior C.1 C.2.1 hdg (kk H locs ls hP hS hl)
theorem z_ixor (C : zC E X own cc nL ret d) {x y : Int32} (hdg : decode cc pc = .ok (.ixor, 1)) (kk : zW E X nL k n Q (pc + 1) h lv (.int (x ^^^ y) :: st)) : zW E X nL k n Q pc h lv (.int y :: .int x :: st) := fun H locs ls hP hS hl => lv_ixor C.1 C.2.1 hdg (kk H locs ls hP hS hl)
theorem z_ishl (C : zC E X own cc nL ret d) {x y : Int32} (hdg : decode cc pc = .ok (.ishl, 1)) (kk : zW E X nL k n Q (pc + 1) h lv (.int (jshl x y) :: st)) : zW E X nL k n Q pc h lv (.int y :: .int x :: st) := fun H locs ls hP hS hl => lv_ishl C.1 C.2.1 hdg (kk H locs ls hP hS hl)
theorem z_ladd (C : zC E X own cc nL ret d) {x y : Int64} (hdg : decode cc pc = .ok (.ladd, 1)) (kk : zW E X nL k n Q (pc + 1) h lv (.long (x + y) :: st)) : zW E X nL k n Q pc h lv (.long y :: .long x :: st) := fun H locs ls hP hS hl => lv_ladd C.1 C.2.1 hdg (kk H locs ls hP hS hl)
theorem z_lsub (C : zC E X own cc nL ret d) {x y : Int64} (hdg : decode cc pc = .ok (.lsub, 1)) (kk : zW E X nL k n Q (pc + 1) h lv (.long (x - y) :: st)) : zW E X nL k n Q pc h lv (.long y :: .long x :: st) := fun H locs ls hP hS hl => lv_lsub C.1 C.2.1 hdg (kk H locs ls hP hS hl)
theorem z_lmul (C : zC E X own cc nL ret d) {x y : Int64} (hdg : decode cc pc = .ok (.lmul, 1)) (kk : zW E X nL k n Q (pc + 1) h lv (.long (x * y) :: st)) : zW E X nL k n Q pc h lv (.long y :: .long x :: st) := fun H locs ls hP hS hl => lv_lmul C.1 C.2.1 hdg (kk H locs ls hP hS hl)
theorem z_land (C : zC E X own cc nL ret d) {x y : Int64} (hdg : decode cc pc = .ok (.land, 1)) (kk : zW E X nL k n Q (pc + 1) h lv (.long (x &&& y) :: st)) : zW E X nL k n Q pc h lv (.long y :: .long x :: st) := fun H locs ls hP hS hl => lv_land C.1 C.2.1 hdg (kk H locs ls hP hS hl)
theorem z_lor (C : zC E X own cc nL ret d) {x y : Int64} (hdg : decode cc pc = .ok (.lor, 1)) (kk : zW E X nL k n Q (pc + 1) h lv (.long (x ||| y) :: st)) : zW E X nL k n Q pc h lv (.long y :: .long x :: st) := fun H locs ls hP hS hl => lv_lor C.1 C.2.1 hdg (kk H locs ls hP hS hl)
theorem z_idiv (C : zC E X own cc nL ret d) {x y : Int32} (hdg : decode cc pc = .ok (.idiv, 1)) (hne : ¬ y = 0) (kk : zW E X nL k n Q (pc + 1) h lv (.int (x / y) :: st)) : zW E X nL k n Q pc h lv (.int y :: .int x :: st) := fun H locs ls hP hS hl => lv_idiv C.1 C.2.1 hdg hne (kk H locs ls hP hS hl)
theorem z_irem (C : zC E X own cc nL ret d) {x y : Int32} (hdg : decode cc pc = .ok (.irem, 1)) (hne : ¬ y = 0) (kk : zW E X nL k n Q (pc + 1) h lv (.int (jrem x y) :: st)) : zW E X nL k n Q pc h lv (.int y :: .int x :: st) := fun H locs ls hP hS hl => lv_irem C.1 C.2.1 hdg hne (kk H locs ls hP hS hl)
theorem z_ldiv (C : zC E X own cc nL ret d) {x y : Int64} (hdg : decode cc pc = .ok (.ldiv, 1)) (hne : ¬ y = 0) (kk : zW E X nL k n Q (pc + 1) h lv (.long (x / y) :: st)) : zW E X nL k n Q pc h lv (.long y :: .long x :: st) := fun H locs ls hP hS hl => lv_ldiv C.1 C.2.1 hdg hne (kk H locs ls hP hS hl)
theorem z_lrem (C : zC E X own cc nL ret d) {x y : Int64} (hdg : decode cc pc = .ok (.lrem, 1)) (hne : ¬ y = 0) (kk : zW E X nL k n Q (pc + 1) h lv (.long (jlrem x y) :: st)) : zW E X nL k n Q pc h lv (.long y :: .long x :: st) := fun H locs ls hP hS hl => lv_lrem C.1 C.2.1 hdg hne (kk H locs ls hP hS hl)
theorem z_iushr (C : zC E X own cc nL ret d) {x y : Int32} (hdg : decode cc pc = .ok (.iushr, 1)) (kk : zW E X nL k n Q (pc + 1) h lv (.int (jushr x y) :: st)) : zW E X nL k n Q pc h lv (.int y :: .int x :: st) := fun H locs ls hP hS hl => lv_iushr C.1 C.2.1 hdg rfl (kk H locs ls hP hS hl)
theorem z_lushr (C : zC E X own cc nL ret d) {x : Int64} {y : Int32} (hdg : decode cc pc = .ok (.lushr, 1)) (kk : zW E X nL k n Q (pc + 1) h lv (.long (jlushr x y) :: st)) : zW E X nL k n Q pc h lv (.int y :: .long x :: st) := fun H locs ls hP hS hl => lv_lushr C.1 C.2.1 hdg rfl (kk H locs ls hP hS hl)
theorem z_lshl (C : zC E X own cc nL ret d) {x : Int64} {y : Int32} (hdg : decode cc pc = .ok (.lshl, 1)) (kk : zW E X nL k n Q (pc + 1) h lv (.long (jlshl x y) :: st)) : zW E X nL k n Q pc h lv (.int y :: .long x :: st) := fun H locs ls hP hS hl => lv_lshl C.1 C.2.1 hdg rfl (kk H locs ls hP hS hl)
theorem z_i2l (C : zC E X own cc nL ret d) {x : Int32} (hdg : decode cc pc = .ok (.i2l, 1)) (kk : zW E X nL k n Q (pc + 1) h lv (.long x.toInt64 :: st)) : zW E X nL k n Q pc h lv (.int x :: st) := fun H locs ls hP hS hl => lv_i2l C.1 C.2.1 hdg rfl (kk H locs ls hP hS hl)
theorem z_l2i (C : zC E X own cc nL ret d) {x : Int64} (hdg : decode cc pc = .ok (.l2i, 1)) (kk : zW E X nL k n Q (pc + 1) h lv (.int x.toInt32 :: st)) : zW E X nL k n Q pc h lv (.long x :: st) := fun H locs ls hP hS hl => lv_l2i C.1 C.2.1 hdg rfl (kk H locs ls hP hS hl)
theorem z_lcmp (C : zC E X own cc nL ret d) {x y : Int64} (hdg : decode cc pc = .ok (.lcmp, 1)) (kk : zW E X nL k n Q (pc + 1) h lv (.int (lg_cmp x y) :: st)) : zW E X nL k n Q pc h lv (.long y :: .long x :: st) := fun H locs ls hP hS hl => W.lcmp C.1 C.2.1 hdg (kk H locs ls hP hS hl)
theorem z_dup (C : zC E X own cc nL ret d) {v : Value} (hdg : decode cc pc = .ok (.dup, 1)) (hv : v.category = 1) (kk : zW E X nL k n Q (pc + 1) h lv (v :: v :: st)) : zW E X nL k n Q pc h lv (v :: st) := fun H locs ls hP hS hl => lv_dup C.1 C.2.1 hdg hv (kk H locs ls hP hS hl)
theorem z_dup2 (C : zC E X own cc nL ret d) {v w : Value} (hdg : decode cc pc = .ok (.dup2, 1)) (hv : v.category = 1) (hw : w.category = 1) (kk : zW E X nL k n Q (pc + 1) h lv (v :: w :: v :: w :: st)) : zW E X nL k n Q pc h lv (v :: w :: st) := fun H locs ls hP hS hl => lv_dup2_11 C.1 C.2.1 hdg hv hw (kk H locs ls hP hS hl)
theorem z_pop (C : zC E X own cc nL ret d) {v : Value} (hdg : decode cc pc = .ok (.pop, 1)) (hv : v.category = 1) (kk : zW E X nL k n Q (pc + 1) h lv st) : zW E X nL k n Q pc h lv (v :: st) := fun H locs ls hP hS hl => lv_pop C.1 C.2.1 hdg hv (kk H locs ls hP hS hl)
theorem z_goto (C : zC E X own cc nL ret d) {off : Int} (tgt : Nat) (hdg : decode cc pc = .ok (.goto off, 3)) (ht : (pc : Int) + off = (tgt : Int)) (kk : zW E X nL k n Q tgt h lv st) : zW E X nL k n Q pc h lv st := fun H locs ls hP hS hl => lv_goto C.1 C.2.1 hdg ht (kk H locs ls hP hS hl)
theorem z_if_eq (C : zC E X own cc nL ret d) {x : Int32} {off : Int} (tgt : Nat) (hdg : decode cc pc = .ok (.ifCond .eq off, 3)) (ht : (pc : Int) + off = (tgt : Int)) (kt : x = 0 → zW E X nL k n Q tgt h lv st) (kf : ¬ x = 0 → zW E X nL k n Q (pc + 3) h lv st) : zW E X nL k n Q pc h lv (.int x :: st) := fun H locs ls hP hS hl => lv_if_eq C.1 C.2.1 hdg ht (fun c => kt c H locs ls hP hS hl) (fun c => kf c H locs ls hP hS hl)
theorem z_icmp_eq (C : zC E X own cc nL ret d) {x y : Int32} {off : Int} (tgt : Nat) (hdg : decode cc pc = .ok (.if_icmp .eq off, 3)) (ht : (pc : Int) + off = (tgt : Int)) (kt : x = y → zW E X nL k n Q tgt h lv st) (kf : ¬ x = y → zW E X nL k n Q (pc + 3) h lv st) : zW E X nL k n Q pc h lv (.int y :: .int x :: st) := fun H locs ls hP hS hl => lv_icmp_eq C.1 C.2.1 hdg ht (fun c => kt c H locs ls hP hS hl) (fun c => kf c H locs ls hP hS hl)
theorem z_if_ne (C : zC E X own cc nL ret d) {x : Int32} {off : Int} (tgt : Nat) (hdg : decode cc pc = .ok (.ifCond .ne off, 3)) (ht : (pc : Int) + off = (tgt : Int)) (kt : ¬ x = 0 → zW E X nL k n Q tgt h lv st) (kf : x = 0 → zW E X nL k n Q (pc + 3) h lv st) : zW E X nL k n Q pc h lv (.int x :: st) := fun H locs ls hP hS hl => lv_if_ne C.1 C.2.1 hdg ht (fun c => kt c H locs ls hP hS hl) (fun c => kf c H locs ls hP hS hl)
theorem z_icmp_ne (C : zC E X own cc nL ret d) {x y : Int32} {off : Int} (tgt : Nat) (hdg : decode cc pc = .ok (.if_icmp .ne off, 3)) (ht : (pc : Int) + off = (tgt : Int)) (kt : ¬ x = y → zW E X nL k n Q tgt h lv st) (kf : x = y → zW E X nL k n Q (pc + 3) h lv st) : zW E X nL k n Q pc h lv (.int y :: .int x :: st) := fun H locs ls hP hS hl => lv_icmp_ne C.1 C.2.1 hdg ht (fun c => kt c H locs ls hP hS hl) (fun c => kf c H locs ls hP hS hl)
theorem z_if_lt (C : zC E X own cc nL ret d) {x : Int32} {off : Int} (tgt : Nat) (hdg : decode cc pc = .ok (.ifCond .lt off, 3)) (ht : (pc : Int) + off = (tgt : Int)) (kt : x < 0 → zW E X nL k n Q tgt h lv st) (kf : ¬ x < 0 → zW E X nL k n Q (pc + 3) h lv st) : zW E X nL k n Q pc h lv (.int x :: st) := fun H locs ls hP hS hl => lv_if_lt C.1 C.2.1 hdg ht (fun c => kt c H locs ls hP hS hl) (fun c => kf c H locs ls hP hS hl)
theorem z_icmp_lt (C : zC E X own cc nL ret d) {x y : Int32} {off : Int} (tgt : Nat) (hdg : decode cc pc = .ok (.if_icmp .lt off, 3)) (ht : (pc : Int) + off = (tgt : Int)) (kt : x < y → zW E X nL k n Q tgt h lv st) (kf : ¬ x < y → zW E X nL k n Q (pc + 3) h lv st) : zW E X nL k n Q pc h lv (.int y :: .int x :: st) := fun H locs ls hP hS hl => lv_icmp_lt C.1 C.2.1 hdg ht (fun c => kt c H locs ls hP hS hl) (fun c => kf c H locs ls hP hS hl)
theorem z_if_ge (C : zC E X own cc nL ret d) {x : Int32} {off : Int} (tgt : Nat) (hdg : decode cc pc = .ok (.ifCond .ge off, 3)) (ht : (pc : Int) + off = (tgt : Int)) (kt : 0 ≤ x → zW E X nL k n Q tgt h lv st) (kf : ¬ 0 ≤ x → zW E X nL k n Q (pc + 3) h lv st) : zW E X nL k n Q pc h lv (.int x :: st) := fun H locs ls hP hS hl => lv_if_ge C.1 C.2.1 hdg ht (fun c => kt c H locs ls hP hS hl) (fun c => kf c H locs ls hP hS hl)
theorem z_icmp_ge (C : zC E X own cc nL ret d) {x y : Int32} {off : Int} (tgt : Nat) (hdg : decode cc pc = .ok (.if_icmp .ge off, 3)) (ht : (pc : Int) + off = (tgt : Int)) (kt : y ≤ x → zW E X nL k n Q tgt h lv st) (kf : ¬ y ≤ x → zW E X nL k n Q (pc + 3) h lv st) : zW E X nL k n Q pc h lv (.int y :: .int x :: st) := fun H locs ls hP hS hl => lv_icmp_ge C.1 C.2.1 hdg ht (fun c => kt c H locs ls hP hS hl) (fun c => kf c H locs ls hP hS hl)
theorem z_if_gt (C : zC E X own cc nL ret d) {x : Int32} {off : Int} (tgt : Nat) (hdg : decode cc pc = .ok (.ifCond .gt off, 3)) (ht : (pc : Int) + off = (tgt : Int)) (kt : 0 < x → zW E X nL k n Q tgt h lv st) (kf : ¬ 0 < x → zW E X nL k n Q (pc + 3) h lv st) : zW E X nL k n Q pc h lv (.int x :: st) := fun H locs ls hP hS hl => lv_if_gt C.1 C.2.1 hdg ht (fun c => kt c H locs ls hP hS hl) (fun c => kf c H locs ls hP hS hl)
theorem z_icmp_gt (C : zC E X own cc nL ret d) {x y : Int32} {off : Int} (tgt : Nat) (hdg : decode cc pc = .ok (.if_icmp .gt off, 3)) (ht : (pc : Int) + off = (tgt : Int)) (kt : y < x → zW E X nL k n Q tgt h lv st) (kf : ¬ y < x → zW E X nL k n Q (pc + 3) h lv st) : zW E X nL k n Q pc h lv (.int y :: .int x :: st) := fun H locs ls hP hS hl => lv_icmp_gt C.1 C.2.1 hdg ht (fun c => kt c H locs ls hP hS hl) (fun c => kf c H locs ls hP hS hl)
theorem z_if_le (C : zC E X own cc nL ret d) {x : Int32} {off : Int} (tgt : Nat) (hdg : decode cc pc = .ok (.ifCond .le off, 3)) (ht : (pc : Int) + off = (tgt : Int)) (kt : x ≤ 0 → zW E X nL k n Q tgt h lv st) (kf : ¬ x ≤ 0 → zW E X nL k n Q (pc + 3) h lv st) : zW E X nL k n Q pc h lv (.int x :: st) := fun H locs ls hP hS hl => lv_if_le C.1 C.2.1 hdg ht (fun c => kt c H locs ls hP hS hl) (fun c => kf c H locs ls hP hS hl)
theorem z_icmp_le (C : zC E X own cc nL ret d) {x y : Int32} {off : Int} (tgt : Nat) (hdg : decode cc pc = .ok (.if_icmp .le off, 3)) (ht : (pc : Int) + off = (tgt : Int)) (kt : x ≤ y → zW E X nL k n Q tgt h lv st) (kf : ¬ x ≤ y → zW E X nL k n Q (pc + 3) h lv st) : zW E X nL k n Q pc h lv (.int y :: .int x :: st) := fun H locs ls hP hS hl => lv_icmp_le C.1 C.2.1 hdg ht (fun c => kt c H locs ls hP hS hl) (fun c => kf c H locs ls hP hS hl)
theorem z_ifnull (C : zC E X own cc nL ret d) {x : Nat} {off : Int} (hdg : decode cc pc = .ok (.ifnull off, 3)) (kk : zW E X nL k n Q (pc + 3) h lv st) : zW E X nL k n Q pc h lv (.ref x :: st) := fun H locs ls hP hS hl => lv_ifnull C.1 C.2.1 hdg (kk H locs ls hP hS hl)
theorem z_ifnullN (C : zC E X own cc nL ret d) {off : Int} (tgt : Nat) (hdg : decode cc pc = .ok (.ifnull off, 3)) (ht : (pc : Int) + off = (tgt : Int)) (kk : zW E X nL k n Q tgt h lv st) : zW E X nL k n Q pc h lv (.null :: st) := fun H locs ls hP hS hl => lv_ifnullN C.1 C.2.1 hdg ht (kk H locs ls hP hS hl)
theorem z_tableIn (C : zC E X own cc nL ret d) {dflt lo hi : Int} {offs : Array Int} {len : Nat} {x : Int32} (off : Int) (tgt : Nat) (hdg : decode cc pc = .ok (.tableswitch dflt lo hi offs, len)) (h1 : ¬ x.toInt < lo) (h2 : ¬ hi < x.toInt) (ho : offs[(x.toInt - lo).toNat]? = some off) (ht : (pc : Int) + off = (tgt : Int)) (kk : zW E X nL k n Q tgt h lv st) : zW E X nL k n Q pc h lv (.int x :: st) := fun H locs ls hP hS hl => lv_tableIn C.1 C.2.1 hdg h1 h2 ho ht (kk H locs ls hP hS hl)
theorem z_tableOut (C : zC E X own cc nL ret d) {dflt lo hi : Int} {offs : Array Int} {len : Nat} {x : Int32} (tgt : Nat) (hdg : decode cc pc = .ok (.tableswitch dflt lo hi offs, len)) (hx : x.toInt < lo ∨ hi < x.toInt) (ht : (pc : Int) + dflt = (tgt : Int)) (kk : zW E X nL k n Q tgt h lv st) : zW E X nL k n Q pc h lv (.int x :: st) := fun H locs ls hP hS hl => lv_tableOut C.1 C.2.1 hdg hx ht (kk H locs ls hP hS hl)
theorem z_lookup (C : zC E X own cc nL ret d) {dflt : Int} {ps : Array (Int × Int)} {len : Nat} {x : Int32} (off : Int) (tgt : Nat) (hdg : decode cc pc = .ok (.lookupswitch dflt ps, len)) (hp : (ps.toList.zip (ps.toList.drop 1)).all (fun (a, next) => a.1 < next.1) = true) (ho : Op.lookupswitch.offset ps.toList dflt x.toInt = off) (ht : (pc : Int) + off = (tgt : Int)) (kk : zW E X nL k n Q tgt h lv st) : zW E X nL k n Q pc h lv (.int x :: st) := fun H locs ls hP hS hl => lv_lookup C.1 C.2.1 hdg hp ho ht (kk H locs ls hP hS hl)
theorem z_get (C : zC E X own cc nL ret d) {ref Cn : String} {T : u_T} {N ci index a : Nat} {fs : List Value} (hin : ∀ w ∈ u_ws Cn T N, w ∈ UU) (hc : vwCl[ci]? = some (Cn, T, N)) (f : Nat) (hf : f < N) (hm : Cond.fieldLink own index ref (T f).2.1 (T f).2.2.1 ∈ UU) (hsame : (T f).1 = ref) (ha : h a = some (.inr (ci, fs))) (v : Value) (hv : fs[f]? = some v) (hdg : decode cc pc = .ok (.getfield index, 3)) (kk : zW E X nL k n Q (pc + 3) h lv (v :: st)) : zW E X nL k n Q pc h lv (.ref a :: st) := fun H locs ls hP hS hl => 
  va_get C.1 C.2.1 C.2.2.2.2.1 hin C.2.2.2.1 C.2.2.2.2.2.2.2.2.1.1 (hP.one ha) 0 rfl hc f hf (C.2.2.2.2.1 _ hm) (fun x hx => by rw [← hsame]; exact hx) hv hdg (kk H locs ls hP hS hl)
theorem z_put (C : zC E X own cc nL ret d) {ref Cn : String} {T : u_T} {N ci index a : Nat} {fs : List Value} {v : Value} (hin : ∀ w ∈ u_ws Cn T N, w ∈ UU) (ty0 : Nat → FieldType) (hty : ∀ k, k < N → parseFieldDescriptor (T k).2.2.1 = some (ty0 k)) (hnm : ∀ a, a < N → ∀ b, b < N → a ≠ b → (T a).2.1 ≠ (T b).2.1) (hc : vwCl[ci]? = some (Cn, T, N)) (f : Nat) (hf : f < N) (hm : Cond.fieldLink own index ref (T f).2.1 (T f).2.2.1 ∈ UU) (hsame : (T f).1 = ref) (hfin : (T f).2.2.2 = false) (hn : narrow (ty0 f) v = v) (hfit : fits (ty0 f) v = true) (ha : h a = some (.inr (ci, fs))) (hlen : f < fs.length) (hdg : decode cc pc = .ok (.putfield index, 3)) (h' : Hp) (e : hup h a (.inr (ci, fs.set f v)) = h') (kk : zW E X nL k n Q (pc + 3) h' lv st) : zW E X nL k n Q pc h lv (v :: .ref a :: st) := by
  intro H locs ls hP hS hl
  have hK := C.2.2.2.2.2.2.2.2.1.1
  have hts := C.2.2.2.2.1
  have hap := va_apart (own := own) hts hin ty0 hty hnm hK hc
  obtain ⟨hNa, r, h1, cell, q1, q2, q3, q4⟩ := hP a _ ha
  have hr : r = (Cn, T, N) := Option.some.inj (h1.symm.trans hc)
  subst hr
  obtain ⟨hSl, hfc, kC, hkC, hkind⟩ := hK.1 ci _ hc
  obtain ⟨cf, kf, fi, fd, hi, hsl⟩ := hSl f hf
  have hlay := hts _ (hin _ (u_in_lay hf))
  unfold u_lay at hlay
  rw [if_neg (by rw [hfin]; decide)] at hlay
  have hst := (u_facts hfc hkC (u_lays hts hin hf) hi).1
  have h6 := u_store hfc hkC hkind hlay hi (hty f hf) hn hfit
  refine W.putK C.1 C.2.1 (f := fd) ⟨C.2.2.2.1, hts _ hm, ⟨_, _, _, by rw [← hsame]; exact hi⟩, hst⟩ (by rw [q2]; exact h6) q1 q3 (by rw [hsl]; exact k2_hasslot (q4 f hf)) rfl rfl hdg fun H' e1 e2 e3 => ?_
  rw [hsl] at e1
  refine kk H' _ ls ?_ (hS.put e2 e3 hNa) hl
  rw [← e]
  exact hP.up hNa ⟨_, hc, t_OB.to (V := updV (vp_V fs) f v) ⟨_, e1, q2, q3, t_set q4 hap hf v⟩ (fun j _ => vp_updV_set hlen v j)⟩ e3
theorem z_iald (C : zC E X own cc nL ret d) {a N : Nat} {f : Nat → Int32} {i : Int32} (ha : h a = some (.inl (zI E, N, .inl f))) (hin : vp_in i N) (hdg : decode cc pc = .ok (.iaload, 1)) (kk : zW E X nL k n Q (pc + 1) h lv (.int (f i.toNatClampNeg) :: st)) : zW E X nL k n Q pc h lv (.int i :: .ref a :: st) := fun H locs ls hP hS hl => 
  va_iald C.1 C.2.1 C.2.2.2.2.2.2.2.2.1.1 (hP.one ha) 0 0 rfl rfl hin hdg (kk H locs ls hP hS hl)
theorem z_iast (C : zC E X own cc nL ret d) {a N : Nat} {f : Nat → Int32} {i : Int32} {x : Int32} (ha : h a = some (.inl (zI E, N, .inl (f)))) (hin : vp_in i N) (hdg : decode cc pc = .ok (.iastore, 1)) (h' : Hp) (e : hup h a (.inl (zI E, N, .inl (upd f i.toNatClampNeg x))) = h') (kk : zW E X nL k n Q (pc + 1) h' lv st) : zW E X nL k n Q pc h lv (.int x :: .int i :: .ref a :: st) := by
  intro H locs ls hP hS hl
  have hK := C.2.2.2.2.2.2.2.2.1.1
  have hPa := (hP a _ ha).2
  have hNa := (hP a _ ha).1
  refine W.iast C.1 C.2.1 hPa ((hK.2 0 _ rfl).1 N (fun j => .int (f j))) (fun q => by cases q) (by show ¬ (i < 0 ∨ (arrV _ _ _).slots.size ≤ _); rw [arrV_size]; exact hin) rfl rfl hdg fun H1 e1 z oq => ?_
  refine kk H1 _ ls ?_ (hS.put z oq hNa) hl
  rw [← e]
  refine hP.up hNa ?_ oq
  show H1[a]? = some (vp_cell _ _)
  rw [e1]
  rw [vp_cell_i, vp_cell_i, arrV_store]
  congr 2
  funext q
  by_cases hq : q = i.toNatClampNeg
  · subst hq
    simp [updV, upd]
  · simp [updV, upd, hq]
theorem z_alen (C : zC E X own cc nL ret d) {a : Nat} {x : vp_A} (ha : h a = some (.inl (zG E, x))) {v : Int32} (hv : Int32.ofNat x.1 = v) (hdg : decode cc pc = .ok (.arraylength, 1)) (kk : zW E X nL k n Q (pc + 1) h lv (.int v :: st)) : zW E X nL k n Q pc h lv (.ref a :: st) := fun H locs ls hP hS hl => 
  va_alen C.1 C.2.1 C.2.2.2.2.2.2.2.2.1.1 (hP.one ha) 0 3 rfl rfl hv hdg (kk H locs ls hP hS hl)
theorem z_aald (C : zC E X own cc nL ret d) {a N b : Nat} {f : Nat → Option Nat} {i : Int32} (ha : h a = some (.inl (zG E, N, .inr (.inr (.inr (.inr f)))))) (hin : vp_in i N) (hb : f i.toNatClampNeg = some b) (hdg : decode cc pc = .ok (.aaload, 1)) (kk : zW E X nL k n Q (pc + 1) h lv (.ref b :: st)) : zW E X nL k n Q pc h lv (.int i :: .ref a :: st) := fun H locs ls hP hS hl => 
  va_aldq C.1 C.2.1 C.2.2.2.2.2.2.2.2.1.1 (hP.one ha) 0 3 rfl rfl hin hdg (by rw [hb]; exact kk H locs ls hP hS hl)
theorem z_getsLow (C : zC E X own cc nL ret d) {index : Nat} (hm : Cond.fieldLink own index "SpiralDominoes" "LOW" "[I" ∈ UU) (hdg : decode cc pc = .ok (.getstatic index, 3)) (kk : zW E X nL k n Q (pc + 3) h lv (.ref (zLo E) :: st)) : zW E X nL k n Q pc h lv st := fun H locs ls hP hS hl => 
  va_gets C.1 C.2.1 C.2.2.2.2.2.2.2.2.2.1.1 hS C.2.2.2.1 (C.2.2.2.2.1 _ hm) (fun _ h9 => h9) hdg (kk H locs ls hP hS hl)
theorem z_getsLowN (C : zC E X own cc nL ret d) {index : Nat} (hm : (own, index, "SpiralDominoes", "LOW", "[I", "SpiralDominoes") ∈ zNestF) (hdg : decode cc pc = .ok (.getstatic index, 3)) (kk : zW E X nL k n Q (pc + 3) h lv (.ref (zLo E) :: st)) : zW E X nL k n Q pc h lv st := fun H locs ls hP hS hl => 
  va_getsN C.1 C.2.1 C.2.2.2.2.2.2.2.2.2.1.1 hS C.2.2.2.1 (va_Nw.use rfl (C.2.2.2.2.2.2.2.2.1.2.2.1 _ hm)) (fun _ h9 => h9) hdg (kk H locs ls hP hS hl)
theorem z_tldLow (C : zC E X own cc nL ret d) {i : Int32} (hin : vp_in i 28) (hdg : decode cc pc = .ok (.iaload, 1)) (kk : zW E X nL k n Q (pc + 1) h lv (.int (lowT i.toNatClampNeg) :: st)) : zW E X nL k n Q pc h lv (.int i :: .ref (zLo E) :: st) := fun H locs ls hP hS hl => 
  va_ti C.1 C.2.1 C.2.2.2.2.2.2.2.2.2.1.2.1 hS hin rfl hdg (kk H locs ls hP hS hl)
theorem z_getsHigh (C : zC E X own cc nL ret d) {index : Nat} (hm : Cond.fieldLink own index "SpiralDominoes" "HIGH" "[I" ∈ UU) (hdg : decode cc pc = .ok (.getstatic index, 3)) (kk : zW E X nL k n Q (pc + 3) h lv (.ref (zHi E) :: st)) : zW E X nL k n Q pc h lv st := fun H locs ls hP hS hl => 
  va_gets C.1 C.2.1 C.2.2.2.2.2.2.2.2.2.1.2.2.1 hS C.2.2.2.1 (C.2.2.2.2.1 _ hm) (fun _ h9 => h9) hdg (kk H locs ls hP hS hl)
theorem z_getsHighN (C : zC E X own cc nL ret d) {index : Nat} (hm : (own, index, "SpiralDominoes", "HIGH", "[I", "SpiralDominoes") ∈ zNestF) (hdg : decode cc pc = .ok (.getstatic index, 3)) (kk : zW E X nL k n Q (pc + 3) h lv (.ref (zHi E) :: st)) : zW E X nL k n Q pc h lv st := fun H locs ls hP hS hl => 
  va_getsN C.1 C.2.1 C.2.2.2.2.2.2.2.2.2.1.2.2.1 hS C.2.2.2.1 (va_Nw.use rfl (C.2.2.2.2.2.2.2.2.1.2.2.1 _ hm)) (fun _ h9 => h9) hdg (kk H locs ls hP hS hl)
theorem z_tldHigh (C : zC E X own cc nL ret d) {i : Int32} (hin : vp_in i 28) (hdg : decode cc pc = .ok (.iaload, 1)) (kk : zW E X nL k n Q (pc + 1) h lv (.int (highT i.toNatClampNeg) :: st)) : zW E X nL k n Q pc h lv (.int i :: .ref (zHi E) :: st) := fun H locs ls hP hS hl => 
  va_ti C.1 C.2.1 C.2.2.2.2.2.2.2.2.2.1.2.2.2.1 hS hin rfl hdg (kk H locs ls hP hS hl)
theorem z_ireturn (C : zC E X own cc nL (some .int) d) {v : Int32} (hdg : decode cc pc = .ok (.ireturn, 1)) : zW E X nL k n (MQ (xb X) (zQ E (some (.int v)) h) (xa X) (xs X) k n (zA E)) pc h lv [.int v] := fun H locs ls hP hS hl => W.iret C.1 C.2.1 C.2.2.2.2.2.1 (fun t ht hW => ⟨rfl, by rw [ht]; exact hP, hS.F ht⟩) hS.2.2 hdg C.2.2.2.2.2.2.1
theorem z_narB {v : Int32} (hb : v = 0 ∨ v = 1) : narrow .boolean (.int v) = .int v := by rcases hb with rfl | rfl <;> rfl
theorem z_zreturn (C : zC E X own cc nL (some .boolean) d) {v : Int32} (hb : v = 0 ∨ v = 1) (hdg : decode cc pc = .ok (.ireturn, 1)) : zW E X nL k n (MQ (xb X) (zQ E (some (.int v)) h) (xa X) (xs X) k n (zA E)) pc h lv [.int v] := fun H locs ls hP hS hl => W.zret C.1 C.2.1 C.2.2.2.2.2.1 (z_narB hb) (fun t ht hW => ⟨rfl, by rw [ht]; exact hP, hS.F ht⟩) hS.2.2 hdg C.2.2.2.2.2.2.1
theorem z_return (C : zC E X own cc nL none d) (hdg : decode cc pc = .ok (.return_, 1)) : zW E X nL k n (MQ (xb X) (zQ E none h) (xa X) (xs X) k n (zA E)) pc h lv [] := fun H locs ls hP hS hl => W.vret C.1 C.2.1 C.2.2.2.2.2.1 (fun t ht hW => ⟨rfl, by rw [ht]; exact hP, hS.F ht⟩) hS.2.2 hdg C.2.2.2.2.2.2.1
theorem z_lreturn (C : zC E X own cc nL (some .long) d) {v : Int64} (hdg : decode cc pc = .ok (.lreturn, 1)) : zW E X nL k n (MQ (xb X) (zQ E (some (.long v)) h) (xa X) (xs X) k n (zA E)) pc h lv [.long v] := fun H locs ls hP hS hl => W.lret C.1 C.2.1 C.2.2.2.2.2.1 (fun t ht hW => ⟨rfl, by rw [ht]; exact hP, hS.F ht⟩) hS.2.2 hdg C.2.2.2.2.2.2.1
theorem z_areturn {cn : String} (C : zC E X own cc nL (some (.object cn)) d) {v : Value} (hv : v = .null ∨ ∃ a, v = .ref a) (hdg : decode cc pc = .ok (.areturn, 1)) : zW E X nL k n (MQ (xb X) (zQ E (some v) h) (xa X) (xs X) k n (zA E)) pc h lv [v] := fun H locs ls hP hS hl => W.aret C.1 C.2.1 C.2.2.2.2.2.1 (Or.inl ⟨_, rfl⟩) hv (fun t ht hW => ⟨rfl, by rw [ht]; exact hP, hS.F ht⟩) hS.2.2 hdg C.2.2.2.2.2.2.1
theorem zC.pre (C : zC E X own cc nL ret d) {H : Heap} {locs : List Loc} (hP : zP E h H) (hS : va_S (zA E) (xs X).heap H locs) (U : State) (hU : U.heap = H) (hW : (xs X).WarmedH U.vm) : zPre E h U :=
  ⟨by rw [hU]; exact Nat.le_trans C.2.2.2.2.2.2.2.1 hS.1, by rw [hU]; exact hP, C.2.2.2.2.2.2.2.2.1.warm hW, by rw [hU]; exact (C.2.2.2.2.2.2.2.2.2.1.kept hS.2.1).moved hW.alike⟩
theorem z_run {pc1 : Nat} {av rest st0 : List Value} {h1 : Hp} {v : Option Value} (hpc : pc + 3 = pc1)
    (hr : ∀ (H : Heap) (locs : List Loc) (ls : Array Slot), zP E h H → va_S (zA E) (xs X).heap H locs → lv_has ls nL lv → va_Run (xp X) (xl X) (xe X) (xR X) (xs X) (xm X) (xa X) (xb X) (xt X) (xc X) H locs k n 0 0 (F0 (xm X) pc ls st0) rest (zQ E v h1 av.toArray) (zA E))
    (kk : zW E X nL k n Q pc1 h1 lv (v.toList ++ rest)) : zW E X nL k n Q pc h lv st0 := by
  subst hpc
  intro H locs ls hP hS hl T hT X9
  obtain ⟨v', st₀, t, T', L, h0, X', hL, e1, e2, ⟨hv, hP1, hz, hk⟩, st9⟩ := hr H locs ls hP hS hl T hT X9
  cases hv
  rw [h0] at hz hk
  have hS1 : va_S (zA E) (xs X).heap T'.heap (locs ++ L) := ⟨Nat.le_trans hS.1 (by rw [e1]; exact hz), fun q q1 q2 => by rw [e1, hk q (Nat.lt_of_lt_of_le q1 hS.1) q2]; exact hS.2.1 q q1 q2, fun q hq => by
    rcases List.mem_append.mp hq with q1 | q1
    · exact hS.2.2 q q1
    · exact hL q q1⟩
  obtain ⟨t2, a1, b1⟩ := kk T'.heap (locs ++ L) ls (by rw [e1]; exact hP1) hS1 hl T' rfl X'
  exact ⟨t2, st9 t2 a1, b1⟩

theorem zC.fix (C : zC E X own cc nL ret d) : CallFix (xp X) (xm X) (xc X) cc nL (xs X) (xa X) UU own := ⟨C.1, C.2.1, C.2.2.1, C.2.2.2.1, C.2.2.2.2.1⟩
theorem zC.room (C : zC E X own cc nL ret d) {d1 maxL : Nat} (h1 : d1 + 1 ≤ d) (h2 : maxL ≤ 29) : (zR d1).frames + 1 ≤ (xR X).frames ∧ 8 + (maxL + 11) + (zR d1).locals ≤ (xR X).locals := by
  obtain ⟨r1, r2⟩ := C.2.2.2.2.2.2.2.2.2.2
  refine ⟨Nat.le_trans h1 r1, ?_⟩
  show 8 + (maxL + 11) + 48 * d1 ≤ _
  omega
theorem z_callV (C : zC E X own cc nL ret d) {y : MethodName} {bytes : ByteArray} {maxL d1 index b ci N : Nat} {rt : Option FieldType} {Cn : String} {T : u_T} {fs : List Value} {h1 : Hp} {v : Option Value} (pc1 : Nat) (As rest : List Value) (hM : zM E (xl X) d1 y bytes maxL rt (.ref b :: As) h v h1)
    (hcode : Cond.code y bytes maxL rt ∈ UU) (hlink : Cond.methodLink own index y ∈ UU) (hinst : Cond.instanceMethod y ∈ UU) (hsel : Cond.selects Cn y y ∈ UU) (hini : Cond.initialized Cn ∈ UU) (hcl : vwCl[ci]? = some (Cn, T, N)) (hb : h b = some (.inr (ci, fs)))
    (hd : y.cls = Cn ∧ y.cls ≠ "java/lang/invoke/MethodHandle" ∧ y.cls ≠ "java/lang/invoke/VarHandle" ∧ (parseMethodDescriptor y.desc).map (fun d => d.parameters.length) = some As.length) (hd1 : d1 + 1 ≤ d) (hmx : maxL ≤ 29) (hst : st = As.reverse ++ .ref b :: rest) (hcat : (rest.map fun v => v.category).sum ≤ 8) (hk : k ≤ (xR X).cells ∧ n ≤ (xR X).slots) (hpc : pc + 3 = pc1) (hdg : decode cc pc = .ok (.invokevirtual index, 3))
    (kk : zW E X nL k n Q pc1 h1 lv (v.toList ++ rest)) : zW E X nL k n Q pc h lv st := by
  subst hst
  refine z_run (av := .ref b :: As) hpc (fun H locs ls hP hS hl => ?_) kk
  exact va_runV (As := As) (rest := rest) (b := b) C.fix hM ⟨callB_of As.length C.2.2.2.2.1 (UU_cons hcode) rfl rfl rfl (by rw [hd.1]; exact C.2.2.2.2.1 _ hini) (C.2.2.2.2.1 _ hlink) hd.2 (C.room hd1 hmx), C.2.2.2.2.1 _ hinst, C.2.2.2.2.1 _ hsel⟩
    ⟨zPre.blind E _ h, va_recv C.2.2.2.2.2.2.2.2.1.1 (hP.one hb) hcl (q0 := 0) rfl, fun U hU hW => ⟨rfl, C.pre hP hS U hU hW⟩⟩ rfl rfl hl.1 rfl (lv_room hcat) hdg hk
theorem z_callS (C : zC E X own cc nL ret d) {y : MethodName} {bytes : ByteArray} {maxL d1 index : Nat} {rt : Option FieldType} {h1 : Hp} {v : Option Value} (pc1 : Nat) (As rest : List Value) (hM : zM E (xl X) d1 y bytes maxL rt As h v h1)
    (hcode : Cond.code y bytes maxL rt ∈ UU) (hlink : Cond.methodLink own index y ∈ UU) (hstat : Cond.static y ∈ UU) (hini : Cond.initialized y.cls ∈ UU)
    (hd : y.cls ≠ "java/lang/invoke/MethodHandle" ∧ y.cls ≠ "java/lang/invoke/VarHandle" ∧ (parseMethodDescriptor y.desc).map (fun d => d.parameters.length) = some As.length) (hd1 : d1 + 1 ≤ d) (hmx : maxL ≤ 29) (hst : st = As.reverse ++ rest) (hcat : (rest.map fun v => v.category).sum ≤ 8) (hk : k ≤ (xR X).cells ∧ n ≤ (xR X).slots) (hpc : pc + 3 = pc1) (hdg : decode cc pc = .ok (.invokestatic index, 3))
    (kk : zW E X nL k n Q pc1 h1 lv (v.toList ++ rest)) : zW E X nL k n Q pc h lv st := by
  subst hst
  refine z_run (av := As) hpc (fun H locs ls hP hS hl => ?_) kk
  exact va_runS (As := As) (rest := rest) C.fix hM ⟨callB_of As.length C.2.2.2.2.1 (UU_cons hcode) rfl rfl rfl (C.2.2.2.2.1 _ hini) (C.2.2.2.2.1 _ hlink) hd (C.room hd1 hmx), C.2.2.2.2.1 _ hstat⟩
    ⟨zPre.blind E _ h, fun U hU hW => ⟨rfl, C.pre hP hS U hU hW⟩⟩ rfl rfl hl.1 rfl (lv_room hcat) hdg hk
theorem z_callSN (C : zC E X own cc nL ret d) {y : MethodName} {bytes : ByteArray} {maxL d1 index : Nat} {host : String} {rt : Option FieldType} {h1 : Hp} {v : Option Value} (pc1 : Nat) (As rest : List Value) (hM : zM E (xl X) d1 y bytes maxL rt As h v h1)
    (hcode : Cond.code y bytes maxL rt ∈ UU) (hlink : (own, index, y, host) ∈ zNestM) (hstat : Cond.static y ∈ UU) (hini : Cond.initialized y.cls ∈ UU)
    (hd : y.cls ≠ "java/lang/invoke/MethodHandle" ∧ y.cls ≠ "java/lang/invoke/VarHandle" ∧ (parseMethodDescriptor y.desc).map (fun d => d.parameters.length) = some As.length) (hd1 : d1 + 1 ≤ d) (hmx : maxL ≤ 29) (hst : st = As.reverse ++ rest) (hcat : (rest.map fun v => v.category).sum ≤ 8) (hk : k ≤ (xR X).cells ∧ n ≤ (xR X).slots) (hpc : pc + 3 = pc1) (hdg : decode cc pc = .ok (.invokestatic index, 3))
    (kk : zW E X nL k n Q pc1 h1 lv (v.toList ++ rest)) : zW E X nL k n Q pc h lv st := by
  subst hst
  refine z_run (av := As) hpc (fun H locs ls hP hS hl => ?_) kk
  exact va_runSN (As := As) (rest := rest) C.fix hM ⟨va_cnB As.length C.2.2.2.2.1 (UU_cons hcode) rfl rfl rfl (C.2.2.2.2.2.2.2.2.1.2.1 _ hlink) (C.2.2.2.2.1 _ hini) hd (C.room hd1 hmx), C.2.2.2.2.1 _ hstat, trivial⟩
    ⟨zPre.blind E _ h, fun U hU hW => ⟨rfl, C.pre hP hS U hU hW⟩⟩ rfl rfl hl.1 rfl (lv_room hcat) hdg hk
theorem z_max (C : zC E X own cc nL ret d) {index : Nat} {x y : Int32} (hlink : Cond.methodLink own index Lib.Math.max.name ∈ UU) (hstat : Cond.static Lib.Math.max.name ∈ UU) (hini : Cond.initialized "java/lang/Math" ∈ UU) (hcode : Cond.code Lib.Math.max.name Lib.Math.max.code 2 (some .int) ∈ UU) (hd1 : 1 ≤ d) (hcat : (st.map fun v => v.category).sum ≤ 8) (hk : k ≤ (xR X).cells ∧ n ≤ (xR X).slots) (hdg : decode cc pc = .ok (.invokestatic index, 3))
    (kk : zW E X nL k n Q (pc + 3) h lv (.int (if x < y then y else x) :: st)) : zW E X nL k n Q pc h lv (.int y :: .int x :: st) := fun H locs ls hP hS hl =>
  va_mmax C.1 C.2.1 (C.2.2.1.trans hl.1.symm) C.2.2.2.1 (C.2.2.2.2.1 _ hlink) (C.2.2.2.2.1 _ hstat) (C.2.2.2.2.1 _ hini) (C.2.2.2.2.1 _ hcode) (Nat.le_trans hd1 C.2.2.2.2.2.2.2.2.2.2.1) (by have := C.2.2.2.2.2.2.2.2.2.2.2; omega) hk.1 hk.2 hdg (kk H locs ls hP hS hl)
theorem z_min (C : zC E X own cc nL ret d) {index : Nat} {x y : Int32} (hlink : Cond.methodLink own index Lib.Math.min.name ∈ UU) (hstat : Cond.static Lib.Math.min.name ∈ UU) (hini : Cond.initialized "java/lang/Math" ∈ UU) (hcode : Cond.code Lib.Math.min.name Lib.Math.min.code 2 (some .int) ∈ UU) (hd1 : 1 ≤ d) (hcat : (st.map fun v => v.category).sum ≤ 8) (hk : k ≤ (xR X).cells ∧ n ≤ (xR X).slots) (hdg : decode cc pc = .ok (.invokestatic index, 3))
    (kk : zW E X nL k n Q (pc + 3) h lv (.int (if y < x then y else x) :: st)) : zW E X nL k n Q pc h lv (.int y :: .int x :: st) := fun H locs ls hP hS hl =>
  va_mmin C.1 C.2.1 (C.2.2.1.trans hl.1.symm) C.2.2.2.1 (C.2.2.2.2.1 _ hlink) (C.2.2.2.2.1 _ hstat) (C.2.2.2.2.1 _ hini) (C.2.2.2.2.1 _ hcode) (Nat.le_trans hd1 C.2.2.2.2.2.2.2.2.2.2.1) (by have := C.2.2.2.2.2.2.2.2.2.2.2; omega) hk.1 hk.2 hdg (kk H locs ls hP hS hl)
end ZW
/-- a method's body, from its entry -/
theorem zM_of {E : zE} {l : Launch} {d : Nat} {y : MethodName} {bytes : ByteArray} {maxL : Nat} {ret : Option FieldType} {av : List Value} {h h' : Hp} {v : Option Value} {lv : List (Nat × Value)} (hy : plainName y.cls = true) (hlen : (lg_sl av).length ≤ maxL) (hlv : lv_args 0 av = lv)
    (body : ∀ X : zX, xl X = l → zC E X y.cls bytes maxL ret d → zW E X maxL 0 0 (MQ (xb X) (zQ E v h') (xa X) (xs X) 0 0 (zA E)) 0 h lv []) : zM E l d y bytes maxL ret av h v h' := by
  refine Met.ofW (cc := bytes) (maxL := maxL) (ret := ret) hy rfl ?_
  intro p e s m args below meth c s₁ B hml hv
  obtain ⟨rfl, hN, hP, hK, hS0⟩ := hv
  have hts0 := atoms_spec (ws := Cond.code y bytes maxL ret :: UU) B.pre
  have hts : ∀ w ∈ UU, w.before av.toArray s = true := fun w hw => hts0 w (List.mem_cons_of_mem _ hw)
  have hown : s.vm.findClass y.cls = some m.cls := findClass_of_methodNamed B.named
  have hl := lv_entry av (n := maxL) hlen
  rw [lg_entry_eq]
  rw [hlv] at hl
  exact body (p, l, e, (headSpec (Cond.code y bytes maxL ret :: UU) (zR d)).room, s, m, av.toArray, below, meth, c) rfl ⟨B.exec, B.bytes, hml, hown, hts, B.returns, B.notSynchronized, hN, hK, hS0, Nat.le_refl _, Nat.le_refl _⟩ s.heap [] _ hP va_S.rf hl
/-- System.arraycopy between two int arrays of the map -/
theorem z_copy {E : zE} {X : zX} {own : String} {cc : ByteArray} {nL d k n : Nat} {ret : Option FieldType} {Q : State → Prop} {pc : Nat} {h : Hp} {lv : List (Nat × Value)} {st : List Value} (C : zC E X own cc nL ret d) {index a0 a n0 n1 : Nat} {f g : Nat → Int32} {sp dp m : Int32}
    (hlink : Cond.methodLink own index arraycopyName ∈ UU) (hnat : Cond.native arraycopyName ∈ UU) (hstat : Cond.static arraycopyName ∈ UU) (hini : Cond.initialized "java/lang/System" ∈ UU) (ha0 : h a0 = some (.inl (zI E, n0, .inl f))) (ha1 : h a = some (.inl (zI E, n1, .inl g)))
    (h1 : ¬ sp < 0) (h2 : ¬ dp < 0) (h3 : ¬ m < 0) (h4 : sp.toNatClampNeg + m.toNatClampNeg ≤ n0) (h5 : dp.toNatClampNeg + m.toNatClampNeg ≤ n1) (hd1 : 1 ≤ d) (hcat : (st.map fun v => v.category).sum ≤ 8) (hdg : decode cc pc = .ok (.invokestatic index, 3)) (h' : Hp)
    (e : hup h a (.inl (zI E, n1, .inl (va_cpy f g sp.toNatClampNeg dp.toNatClampNeg m.toNatClampNeg))) = h') (kk : zW E X nL k n Q (pc + 3) h' lv st) : zW E X nL k n Q pc h lv (.int m :: .int dp :: .ref a :: .int sp :: .ref a0 :: st) := by
  intro H locs ls hP hS hl
  have nn : ∀ z : Int32, ¬ z < 0 → z.toInt = (z.toNatClampNeg : Int) := by
    intro z hz
    have hz0 : (0 : Int) ≤ z.toInt := by
      have := Int32.not_lt.mp hz
      simpa using Int32.le_iff_toInt_le.mp this
    show z.toInt = ((z.toInt.toNat : Nat) : Int)
    omega
  intro T hT X9
  have hc0 : H[a0]? = some (vp_cell (zI E) (n0, .inl f)) := (hP a0 _ ha0).2
  have hc1 : H[a]? = some (vp_cell (zI E) (n1, .inl g)) := (hP a _ ha1).2
  have hNa := (hP a _ ha1).1
  have hK := C.2.2.2.2.2.2.2.2.1.1
  obtain ⟨-, k0, hk0, cm0, hkk0⟩ := (hK.2 0 _ rfl).1 n0 (fun j => .int (f j))
  obtain ⟨-, k1, hk1, cm1, hkk1⟩ := (hK.2 0 _ rfl).1 n1 (fun j => .int (g j))
  obtain ⟨vm', X', step⟩ := X9.arraycopy C.1 C.2.2.2.1 (C.2.2.2.2.1 _ hlink) (C.2.2.2.2.1 _ hnat) (C.2.2.2.2.1 _ hstat) (C.2.2.2.2.1 _ hini) (src := a0) (dst := a) (cs := vp_cell (zI E) (n0, .inl f)) (cd := vp_cell (zI E) (n1, .inl g)) (srcPos := sp) (destPos := dp) (n := m) (by rw [hT]; exact hc0) (by rw [hT]; exact hc1)
    (fun _ h => by cases h) (fun _ h => by cases h) (fun h => by cases h) (fun h => by cases h) hk0 hk1 hkk0 hkk1 (by rfl) h1 h2 h3
    (by rw [nn sp h1, nn m h3]; show ¬ _ > ((arrV (zI E) n0 (fun j => .int (f j))).slots.size : Int); rw [arrV_size]; omega)
    (by rw [nn dp h2, nn m h3]; show ¬ _ > ((arrV (zI E) n1 (fun j => .int (g j))).slots.size : Int); rw [arrV_size]; omega)
    (fun vm₁ _ i hi => by
      have e : (vp_cell (zI E) (n0, .inl f)).slots.getD (sp.toNatClampNeg + i) .null = .int (f (sp.toNatClampNeg + i)) := by
        show (arrV (zI E) n0 (fun j => .int (f j))).slots.getD _ _ = _
        rw [Array.getD_eq_getD_getElem?, arrV_read _ _ (by omega)]
        rfl
      refine ⟨?_, ?_⟩
      · rw [e]
        rfl
      · rw [e]
        exact trivial)
    (g := F0 (xm X) pc ls (.int m :: .int dp :: .ref a :: .int sp :: .ref a0 :: st)) rfl (by rw [C.2.2.1]; exact hl.1) (rest := st) rfl (by rw [C.2.1]; exact hdg) (Nat.le_trans hd1 C.2.2.2.2.2.2.2.2.2.2.1) (by
      have q1 := C.2.2.2.2.2.2.2.2.2.2.2
      have q2 : nativeFrameWords "java/lang/System" "arraycopy" 5 + 11 ≤ 40 := by decide +kernel
      show 2 * 0 + _ + _ ≤ _
      omega)
  have e1 : copied (vp_cell (zI E) (n0, .inl f)) (vp_cell (zI E) (n1, .inl g)) sp dp m = vp_cell (zI E) (n1, .inl (va_cpy f g sp.toNatClampNeg dp.toNatClampNeg m.toNatClampNeg)) := va_copied (fun z => .int z) (zI E) (zI E) f g h4
  rw [e1] at X' step
  have hl9 : a < H.size := (Array.getElem?_eq_some_iff.mp hc1).1
  have oq : ∀ q : Nat, q ≠ a → (H.setIfInBounds a (vp_cell (zI E) (n1, .inl (va_cpy f g sp.toNatClampNeg dp.toNatClampNeg m.toNatClampNeg))))[q]? = H[q]? := fun q hq => by simp [Array.getElem?_setIfInBounds, Ne.symm hq]
  have hheap : ((T.setVm vm').setCell a (vp_cell (zI E) (n1, .inl (va_cpy f g sp.toNatClampNeg dp.toNatClampNeg m.toNatClampNeg)))).heap = H.setIfInBounds a (vp_cell (zI E) (n1, .inl (va_cpy f g sp.toNatClampNeg dp.toNatClampNeg m.toNatClampNeg))) := by rw [← hT]; rfl
  obtain ⟨t, a1, b1⟩ := kk _ _ ls (by rw [← e]; exact hP.up hNa (show (H.setIfInBounds a _)[a]? = some _ by simp [Array.getElem?_setIfInBounds, hl9]) oq) ⟨by simp; exact hS.1, fun q g1 g2 => by
      rw [oq q (fun e => g2 (by rw [e]; exact hNa))]
      exact hS.2.1 q g1 g2, fun q hq => by
      rcases List.mem_append.mp hq with h | h
      · exact hS.2.2 q h
      · obtain ⟨z, -, hz⟩ := List.mem_map.mp h
        rw [← hz]
        exact hNa⟩ hl _ hheap X'
  exact ⟨t, step t a1, b1⟩
