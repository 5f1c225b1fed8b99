/-! CONSTRUCTORS: what is made lies at known places: the start's size, and on -/
section NEW
variable {E : zE} {X : zX} {own : String} {cc : ByteArray} {nL d k n : Nat} {ret : Option FieldType} {Q : State → Prop} {pc : Nat} {h : Hp} {lv : List (Nat × Value)} {st : List Value}
theorem z_size (hlast : k = 0 ∨ ∃ y, h ((xs X).heap.size + (k - 1)) = some y) (kk : ∀ (H : Heap) (locs : List Loc) (ls : Array Slot), zP E h H → va_S (zA E) (xs X).heap H locs → lv_has ls nL lv → H.size = (xs X).heap.size + k → W (xp X) (xl X) (xe X) (xR X) (xs X) (xm X) (xa X) (xb X) (xt X) (xc X) H locs k n Q (F0 (xm X) pc ls st)) : zW E X nL k n Q pc h lv st := by
  intro H locs ls hP hS hl T hT X9
  have h1 : T.heap.size ≤ (xs X).heap.size + k := X9.same.2.2.1
  have h2 : (xs X).heap.size + k ≤ H.size := by
    rcases hlast with rfl | ⟨y, hy⟩
    · exact hS.1
    · have h3 := (hP _ _ hy).2.lt
      have h3 : (xs X).heap.size + (k - 1) < H.size := h3
      have h4 := hS.1
      omega
  exact kk H locs ls hP hS hl (by rw [hT] at h1; omega) T hT X9
/-- the map with a new cell -/
theorem zP.push {H H1 : Heap} {a : Nat} {x : va_E} (hP : zP E h H) (ha : H.size = a) (hN : zN E ≤ a) (hx : va_at (zD E) vwCl (a, x) H1) (o1 : ∀ q : Nat, q < a → H1[q]? = H[q]?) : zP E (hup h a x) H1 := by
  intro b y hb
  by_cases e : b = a
  · subst e
    simp only [hup, if_true] at hb
    cases hb
    exact ⟨hN, hx⟩
  · simp only [hup, if_neg e] at hb
    obtain ⟨h1, h2⟩ := hP b y hb
    exact ⟨h1, h2.kept (o1 b (by rw [← ha]; exact h2.lt))⟩
theorem z_new (C : zC E X own cc nL ret d) {Cn : String} {T : u_T} {N ci index : Nat} (fs : List Value) (hin : ∀ w ∈ u_ws Cn T N, w ∈ UU) (ty : Nat → FieldType) (hty : ∀ k, k < N → parseFieldDescriptor (T k).2.2.1 = some (ty k)) (hkl : Cond.classLink own index Cn ∈ UU) (hins : Cond.instantiable Cn N ∈ UU) (hini : Cond.initialized Cn ∈ UU) (hc : vwCl[ci]? = some (Cn, T, N)) (hfs : ∀ j, j < N → defaultValue (ty j) = vp_V fs j)
    (hlast : k = 0 ∨ ∃ y, h ((xs X).heap.size + (k - 1)) = some y) (hroom : k + 1 ≤ (xR X).cells ∧ n + N ≤ (xR X).slots) (hdg : decode cc pc = .ok (.new index, 3)) (a : Nat) (ha : (xs X).heap.size + k = a) (kk : zW E X nL (k + 1) (n + N) Q (pc + 3) (hup h a (.inr (ci, fs))) lv (.ref a :: st)) : zW E X nL k n Q pc h lv st := by
  refine z_size hlast (fun H locs ls hP hS hl hsz => ?_)
  have e : H.size = a := hsz.trans ha
  subst e
  have hts := C.2.2.2.2.1
  have hKn := C.2.2.2.2.2.2.2.2.1.1.1 ci _ hc
  refine W.newcK C.1 C.2.1 C.2.2.2.1 (hts _ hkl) (hts _ hins) (hts _ hini) rfl hdg hroom.1 hroom.2 hKn.2.1 rfl fun H1 kC hkC e1 z1 o1 => ?_
  exact kk H1 locs ls (hP.push rfl (Nat.le_trans C.2.2.2.2.2.2.2.1 hS.1) ⟨_, hc, (u_born ty hts hin hKn hkC e1 hty).to hfs⟩ o1) ⟨Nat.le_trans hS.1 (by omega), fun x h1 h2 => (o1 x (Nat.lt_of_lt_of_le h1 hS.1)).trans (hS.2.1 x h1 h2), hS.2.2⟩ hl
theorem z_newa (C : zC E X own cc nL ret d) {atype : ArrayType} {ty : FieldType} {t0 N : Nat} {cA : ClassId} {z : Int32} (x : vp_A) (hat : newarray.typeOf atype = ty) (hac : Cond.arrayClass ty ∈ UU) (ht : (zT E)[t0]? = some (cA, ty)) (hra : va_RA (xs X) cA ty → (xs X).vm.findClass ("[" ++ ty.toString) = some cA) (hx : vp_cell cA x = arrV cA N (fun _ => defaultValue ty)) (hn : ¬ z < 0) (hN : z.toNatClampNeg = N) (hb : N * componentBytes ty ≤ 536870912)
    (hlast : k = 0 ∨ ∃ y, h ((xs X).heap.size + (k - 1)) = some y) (hroom : k + 1 ≤ (xR X).cells ∧ n + N ≤ (xR X).slots) (hdg : decode cc pc = .ok (.newarray atype, 2)) (a : Nat) (ha : (xs X).heap.size + k = a) (kk : zW E X nL (k + 1) (n + N) Q (pc + 2) (hup h a (.inl (cA, x))) lv (.ref a :: st)) : zW E X nL k n Q pc h lv (.int z :: st) := by
  refine z_size hlast (fun H locs ls hP hS hl hsz => ?_)
  have e : H.size = a := hsz.trans ha
  subst e
  subst hat
  refine va_newaK C.1 C.2.1 (C.2.2.2.2.1 _ hac) rfl hdg rfl hn hN hb hroom.1 hroom.2 rfl fun H1 cA1 e1 z1 o1 hAr hNm => ?_
  have hcA : cA1 = cA := Option.some.inj (hNm.symm.trans (hra (C.2.2.2.2.2.2.2.2.1.1.2 t0 _ ht).2))
  subst hcA
  exact kk H1 locs ls (hP.push rfl (Nat.le_trans C.2.2.2.2.2.2.2.1 hS.1) (show H1[H.size]? = some (vp_cell _ _) by rw [hx]; exact e1) o1) ⟨Nat.le_trans hS.1 (by omega), fun x h1 h2 => (o1 x (Nat.lt_of_lt_of_le h1 hS.1)).trans (hS.2.1 x h1 h2), hS.2.2⟩ hl
theorem z_newG (C : zC E X own cc nL ret d) (hAO : va_AO "SpiralDominoes$Game" (xs X)) {index N : Nat} {z : Int32} (hkl : Cond.classLink own index "SpiralDominoes$Game" ∈ UU) (hn : ¬ z < 0) (hN : z.toNatClampNeg = N) (hb : N * 4 ≤ 536870912)
    (hlast : k = 0 ∨ ∃ y, h ((xs X).heap.size + (k - 1)) = some y) (hroom : k + 1 ≤ (xR X).cells ∧ n + N ≤ (xR X).slots) (hdg : decode cc pc = .ok (.anewarray index, 3)) (a : Nat) (ha : (xs X).heap.size + k = a) (kk : zW E X nL (k + 1) (n + N) Q (pc + 3) (hup h a (.inl (zG E, N, .inr (.inr (.inr (.inr (fun _ => none))))))) lv (.ref a :: st)) : zW E X nL k n Q pc h lv (.int z :: st) := by
  refine z_size hlast (fun H locs ls hP hS hl hsz => ?_)
  have e : H.size = a := hsz.trans ha
  subst e
  subst hN
  refine W.anew C.1 C.2.1 C.2.2.2.1 (C.2.2.2.2.1 _ hkl) (va_AO.use hAO) rfl hdg rfl hn hb hroom.1 hroom.2 fun cA kA comp f1 f2 f3 f4 => ?_
  have hcA : cA = zG E := by
    obtain ⟨kA9, comp9, g1, g2, g3, g4⟩ := (C.2.2.2.2.2.2.2.2.1.1.2 3 _ rfl).2
    exact Option.some.inj (f1.symm.trans g4)
  subst hcA
  generalize hH1 : H.push ({ cls := zG E, slots := Array.replicate z.toNatClampNeg .null, vm := .none } : Cell) = H1
  have z1 : H1.size = H.size + 1 := by rw [← hH1, Array.size_push]
  have e1 : H1[H.size]? = some (arrV (zG E) z.toNatClampNeg (fun _ => .null)) := by rw [← hH1, Array.getElem?_push_size, ← arrV_new]
  have o1 : ∀ q : Nat, q < H.size → H1[q]? = H[q]? := fun q hq => by rw [← hH1, Array.getElem?_push, if_neg (Nat.ne_of_lt hq)]
  exact kk H1 locs ls (hP.push rfl (Nat.le_trans C.2.2.2.2.2.2.2.1 hS.1) (show H1[H.size]? = some (vp_cell _ _) by rw [vp_cell_q]; exact e1) o1) ⟨Nat.le_trans hS.1 (by omega), fun x h1 h2 => (o1 x (Nat.lt_of_lt_of_le h1 hS.1)).trans (hS.2.1 x h1 h2), hS.2.2⟩ hl
theorem z_aast (C : zC E X own cc nL ret d) {a N v : Nat} {vs : List Value} {f : Nat → Option Nat} {i : Int32} (ha : h a = some (.inl (zG E, N, .inr (.inr (.inr (.inr f)))))) (hv : h v = some (.inr (0, vs))) (hin : vp_in i N) (hdg : decode cc pc = .ok (.aastore, 1)) (h' : Hp) (e : hup h a (.inl (zG E, N, .inr (.inr (.inr (.inr (va_up f i.toNatClampNeg (some v))))))) = h') (kk : zW E X nL k n Q (pc + 1) h' lv st) : zW E X nL k n Q pc h lv (.ref v :: .int i :: .ref a :: st) := by
  intro H locs ls hP hS hl
  have hK := C.2.2.2.2.2.2.2.2.1.1
  have hlt : i.toNatClampNeg < N := Nat.not_le.mp fun q => hin (Or.inr q)
  have h0 : ¬ i < 0 := fun q => hin (Or.inl q)
  obtain ⟨-, r', hr', cellV, g1, g2, g3, -⟩ := hP v _ hv
  have hcls := (hK.1 0 _ rfl).2
  obtain ⟨kA, comp, k1, k2, k3, -⟩ := (hK.2 3 _ rfl).2
  have hcomp : comp = (zD E).1 0 := Option.some.inj (k3.symm.trans hcls.1)
  subst hcomp
  obtain ⟨kC, hkC, -⟩ := hcls.2
  have hNa := (hP a _ ha).1
  refine W.aast C.1 C.2.1 (hP a _ ha).2 (fun q h => by cases h) (fun h => by cases h) k1 k2 rfl hkC ⟨h0, by show _ < (arrV _ _ _).slots.size; rw [arrV_size]; exact hlt⟩ g1 (fun q h => by rw [g3] at h; cases h) (by rw [g2]; exact hkC) (by rw [g2]; exact va_assign hcls) rfl rfl hdg fun H1 e1 z oq => ?_
  refine kk H1 _ ls ?_ (hS.put z oq hNa) hl
  rw [← e]
  refine hP.up hNa ?_ oq
  show H1[a]? = some (vp_cell _ _)
  rw [e1]
  rw [vp_cell_q, vp_cell_q, arrV_store]
  congr 2
  funext q
  by_cases hq : q = i.toNatClampNeg
  · subst hq
    simp [updV, va_up, va_rf]
  · simp [updV, va_up, hq]
theorem z_putF (C : zC E X own cc nL ret d) {ref Cn : String} {T : u_T} {N ci index a : Nat} {fs : List Value} {v : Value} (hin : ∀ w ∈ u_ws Cn T N, w ∈ UU) (ty0 : Nat → FieldType) (hty : ∀ k, k < N → parseFieldDescriptor (T k).2.2.1 = some (ty0 k)) (hnm : ∀ a, a < N → ∀ b, b < N → a ≠ b → (T a).2.1 ≠ (T b).2.1) (hc : vwCl[ci]? = some (Cn, T, N)) (f : Nat) (hf : f < N) (hm : Cond.fieldLink own index ref (T f).2.1 (T f).2.2.1 ∈ UU) (hsame : (T f).1 = ref) (hfin : (T f).2.2.2 = true) (hin2 : (xt X).name = "<init>") (hdecl : (T f).1 = own) (hn : narrow (ty0 f) v = v) (hfit : fits (ty0 f) v = true) (ha : h a = some (.inr (ci, fs))) (hlen : f < fs.length) (hdg : decode cc pc = .ok (.putfield index, 3)) (kk : zW E X nL k n Q (pc + 3) (hup h a (.inr (ci, fs.set f v))) lv st) : zW E X nL k n Q pc h lv (v :: .ref a :: st) := by
  intro H locs ls hP hS hl
  have hK := C.2.2.2.2.2.2.2.2.1.1
  have hts := C.2.2.2.2.1
  have hown := C.2.2.2.1
  have hap := va_apart (own := own) hts hin ty0 hty hnm hK hc
  obtain ⟨hNa, r, h1, cell, q1, q2, q3, q4⟩ := hP a _ ha
  have hr : r = (Cn, T, N) := Option.some.inj (h1.symm.trans hc)
  subst hr
  obtain ⟨hSl, hfc, kC, hkC, hkind⟩ := hK.1 ci _ hc
  obtain ⟨cf, kf, fi, fd, hi, hsl⟩ := hSl f hf
  have hlay := hts _ (hin _ (u_in_lay hf))
  unfold u_lay at hlay
  rw [if_pos hfin] at hlay
  have hst := (u_facts hfc hkC (u_lays hts hin hf) hi).1
  have hcf : (xm X).cls = cf := by
    obtain ⟨_, _, c', _, _, _, -, -, hf', -, -, -, hown2, -⟩ := Cond.laysFinal_spec hlay
    have e1 : c' = cf := by have := hi.symm.trans hf'; simp at this; exact this.1.symm
    rw [hdecl] at hown2
    rw [← e1]; exact Option.some.inj (hown.symm.trans hown2)
  have h6 := u_fits hfc hkC hkind (Or.inr hlay) hi (hty f hf) hn hfit
  refine W.putFinK C.1 C.2.1 hown (hts _ hm) (by rw [← hsame]; exact hi) hst hcf hin2 (by rw [q2]; exact h6) q1 q3 (by rw [hsl]; exact k2_hasslot (q4 f hf)) rfl rfl hdg fun H' e1 e2 e3 => ?_
  rw [hsl] at e1
  refine kk H' _ ls ?_ (hS.put e2 e3 hNa) hl
  exact hP.up hNa ⟨_, hc, t_OB.to (V := updV (vp_V fs) f v) ⟨_, e1, q2, q3, t_set q4 hap hf v⟩ (fun j _ => vp_updV_set hlen v j)⟩ e3
theorem z_objInit (C : zC E X own cc nL ret d) {idx a : Nat} (hm : Cond.methodLink own idx objectInit ∈ UU) (hd1 : 1 ≤ d) (hcat : (st.map fun v => v.category).sum ≤ 8) (hdg : decode cc pc = .ok (.invokespecial idx, 3)) (kk : zW E X nL k n Q (pc + 3) h lv st) : zW E X nL k n Q pc h lv (.ref a :: st) := by
  intro H locs ls hP hS hl
  have q1 := C.2.2.2.2.2.2.2.2.2.2
  exact W.objInit C.1 C.2.1 C.2.2.2.1 (C.2.2.2.2.1 _ hm) (C.2.2.2.2.1 _ im_Object__init____V) (C.2.2.2.2.1 _ co_Object__init____V) rfl (by rw [C.2.2.1]; exact hl.1) rfl hdg (Nat.le_trans hd1 q1.1) (by have := q1.2; show 2 * 0 + _ + 12 ≤ _; omega) (kk H locs ls hP hS hl)
end NEW
def zRc (d mc ms : Nat) : Room := { frames := d, cells := mc, slots := ms, locals := 48 * d }
def zPc (E : zE) (h : Hp) (sz : Nat) (U : State) : Prop := zPre E h U ∧ U.heap.size = sz ∧ va_AO "SpiralDominoes$Game" U
/-- a constructor's contract: the heap's size at its start is sz; it makes mc cells of ms slots -/
def zMc (E : zE) (l : Launch) (d : Nat) (y : MethodName) (bytes : ByteArray) (maxL : Nat) (av : List Value) (h : Hp) (sz mc ms : Nat) (h' : Hp) : Prop :=
  Met l y (Cond.code y bytes maxL none :: UU) (zRc d mc ms) (va_Pc av (zPc E h sz)) (zQ E none h') mc ms (zA E)
theorem zPc.blind (E : zE) (av : List Value) (h : Hp) (sz : Nat) : FrameBlind (va_Pc av (zPc E h sz)) := by
  intro a U g mk hp
  exact ⟨hp.1, (zPre.blind E av h a U g mk ⟨hp.1, hp.2.1⟩).2, hp.2.2.1, va_AO.moved (u := U) (U := U.calling g mk a) (Vm.Alike.refl _) hp.2.2.2⟩
section CTOR
variable {E : zE} {X : zX} {own : String} {cc : ByteArray} {nL d k n : Nat} {ret : Option FieldType} {Q : State → Prop} {pc : Nat} {h : Hp} {lv : List (Nat × Value)} {st : List Value}
theorem z_runc {av rest st0 : List Value} {h1 : Hp} {mc ms : Nat}
    (hlast : k = 0 ∨ ∃ y, h ((xs X).heap.size + (k - 1)) = some y)
    (hr : ∀ (H : Heap) (locs : List Loc) (ls : Array Slot), zP E h H → va_S (zA E) (xs X).heap H locs → lv_has ls nL lv → H.size = (xs X).heap.size + k → va_Run (xp X) (xl X) (xe X) (xR X) (xs X) (xm X) (xa X) (xb X) (xt X) (xc X) H locs k n mc ms (F0 (xm X) pc ls st0) rest (zQ E none h1 av.toArray) (zA E))
    (kk : zW E X nL (k + mc) (n + ms) Q (pc + 3) h1 lv rest) : zW E X nL k n Q pc h lv st0 := by
  refine z_size hlast (fun H locs ls hP hS hl hsz => ?_)
  intro T hT X9
  obtain ⟨v', st₀, t, T', L, h0, X', hL, e1, e2, ⟨hv, hP1, hz, hk⟩, st9⟩ := hr H locs ls hP hS hl hsz T hT X9
  cases hv
  rw [h0] at hz hk
  have hS1 : va_S (zA E) (xs X).heap T'.heap (locs ++ L) := ⟨Nat.le_trans hS.1 (by rw [e1]; exact hz), fun q q1 q2 => by rw [e1, hk q (Nat.lt_of_lt_of_le q1 hS.1) q2]; exact hS.2.1 q q1 q2, fun q hq => by
    rcases List.mem_append.mp hq with q1 | q1
    · exact hS.2.2 q q1
    · exact hL q q1⟩
  obtain ⟨t2, a1, b1⟩ := kk T'.heap (locs ++ L) ls (by rw [e1]; exact hP1) hS1 hl T' rfl X'
  exact ⟨t2, st9 t2 a1, b1⟩
theorem zC.roomc (C : zC E X own cc nL ret d) {d1 maxL mc ms : Nat} (h1 : d1 + 1 ≤ d) (h2 : maxL ≤ 29) : (zRc d1 mc ms).frames + 1 ≤ (xR X).frames ∧ 8 + (maxL + 11) + (zRc d1 mc ms).locals ≤ (xR X).locals := C.room h1 h2
theorem z_callI (C : zC E X own cc nL ret d) (hAO : va_AO "SpiralDominoes$Game" (xs X)) {y : MethodName} {bytes : ByteArray} {maxL d1 index b sz mc ms : Nat} {h1 : Hp} (As rest : List Value) (hM : zMc E (xl X) d1 y bytes maxL (.ref b :: As) h sz mc ms h1) (hsz : (xs X).heap.size + k = sz)
    (hlast : k = 0 ∨ ∃ y, h ((xs X).heap.size + (k - 1)) = some y) (hcode : Cond.code y bytes maxL none ∈ UU) (hlink : Cond.methodLink own index y ∈ UU) (hinst : Cond.instanceMethod y ∈ UU) (hini : Cond.initialized y.cls ∈ UU) (hy1 : y.name = "<init>")
    (hd : y.cls ≠ "java/lang/invoke/MethodHandle" ∧ y.cls ≠ "java/lang/invoke/VarHandle" ∧ (parseMethodDescriptor y.desc).map (fun d => d.parameters.length) = some As.length) (hd1 : d1 + 1 ≤ d) (hmx : maxL ≤ 29) (hst : st = As.reverse ++ .ref b :: rest) (hcat : (rest.map fun v => v.category).sum ≤ 8) (hk : k + mc ≤ (xR X).cells ∧ n + ms ≤ (xR X).slots) (hdg : decode cc pc = .ok (.invokespecial index, 3))
    (kk : zW E X nL (k + mc) (n + ms) Q (pc + 3) h1 lv rest) : zW E X nL k n Q pc h lv st := by
  subst hst
  refine z_runc (av := .ref b :: As) hlast (fun H locs ls hP hS hl hH => ?_) kk
  exact va_runI (As := As) (rest := rest) (b := b) C.fix hM ⟨callB_of As.length C.2.2.2.2.1 (UU_cons hcode) rfl rfl rfl (C.2.2.2.2.1 _ hini) (C.2.2.2.2.1 _ hlink) hd (C.roomc hd1 hmx), hy1, C.2.2.2.2.1 _ hinst⟩
    ⟨zPc.blind E _ h sz, fun U hU hW => ⟨rfl, C.pre hP hS U hU hW, by rw [hU]; exact hH.trans hsz, va_AO.moved hW.alike hAO⟩⟩ rfl rfl hl.1 rfl (lv_room hcat) hdg hk
theorem z_callIN (C : zC E X own cc nL ret d) (hAO : va_AO "SpiralDominoes$Game" (xs X)) {y : MethodName} {bytes : ByteArray} {maxL d1 index b sz mc ms : Nat} {host : String} {h1 : Hp} (As rest : List Value) (hM : zMc E (xl X) d1 y bytes maxL (.ref b :: As) h sz mc ms h1) (hsz : (xs X).heap.size + k = sz)
    (hlast : k = 0 ∨ ∃ y, h ((xs X).heap.size + (k - 1)) = some y) (hcode : Cond.code y bytes maxL none ∈ UU) (hlink : (own, index, y, host) ∈ zNestM) (hinst : Cond.instanceMethod y ∈ UU) (hini : Cond.initialized y.cls ∈ UU) (hy1 : y.name = "<init>")
    (hd : y.cls ≠ "java/lang/invoke/MethodHandle" ∧ y.cls ≠ "java/lang/invoke/VarHandle" ∧ (parseMethodDescriptor y.desc).map (fun d => d.parameters.length) = some As.length) (hd1 : d1 + 1 ≤ d) (hmx : maxL ≤ 29) (hst : st = As.reverse ++ .ref b :: rest) (hcat : (rest.map fun v => v.category).sum ≤ 8) (hk : k + mc ≤ (xR X).cells ∧ n + ms ≤ (xR X).slots) (hdg : decode cc pc = .ok (.invokespecial index, 3))
    (kk : zW E X nL (k + mc) (n + ms) Q (pc + 3) h1 lv rest) : zW E X nL k n Q pc h lv st := by
  subst hst
  refine z_runc (av := .ref b :: As) hlast (fun H locs ls hP hS hl hH => ?_) kk
  exact va_runIN (As := As) (rest := rest) (b := b) C.fix hM ⟨va_cnB As.length C.2.2.2.2.1 (UU_cons hcode) rfl rfl rfl (C.2.2.2.2.2.2.2.2.1.2.1 _ hlink) (C.2.2.2.2.1 _ hini) hd (C.roomc hd1 hmx), hy1, C.2.2.2.2.1 _ hinst⟩
    ⟨zPc.blind E _ h sz, fun U hU hW => ⟨rfl, C.pre hP hS U hU hW, by rw [hU]; exact hH.trans hsz, va_AO.moved hW.alike hAO⟩⟩ rfl rfl hl.1 rfl (lv_room hcat) hdg hk
end CTOR
/-- a constructor's body, from its entry -/
theorem zMc_of {E : zE} {l : Launch} {d : Nat} {y : MethodName} {bytes : ByteArray} {maxL : Nat} {av : List Value} {h h' : Hp} {sz mc ms : Nat} {lv : List (Nat × Value)} (hyn : y.name = "<init>") (hy : plainName y.cls = true) (hlen : (lg_sl av).length ≤ maxL) (hlv : lv_args 0 av = lv)
    (body : ∀ X : zX, xl X = l → zC E X y.cls bytes maxL none d → (xs X).heap.size = sz → va_AO "SpiralDominoes$Game" (xs X) → (xt X).name = "<init>" → xR X = zRc d mc ms → zW E X maxL 0 0 (MQ (xb X) (zQ E none h') (xa X) (xs X) mc ms (zA E)) 0 h lv []) : zMc E l d y bytes maxL av h sz mc ms h' := by
  refine Met.ofW (cc := bytes) (maxL := maxL) (ret := none) hy rfl ?_
  intro p e s m args below meth c s₁ B hml hv
  obtain ⟨rfl, ⟨hN, hP, hK, hS0⟩, hsz, hAO⟩ := hv
  have hts0 := atoms_spec (ws := Cond.code y bytes maxL none :: UU) B.pre
  have hts : ∀ w ∈ UU, w.before av.toArray s = true := fun w hw => hts0 w (List.mem_cons_of_mem _ hw)
  have hown : s.vm.findClass y.cls = some m.cls := findClass_of_methodNamed B.named
  have hin : meth.name = y.name := (name_of_methodNamed B.named B.method).1
  have hl := lv_entry av (n := maxL) hlen
  rw [lg_entry_eq]
  rw [hlv] at hl
  exact body (p, l, e, (headSpec (Cond.code y bytes maxL none :: UU) (zRc d mc ms)).room, s, m, av.toArray, below, meth, c) rfl ⟨B.exec, B.bytes, hml, hown, hts, B.returns, B.notSynchronized, hN, hK, hS0, Nat.le_refl _, Nat.le_refl _⟩ hsz hAO (hin.trans hyn) rfl s.heap [] _ hP va_S.rf hl
