/-! CALLS THAT MAY THROW, IN A METHOD WITH HANDLERS -/
theorem cC_out {E : zE} {x : Nat} {c : CS} {k : Nat} (h : 223 ≤ k) : cC E x c k = none := by
  unfold cC
  rw [if_neg (by omega), if_neg (by omega), if_neg (by omega), if_neg (by omega), if_neg (by omega), if_neg (by omega), if_neg (by omega)]
  cases hg : gi k with
  | none => rfl
  | some i =>
    obtain ⟨h1, h2, h3⟩ := gi_inv hg
    exfalso
    unfold ga at h3
    repeat' split at h3
    all_goals omega
theorem pC_out {E : zE} {h0 : Hp} {x : Nat} {c : CS} {a : Nat} (h : a < x ∨ x + 223 ≤ a) : pC E h0 x c a = h0 a := by
  unfold pC
  by_cases h1 : a < x
  · rw [if_pos h1]
  · rw [if_neg h1, cC_out (by omega)]
theorem pC_hup {E : zE} {h0 : Hp} {x : Nat} {c : CS} {o : Nat} {e : va_E} (h : o < x ∨ x + 223 ≤ o) : hup (pC E h0 x c) o e = pC E (hup h0 o e) x c := by
  funext a
  by_cases h1 : a = o
  · subst h1
    rw [pC_out h]
    simp [hup]
  · unfold pC hup
    simp only [if_neg h1]
theorem hup_same {h0 : Hp} {o : Nat} {e : va_E} (h : h0 o = some e) : hup h0 o e = h0 := by
  funext a
  by_cases h1 : a = o
  · subst h1
    simp [hup, h]
  · simp [hup, h1]
def oO (E : zE) (f : Nat → Int64) : va_E := .inl (zJ E, 1, .inr (.inl f))
/-- a wrapper's contract: it answers k, whatever the method inside throws -/
def zMW (E : zE) (l : Launch) (d : Nat) (y : MethodName) (bytes : ByteArray) (maxL : Nat) (hh : List (Nat × Nat × Nat × Nat)) (av : List Value) (h : Hp) (k : Int32) (h' : Hp) : Prop :=
  Met l y (Cond.codeWith y bytes maxL (some .int) hh :: UU) (zRX d) (va_Pc av (zPre E h)) (zQ E (some (.int k)) h') 1 6 (zA E)
theorem zMW_of {E : zE} {l : Launch} {d : Nat} {y : MethodName} {bytes : ByteArray} {maxL : Nat} {hh : List (Nat × Nat × Nat × Nat)} {av : List Value} {h h' : Hp} {k : Int32} {lv : List (Nat × Value)} (hy : plainName y.cls = true) (hlen : (lg_sl av).length ≤ maxL) (hlv : lv_args 0 av = lv)
    (body : ∀ X : zX, xl X = l → zC E X y.cls bytes maxL (some .int) d → (xc X).exceptionTable.toList = tableOf hh → xR X = (headSpec (Cond.codeWith y bytes maxL (some .int) hh :: UU) (zRX d)).room → zW E X maxL 0 0 (MQ (xb X) (zQ E (some (.int k)) h') (xa X) (xs X) 1 6 (zA E)) 0 h lv []) : zMW E l d y bytes maxL hh av h k h' := by
  unfold zMW Met
  refine MetFree.of_bodyS (code := bytes) (maxLocals := maxL) (ret := some .int) hy ?_ ?_
  · intro args s m h9 hn
    obtain ⟨m9, meth, c, hn9, h1, h2, h3, h4, -, h5, h6, -⟩ := Cond.codeWith_spec (atoms_spec (ws := Cond.codeWith y bytes maxL (some .int) hh :: UU) h9 _ List.mem_cons_self)
    cases hn.symm.trans hn9
    exact ⟨meth, c, h1, h2, h3, h4, h5, h6⟩
  · intro p e s m args below meth c s₁ B hml hv _
    have hh0 : s₁.heap = s.heap := by rw [B.state]; rfl
    obtain ⟨rfl, hN, hP, hK, hS0⟩ := hv
    have hts0 := atoms_spec (ws := Cond.codeWith y bytes maxL (some .int) hh :: UU) B.pre
    have hts : ∀ w ∈ UU, w.before av.toArray s = true := fun w hw => hts0 w (List.mem_cons_of_mem _ hw)
    have hown : s.vm.findClass y.cls = some m.cls := findClass_of_methodNamed B.named
    have htab := vx_table (x := y) B (hts0 _ List.mem_cons_self)
    have hl := lv_entry av (n := maxL) hlen
    rw [lg_entry_eq]
    rw [hlv] at hl
    obtain ⟨t, a1, o, b1, b2, b3⟩ := body (p, l, e, (headSpec (Cond.codeWith y bytes maxL (some .int) hh :: UU) (zRX d)).room, s, m, av.toArray, below, meth, c) rfl ⟨B.exec, B.bytes, hml, hown, hts, B.returns, B.notSynchronized, hN, hK, hS0, Nat.le_refl _, Nat.le_refl _⟩ htab rfl s.heap [] _ hP va_S.rf hl s₁ hh0 (Stand.of_body B)
    exact ⟨t, o, a1, b1, b2, b3⟩
section CX
variable {E : zE} {X : zX} {own : String} {cc : ByteArray} {nL d k n : Nat} {ret : Option FieldType} {Q : State → Prop} {pc : Nat} {h : Hp} {lv : List (Nat × Value)} {st : List Value}
/-- the same place, with a cell of class cls thrown over it -/
def zVW (E : zE) (X : zX) (nL k n : Nat) (Q : State → Prop) (pc : Nat) (h : Hp) (lv : List (Nat × Value)) (rest : List Value) (cls : String) : Prop :=
  ∀ (H : Heap) (locs : List Loc) (ls : Array Slot) (q : Addr) (ce : Cell), zP E h H → va_S (zA E) (xs X).heap H locs → lv_has ls nL lv → H[q]? = some ce → ce.vm = .none → (xs X).vm.findClass cls = some ce.cls → vx_W (xp X) (xl X) (xe X) (xR X) (xs X) (xm X) (xa X) (xb X) (xt X) (xc X) H locs k n Q (F0 (xm X) pc ls rest) q
theorem z_callX (C : zC E X own cc nL ret d) {y : MethodName} {bytes : ByteArray} {maxL d1 index b ci N : Nat} {rt : Option FieldType} {Cn : String} {T : u_T} {fs : List Value} {h1 : Hp} {v : Option Value} {kx : Int32} (pc1 : Nat) (As rest : List Value) (hM : zMX E (xl X) d1 y bytes maxL rt (.ref b :: As) h kx v h1)
    (hcode : Cond.code y bytes maxL rt ∈ UU) (hlink : Cond.methodLink own index y ∈ UU) (hinst : Cond.instanceMethod y ∈ UU) (hsel : Cond.selects Cn y y ∈ UU) (hini : Cond.initialized Cn ∈ UU) (hcl : vwCl[ci]? = some (Cn, T, N)) (hb : h b = some (.inr (ci, fs)))
    (hd : y.cls = Cn ∧ y.cls ≠ "java/lang/invoke/MethodHandle" ∧ y.cls ≠ "java/lang/invoke/VarHandle" ∧ (parseMethodDescriptor y.desc).map (fun d => d.parameters.length) = some As.length) (hd1 : d1 + 1 ≤ d) (hmx : maxL ≤ 29) (hst : st = As.reverse ++ .ref b :: rest) (hcat : (rest.map fun v => v.category).sum ≤ 8) (hk : k + 1 ≤ (xR X).cells ∧ n + 6 ≤ (xR X).slots) (hpc : pc + 3 = pc1) (hdg : decode cc pc = .ok (.invokevirtual index, 3))
    (kk : kx = 0 → zW E X nL (k + 1) (n + 6) Q pc1 h1 lv (v.toList ++ rest)) (kt : ¬ kx = 0 → zVW E X nL (k + 1) (n + 6) Q pc h1 lv rest (exN kx)) : zW E X nL k n Q pc h lv st := by
  subst hst
  subst hpc
  intro H locs ls hP hS hl T9 hT X9
  have hr : vx_Run (xp X) (xl X) (xe X) (xR X) (xs X) (xm X) (xa X) (xb X) (xt X) (xc X) H locs k n 1 6 (F0 (xm X) pc ls (As.reverse ++ .ref b :: rest)) rest (zQr E kx v h1 (Value.ref b :: As).toArray) (zXC E h1 kx) (zA E) := vx_runV (As := As) (rest := rest) (b := b) (g := F0 (xm X) pc ls (As.reverse ++ .ref b :: rest)) C.fix hM ⟨callB_of As.length C.2.2.2.2.1 (UU_cons hcode) rfl rfl rfl (by rw [hd.1]; exact C.2.2.2.2.1 _ hini) (C.2.2.2.2.1 _ hlink) hd.2 (C.room hd1 hmx), C.2.2.2.2.1 _ hinst, C.2.2.2.2.1 _ hsel⟩
    ⟨zPre.blind E _ h, va_recv C.2.2.2.2.2.2.2.2.1.1 (hP.one hb) hcl (q0 := 0) rfl, fun U hU hW => ⟨rfl, C.pre hP hS U hU hW⟩⟩ rfl rfl hl.1 rfl (lv_room hcat) hdg hk
  have keep : ∀ (st₀ t T' : State) (L : List Loc), st₀.heap = H → T'.heap = t.heap → (∀ q ∈ L, zA E q.base) → va_F (zA E) st₀ t → va_S (zA E) (xs X).heap T'.heap (locs ++ L) := by
    intro st₀ t T' L h0 e1 hL hF
    obtain ⟨hz, hk9⟩ := hF
    rw [h0] at hz hk9
    exact ⟨Nat.le_trans hS.1 (by rw [e1]; exact hz), fun q q1 q2 => by rw [e1, hk9 q (Nat.lt_of_lt_of_le q1 hS.1) q2]; exact hS.2.1 q q1 q2, fun q hq => by
      rcases List.mem_append.mp hq with q1 | q1
      · exact hS.2.2 q q1
      · exact hL q q1⟩
  rcases hr T9 hT X9 with ⟨v', st₀, t, T', L, h0, X', hL, e1, e2, ⟨hk0, hv, hP1, hF⟩, st9⟩ | ⟨q, st₀, t, T', L, Ec, ce, h0, X', hL, e1, e2, ⟨hk0, hcls, hP1, hF⟩, hce, hcv, hcl9, st9⟩
  · cases hv
    obtain ⟨t2, a1, b1⟩ := kk hk0 T'.heap (locs ++ L) ls (by rw [e1]; exact hP1) (keep _ _ _ _ h0 e1 hL hF) hl T' rfl X'
    exact ⟨t2, st9 t2 a1, b1⟩
  · obtain ⟨t2, a1, b1⟩ := kt hk0 T'.heap (locs ++ L) ls q ce (by rw [e1]; exact hP1) (keep _ _ _ _ h0 e1 hL hF) hl (by rw [e1]; exact hce) hcv (by rw [hcls]; exact hcl9) T' rfl X'
    exact ⟨t2, st9.trans a1, b1⟩
theorem z_catch1 (C : zC E X own cc nL ret d) {hh : List (Nat × Nat × Nat × Nat)} (htab : (xc X).exceptionTable.toList = tableOf hh) {cls : String} {rest : List Value} (x : Nat × Nat × Nat × Nat) (suf : List (Nat × Nat × Nat × Nat)) (hsplit : hh = x :: suf) (hx : covers ⟨x.1, x.2.1, x.2.2.1, x.2.2.2⟩ pc = true) (h0 : x.2.2.2 ≠ 0) (hlink : Cond.classLink own x.2.2.2 cls ∈ UU) (hcast : cls ∈ zCasts)
    (kk : ∀ q : Nat, zW E X nL k n Q x.2.2.1 h lv [.ref q]) : zVW E X nL k n Q pc h lv rest cls := by
  intro H locs ls q ce hP hS hl hce hcv hcl
  exact vx_catch (name := cls) C.2.2.2.1 [] ⟨x.1, x.2.1, x.2.2.1, x.2.2.2⟩ (tableOf suf) (by rw [htab, hsplit]; rfl) (fun z hz => by cases hz) hx h0 (C.2.2.2.2.1 _ hlink) (va_Nw.use rfl (C.2.2.2.2.2.2.2.2.1.2.2.2.2.2.1 cls hcast)) hce hcv hcl (kk q H locs ls hP hS hl)
theorem z_catch2 (C : zC E X own cc nL ret d) {hh : List (Nat × Nat × Nat × Nat)} (htab : (xc X).exceptionTable.toList = tableOf hh) {cls nm : String} {rest : List Value} (z x : Nat × Nat × Nat × Nat) (suf : List (Nat × Nat × Nat × Nat)) (hsplit : hh = z :: x :: suf) (hz0 : z.2.2.2 ≠ 0) (hzl : Cond.classLink own z.2.2.2 nm ∈ UU) (hnc : (cls, nm) ∈ zNcs) (hx : covers ⟨x.1, x.2.1, x.2.2.1, x.2.2.2⟩ pc = true) (h0 : x.2.2.2 ≠ 0) (hlink : Cond.classLink own x.2.2.2 cls ∈ UU) (hcast : cls ∈ zCasts)
    (kk : ∀ q : Nat, zW E X nL k n Q x.2.2.1 h lv [.ref q]) : zVW E X nL k n Q pc h lv rest cls := by
  intro H locs ls q ce hP hS hl hce hcv hcl
  refine vx_catch (name := cls) C.2.2.2.1 [⟨z.1, z.2.1, z.2.2.1, z.2.2.2⟩] ⟨x.1, x.2.1, x.2.2.1, x.2.2.2⟩ (tableOf suf) (by rw [htab, hsplit]; rfl) (fun z9 hz => ?_) hx h0 (C.2.2.2.2.1 _ hlink) (va_Nw.use rfl (C.2.2.2.2.2.2.2.2.1.2.2.2.2.2.1 cls hcast)) hce hcv hcl (kk q H locs ls hP hS hl)
  rw [List.mem_singleton.mp hz]
  exact Or.inr ⟨hz0, nm, C.2.2.2.2.1 _ hzl, C.2.2.2.2.2.2.2.2.1.2.2.2.2.2.2 _ hnc⟩
theorem z_catchR (C : zC E X own cc nL (some .int) d) {R : Int32} {v : Option Value} (hk : k ≤ 1) (hn : n ≤ 6) (hdg : decode cc pc = .ok (.ireturn, 1)) (kv : v = some (.int R)) : zW E X nL k n (MQ (xb X) (zQ E v h) (xa X) (xs X) 1 6 (zA E)) pc h lv [.int R] := by
  subst kv
  intro H locs ls hP hS hl
  refine W.widen hk hn ?_
  exact W.iret C.1 C.2.1 C.2.2.2.2.2.1 (fun t ht hW => ⟨rfl, by rw [ht]; exact hP, hS.F ht⟩) hS.2.2 hdg C.2.2.2.2.2.2.1
end CX
def f_L_append (c : CS) (x1 : Int32) (o : Nat → Int64) : Option (Int32 × CS × (Nat → Int64)) :=
  (f_X5_append c x1).bind (fun r => if r.1 = 0 then some ((0 : Int32), r.2.1, vp_updL o (0 : Int32).toNatClampNeg r.2.2.toInt64) else if r.1 = 1 then some ((1 : Int32), r.2.1, o) else if r.1 = 2 then some ((2 : Int32), r.2.1, o) else none)
set_option maxRecDepth 100000 in
set_option maxHeartbeats 4000000 in
theorem ct_L_append {E : zE} {l : Launch} {h0 : Hp} {x oa : Nat} {c : CS} {x1 : Int32} {o : Nat → Int64} {r : Int32 × CS × (Nat → Int64)} (ho : h0 oa = some (oO E o)) (hap : oa < x ∨ x + 223 ≤ oa) (hst : l.stackTraces = false) (hf : f_L_append c x1 o = some r) : zMW E l 7 yL_append cL_append 4 [(0, 9, 12, 13), (0, 9, 15, 15)] [.ref x, .int x1, .ref oa] (pC E h0 x c) r.1 (pC E (hup h0 oa (oO E r.2.2)) x r.2.1) := by
  refine zMW_of (lv := [(0, .ref x), (1, .int x1), (2, .ref oa)]) (by decide +kernel) (Nat.le_of_ble_eq_true rfl) rfl (fun X hX C htab hR => ?_)
  subst hX
  replace C : zC E X RL cL_append 4 (some .int) 7 := C
  unfold f_L_append at hf
  obtain ⟨q, hq, hf⟩ := bd_some hf
  refine z_aload_n C dL_append_0 2 rfl ?_
  refine z_iconst C (0 : Int32) dL_append_1 (by decide) ?_
  refine z_aload_n C dL_append_2 0 rfl ?_
  refine z_iload_n C dL_append_3 1 rfl ?_
  refine z_callX (Cn := RX5) (T := TX5) (N := 6) (ci := 5) C 7 [.int x1] [.int 0, .ref oa] (ct_X5_append hst hq) co_X5_append ml_L_7 im_X5_append se_X5_append ini_X5 rfl pC_o ⟨rfl, by decide +kernel, by decide +kernel, by show _ = some 1; decide +kernel⟩ (by decide) (by decide) rfl (Nat.le_of_ble_eq_true rfl) (by rw [hR]; exact ⟨Nat.le_refl _, Nat.le_refl _⟩) rfl dL_append_4 (fun hk0 => ?_) (fun hne => ?_)
  · replace hf := ip hk0 hf
    obtain rfl := Option.some.inj hf
    refine z_i2l C dL_append_7 ?_
    refine z_last C ((pC_out hap).trans ho) (by unfold vp_in; decide) dL_append_8 (pC E (hup h0 oa (oO E (vp_updL o (0 : Int32).toNatClampNeg q.2.2.toInt64))) x q.2.1) (pC_hup hap) ?_
    refine z_goto C 18 dL_append_9 (by decide) ?_
    refine z_iconst C (0 : Int32) dL_append_18 (by decide) ?_
    exact z_catchR C (Nat.le_refl _) (Nat.le_refl _) dL_append_19 rfl
  · replace hf := iN hne hf
    by_cases e0 : q.1 = 1
    · replace hf := ip e0 hf
      obtain rfl := Option.some.inj hf
      rw [e0, show exN (1 : Int32) = "java/lang/IllegalArgumentException" by decide +kernel]
      refine z_catch1 C htab (0, 9, 12, 13) _ rfl (by decide) (by decide) kl_L_13 (by decide +kernel) (fun qa => ?_)
      refine z_astore_n C dL_append_12 (by decide) rfl ?_
      refine z_iconst C (1 : Int32) dL_append_13 (by decide) ?_
      refine z_heap (h' := pC E (hup h0 oa (oO E o)) x q.2.1) (by rw [hup_same ho]) ?_
      exact z_catchR C (Nat.le_refl _) (Nat.le_refl _) dL_append_14 rfl
    · replace hf := iN e0 hf
      by_cases e1 : q.1 = 2
      · replace hf := ip e1 hf
        obtain rfl := Option.some.inj hf
        rw [e1, show exN (2 : Int32) = "java/lang/IllegalStateException" by decide +kernel]
        refine z_catch2 (nm := "java/lang/IllegalArgumentException") C htab (0, 9, 12, 13) (0, 9, 15, 15) _ rfl (by decide) kl_L_13 (by decide +kernel) (by decide) (by decide) kl_L_15 (by decide +kernel) (fun qa => ?_)
        refine z_astore_n C dL_append_15 (by decide) rfl ?_
        refine z_iconst C (2 : Int32) dL_append_16 (by decide) ?_
        refine z_heap (h' := pC E (hup h0 oa (oO E o)) x q.2.1) (by rw [hup_same ho]) ?_
        exact z_catchR C (Nat.le_refl _) (Nat.le_refl _) dL_append_17 rfl
      · replace hf := iN e1 hf
        cases hf
def f_L_load (n : Nat) (c : CS) (o : Nat → Int64) : Option (Int32 × CS × (Nat → Int64)) :=
  (f_X5_load n c).bind (fun r => if r.1 = 0 then some ((0 : Int32), r.2.1, vp_updL o (0 : Int32).toNatClampNeg r.2.2.toInt64) else if r.1 = 2 then some ((1 : Int32), r.2.1, o) else none)
set_option maxRecDepth 100000 in
set_option maxHeartbeats 4000000 in
theorem ct_L_load {E : zE} {l : Launch} {h0 : Hp} {x oa : Nat} {n : Nat} {c : CS} {o : Nat → Int64} {r : Int32 × CS × (Nat → Int64)} (ho : h0 oa = some (oO E o)) (hap : oa < x ∨ x + 223 ≤ oa) (hst : l.stackTraces = false) (hf : f_L_load n c o = some r) : zMW E l 8 yL_load cL_load 3 [(0, 8, 11, 15)] [.ref x, .ref oa] (pC E h0 x c) r.1 (pC E (hup h0 oa (oO E r.2.2)) x r.2.1) := by
  refine zMW_of (lv := [(0, .ref x), (1, .ref oa)]) (by decide +kernel) (Nat.le_of_ble_eq_true rfl) rfl (fun X hX C htab hR => ?_)
  subst hX
  replace C : zC E X RL cL_load 3 (some .int) 8 := C
  unfold f_L_load at hf
  obtain ⟨q, hq, hf⟩ := bd_some hf
  refine z_aload_n C dL_load_0 1 rfl ?_
  refine z_iconst C (0 : Int32) dL_load_1 (by decide) ?_
  refine z_aload_n C dL_load_2 0 rfl ?_
  refine z_callX (Cn := RX5) (T := TX5) (N := 6) (ci := 5) C 6 [] [.int 0, .ref oa] (ct_X5_load hst hq) co_X5_load ml_L_17 im_X5_load se_X5_load ini_X5 rfl pC_o ⟨rfl, by decide +kernel, by decide +kernel, by show _ = some 0; decide +kernel⟩ (by decide) (by decide) rfl (Nat.le_of_ble_eq_true rfl) (by rw [hR]; exact ⟨Nat.le_refl _, Nat.le_refl _⟩) rfl dL_load_3 (fun hk0 => ?_) (fun hne => ?_)
  · replace hf := ip hk0 hf
    obtain rfl := Option.some.inj hf
    refine z_i2l C dL_load_6 ?_
    refine z_last C ((pC_out hap).trans ho) (by unfold vp_in; decide) dL_load_7 (pC E (hup h0 oa (oO E (vp_updL o (0 : Int32).toNatClampNeg q.2.2.toInt64))) x q.2.1) (pC_hup hap) ?_
    refine z_goto C 14 dL_load_8 (by decide) ?_
    refine z_iconst C (0 : Int32) dL_load_14 (by decide) ?_
    exact z_catchR C (Nat.le_refl _) (Nat.le_refl _) dL_load_15 rfl
  · replace hf := iN hne hf
    by_cases e0 : q.1 = 2
    · replace hf := ip e0 hf
      obtain rfl := Option.some.inj hf
      rw [e0, show exN (2 : Int32) = "java/lang/IllegalStateException" by decide +kernel]
      refine z_catch1 C htab (0, 8, 11, 15) _ rfl (by decide) (by decide) kl_L_15 (by decide +kernel) (fun qa => ?_)
      refine z_astore_n C dL_load_11 (by decide) rfl ?_
      refine z_iconst C (1 : Int32) dL_load_12 (by decide) ?_
      refine z_heap (h' := pC E (hup h0 oa (oO E o)) x q.2.1) (by rw [hup_same ho]) ?_
      exact z_catchR C (Nat.le_refl _) (Nat.le_refl _) dL_load_13 rfl
    · replace hf := iN e0 hf
      cases hf
def f_L_about (n : Nat) (c : CS) (x1 : Int32) (o : Nat → Int64) : Option (Int32 × CS × (Nat → Int64)) :=
  (f_X5_about n c x1).bind (fun r => if r.1 = 0 then some ((0 : Int32), r.2.1, vp_updL o (0 : Int32).toNatClampNeg r.2.2.toInt64) else if r.1 = 1 then some ((1 : Int32), r.2.1, o) else none)
set_option maxRecDepth 100000 in
set_option maxHeartbeats 4000000 in
theorem ct_L_about {E : zE} {l : Launch} {h0 : Hp} {x oa : Nat} {n : Nat} {c : CS} {x1 : Int32} {o : Nat → Int64} {r : Int32 × CS × (Nat → Int64)} (ho : h0 oa = some (oO E o)) (hap : oa < x ∨ x + 223 ≤ oa) (hst : l.stackTraces = false) (hf : f_L_about n c x1 o = some r) : zMW E l 7 yL_about cL_about 4 [(0, 9, 12, 13)] [.ref x, .int x1, .ref oa] (pC E h0 x c) r.1 (pC E (hup h0 oa (oO E r.2.2)) x r.2.1) := by
  refine zMW_of (lv := [(0, .ref x), (1, .int x1), (2, .ref oa)]) (by decide +kernel) (Nat.le_of_ble_eq_true rfl) rfl (fun X hX C htab hR => ?_)
  subst hX
  replace C : zC E X RL cL_about 4 (some .int) 7 := C
  unfold f_L_about at hf
  obtain ⟨q, hq, hf⟩ := bd_some hf
  refine z_aload_n C dL_about_0 2 rfl ?_
  refine z_iconst C (0 : Int32) dL_about_1 (by decide) ?_
  refine z_aload_n C dL_about_2 0 rfl ?_
  refine z_iload_n C dL_about_3 1 rfl ?_
  refine z_callX (Cn := RX5) (T := TX5) (N := 6) (ci := 5) C 7 [.int x1] [.int 0, .ref oa] (ct_X5_about hst hq) co_X5_about ml_L_21 im_X5_about se_X5_about ini_X5 rfl pC_o ⟨rfl, by decide +kernel, by decide +kernel, by show _ = some 1; decide +kernel⟩ (by decide) (by decide) rfl (Nat.le_of_ble_eq_true rfl) (by rw [hR]; exact ⟨Nat.le_refl _, Nat.le_refl _⟩) rfl dL_about_4 (fun hk0 => ?_) (fun hne => ?_)
  · replace hf := ip hk0 hf
    obtain rfl := Option.some.inj hf
    refine z_i2l C dL_about_7 ?_
    refine z_last C ((pC_out hap).trans ho) (by unfold vp_in; decide) dL_about_8 (pC E (hup h0 oa (oO E (vp_updL o (0 : Int32).toNatClampNeg q.2.2.toInt64))) x q.2.1) (pC_hup hap) ?_
    refine z_goto C 15 dL_about_9 (by decide) ?_
    refine z_iconst C (0 : Int32) dL_about_15 (by decide) ?_
    exact z_catchR C (Nat.le_refl _) (Nat.le_refl _) dL_about_16 rfl
  · replace hf := iN hne hf
    by_cases e0 : q.1 = 1
    · replace hf := ip e0 hf
      obtain rfl := Option.some.inj hf
      rw [e0, show exN (1 : Int32) = "java/lang/IllegalArgumentException" by decide +kernel]
      refine z_catch1 C htab (0, 9, 12, 13) _ rfl (by decide) (by decide) kl_L_13 (by decide +kernel) (fun qa => ?_)
      refine z_astore_n C dL_about_12 (by decide) rfl ?_
      refine z_iconst C (1 : Int32) dL_about_13 (by decide) ?_
      refine z_heap (h' := pC E (hup h0 oa (oO E o)) x q.2.1) (by rw [hup_same ho]) ?_
      exact z_catchR C (Nat.le_refl _) (Nat.le_refl _) dL_about_14 rfl
    · replace hf := iN e0 hf
      cases hf
def f_L_tileOf (n : Nat) (c : CS) (x1 : Int32) (x2 : Int32) (o : Nat → Int64) : Option (Int32 × CS × (Nat → Int64)) :=
  (f_X5_tileOf n c x1 x2).bind (fun r => if r.1 = 0 then some ((0 : Int32), r.2.1, vp_updL o (0 : Int32).toNatClampNeg r.2.2.toInt64) else if r.1 = 3 then some ((1 : Int32), r.2.1, o) else if r.1 = 1 then some ((2 : Int32), r.2.1, o) else none)
set_option maxRecDepth 100000 in
set_option maxHeartbeats 4000000 in
theorem ct_L_tileOf {E : zE} {l : Launch} {h0 : Hp} {x oa : Nat} {n : Nat} {c : CS} {x1 : Int32} {x2 : Int32} {o : Nat → Int64} {r : Int32 × CS × (Nat → Int64)} (ho : h0 oa = some (oO E o)) (hap : oa < x ∨ x + 223 ≤ oa) (hst : l.stackTraces = false) (hf : f_L_tileOf n c x1 x2 o = some r) : zMW E l 7 yL_tileOf cL_tileOf 5 [(0, 10, 13, 28), (0, 10, 17, 13)] [.ref x, .int x1, .int x2, .ref oa] (pC E h0 x c) r.1 (pC E (hup h0 oa (oO E r.2.2)) x r.2.1) := by
  refine zMW_of (lv := [(0, .ref x), (1, .int x1), (2, .int x2), (3, .ref oa)]) (by decide +kernel) (Nat.le_of_ble_eq_true rfl) rfl (fun X hX C htab hR => ?_)
  subst hX
  replace C : zC E X RL cL_tileOf 5 (some .int) 7 := C
  unfold f_L_tileOf at hf
  obtain ⟨q, hq, hf⟩ := bd_some hf
  refine z_aload_n C dL_tileOf_0 3 rfl ?_
  refine z_iconst C (0 : Int32) dL_tileOf_1 (by decide) ?_
  refine z_aload_n C dL_tileOf_2 0 rfl ?_
  refine z_iload_n C dL_tileOf_3 1 rfl ?_
  refine z_iload_n C dL_tileOf_4 2 rfl ?_
  refine z_callX (Cn := RX5) (T := TX5) (N := 6) (ci := 5) C 8 [.int x1, .int x2] [.int 0, .ref oa] (ct_X5_tileOf hst hq) co_X5_tileOf ml_L_24 im_X5_tileOf se_X5_tileOf ini_X5 rfl pC_o ⟨rfl, by decide +kernel, by decide +kernel, by show _ = some 2; decide +kernel⟩ (by decide) (by decide) rfl (Nat.le_of_ble_eq_true rfl) (by rw [hR]; exact ⟨Nat.le_refl _, Nat.le_refl _⟩) rfl dL_tileOf_5 (fun hk0 => ?_) (fun hne => ?_)
  · replace hf := ip hk0 hf
    obtain rfl := Option.some.inj hf
    refine z_i2l C dL_tileOf_8 ?_
    refine z_last C ((pC_out hap).trans ho) (by unfold vp_in; decide) dL_tileOf_9 (pC E (hup h0 oa (oO E (vp_updL o (0 : Int32).toNatClampNeg q.2.2.toInt64))) x q.2.1) (pC_hup hap) ?_
    refine z_goto C 21 dL_tileOf_10 (by decide) ?_
    refine z_iconst C (0 : Int32) dL_tileOf_21 (by decide) ?_
    exact z_catchR C (Nat.le_refl _) (Nat.le_refl _) dL_tileOf_22 rfl
  · replace hf := iN hne hf
    by_cases e0 : q.1 = 3
    · replace hf := ip e0 hf
      obtain rfl := Option.some.inj hf
      rw [e0, show exN (3 : Int32) = "java/lang/IndexOutOfBoundsException" by decide +kernel]
      refine z_catch1 C htab (0, 10, 13, 28) _ rfl (by decide) (by decide) kl_L_28 (by decide +kernel) (fun qa => ?_)
      refine z_astore C dL_tileOf_13 (by decide) rfl ?_
      refine z_iconst C (1 : Int32) dL_tileOf_15 (by decide) ?_
      refine z_heap (h' := pC E (hup h0 oa (oO E o)) x q.2.1) (by rw [hup_same ho]) ?_
      exact z_catchR C (Nat.le_refl _) (Nat.le_refl _) dL_tileOf_16 rfl
    · replace hf := iN e0 hf
      by_cases e1 : q.1 = 1
      · replace hf := ip e1 hf
        obtain rfl := Option.some.inj hf
        rw [e1, show exN (1 : Int32) = "java/lang/IllegalArgumentException" by decide +kernel]
        refine z_catch2 (nm := "java/lang/IndexOutOfBoundsException") C htab (0, 10, 13, 28) (0, 10, 17, 13) _ rfl (by decide) kl_L_28 (by decide +kernel) (by decide) (by decide) kl_L_13 (by decide +kernel) (fun qa => ?_)
        refine z_astore C dL_tileOf_17 (by decide) rfl ?_
        refine z_iconst C (2 : Int32) dL_tileOf_19 (by decide) ?_
        refine z_heap (h' := pC E (hup h0 oa (oO E o)) x q.2.1) (by rw [hup_same ho]) ?_
        exact z_catchR C (Nat.le_refl _) (Nat.le_refl _) dL_tileOf_20 rfl
      · replace hf := iN e1 hf
        cases hf
def f_L_laid (c : CS) (x1 : Int32) (x2 : Int32) (o : Nat → Int64) : Option (Int32 × CS × (Nat → Int64)) :=
  (f_X5_laid c x1 x2).bind (fun r => if r.1 = 0 then some ((0 : Int32), r.2.1, vp_updL o (0 : Int32).toNatClampNeg r.2.2.toInt64) else if r.1 = 3 then some ((1 : Int32), r.2.1, o) else if r.1 = 1 then some ((2 : Int32), r.2.1, o) else none)
set_option maxRecDepth 100000 in
set_option maxHeartbeats 4000000 in
theorem ct_L_laid {E : zE} {l : Launch} {h0 : Hp} {x oa : Nat} {c : CS} {x1 : Int32} {x2 : Int32} {o : Nat → Int64} {r : Int32 × CS × (Nat → Int64)} (ho : h0 oa = some (oO E o)) (hap : oa < x ∨ x + 223 ≤ oa) (hst : l.stackTraces = false) (hf : f_L_laid c x1 x2 o = some r) : zMW E l 7 yL_laid cL_laid 5 [(0, 10, 13, 28), (0, 10, 17, 13)] [.ref x, .int x1, .int x2, .ref oa] (pC E h0 x c) r.1 (pC E (hup h0 oa (oO E r.2.2)) x r.2.1) := by
  refine zMW_of (lv := [(0, .ref x), (1, .int x1), (2, .int x2), (3, .ref oa)]) (by decide +kernel) (Nat.le_of_ble_eq_true rfl) rfl (fun X hX C htab hR => ?_)
  subst hX
  replace C : zC E X RL cL_laid 5 (some .int) 7 := C
  unfold f_L_laid at hf
  obtain ⟨q, hq, hf⟩ := bd_some hf
  refine z_aload_n C dL_laid_0 3 rfl ?_
  refine z_iconst C (0 : Int32) dL_laid_1 (by decide) ?_
  refine z_aload_n C dL_laid_2 0 rfl ?_
  refine z_iload_n C dL_laid_3 1 rfl ?_
  refine z_iload_n C dL_laid_4 2 rfl ?_
  refine z_callX (Cn := RX5) (T := TX5) (N := 6) (ci := 5) C 8 [.int x1, .int x2] [.int 0, .ref oa] (ct_X5_laid hst hq) co_X5_laid ml_L_30 im_X5_laid se_X5_laid ini_X5 rfl pC_o ⟨rfl, by decide +kernel, by decide +kernel, by show _ = some 2; decide +kernel⟩ (by decide) (by decide) rfl (Nat.le_of_ble_eq_true rfl) (by rw [hR]; exact ⟨Nat.le_refl _, Nat.le_refl _⟩) rfl dL_laid_5 (fun hk0 => ?_) (fun hne => ?_)
  · replace hf := ip hk0 hf
    obtain rfl := Option.some.inj hf
    refine z_i2l C dL_laid_8 ?_
    refine z_last C ((pC_out hap).trans ho) (by unfold vp_in; decide) dL_laid_9 (pC E (hup h0 oa (oO E (vp_updL o (0 : Int32).toNatClampNeg q.2.2.toInt64))) x q.2.1) (pC_hup hap) ?_
    refine z_goto C 21 dL_laid_10 (by decide) ?_
    refine z_iconst C (0 : Int32) dL_laid_21 (by decide) ?_
    exact z_catchR C (Nat.le_refl _) (Nat.le_refl _) dL_laid_22 rfl
  · replace hf := iN hne hf
    by_cases e0 : q.1 = 3
    · replace hf := ip e0 hf
      obtain rfl := Option.some.inj hf
      rw [e0, show exN (3 : Int32) = "java/lang/IndexOutOfBoundsException" by decide +kernel]
      refine z_catch1 C htab (0, 10, 13, 28) _ rfl (by decide) (by decide) kl_L_28 (by decide +kernel) (fun qa => ?_)
      refine z_astore C dL_laid_13 (by decide) rfl ?_
      refine z_iconst C (1 : Int32) dL_laid_15 (by decide) ?_
      refine z_heap (h' := pC E (hup h0 oa (oO E o)) x q.2.1) (by rw [hup_same ho]) ?_
      exact z_catchR C (Nat.le_refl _) (Nat.le_refl _) dL_laid_16 rfl
    · replace hf := iN e0 hf
      by_cases e1 : q.1 = 1
      · replace hf := ip e1 hf
        obtain rfl := Option.some.inj hf
        rw [e1, show exN (1 : Int32) = "java/lang/IllegalArgumentException" by decide +kernel]
        refine z_catch2 (nm := "java/lang/IndexOutOfBoundsException") C htab (0, 10, 13, 28) (0, 10, 17, 13) _ rfl (by decide) kl_L_28 (by decide +kernel) (by decide) (by decide) kl_L_13 (by decide +kernel) (fun qa => ?_)
        refine z_astore C dL_laid_17 (by decide) rfl ?_
        refine z_iconst C (2 : Int32) dL_laid_19 (by decide) ?_
        refine z_heap (h' := pC E (hup h0 oa (oO E o)) x q.2.1) (by rw [hup_same ho]) ?_
        exact z_catchR C (Nat.le_refl _) (Nat.le_refl _) dL_laid_20 rfl
      · replace hf := iN e1 hf
        cases hf
def f_L_playerOf (n : Nat) (c : CS) (x1 : Int32) (x2 : Int32) (o : Nat → Int64) : Option (Int32 × CS × (Nat → Int64)) :=
  (f_X5_playerOf n c x1 x2).bind (fun r => if r.1 = 0 then some ((0 : Int32), r.2.1, vp_updL o (0 : Int32).toNatClampNeg r.2.2.toInt64) else if r.1 = 3 then some ((1 : Int32), r.2.1, o) else if r.1 = 1 then some ((2 : Int32), r.2.1, o) else none)
set_option maxRecDepth 100000 in
set_option maxHeartbeats 4000000 in
theorem ct_L_playerOf {E : zE} {l : Launch} {h0 : Hp} {x oa : Nat} {n : Nat} {c : CS} {x1 : Int32} {x2 : Int32} {o : Nat → Int64} {r : Int32 × CS × (Nat → Int64)} (ho : h0 oa = some (oO E o)) (hap : oa < x ∨ x + 223 ≤ oa) (hst : l.stackTraces = false) (hf : f_L_playerOf n c x1 x2 o = some r) : zMW E l 7 yL_playerOf cL_playerOf 5 [(0, 10, 13, 28), (0, 10, 17, 13)] [.ref x, .int x1, .int x2, .ref oa] (pC E h0 x c) r.1 (pC E (hup h0 oa (oO E r.2.2)) x r.2.1) := by
  refine zMW_of (lv := [(0, .ref x), (1, .int x1), (2, .int x2), (3, .ref oa)]) (by decide +kernel) (Nat.le_of_ble_eq_true rfl) rfl (fun X hX C htab hR => ?_)
  subst hX
  replace C : zC E X RL cL_playerOf 5 (some .int) 7 := C
  unfold f_L_playerOf at hf
  obtain ⟨q, hq, hf⟩ := bd_some hf
  refine z_aload_n C dL_playerOf_0 3 rfl ?_
  refine z_iconst C (0 : Int32) dL_playerOf_1 (by decide) ?_
  refine z_aload_n C dL_playerOf_2 0 rfl ?_
  refine z_iload_n C dL_playerOf_3 1 rfl ?_
  refine z_iload_n C dL_playerOf_4 2 rfl ?_
  refine z_callX (Cn := RX5) (T := TX5) (N := 6) (ci := 5) C 8 [.int x1, .int x2] [.int 0, .ref oa] (ct_X5_playerOf hst hq) co_X5_playerOf ml_L_33 im_X5_playerOf se_X5_playerOf ini_X5 rfl pC_o ⟨rfl, by decide +kernel, by decide +kernel, by show _ = some 2; decide +kernel⟩ (by decide) (by decide) rfl (Nat.le_of_ble_eq_true rfl) (by rw [hR]; exact ⟨Nat.le_refl _, Nat.le_refl _⟩) rfl dL_playerOf_5 (fun hk0 => ?_) (fun hne => ?_)
  · replace hf := ip hk0 hf
    obtain rfl := Option.some.inj hf
    refine z_i2l C dL_playerOf_8 ?_
    refine z_last C ((pC_out hap).trans ho) (by unfold vp_in; decide) dL_playerOf_9 (pC E (hup h0 oa (oO E (vp_updL o (0 : Int32).toNatClampNeg q.2.2.toInt64))) x q.2.1) (pC_hup hap) ?_
    refine z_goto C 21 dL_playerOf_10 (by decide) ?_
    refine z_iconst C (0 : Int32) dL_playerOf_21 (by decide) ?_
    exact z_catchR C (Nat.le_refl _) (Nat.le_refl _) dL_playerOf_22 rfl
  · replace hf := iN hne hf
    by_cases e0 : q.1 = 3
    · replace hf := ip e0 hf
      obtain rfl := Option.some.inj hf
      rw [e0, show exN (3 : Int32) = "java/lang/IndexOutOfBoundsException" by decide +kernel]
      refine z_catch1 C htab (0, 10, 13, 28) _ rfl (by decide) (by decide) kl_L_28 (by decide +kernel) (fun qa => ?_)
      refine z_astore C dL_playerOf_13 (by decide) rfl ?_
      refine z_iconst C (1 : Int32) dL_playerOf_15 (by decide) ?_
      refine z_heap (h' := pC E (hup h0 oa (oO E o)) x q.2.1) (by rw [hup_same ho]) ?_
      exact z_catchR C (Nat.le_refl _) (Nat.le_refl _) dL_playerOf_16 rfl
    · replace hf := iN e0 hf
      by_cases e1 : q.1 = 1
      · replace hf := ip e1 hf
        obtain rfl := Option.some.inj hf
        rw [e1, show exN (1 : Int32) = "java/lang/IllegalArgumentException" by decide +kernel]
        refine z_catch2 (nm := "java/lang/IndexOutOfBoundsException") C htab (0, 10, 13, 28) (0, 10, 17, 13) _ rfl (by decide) kl_L_28 (by decide +kernel) (by decide) (by decide) kl_L_13 (by decide +kernel) (fun qa => ?_)
        refine z_astore C dL_playerOf_17 (by decide) rfl ?_
        refine z_iconst C (2 : Int32) dL_playerOf_19 (by decide) ?_
        refine z_heap (h' := pC E (hup h0 oa (oO E o)) x q.2.1) (by rw [hup_same ho]) ?_
        exact z_catchR C (Nat.le_refl _) (Nat.le_refl _) dL_playerOf_20 rfl
      · replace hf := iN e1 hf
        cases hf
def f_L_at (n : Nat) (c : CS) (x1 : Int32) (x2 : Int32) (o : Nat → Int64) : Option (Int32 × CS × (Nat → Int64)) :=
  (f_X5_at n c x1 x2).bind (fun r => if r.1 = 0 then some ((0 : Int32), r.2.1, vp_updL o (0 : Int32).toNatClampNeg r.2.2.toInt64) else if r.1 = 3 then some ((1 : Int32), r.2.1, o) else none)
set_option maxRecDepth 100000 in
set_option maxHeartbeats 4000000 in
theorem ct_L_at {E : zE} {l : Launch} {h0 : Hp} {x oa : Nat} {n : Nat} {c : CS} {x1 : Int32} {x2 : Int32} {o : Nat → Int64} {r : Int32 × CS × (Nat → Int64)} (ho : h0 oa = some (oO E o)) (hap : oa < x ∨ x + 223 ≤ oa) (hst : l.stackTraces = false) (hf : f_L_at n c x1 x2 o = some r) : zMW E l 7 yL_at cL_at 5 [(0, 10, 13, 28)] [.ref x, .int x1, .int x2, .ref oa] (pC E h0 x c) r.1 (pC E (hup h0 oa (oO E r.2.2)) x r.2.1) := by
  refine zMW_of (lv := [(0, .ref x), (1, .int x1), (2, .int x2), (3, .ref oa)]) (by decide +kernel) (Nat.le_of_ble_eq_true rfl) rfl (fun X hX C htab hR => ?_)
  subst hX
  replace C : zC E X RL cL_at 5 (some .int) 7 := C
  unfold f_L_at at hf
  obtain ⟨q, hq, hf⟩ := bd_some hf
  refine z_aload_n C dL_at_0 3 rfl ?_
  refine z_iconst C (0 : Int32) dL_at_1 (by decide) ?_
  refine z_aload_n C dL_at_2 0 rfl ?_
  refine z_iload_n C dL_at_3 1 rfl ?_
  refine z_iload_n C dL_at_4 2 rfl ?_
  refine z_callX (Cn := RX5) (T := TX5) (N := 6) (ci := 5) C 8 [.int x1, .int x2] [.int 0, .ref oa] (ct_X5_at hst hq) co_X5_at ml_L_36 im_X5_at se_X5_at ini_X5 rfl pC_o ⟨rfl, by decide +kernel, by decide +kernel, by show _ = some 2; decide +kernel⟩ (by decide) (by decide) rfl (Nat.le_of_ble_eq_true rfl) (by rw [hR]; exact ⟨Nat.le_refl _, Nat.le_refl _⟩) rfl dL_at_5 (fun hk0 => ?_) (fun hne => ?_)
  · replace hf := ip hk0 hf
    obtain rfl := Option.some.inj hf
    refine z_i2l C dL_at_8 ?_
    refine z_last C ((pC_out hap).trans ho) (by unfold vp_in; decide) dL_at_9 (pC E (hup h0 oa (oO E (vp_updL o (0 : Int32).toNatClampNeg q.2.2.toInt64))) x q.2.1) (pC_hup hap) ?_
    refine z_goto C 17 dL_at_10 (by decide) ?_
    refine z_iconst C (0 : Int32) dL_at_17 (by decide) ?_
    exact z_catchR C (Nat.le_refl _) (Nat.le_refl _) dL_at_18 rfl
  · replace hf := iN hne hf
    by_cases e0 : q.1 = 3
    · replace hf := ip e0 hf
      obtain rfl := Option.some.inj hf
      rw [e0, show exN (3 : Int32) = "java/lang/IndexOutOfBoundsException" by decide +kernel]
      refine z_catch1 C htab (0, 10, 13, 28) _ rfl (by decide) (by decide) kl_L_28 (by decide +kernel) (fun qa => ?_)
      refine z_astore C dL_at_13 (by decide) rfl ?_
      refine z_iconst C (1 : Int32) dL_at_15 (by decide) ?_
      refine z_heap (h' := pC E (hup h0 oa (oO E o)) x q.2.1) (by rw [hup_same ho]) ?_
      exact z_catchR C (Nat.le_refl _) (Nat.le_refl _) dL_at_16 rfl
    · replace hf := iN e0 hf
      cases hf
def f_L_free (n : Nat) (c : CS) (x1 : Int32) (o : Nat → Int64) : Option (Int32 × CS × (Nat → Int64)) :=
  (f_X5_free n c x1).bind (fun r => if r.1 = 0 then some ((0 : Int32), r.2.1, vp_updL o (0 : Int32).toNatClampNeg r.2.2.toInt64) else if r.1 = 1 then some ((1 : Int32), r.2.1, o) else none)
set_option maxRecDepth 100000 in
set_option maxHeartbeats 4000000 in
theorem ct_L_free {E : zE} {l : Launch} {h0 : Hp} {x oa : Nat} {n : Nat} {c : CS} {x1 : Int32} {o : Nat → Int64} {r : Int32 × CS × (Nat → Int64)} (ho : h0 oa = some (oO E o)) (hap : oa < x ∨ x + 223 ≤ oa) (hst : l.stackTraces = false) (hf : f_L_free n c x1 o = some r) : zMW E l 7 yL_free cL_free 4 [(0, 9, 12, 13)] [.ref x, .int x1, .ref oa] (pC E h0 x c) r.1 (pC E (hup h0 oa (oO E r.2.2)) x r.2.1) := by
  refine zMW_of (lv := [(0, .ref x), (1, .int x1), (2, .ref oa)]) (by decide +kernel) (Nat.le_of_ble_eq_true rfl) rfl (fun X hX C htab hR => ?_)
  subst hX
  replace C : zC E X RL cL_free 4 (some .int) 7 := C
  unfold f_L_free at hf
  obtain ⟨q, hq, hf⟩ := bd_some hf
  refine z_aload_n C dL_free_0 2 rfl ?_
  refine z_iconst C (0 : Int32) dL_free_1 (by decide) ?_
  refine z_aload_n C dL_free_2 0 rfl ?_
  refine z_iload_n C dL_free_3 1 rfl ?_
  refine z_callX (Cn := RX5) (T := TX5) (N := 6) (ci := 5) C 7 [.int x1] [.int 0, .ref oa] (ct_X5_free hst hq) co_X5_free ml_L_39 im_X5_free se_X5_free ini_X5 rfl pC_o ⟨rfl, by decide +kernel, by decide +kernel, by show _ = some 1; decide +kernel⟩ (by decide) (by decide) rfl (Nat.le_of_ble_eq_true rfl) (by rw [hR]; exact ⟨Nat.le_refl _, Nat.le_refl _⟩) rfl dL_free_4 (fun hk0 => ?_) (fun hne => ?_)
  · replace hf := ip hk0 hf
    obtain rfl := Option.some.inj hf
    refine z_i2l C dL_free_7 ?_
    refine z_last C ((pC_out hap).trans ho) (by unfold vp_in; decide) dL_free_8 (pC E (hup h0 oa (oO E (vp_updL o (0 : Int32).toNatClampNeg q.2.2.toInt64))) x q.2.1) (pC_hup hap) ?_
    refine z_goto C 15 dL_free_9 (by decide) ?_
    refine z_iconst C (0 : Int32) dL_free_15 (by decide) ?_
    exact z_catchR C (Nat.le_refl _) (Nat.le_refl _) dL_free_16 rfl
  · replace hf := iN hne hf
    by_cases e0 : q.1 = 1
    · replace hf := ip e0 hf
      obtain rfl := Option.some.inj hf
      rw [e0, show exN (1 : Int32) = "java/lang/IllegalArgumentException" by decide +kernel]
      refine z_catch1 C htab (0, 9, 12, 13) _ rfl (by decide) (by decide) kl_L_13 (by decide +kernel) (fun qa => ?_)
      refine z_astore_n C dL_free_12 (by decide) rfl ?_
      refine z_iconst C (1 : Int32) dL_free_13 (by decide) ?_
      refine z_heap (h' := pC E (hup h0 oa (oO E o)) x q.2.1) (by rw [hup_same ho]) ?_
      exact z_catchR C (Nat.le_refl _) (Nat.le_refl _) dL_free_14 rfl
    · replace hf := iN e0 hf
      cases hf
def f_L_deal (n : Nat) (c : CS) (x1 : Int32) (y2 : Int64) (o : Nat → Int64) : Option (Int32 × CS × (Nat → Int64)) :=
  (f_X5_deal n c x1 y2).bind (fun r => if r.1 = 0 then some ((0 : Int32), r.2.1, vp_updL o (0 : Int32).toNatClampNeg r.2.2.toInt64) else if r.1 = 1 then some ((1 : Int32), r.2.1, o) else none)
set_option maxRecDepth 100000 in
set_option maxHeartbeats 4000000 in
theorem ct_L_deal {E : zE} {l : Launch} {h0 : Hp} {x oa : Nat} {n : Nat} {c : CS} {x1 : Int32} {y2 : Int64} {o : Nat → Int64} {r : Int32 × CS × (Nat → Int64)} (ho : h0 oa = some (oO E o)) (hap : oa < x ∨ x + 223 ≤ oa) (hst : l.stackTraces = false) (hf : f_L_deal n c x1 y2 o = some r) : zMW E l 7 yL_deal cL_deal 6 [(0, 11, 14, 13)] [.ref x, .int x1, .long y2, .ref oa] (pC E h0 x c) r.1 (pC E (hup h0 oa (oO E r.2.2)) x r.2.1) := by
  refine zMW_of (lv := [(0, .ref x), (1, .int x1), (2, .long y2), (4, .ref oa)]) (by decide +kernel) (Nat.le_of_ble_eq_true rfl) rfl (fun X hX C htab hR => ?_)
  subst hX
  replace C : zC E X RL cL_deal 6 (some .int) 7 := C
  unfold f_L_deal at hf
  obtain ⟨q, hq, hf⟩ := bd_some hf
  refine z_aload C dL_deal_0 3 rfl ?_
  refine z_iconst C (0 : Int32) dL_deal_2 (by decide) ?_
  refine z_aload_n C dL_deal_3 0 rfl ?_
  refine z_iload_n C dL_deal_4 1 rfl ?_
  refine z_lload_n C dL_deal_5 2 rfl ?_
  refine z_callX (Cn := RX5) (T := TX5) (N := 6) (ci := 5) C 9 [.int x1, .long y2] [.int 0, .ref oa] (ct_X5_deal hst hq) co_X5_deal ml_L_42 im_X5_deal se_X5_deal ini_X5 rfl pC_o ⟨rfl, by decide +kernel, by decide +kernel, by show _ = some 2; decide +kernel⟩ (by decide) (by decide) rfl (Nat.le_of_ble_eq_true rfl) (by rw [hR]; exact ⟨Nat.le_refl _, Nat.le_refl _⟩) rfl dL_deal_6 (fun hk0 => ?_) (fun hne => ?_)
  · replace hf := ip hk0 hf
    obtain rfl := Option.some.inj hf
    refine z_i2l C dL_deal_9 ?_
    refine z_last C ((pC_out hap).trans ho) (by unfold vp_in; decide) dL_deal_10 (pC E (hup h0 oa (oO E (vp_updL o (0 : Int32).toNatClampNeg q.2.2.toInt64))) x q.2.1) (pC_hup hap) ?_
    refine z_goto C 18 dL_deal_11 (by decide) ?_
    refine z_iconst C (0 : Int32) dL_deal_18 (by decide) ?_
    exact z_catchR C (Nat.le_refl _) (Nat.le_refl _) dL_deal_19 rfl
  · replace hf := iN hne hf
    by_cases e0 : q.1 = 1
    · replace hf := ip e0 hf
      obtain rfl := Option.some.inj hf
      rw [e0, show exN (1 : Int32) = "java/lang/IllegalArgumentException" by decide +kernel]
      refine z_catch1 C htab (0, 11, 14, 13) _ rfl (by decide) (by decide) kl_L_13 (by decide +kernel) (fun qa => ?_)
      refine z_astore C dL_deal_14 (by decide) rfl ?_
      refine z_iconst C (1 : Int32) dL_deal_16 (by decide) ?_
      refine z_heap (h' := pC E (hup h0 oa (oO E o)) x q.2.1) (by rw [hup_same ho]) ?_
      exact z_catchR C (Nat.le_refl _) (Nat.le_refl _) dL_deal_17 rfl
    · replace hf := iN e0 hf
      cases hf
def f_L_play (n : Nat) (c : CS) (x1 : Int32) (x2 : Int32) (o : Nat → Int64) : Option (Int32 × CS × (Nat → Int64)) :=
  (f_X5_play n c x1 x2).bind (fun r => if r.1 = 0 then some ((0 : Int32), r.2.1, vp_updL o (0 : Int32).toNatClampNeg r.2.2.toInt64) else if r.1 = 3 then some ((1 : Int32), r.2.1, o) else if r.1 = 2 then some ((2 : Int32), r.2.1, o) else none)
set_option maxRecDepth 100000 in
set_option maxHeartbeats 4000000 in
theorem ct_L_play {E : zE} {l : Launch} {h0 : Hp} {x oa : Nat} {n : Nat} {c : CS} {x1 : Int32} {x2 : Int32} {o : Nat → Int64} {r : Int32 × CS × (Nat → Int64)} (ho : h0 oa = some (oO E o)) (hap : oa < x ∨ x + 223 ≤ oa) (hst : l.stackTraces = false) (hf : f_L_play n c x1 x2 o = some r) : zMW E l 7 yL_play cL_play 5 [(0, 10, 13, 28), (0, 10, 17, 15)] [.ref x, .int x1, .int x2, .ref oa] (pC E h0 x c) r.1 (pC E (hup h0 oa (oO E r.2.2)) x r.2.1) := by
  refine zMW_of (lv := [(0, .ref x), (1, .int x1), (2, .int x2), (3, .ref oa)]) (by decide +kernel) (Nat.le_of_ble_eq_true rfl) rfl (fun X hX C htab hR => ?_)
  subst hX
  replace C : zC E X RL cL_play 5 (some .int) 7 := C
  unfold f_L_play at hf
  obtain ⟨q, hq, hf⟩ := bd_some hf
  refine z_aload_n C dL_play_0 3 rfl ?_
  refine z_iconst C (0 : Int32) dL_play_1 (by decide) ?_
  refine z_aload_n C dL_play_2 0 rfl ?_
  refine z_iload_n C dL_play_3 1 rfl ?_
  refine z_iload_n C dL_play_4 2 rfl ?_
  refine z_callX (Cn := RX5) (T := TX5) (N := 6) (ci := 5) C 8 [.int x1, .int x2] [.int 0, .ref oa] (ct_X5_play hst hq) co_X5_play ml_L_46 im_X5_play se_X5_play ini_X5 rfl pC_o ⟨rfl, by decide +kernel, by decide +kernel, by show _ = some 2; decide +kernel⟩ (by decide) (by decide) rfl (Nat.le_of_ble_eq_true rfl) (by rw [hR]; exact ⟨Nat.le_refl _, Nat.le_refl _⟩) rfl dL_play_5 (fun hk0 => ?_) (fun hne => ?_)
  · replace hf := ip hk0 hf
    obtain rfl := Option.some.inj hf
    refine z_i2l C dL_play_8 ?_
    refine z_last C ((pC_out hap).trans ho) (by unfold vp_in; decide) dL_play_9 (pC E (hup h0 oa (oO E (vp_updL o (0 : Int32).toNatClampNeg q.2.2.toInt64))) x q.2.1) (pC_hup hap) ?_
    refine z_goto C 21 dL_play_10 (by decide) ?_
    refine z_iconst C (0 : Int32) dL_play_21 (by decide) ?_
    exact z_catchR C (Nat.le_refl _) (Nat.le_refl _) dL_play_22 rfl
  · replace hf := iN hne hf
    by_cases e0 : q.1 = 3
    · replace hf := ip e0 hf
      obtain rfl := Option.some.inj hf
      rw [e0, show exN (3 : Int32) = "java/lang/IndexOutOfBoundsException" by decide +kernel]
      refine z_catch1 C htab (0, 10, 13, 28) _ rfl (by decide) (by decide) kl_L_28 (by decide +kernel) (fun qa => ?_)
      refine z_astore C dL_play_13 (by decide) rfl ?_
      refine z_iconst C (1 : Int32) dL_play_15 (by decide) ?_
      refine z_heap (h' := pC E (hup h0 oa (oO E o)) x q.2.1) (by rw [hup_same ho]) ?_
      exact z_catchR C (Nat.le_refl _) (Nat.le_refl _) dL_play_16 rfl
    · replace hf := iN e0 hf
      by_cases e1 : q.1 = 2
      · replace hf := ip e1 hf
        obtain rfl := Option.some.inj hf
        rw [e1, show exN (2 : Int32) = "java/lang/IllegalStateException" by decide +kernel]
        refine z_catch2 (nm := "java/lang/IndexOutOfBoundsException") C htab (0, 10, 13, 28) (0, 10, 17, 15) _ rfl (by decide) kl_L_28 (by decide +kernel) (by decide) (by decide) kl_L_15 (by decide +kernel) (fun qa => ?_)
        refine z_astore C dL_play_17 (by decide) rfl ?_
        refine z_iconst C (2 : Int32) dL_play_19 (by decide) ?_
        refine z_heap (h' := pC E (hup h0 oa (oO E o)) x q.2.1) (by rw [hup_same ho]) ?_
        exact z_catchR C (Nat.le_refl _) (Nat.le_refl _) dL_play_20 rfl
      · replace hf := iN e1 hf
        cases hf
def f_L_draw (c : CS) (o : Nat → Int64) : Option (Int32 × CS × (Nat → Int64)) :=
  (f_X5_draw c).bind (fun r => if r.1 = 0 then some ((0 : Int32), r.2.1, vp_updL o (0 : Int32).toNatClampNeg r.2.2.toInt64) else if r.1 = 2 then some ((1 : Int32), r.2.1, o) else none)
set_option maxRecDepth 100000 in
set_option maxHeartbeats 4000000 in
theorem ct_L_draw {E : zE} {l : Launch} {h0 : Hp} {x oa : Nat} {c : CS} {o : Nat → Int64} {r : Int32 × CS × (Nat → Int64)} (ho : h0 oa = some (oO E o)) (hap : oa < x ∨ x + 223 ≤ oa) (hst : l.stackTraces = false) (hf : f_L_draw c o = some r) : zMW E l 7 yL_draw cL_draw 3 [(0, 8, 11, 15)] [.ref x, .ref oa] (pC E h0 x c) r.1 (pC E (hup h0 oa (oO E r.2.2)) x r.2.1) := by
  refine zMW_of (lv := [(0, .ref x), (1, .ref oa)]) (by decide +kernel) (Nat.le_of_ble_eq_true rfl) rfl (fun X hX C htab hR => ?_)
  subst hX
  replace C : zC E X RL cL_draw 3 (some .int) 7 := C
  unfold f_L_draw at hf
  obtain ⟨q, hq, hf⟩ := bd_some hf
  refine z_aload_n C dL_draw_0 1 rfl ?_
  refine z_iconst C (0 : Int32) dL_draw_1 (by decide) ?_
  refine z_aload_n C dL_draw_2 0 rfl ?_
  refine z_callX (Cn := RX5) (T := TX5) (N := 6) (ci := 5) C 6 [] [.int 0, .ref oa] (ct_X5_draw hst hq) co_X5_draw ml_L_50 im_X5_draw se_X5_draw ini_X5 rfl pC_o ⟨rfl, by decide +kernel, by decide +kernel, by show _ = some 0; decide +kernel⟩ (by decide) (by decide) rfl (Nat.le_of_ble_eq_true rfl) (by rw [hR]; exact ⟨Nat.le_refl _, Nat.le_refl _⟩) rfl dL_draw_3 (fun hk0 => ?_) (fun hne => ?_)
  · replace hf := ip hk0 hf
    obtain rfl := Option.some.inj hf
    refine z_i2l C dL_draw_6 ?_
    refine z_last C ((pC_out hap).trans ho) (by unfold vp_in; decide) dL_draw_7 (pC E (hup h0 oa (oO E (vp_updL o (0 : Int32).toNatClampNeg q.2.2.toInt64))) x q.2.1) (pC_hup hap) ?_
    refine z_goto C 14 dL_draw_8 (by decide) ?_
    refine z_iconst C (0 : Int32) dL_draw_14 (by decide) ?_
    exact z_catchR C (Nat.le_refl _) (Nat.le_refl _) dL_draw_15 rfl
  · replace hf := iN hne hf
    by_cases e0 : q.1 = 2
    · replace hf := ip e0 hf
      obtain rfl := Option.some.inj hf
      rw [e0, show exN (2 : Int32) = "java/lang/IllegalStateException" by decide +kernel]
      refine z_catch1 C htab (0, 8, 11, 15) _ rfl (by decide) (by decide) kl_L_15 (by decide +kernel) (fun qa => ?_)
      refine z_astore_n C dL_draw_11 (by decide) rfl ?_
      refine z_iconst C (1 : Int32) dL_draw_12 (by decide) ?_
      refine z_heap (h' := pC E (hup h0 oa (oO E o)) x q.2.1) (by rw [hup_same ho]) ?_
      exact z_catchR C (Nat.le_refl _) (Nat.le_refl _) dL_draw_13 rfl
    · replace hf := iN e0 hf
      cases hf
def f_L_pass (n : Nat) (c : CS) (o : Nat → Int64) : Option (Int32 × CS × (Nat → Int64)) :=
  (f_X5_pass n c).bind (fun r => if r.1 = 0 then some ((0 : Int32), r.2.1, vp_updL o (0 : Int32).toNatClampNeg r.2.2.toInt64) else if r.1 = 2 then some ((1 : Int32), r.2.1, o) else none)
set_option maxRecDepth 100000 in
set_option maxHeartbeats 4000000 in
theorem ct_L_pass {E : zE} {l : Launch} {h0 : Hp} {x oa : Nat} {n : Nat} {c : CS} {o : Nat → Int64} {r : Int32 × CS × (Nat → Int64)} (ho : h0 oa = some (oO E o)) (hap : oa < x ∨ x + 223 ≤ oa) (hst : l.stackTraces = false) (hf : f_L_pass n c o = some r) : zMW E l 7 yL_pass cL_pass 3 [(0, 8, 11, 15)] [.ref x, .ref oa] (pC E h0 x c) r.1 (pC E (hup h0 oa (oO E r.2.2)) x r.2.1) := by
  refine zMW_of (lv := [(0, .ref x), (1, .ref oa)]) (by decide +kernel) (Nat.le_of_ble_eq_true rfl) rfl (fun X hX C htab hR => ?_)
  subst hX
  replace C : zC E X RL cL_pass 3 (some .int) 7 := C
  unfold f_L_pass at hf
  obtain ⟨q, hq, hf⟩ := bd_some hf
  refine z_aload_n C dL_pass_0 1 rfl ?_
  refine z_iconst C (0 : Int32) dL_pass_1 (by decide) ?_
  refine z_aload_n C dL_pass_2 0 rfl ?_
  refine z_callX (Cn := RX5) (T := TX5) (N := 6) (ci := 5) C 6 [] [.int 0, .ref oa] (ct_X5_pass hst hq) co_X5_pass ml_L_53 im_X5_pass se_X5_pass ini_X5 rfl pC_o ⟨rfl, by decide +kernel, by decide +kernel, by show _ = some 0; decide +kernel⟩ (by decide) (by decide) rfl (Nat.le_of_ble_eq_true rfl) (by rw [hR]; exact ⟨Nat.le_refl _, Nat.le_refl _⟩) rfl dL_pass_3 (fun hk0 => ?_) (fun hne => ?_)
  · replace hf := ip hk0 hf
    obtain rfl := Option.some.inj hf
    refine z_i2l C dL_pass_6 ?_
    refine z_last C ((pC_out hap).trans ho) (by unfold vp_in; decide) dL_pass_7 (pC E (hup h0 oa (oO E (vp_updL o (0 : Int32).toNatClampNeg q.2.2.toInt64))) x q.2.1) (pC_hup hap) ?_
    refine z_goto C 14 dL_pass_8 (by decide) ?_
    refine z_iconst C (0 : Int32) dL_pass_14 (by decide) ?_
    exact z_catchR C (Nat.le_refl _) (Nat.le_refl _) dL_pass_15 rfl
  · replace hf := iN hne hf
    by_cases e0 : q.1 = 2
    · replace hf := ip e0 hf
      obtain rfl := Option.some.inj hf
      rw [e0, show exN (2 : Int32) = "java/lang/IllegalStateException" by decide +kernel]
      refine z_catch1 C htab (0, 8, 11, 15) _ rfl (by decide) (by decide) kl_L_15 (by decide +kernel) (fun qa => ?_)
      refine z_astore_n C dL_pass_11 (by decide) rfl ?_
      refine z_iconst C (1 : Int32) dL_pass_12 (by decide) ?_
      refine z_heap (h' := pC E (hup h0 oa (oO E o)) x q.2.1) (by rw [hup_same ho]) ?_
      exact z_catchR C (Nat.le_refl _) (Nat.le_refl _) dL_pass_13 rfl
    · replace hf := iN e0 hf
      cases hf
def f_L_undo (c : CS) (o : Nat → Int64) : Option (Int32 × CS × (Nat → Int64)) :=
  (f_X5_undo c).bind (fun r => if r.1 = 0 then some ((0 : Int32), r.2.1, vp_updL o (0 : Int32).toNatClampNeg r.2.2.toInt64) else if r.1 = 2 then some ((1 : Int32), r.2.1, o) else none)
set_option maxRecDepth 100000 in
set_option maxHeartbeats 4000000 in
theorem ct_L_undo {E : zE} {l : Launch} {h0 : Hp} {x oa : Nat} {c : CS} {o : Nat → Int64} {r : Int32 × CS × (Nat → Int64)} (ho : h0 oa = some (oO E o)) (hap : oa < x ∨ x + 223 ≤ oa) (hst : l.stackTraces = false) (hf : f_L_undo c o = some r) : zMW E l 7 yL_undo cL_undo 3 [(0, 8, 11, 15)] [.ref x, .ref oa] (pC E h0 x c) r.1 (pC E (hup h0 oa (oO E r.2.2)) x r.2.1) := by
  refine zMW_of (lv := [(0, .ref x), (1, .ref oa)]) (by decide +kernel) (Nat.le_of_ble_eq_true rfl) rfl (fun X hX C htab hR => ?_)
  subst hX
  replace C : zC E X RL cL_undo 3 (some .int) 7 := C
  unfold f_L_undo at hf
  obtain ⟨q, hq, hf⟩ := bd_some hf
  refine z_aload_n C dL_undo_0 1 rfl ?_
  refine z_iconst C (0 : Int32) dL_undo_1 (by decide) ?_
  refine z_aload_n C dL_undo_2 0 rfl ?_
  refine z_callX (Cn := RX5) (T := TX5) (N := 6) (ci := 5) C 6 [] [.int 0, .ref oa] (ct_X5_undo hst hq) co_X5_undo ml_L_56 im_X5_undo se_X5_undo ini_X5 rfl pC_o ⟨rfl, by decide +kernel, by decide +kernel, by show _ = some 0; decide +kernel⟩ (by decide) (by decide) rfl (Nat.le_of_ble_eq_true rfl) (by rw [hR]; exact ⟨Nat.le_refl _, Nat.le_refl _⟩) rfl dL_undo_3 (fun hk0 => ?_) (fun hne => ?_)
  · replace hf := ip hk0 hf
    obtain rfl := Option.some.inj hf
    refine z_i2l C dL_undo_6 ?_
    refine z_last C ((pC_out hap).trans ho) (by unfold vp_in; decide) dL_undo_7 (pC E (hup h0 oa (oO E (vp_updL o (0 : Int32).toNatClampNeg q.2.2.toInt64))) x q.2.1) (pC_hup hap) ?_
    refine z_goto C 14 dL_undo_8 (by decide) ?_
    refine z_iconst C (0 : Int32) dL_undo_14 (by decide) ?_
    exact z_catchR C (Nat.le_refl _) (Nat.le_refl _) dL_undo_15 rfl
  · replace hf := iN hne hf
    by_cases e0 : q.1 = 2
    · replace hf := ip e0 hf
      obtain rfl := Option.some.inj hf
      rw [e0, show exN (2 : Int32) = "java/lang/IllegalStateException" by decide +kernel]
      refine z_catch1 C htab (0, 8, 11, 15) _ rfl (by decide) (by decide) kl_L_15 (by decide +kernel) (fun qa => ?_)
      refine z_astore_n C dL_undo_11 (by decide) rfl ?_
      refine z_iconst C (1 : Int32) dL_undo_12 (by decide) ?_
      refine z_heap (h' := pC E (hup h0 oa (oO E o)) x q.2.1) (by rw [hup_same ho]) ?_
      exact z_catchR C (Nat.le_refl _) (Nat.le_refl _) dL_undo_13 rfl
    · replace hf := iN e0 hf
      cases hf
def f_L_why (c : CS) (x1 : Int32) (o : Nat → Int64) : Option (Int32 × CS × (Nat → Int64)) :=
  (f_X5_why c x1).bind (fun r => if r.1 = 0 then some ((0 : Int32), r.2.1, vp_updL o (0 : Int32).toNatClampNeg r.2.2.toInt64) else if r.1 = 3 then some ((1 : Int32), r.2.1, o) else none)
set_option maxRecDepth 100000 in
set_option maxHeartbeats 4000000 in
theorem ct_L_why {E : zE} {l : Launch} {h0 : Hp} {x oa : Nat} {c : CS} {x1 : Int32} {o : Nat → Int64} {r : Int32 × CS × (Nat → Int64)} (ho : h0 oa = some (oO E o)) (hap : oa < x ∨ x + 223 ≤ oa) (hst : l.stackTraces = false) (hf : f_L_why c x1 o = some r) : zMW E l 7 yL_why cL_why 4 [(0, 9, 12, 28)] [.ref x, .int x1, .ref oa] (pC E h0 x c) r.1 (pC E (hup h0 oa (oO E r.2.2)) x r.2.1) := by
  refine zMW_of (lv := [(0, .ref x), (1, .int x1), (2, .ref oa)]) (by decide +kernel) (Nat.le_of_ble_eq_true rfl) rfl (fun X hX C htab hR => ?_)
  subst hX
  replace C : zC E X RL cL_why 4 (some .int) 7 := C
  unfold f_L_why at hf
  obtain ⟨q, hq, hf⟩ := bd_some hf
  refine z_aload_n C dL_why_0 2 rfl ?_
  refine z_iconst C (0 : Int32) dL_why_1 (by decide) ?_
  refine z_aload_n C dL_why_2 0 rfl ?_
  refine z_iload_n C dL_why_3 1 rfl ?_
  refine z_callX (Cn := RX5) (T := TX5) (N := 6) (ci := 5) C 7 [.int x1] [.int 0, .ref oa] (ct_X5_why hst hq) co_X5_why ml_L_59 im_X5_why se_X5_why ini_X5 rfl pC_o ⟨rfl, by decide +kernel, by decide +kernel, by show _ = some 1; decide +kernel⟩ (by decide) (by decide) rfl (Nat.le_of_ble_eq_true rfl) (by rw [hR]; exact ⟨Nat.le_refl _, Nat.le_refl _⟩) rfl dL_why_4 (fun hk0 => ?_) (fun hne => ?_)
  · replace hf := ip hk0 hf
    obtain rfl := Option.some.inj hf
    refine z_i2l C dL_why_7 ?_
    refine z_last C ((pC_out hap).trans ho) (by unfold vp_in; decide) dL_why_8 (pC E (hup h0 oa (oO E (vp_updL o (0 : Int32).toNatClampNeg q.2.2.toInt64))) x q.2.1) (pC_hup hap) ?_
    refine z_goto C 15 dL_why_9 (by decide) ?_
    refine z_iconst C (0 : Int32) dL_why_15 (by decide) ?_
    exact z_catchR C (Nat.le_refl _) (Nat.le_refl _) dL_why_16 rfl
  · replace hf := iN hne hf
    by_cases e0 : q.1 = 3
    · replace hf := ip e0 hf
      obtain rfl := Option.some.inj hf
      rw [e0, show exN (3 : Int32) = "java/lang/IndexOutOfBoundsException" by decide +kernel]
      refine z_catch1 C htab (0, 9, 12, 28) _ rfl (by decide) (by decide) kl_L_28 (by decide +kernel) (fun qa => ?_)
      refine z_astore_n C dL_why_12 (by decide) rfl ?_
      refine z_iconst C (1 : Int32) dL_why_13 (by decide) ?_
      refine z_heap (h' := pC E (hup h0 oa (oO E o)) x q.2.1) (by rw [hup_same ho]) ?_
      exact z_catchR C (Nat.le_refl _) (Nat.le_refl _) dL_why_14 rfl
    · replace hf := iN e0 hf
      cases hf
def f_L_chain (n : Nat) (c : CS) (x1 : Int32) (x2 : Int32) (o : Nat → Int64) : Option (Int32 × CS × (Nat → Int64)) :=
  (f_X5_chain n c x1 x2).bind (fun r => if r.1 = 0 then some ((0 : Int32), r.2.1, vp_updL o (0 : Int32).toNatClampNeg r.2.2.toInt64) else if r.1 = 3 then some ((1 : Int32), r.2.1, o) else if r.1 = 1 then some ((2 : Int32), r.2.1, o) else none)
set_option maxRecDepth 100000 in
set_option maxHeartbeats 4000000 in
theorem ct_L_chain {E : zE} {l : Launch} {h0 : Hp} {x oa : Nat} {n : Nat} {c : CS} {x1 : Int32} {x2 : Int32} {o : Nat → Int64} {r : Int32 × CS × (Nat → Int64)} (ho : h0 oa = some (oO E o)) (hap : oa < x ∨ x + 223 ≤ oa) (hst : l.stackTraces = false) (hf : f_L_chain n c x1 x2 o = some r) : zMW E l 15 yL_chain cL_chain 5 [(0, 10, 13, 28), (0, 10, 17, 13)] [.ref x, .int x1, .int x2, .ref oa] (pC E h0 x c) r.1 (pC E (hup h0 oa (oO E r.2.2)) x r.2.1) := by
  refine zMW_of (lv := [(0, .ref x), (1, .int x1), (2, .int x2), (3, .ref oa)]) (by decide +kernel) (Nat.le_of_ble_eq_true rfl) rfl (fun X hX C htab hR => ?_)
  subst hX
  replace C : zC E X RL cL_chain 5 (some .int) 15 := C
  unfold f_L_chain at hf
  obtain ⟨q, hq, hf⟩ := bd_some hf
  refine z_aload_n C dL_chain_0 3 rfl ?_
  refine z_iconst C (0 : Int32) dL_chain_1 (by decide) ?_
  refine z_aload_n C dL_chain_2 0 rfl ?_
  refine z_iload_n C dL_chain_3 1 rfl ?_
  refine z_iload_n C dL_chain_4 2 rfl ?_
  refine z_callX (Cn := RX5) (T := TX5) (N := 6) (ci := 5) C 8 [.int x1, .int x2] [.int 0, .ref oa] (ct_X5_chain hst hq) co_X5_chain ml_L_62 im_X5_chain se_X5_chain ini_X5 rfl pC_o ⟨rfl, by decide +kernel, by decide +kernel, by show _ = some 2; decide +kernel⟩ (by decide) (by decide) rfl (Nat.le_of_ble_eq_true rfl) (by rw [hR]; exact ⟨Nat.le_refl _, Nat.le_refl _⟩) rfl dL_chain_5 (fun hk0 => ?_) (fun hne => ?_)
  · replace hf := ip hk0 hf
    obtain rfl := Option.some.inj hf
    refine z_i2l C dL_chain_8 ?_
    refine z_last C ((pC_out hap).trans ho) (by unfold vp_in; decide) dL_chain_9 (pC E (hup h0 oa (oO E (vp_updL o (0 : Int32).toNatClampNeg q.2.2.toInt64))) x q.2.1) (pC_hup hap) ?_
    refine z_goto C 21 dL_chain_10 (by decide) ?_
    refine z_iconst C (0 : Int32) dL_chain_21 (by decide) ?_
    exact z_catchR C (Nat.le_refl _) (Nat.le_refl _) dL_chain_22 rfl
  · replace hf := iN hne hf
    by_cases e0 : q.1 = 3
    · replace hf := ip e0 hf
      obtain rfl := Option.some.inj hf
      rw [e0, show exN (3 : Int32) = "java/lang/IndexOutOfBoundsException" by decide +kernel]
      refine z_catch1 C htab (0, 10, 13, 28) _ rfl (by decide) (by decide) kl_L_28 (by decide +kernel) (fun qa => ?_)
      refine z_astore C dL_chain_13 (by decide) rfl ?_
      refine z_iconst C (1 : Int32) dL_chain_15 (by decide) ?_
      refine z_heap (h' := pC E (hup h0 oa (oO E o)) x q.2.1) (by rw [hup_same ho]) ?_
      exact z_catchR C (Nat.le_refl _) (Nat.le_refl _) dL_chain_16 rfl
    · replace hf := iN e0 hf
      by_cases e1 : q.1 = 1
      · replace hf := ip e1 hf
        obtain rfl := Option.some.inj hf
        rw [e1, show exN (1 : Int32) = "java/lang/IllegalArgumentException" by decide +kernel]
        refine z_catch2 (nm := "java/lang/IndexOutOfBoundsException") C htab (0, 10, 13, 28) (0, 10, 17, 13) _ rfl (by decide) kl_L_28 (by decide +kernel) (by decide) (by decide) kl_L_13 (by decide +kernel) (fun qa => ?_)
        refine z_astore C dL_chain_17 (by decide) rfl ?_
        refine z_iconst C (2 : Int32) dL_chain_19 (by decide) ?_
        refine z_heap (h' := pC E (hup h0 oa (oO E o)) x q.2.1) (by rw [hup_same ho]) ?_
        exact z_catchR C (Nat.le_refl _) (Nat.le_refl _) dL_chain_20 rfl
      · replace hf := iN e1 hf
        cases hf
def f_L_reach (n : Nat) (c : CS) (x1 : Int32) (o : Nat → Int64) : Option (Int32 × CS × (Nat → Int64)) :=
  (f_X5_reach n c x1).bind (fun r => if r.1 = 0 then some ((0 : Int32), r.2.1, vp_updL o (0 : Int32).toNatClampNeg r.2.2.toInt64) else if r.1 = 1 then some ((1 : Int32), r.2.1, o) else none)
set_option maxRecDepth 100000 in
set_option maxHeartbeats 4000000 in
theorem ct_L_reach {E : zE} {l : Launch} {h0 : Hp} {x oa : Nat} {n : Nat} {c : CS} {x1 : Int32} {o : Nat → Int64} {r : Int32 × CS × (Nat → Int64)} (ho : h0 oa = some (oO E o)) (hap : oa < x ∨ x + 223 ≤ oa) (hst : l.stackTraces = false) (hf : f_L_reach n c x1 o = some r) : zMW E l 7 yL_reach cL_reach 4 [(0, 9, 12, 13)] [.ref x, .int x1, .ref oa] (pC E h0 x c) r.1 (pC E (hup h0 oa (oO E r.2.2)) x r.2.1) := by
  refine zMW_of (lv := [(0, .ref x), (1, .int x1), (2, .ref oa)]) (by decide +kernel) (Nat.le_of_ble_eq_true rfl) rfl (fun X hX C htab hR => ?_)
  subst hX
  replace C : zC E X RL cL_reach 4 (some .int) 7 := C
  unfold f_L_reach at hf
  obtain ⟨q, hq, hf⟩ := bd_some hf
  refine z_aload_n C dL_reach_0 2 rfl ?_
  refine z_iconst C (0 : Int32) dL_reach_1 (by decide) ?_
  refine z_aload_n C dL_reach_2 0 rfl ?_
  refine z_iload_n C dL_reach_3 1 rfl ?_
  refine z_callX (Cn := RX5) (T := TX5) (N := 6) (ci := 5) C 7 [.int x1] [.int 0, .ref oa] (ct_X5_reach hst hq) co_X5_reach ml_L_65 im_X5_reach se_X5_reach ini_X5 rfl pC_o ⟨rfl, by decide +kernel, by decide +kernel, by show _ = some 1; decide +kernel⟩ (by decide) (by decide) rfl (Nat.le_of_ble_eq_true rfl) (by rw [hR]; exact ⟨Nat.le_refl _, Nat.le_refl _⟩) rfl dL_reach_4 (fun hk0 => ?_) (fun hne => ?_)
  · replace hf := ip hk0 hf
    obtain rfl := Option.some.inj hf
    refine z_i2l C dL_reach_7 ?_
    refine z_last C ((pC_out hap).trans ho) (by unfold vp_in; decide) dL_reach_8 (pC E (hup h0 oa (oO E (vp_updL o (0 : Int32).toNatClampNeg q.2.2.toInt64))) x q.2.1) (pC_hup hap) ?_
    refine z_goto C 15 dL_reach_9 (by decide) ?_
    refine z_iconst C (0 : Int32) dL_reach_15 (by decide) ?_
    exact z_catchR C (Nat.le_refl _) (Nat.le_refl _) dL_reach_16 rfl
  · replace hf := iN hne hf
    by_cases e0 : q.1 = 1
    · replace hf := ip e0 hf
      obtain rfl := Option.some.inj hf
      rw [e0, show exN (1 : Int32) = "java/lang/IllegalArgumentException" by decide +kernel]
      refine z_catch1 C htab (0, 9, 12, 13) _ rfl (by decide) (by decide) kl_L_13 (by decide +kernel) (fun qa => ?_)
      refine z_astore_n C dL_reach_12 (by decide) rfl ?_
      refine z_iconst C (1 : Int32) dL_reach_13 (by decide) ?_
      refine z_heap (h' := pC E (hup h0 oa (oO E o)) x q.2.1) (by rw [hup_same ho]) ?_
      exact z_catchR C (Nat.le_refl _) (Nat.le_refl _) dL_reach_14 rfl
    · replace hf := iN e0 hf
      cases hf
def f_L_runScript (n : Nat) (c : CS) (x1 : Int32) (y2 : Int64) (o : Nat → Int64) : Option (Int32 × CS × (Nat → Int64)) :=
  (f_X5_runScript n c x1 y2).bind (fun r => if r.1 = 0 then some ((0 : Int32), r.2.1, vp_updL o (0 : Int32).toNatClampNeg r.2.2.toInt64) else if r.1 = 1 then some ((1 : Int32), r.2.1, o) else none)
set_option maxRecDepth 100000 in
set_option maxHeartbeats 4000000 in
theorem ct_L_runScript {E : zE} {l : Launch} {h0 : Hp} {x oa : Nat} {n : Nat} {c : CS} {x1 : Int32} {y2 : Int64} {o : Nat → Int64} {r : Int32 × CS × (Nat → Int64)} (ho : h0 oa = some (oO E o)) (hap : oa < x ∨ x + 223 ≤ oa) (hst : l.stackTraces = false) (hf : f_L_runScript n c x1 y2 o = some r) : zMW E l 8 yL_runScript cL_runScript 6 [(0, 11, 14, 13)] [.ref x, .int x1, .long y2, .ref oa] (pC E h0 x c) r.1 (pC E (hup h0 oa (oO E r.2.2)) x r.2.1) := by
  refine zMW_of (lv := [(0, .ref x), (1, .int x1), (2, .long y2), (4, .ref oa)]) (by decide +kernel) (Nat.le_of_ble_eq_true rfl) rfl (fun X hX C htab hR => ?_)
  subst hX
  replace C : zC E X RL cL_runScript 6 (some .int) 8 := C
  unfold f_L_runScript at hf
  obtain ⟨q, hq, hf⟩ := bd_some hf
  refine z_aload C dL_runScript_0 3 rfl ?_
  refine z_iconst C (0 : Int32) dL_runScript_2 (by decide) ?_
  refine z_aload_n C dL_runScript_3 0 rfl ?_
  refine z_iload_n C dL_runScript_4 1 rfl ?_
  refine z_lload_n C dL_runScript_5 2 rfl ?_
  refine z_callX (Cn := RX5) (T := TX5) (N := 6) (ci := 5) C 9 [.int x1, .long y2] [.int 0, .ref oa] (ct_X5_runScript hst hq) co_X5_runScript ml_L_68 im_X5_runScript se_X5_runScript ini_X5 rfl pC_o ⟨rfl, by decide +kernel, by decide +kernel, by show _ = some 2; decide +kernel⟩ (by decide) (by decide) rfl (Nat.le_of_ble_eq_true rfl) (by rw [hR]; exact ⟨Nat.le_refl _, Nat.le_refl _⟩) rfl dL_runScript_6 (fun hk0 => ?_) (fun hne => ?_)
  · replace hf := ip hk0 hf
    obtain rfl := Option.some.inj hf
    refine z_i2l C dL_runScript_9 ?_
    refine z_last C ((pC_out hap).trans ho) (by unfold vp_in; decide) dL_runScript_10 (pC E (hup h0 oa (oO E (vp_updL o (0 : Int32).toNatClampNeg q.2.2.toInt64))) x q.2.1) (pC_hup hap) ?_
    refine z_goto C 18 dL_runScript_11 (by decide) ?_
    refine z_iconst C (0 : Int32) dL_runScript_18 (by decide) ?_
    exact z_catchR C (Nat.le_refl _) (Nat.le_refl _) dL_runScript_19 rfl
  · replace hf := iN hne hf
    by_cases e0 : q.1 = 1
    · replace hf := ip e0 hf
      obtain rfl := Option.some.inj hf
      rw [e0, show exN (1 : Int32) = "java/lang/IllegalArgumentException" by decide +kernel]
      refine z_catch1 C htab (0, 11, 14, 13) _ rfl (by decide) (by decide) kl_L_13 (by decide +kernel) (fun qa => ?_)
      refine z_astore C dL_runScript_14 (by decide) rfl ?_
      refine z_iconst C (1 : Int32) dL_runScript_16 (by decide) ?_
      refine z_heap (h' := pC E (hup h0 oa (oO E o)) x q.2.1) (by rw [hup_same ho]) ?_
      exact z_catchR C (Nat.le_refl _) (Nat.le_refl _) dL_runScript_17 rfl
    · replace hf := iN e0 hf
      cases hf
def f_L_simulate (n : Nat) (c : CS) (y1 : Int64) (x3 : Int32) (o : Nat → Int64) : Option (Int32 × CS × (Nat → Int64)) :=
  (f_X5_simulate n c y1 x3).bind (fun r => if r.1 = 0 then some ((0 : Int32), r.2.1, vp_updL o (0 : Int32).toNatClampNeg r.2.2.toInt64) else if r.1 = 1 then some ((1 : Int32), r.2.1, o) else none)
set_option maxRecDepth 100000 in
set_option maxHeartbeats 4000000 in
theorem ct_L_simulate {E : zE} {l : Launch} {h0 : Hp} {x oa : Nat} {n : Nat} {c : CS} {y1 : Int64} {x3 : Int32} {o : Nat → Int64} {r : Int32 × CS × (Nat → Int64)} (ho : h0 oa = some (oO E o)) (hap : oa < x ∨ x + 223 ≤ oa) (hst : l.stackTraces = false) (hf : f_L_simulate n c y1 x3 o = some r) : zMW E l 7 yL_simulate cL_simulate 6 [(0, 11, 14, 13)] [.ref x, .long y1, .int x3, .ref oa] (pC E h0 x c) r.1 (pC E (hup h0 oa (oO E r.2.2)) x r.2.1) := by
  refine zMW_of (lv := [(0, .ref x), (1, .long y1), (3, .int x3), (4, .ref oa)]) (by decide +kernel) (Nat.le_of_ble_eq_true rfl) rfl (fun X hX C htab hR => ?_)
  subst hX
  replace C : zC E X RL cL_simulate 6 (some .int) 7 := C
  unfold f_L_simulate at hf
  obtain ⟨q, hq, hf⟩ := bd_some hf
  refine z_aload C dL_simulate_0 3 rfl ?_
  refine z_iconst C (0 : Int32) dL_simulate_2 (by decide) ?_
  refine z_aload_n C dL_simulate_3 0 rfl ?_
  refine z_lload_n C dL_simulate_4 1 rfl ?_
  refine z_iload_n C dL_simulate_5 2 rfl ?_
  refine z_callX (Cn := RX5) (T := TX5) (N := 6) (ci := 5) C 9 [.long y1, .int x3] [.int 0, .ref oa] (ct_X5_simulate hst hq) co_X5_simulate ml_L_71 im_X5_simulate se_X5_simulate ini_X5 rfl pC_o ⟨rfl, by decide +kernel, by decide +kernel, by show _ = some 2; decide +kernel⟩ (by decide) (by decide) rfl (Nat.le_of_ble_eq_true rfl) (by rw [hR]; exact ⟨Nat.le_refl _, Nat.le_refl _⟩) rfl dL_simulate_6 (fun hk0 => ?_) (fun hne => ?_)
  · replace hf := ip hk0 hf
    obtain rfl := Option.some.inj hf
    refine z_i2l C dL_simulate_9 ?_
    refine z_last C ((pC_out hap).trans ho) (by unfold vp_in; decide) dL_simulate_10 (pC E (hup h0 oa (oO E (vp_updL o (0 : Int32).toNatClampNeg q.2.2.toInt64))) x q.2.1) (pC_hup hap) ?_
    refine z_goto C 18 dL_simulate_11 (by decide) ?_
    refine z_iconst C (0 : Int32) dL_simulate_18 (by decide) ?_
    exact z_catchR C (Nat.le_refl _) (Nat.le_refl _) dL_simulate_19 rfl
  · replace hf := iN hne hf
    by_cases e0 : q.1 = 1
    · replace hf := ip e0 hf
      obtain rfl := Option.some.inj hf
      rw [e0, show exN (1 : Int32) = "java/lang/IllegalArgumentException" by decide +kernel]
      refine z_catch1 C htab (0, 11, 14, 13) _ rfl (by decide) (by decide) kl_L_13 (by decide +kernel) (fun qa => ?_)
      refine z_astore C dL_simulate_14 (by decide) rfl ?_
      refine z_iconst C (1 : Int32) dL_simulate_16 (by decide) ?_
      refine z_heap (h' := pC E (hup h0 oa (oO E o)) x q.2.1) (by rw [hup_same ho]) ?_
      exact z_catchR C (Nat.le_refl _) (Nat.le_refl _) dL_simulate_17 rfl
    · replace hf := iN e0 hf
      cases hf
def f_L_save (c : CS) (x1 : Int32) (o : Nat → Int64) : Option (Int32 × CS × (Nat → Int64)) :=
  (f_X5_save c x1).bind (fun r => if r.1 = 0 then some ((0 : Int32), r.2.1, vp_updL o (0 : Int32).toNatClampNeg r.2.2.toInt64) else if r.1 = 3 then some ((1 : Int32), r.2.1, o) else none)
set_option maxRecDepth 100000 in
set_option maxHeartbeats 4000000 in
theorem ct_L_save {E : zE} {l : Launch} {h0 : Hp} {x oa : Nat} {c : CS} {x1 : Int32} {o : Nat → Int64} {r : Int32 × CS × (Nat → Int64)} (ho : h0 oa = some (oO E o)) (hap : oa < x ∨ x + 223 ≤ oa) (hst : l.stackTraces = false) (hf : f_L_save c x1 o = some r) : zMW E l 7 yL_save cL_save 4 [(0, 9, 12, 28)] [.ref x, .int x1, .ref oa] (pC E h0 x c) r.1 (pC E (hup h0 oa (oO E r.2.2)) x r.2.1) := by
  refine zMW_of (lv := [(0, .ref x), (1, .int x1), (2, .ref oa)]) (by decide +kernel) (Nat.le_of_ble_eq_true rfl) rfl (fun X hX C htab hR => ?_)
  subst hX
  replace C : zC E X RL cL_save 4 (some .int) 7 := C
  unfold f_L_save at hf
  obtain ⟨q, hq, hf⟩ := bd_some hf
  refine z_aload_n C dL_save_0 2 rfl ?_
  refine z_iconst C (0 : Int32) dL_save_1 (by decide) ?_
  refine z_aload_n C dL_save_2 0 rfl ?_
  refine z_iload_n C dL_save_3 1 rfl ?_
  refine z_callX (Cn := RX5) (T := TX5) (N := 6) (ci := 5) C 7 [.int x1] [.int 0, .ref oa] (ct_X5_save hst hq) co_X5_save ml_L_75 im_X5_save se_X5_save ini_X5 rfl pC_o ⟨rfl, by decide +kernel, by decide +kernel, by show _ = some 1; decide +kernel⟩ (by decide) (by decide) rfl (Nat.le_of_ble_eq_true rfl) (by rw [hR]; exact ⟨Nat.le_refl _, Nat.le_refl _⟩) rfl dL_save_4 (fun hk0 => ?_) (fun hne => ?_)
  · replace hf := ip hk0 hf
    obtain rfl := Option.some.inj hf
    refine z_i2l C dL_save_7 ?_
    refine z_last C ((pC_out hap).trans ho) (by unfold vp_in; decide) dL_save_8 (pC E (hup h0 oa (oO E (vp_updL o (0 : Int32).toNatClampNeg q.2.2.toInt64))) x q.2.1) (pC_hup hap) ?_
    refine z_goto C 15 dL_save_9 (by decide) ?_
    refine z_iconst C (0 : Int32) dL_save_15 (by decide) ?_
    exact z_catchR C (Nat.le_refl _) (Nat.le_refl _) dL_save_16 rfl
  · replace hf := iN hne hf
    by_cases e0 : q.1 = 3
    · replace hf := ip e0 hf
      obtain rfl := Option.some.inj hf
      rw [e0, show exN (3 : Int32) = "java/lang/IndexOutOfBoundsException" by decide +kernel]
      refine z_catch1 C htab (0, 9, 12, 28) _ rfl (by decide) (by decide) kl_L_28 (by decide +kernel) (fun qa => ?_)
      refine z_astore_n C dL_save_12 (by decide) rfl ?_
      refine z_iconst C (1 : Int32) dL_save_13 (by decide) ?_
      refine z_heap (h' := pC E (hup h0 oa (oO E o)) x q.2.1) (by rw [hup_same ho]) ?_
      exact z_catchR C (Nat.le_refl _) (Nat.le_refl _) dL_save_14 rfl
    · replace hf := iN e0 hf
      cases hf
def f_L_restore (c : CS) (x1 : Int32) (o : Nat → Int64) : Option (Int32 × CS × (Nat → Int64)) :=
  (f_X5_restore c x1).bind (fun r => if r.1 = 0 then some ((0 : Int32), r.2.1, vp_updL o (0 : Int32).toNatClampNeg r.2.2.toInt64) else if r.1 = 3 then some ((1 : Int32), r.2.1, o) else if r.1 = 2 then some ((2 : Int32), r.2.1, o) else none)
set_option maxRecDepth 100000 in
set_option maxHeartbeats 4000000 in
theorem ct_L_restore {E : zE} {l : Launch} {h0 : Hp} {x oa : Nat} {c : CS} {x1 : Int32} {o : Nat → Int64} {r : Int32 × CS × (Nat → Int64)} (ho : h0 oa = some (oO E o)) (hap : oa < x ∨ x + 223 ≤ oa) (hst : l.stackTraces = false) (hf : f_L_restore c x1 o = some r) : zMW E l 7 yL_restore cL_restore 4 [(0, 9, 12, 28), (0, 9, 15, 15)] [.ref x, .int x1, .ref oa] (pC E h0 x c) r.1 (pC E (hup h0 oa (oO E r.2.2)) x r.2.1) := by
  refine zMW_of (lv := [(0, .ref x), (1, .int x1), (2, .ref oa)]) (by decide +kernel) (Nat.le_of_ble_eq_true rfl) rfl (fun X hX C htab hR => ?_)
  subst hX
  replace C : zC E X RL cL_restore 4 (some .int) 7 := C
  unfold f_L_restore at hf
  obtain ⟨q, hq, hf⟩ := bd_some hf
  refine z_aload_n C dL_restore_0 2 rfl ?_
  refine z_iconst C (0 : Int32) dL_restore_1 (by decide) ?_
  refine z_aload_n C dL_restore_2 0 rfl ?_
  refine z_iload_n C dL_restore_3 1 rfl ?_
  refine z_callX (Cn := RX5) (T := TX5) (N := 6) (ci := 5) C 7 [.int x1] [.int 0, .ref oa] (ct_X5_restore hst hq) co_X5_restore ml_L_78 im_X5_restore se_X5_restore ini_X5 rfl pC_o ⟨rfl, by decide +kernel, by decide +kernel, by show _ = some 1; decide +kernel⟩ (by decide) (by decide) rfl (Nat.le_of_ble_eq_true rfl) (by rw [hR]; exact ⟨Nat.le_refl _, Nat.le_refl _⟩) rfl dL_restore_4 (fun hk0 => ?_) (fun hne => ?_)
  · replace hf := ip hk0 hf
    obtain rfl := Option.some.inj hf
    refine z_i2l C dL_restore_7 ?_
    refine z_last C ((pC_out hap).trans ho) (by unfold vp_in; decide) dL_restore_8 (pC E (hup h0 oa (oO E (vp_updL o (0 : Int32).toNatClampNeg q.2.2.toInt64))) x q.2.1) (pC_hup hap) ?_
    refine z_goto C 18 dL_restore_9 (by decide) ?_
    refine z_iconst C (0 : Int32) dL_restore_18 (by decide) ?_
    exact z_catchR C (Nat.le_refl _) (Nat.le_refl _) dL_restore_19 rfl
  · replace hf := iN hne hf
    by_cases e0 : q.1 = 3
    · replace hf := ip e0 hf
      obtain rfl := Option.some.inj hf
      rw [e0, show exN (3 : Int32) = "java/lang/IndexOutOfBoundsException" by decide +kernel]
      refine z_catch1 C htab (0, 9, 12, 28) _ rfl (by decide) (by decide) kl_L_28 (by decide +kernel) (fun qa => ?_)
      refine z_astore_n C dL_restore_12 (by decide) rfl ?_
      refine z_iconst C (1 : Int32) dL_restore_13 (by decide) ?_
      refine z_heap (h' := pC E (hup h0 oa (oO E o)) x q.2.1) (by rw [hup_same ho]) ?_
      exact z_catchR C (Nat.le_refl _) (Nat.le_refl _) dL_restore_14 rfl
    · replace hf := iN e0 hf
      by_cases e1 : q.1 = 2
      · replace hf := ip e1 hf
        obtain rfl := Option.some.inj hf
        rw [e1, show exN (2 : Int32) = "java/lang/IllegalStateException" by decide +kernel]
        refine z_catch2 (nm := "java/lang/IndexOutOfBoundsException") C htab (0, 9, 12, 28) (0, 9, 15, 15) _ rfl (by decide) kl_L_28 (by decide +kernel) (by decide) (by decide) kl_L_15 (by decide +kernel) (fun qa => ?_)
        refine z_astore_n C dL_restore_15 (by decide) rfl ?_
        refine z_iconst C (2 : Int32) dL_restore_16 (by decide) ?_
        refine z_heap (h' := pC E (hup h0 oa (oO E o)) x q.2.1) (by rw [hup_same ho]) ?_
        exact z_catchR C (Nat.le_refl _) (Nat.le_refl _) dL_restore_17 rfl
      · replace hf := iN e1 hf
        cases hf
