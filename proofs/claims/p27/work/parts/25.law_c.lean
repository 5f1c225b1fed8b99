/-! THE LAW ITSELF: a cell of the script, the loop -/
def f_L_cell (L : Nat) (sc : Nat → Int32) (k : Int32) : Option Int32 :=
  if nI L ≤ k then some ((((15520091 : Int32) * (k + (3 : Int32))) + (12011 : Int32)) &&& (2147483647 : Int32)) else chk (inB k L) (some (sc k.toNatClampNeg &&& (2147483647 : Int32)))
def zSc (E : zE) (b L : Nat) (sc : Nat → Int32) (U : State) : Prop := va_X b L sc U U.heap ∧ b < U.heap.size ∧ ¬ zA E b
def zMs (E : zE) (l : Launch) (h : Hp) (b L : Nat) (sc : Nat → Int32) (k r : Int32) : Prop :=
  Met l yL_cell (Cond.code yL_cell cL_cell 2 (some .int) :: UU) (zR 1) (va_Pc [.ref b, .int k] (fun U => zPre E h U ∧ zSc E b L sc U)) (zQ E (some (.int r)) h) 0 0 (zA E)
theorem zSc.blind (E : zE) (av : List Value) (h : Hp) (b L : Nat) (sc : Nat → Int32) : FrameBlind (va_Pc av (fun U => zPre E h U ∧ zSc E b L sc U)) := by
  intro a U g mk hp
  exact ⟨hp.1, (zPre.blind E av h a U g mk ⟨hp.1, hp.2.1⟩).2, va_X.moved (u := U) (U := U.calling g mk a) (Vm.Alike.refl _) hp.2.2.1, hp.2.2.2⟩
theorem zMs_of {E : zE} {l : Launch} {h : Hp} {b L : Nat} {sc : Nat → Int32} {k r : Int32}
    (body : ∀ X : zX, xl X = l → zC E X RL cL_cell 2 (some .int) 1 → zG9 E X b L sc → zW E X 2 0 0 (MQ (xb X) (zQ E (some (.int r)) h) (xa X) (xs X) 0 0 (zA E)) 0 h [(0, .ref b), (1, .int k)] []) : zMs E l h b L sc k r := by
  refine Met.ofW (cc := cL_cell) (maxL := 2) (ret := some .int) (by decide +kernel) rfl ?_
  intro p e s m args below meth c s₁ B hml hv
  obtain ⟨rfl, ⟨hN, hP, hK, hS0⟩, hG⟩ := hv
  have hts0 := atoms_spec (ws := Cond.code yL_cell cL_cell 2 (some .int) :: UU) B.pre
  have hts : ∀ w ∈ UU, w.before ([Value.ref b, .int k] : List Value).toArray s = true := fun w hw => hts0 w (List.mem_cons_of_mem _ hw)
  have hown : s.vm.findClass yL_cell.cls = some m.cls := findClass_of_methodNamed B.named
  have hl := lv_entry [Value.ref b, .int k] (n := 2) (Nat.le_of_ble_eq_true rfl)
  rw [lg_entry_eq]
  exact body (p, l, e, (headSpec (Cond.code yL_cell cL_cell 2 (some .int) :: UU) (zR 1)).room, s, m, ([Value.ref b, .int k] : List Value).toArray, below, meth, c) rfl ⟨B.exec, B.bytes, hml, hown, hts, B.returns, B.notSynchronized, hN, hK, hS0, Nat.le_refl _, Nat.le_refl _⟩ hG s.heap [] _ hP va_S.rf hl
theorem ct_L_cell {E : zE} {l : Launch} {h : Hp} {b L : Nat} {sc : Nat → Int32} {k r : Int32} (hf : f_L_cell L sc k = some r) : zMs E l h b L sc k r := by
  refine zMs_of (fun X hX C G => ?_)
  subst hX
  unfold f_L_cell at hf
  refine z_iload_n C dL_cell_0 1 rfl ?_
  refine z_aload_n C dL_cell_1 0 rfl ?_
  refine z_slen C G dL_cell_2 ?_
  refine z_icmp_ge C 12 dL_cell_3 (by decide) (fun q => ?_) (fun q => ?_)
  · rw [if_pos q] at hf
    obtain rfl := Option.some.inj hf
    refine z_ldc C (15520091 : Int32) dL_cell_12 cn_L_137 ?_
    refine z_iload_n C dL_cell_14 1 rfl ?_
    refine z_iconst C (3 : Int32) dL_cell_15 (by decide) ?_
    refine z_iadd C dL_cell_16 ?_
    refine z_imul C dL_cell_17 ?_
    refine z_sipush C (12011 : Int32) dL_cell_18 (by decide) ?_
    refine z_iadd C dL_cell_21 ?_
    refine z_ldc C (2147483647 : Int32) dL_cell_22 cn_L_138 ?_
    refine z_iand C dL_cell_24 ?_
    exact z_ireturn C dL_cell_25
  · rw [if_neg q] at hf
    obtain ⟨hin, hf⟩ := chk_some hf
    obtain rfl := Option.some.inj hf
    refine z_aload_n C dL_cell_6 0 rfl ?_
    refine z_iload_n C dL_cell_7 1 rfl ?_
    refine z_sld C G hin dL_cell_8 ?_
    refine z_goto C 22 dL_cell_9 (by decide) ?_
    refine z_ldc C (2147483647 : Int32) dL_cell_22 cn_L_138 ?_
    refine z_iand C dL_cell_24 ?_
    exact z_ireturn C dL_cell_25
theorem z_callCell {E : zE} {X : zX} {own : String} {cc : ByteArray} {nL d k n : Nat} {ret : Option FieldType} {Q : State → Prop} {pc : Nat} {h : Hp} {lv : List (Nat × Value)} {st : List Value} (C : zC E X own cc nL ret d) {b L index : Nat} {sc : Nat → Int32} {r : Int32} (G : zG9 E X b L sc) (pc1 : Nat) (kx : Int32) (rest : List Value) (hM : zMs E (xl X) h b L sc kx r)
    (hcode : Cond.code yL_cell cL_cell 2 (some .int) ∈ UU) (hlink : Cond.methodLink own index yL_cell ∈ UU) (hstat : Cond.static yL_cell ∈ UU) (hini : Cond.initialized yL_cell.cls ∈ UU)
    (hd : yL_cell.cls ≠ "java/lang/invoke/MethodHandle" ∧ yL_cell.cls ≠ "java/lang/invoke/VarHandle" ∧ (parseMethodDescriptor yL_cell.desc).map (fun d => d.parameters.length) = some 2) (hd1 : 1 + 1 ≤ d) (hmx : 2 ≤ 29) (hst : st = .int kx :: .ref b :: rest) (hcat : (rest.map fun v => v.category).sum ≤ 8) (hk : k ≤ (xR X).cells ∧ n ≤ (xR X).slots) (hpc : pc + 3 = pc1) (hdg : decode cc pc = .ok (.invokestatic index, 3))
    (kk : zW E X nL k n Q pc1 h lv (.int r :: rest)) : zW E X nL k n Q pc h lv st := by
  subst hst
  refine z_run (av := [.ref b, .int kx]) (rest := rest) (v := some (.int r)) (h1 := h) hpc (fun H locs ls hP hS hl => ?_) kk
  have hGH : ∀ U : State, U.heap = H → (xs X).WarmedH U.vm → zSc E b L sc U := fun U hU hW => by
    refine ⟨?_, ?_, G.2.2⟩
    · rw [hU]
      exact va_X.moved hW.alike (va_X.kept G.1 (hS.2.1 b G.2.1 G.2.2))
    · rw [hU]
      exact Nat.lt_of_lt_of_le G.2.1 hS.1
  exact va_runS (As := [.ref b, .int kx]) (rest := rest) C.fix hM ⟨callB_of 2 C.2.2.2.2.1 (UU_cons hcode) rfl rfl rfl (C.2.2.2.2.1 _ hini) (C.2.2.2.2.1 _ hlink) hd (C.room hd1 hmx), C.2.2.2.2.1 _ hstat⟩
    ⟨zSc.blind E _ h b L sc, fun U hU hW => ⟨rfl, C.pre hP hS U hU hW, hGH U hU hW⟩⟩ rfl rfl hl.1 rfl (lv_room hcat) hdg hk
/-! the law: exceptions at most 55637 -/
def f_L_law_b163 (n : Nat) (L : Nat) (sc : Nat → Int32) (x3 : Int32) (K34 : CS → CS → Int32 → Int32 → Option (CS × CS × Int32))  (c : CS) (d : CS) (x5 : Int32) (s0 : Int32) : Option (CS × CS × Int32) :=
  K34 c d s0 (x5 + 1)
set_option maxRecDepth 100000 in
set_option maxHeartbeats 4000000 in
theorem w_L_law_b163 {E : zE} {X : zX} {h0 : Hp} {x y : Nat} {b : Nat} {Q : State → Prop} {n : Nat} {L : Nat} {sc : Nat → Int32} {x3 : Int32} {K34 : CS → CS → Int32 → Int32 → Option (CS × CS × Int32)} {fu : Nat} (C : zC E X RL cL_law 8 ret 19) (hap : x + 223 ≤ y ∨ y + 223 ≤ x) (hst : (xl X).stackTraces = false) (hR1 : 56083 ≤ (xR X).cells) (hR2 : 343228 ≤ (xR X).slots) (G9 : zG9 E X b L sc) (hEnd : ∀ (k n9 : Nat) (h : Hp) (lv : List (Nat × Value)), k ≤ 56083 → n9 ≤ 343228 → zW E X 8 k n9 Q 173 h lv [.int 1]) (hK34 : ∀ (c : CS) (d : CS) (x4 : Int32) (x5 : Int32) (r : (CS × CS × Int32)) (k n9 : Nat), (k + (fu * 1357 + 0) ≤ 56083 ∧ n9 + (fu * 8142 + 0) ≤ 343228) → K34 c d x4 x5 = some r → zW E X 8 k n9 Q 34 (pC E (pC E h0 x c) y d) [(0, .ref b), (1, .ref x), (2, .ref y), (3, .int x3), (4, .int x4), (5, .int x5)] []) {c : CS} {d : CS} {x5 : Int32} {s0 : Int32} {r : (CS × CS × Int32)} {k n9 : Nat} (hk : (k + (fu * 1357 + 0) ≤ 56083 ∧ n9 + (fu * 8142 + 0) ≤ 343228)) (hf : f_L_law_b163 n L sc x3 K34 c d x5 s0 = some r) : zW E X 8 k n9 Q 163 (pC E (pC E h0 x c) y d) [(0, .ref b), (1, .ref x), (2, .ref y), (3, .int x3), (5, .int x5)] [.int s0] := by
  obtain ⟨hk1, hk2⟩ := hk
  unfold f_L_law_b163 at hf
  refine z_istore (lv' := [(4, .int s0), (0, .ref b), (1, .ref x), (2, .ref y), (3, .int x3), (5, .int x5)]) C dL_law_163 (by decide) rfl ?_
  refine z_iinc (lv' := [(5, .int (x5 + 1)), (4, .int s0), (0, .ref b), (1, .ref x), (2, .ref y), (3, .int x3)]) C dL_law_165 5 (x5 + 1) rfl rfl (by decide) rfl ?_
  refine z_goto C 34 dL_law_168 (by decide) ?_
  exact z_sub [2, 3, 4, 5, 1, 0] rfl (hK34 _ _ _ _ _ _ _ ⟨by omega, by omega⟩ hf)
def f_L_law_b162 (n : Nat) (L : Nat) (sc : Nat → Int32) (x3 : Int32) (K34 : CS → CS → Int32 → Int32 → Option (CS × CS × Int32))  (c : CS) (d : CS) (x5 : Int32) : Option (CS × CS × Int32) :=
  f_L_law_b163 n L sc x3 K34 c d x5 (0 : Int32)
set_option maxRecDepth 100000 in
set_option maxHeartbeats 4000000 in
theorem w_L_law_b162 {E : zE} {X : zX} {h0 : Hp} {x y : Nat} {b : Nat} {Q : State → Prop} {n : Nat} {L : Nat} {sc : Nat → Int32} {x3 : Int32} {K34 : CS → CS → Int32 → Int32 → Option (CS × CS × Int32)} {fu : Nat} (C : zC E X RL cL_law 8 ret 19) (hap : x + 223 ≤ y ∨ y + 223 ≤ x) (hst : (xl X).stackTraces = false) (hR1 : 56083 ≤ (xR X).cells) (hR2 : 343228 ≤ (xR X).slots) (G9 : zG9 E X b L sc) (hEnd : ∀ (k n9 : Nat) (h : Hp) (lv : List (Nat × Value)), k ≤ 56083 → n9 ≤ 343228 → zW E X 8 k n9 Q 173 h lv [.int 1]) (hK34 : ∀ (c : CS) (d : CS) (x4 : Int32) (x5 : Int32) (r : (CS × CS × Int32)) (k n9 : Nat), (k + (fu * 1357 + 0) ≤ 56083 ∧ n9 + (fu * 8142 + 0) ≤ 343228) → K34 c d x4 x5 = some r → zW E X 8 k n9 Q 34 (pC E (pC E h0 x c) y d) [(0, .ref b), (1, .ref x), (2, .ref y), (3, .int x3), (4, .int x4), (5, .int x5)] []) {c : CS} {d : CS} {x5 : Int32} {r : (CS × CS × Int32)} {k n9 : Nat} (hk : (k + (fu * 1357 + 0) ≤ 56083 ∧ n9 + (fu * 8142 + 0) ≤ 343228)) (hf : f_L_law_b162 n L sc x3 K34 c d x5 = some r) : zW E X 8 k n9 Q 162 (pC E (pC E h0 x c) y d) [(0, .ref b), (1, .ref x), (2, .ref y), (3, .int x3), (5, .int x5)] [] := by
  obtain ⟨hk1, hk2⟩ := hk
  unfold f_L_law_b162 at hf
  refine z_iconst C (0 : Int32) dL_law_162 (by decide) ?_
  exact z_sub [0, 1, 2, 3, 4] rfl (w_L_law_b163 C hap hst hR1 hR2 G9 hEnd hK34 ⟨by omega, by omega⟩ hf)
def f_L_law_b145 (n : Nat) (L : Nat) (sc : Nat → Int32) (x3 : Int32) (K34 : CS → CS → Int32 → Int32 → Option (CS × CS × Int32))  (c : CS) (d : CS) (x5 : Int32) (x6 : Int32) : Option (CS × CS × Int32) :=
  chk (¬ (7 : Int32) = 0) ((f_L_lays n c d (x6 / (7 : Int32))).bind (fun q152 => if q152.2.2 = 0 then (f_L_law_b162 n L sc x3 K34 q152.1 q152.2.1 x5) else (f_L_law_b163 n L sc x3 K34 q152.1 q152.2.1 x5 (1 : Int32))))
set_option maxRecDepth 100000 in
set_option maxHeartbeats 4000000 in
theorem w_L_law_b145 {E : zE} {X : zX} {h0 : Hp} {x y : Nat} {b : Nat} {Q : State → Prop} {n : Nat} {L : Nat} {sc : Nat → Int32} {x3 : Int32} {K34 : CS → CS → Int32 → Int32 → Option (CS × CS × Int32)} {fu : Nat} (C : zC E X RL cL_law 8 ret 19) (hap : x + 223 ≤ y ∨ y + 223 ≤ x) (hst : (xl X).stackTraces = false) (hR1 : 56083 ≤ (xR X).cells) (hR2 : 343228 ≤ (xR X).slots) (G9 : zG9 E X b L sc) (hEnd : ∀ (k n9 : Nat) (h : Hp) (lv : List (Nat × Value)), k ≤ 56083 → n9 ≤ 343228 → zW E X 8 k n9 Q 173 h lv [.int 1]) (hK34 : ∀ (c : CS) (d : CS) (x4 : Int32) (x5 : Int32) (r : (CS × CS × Int32)) (k n9 : Nat), (k + (fu * 1357 + 0) ≤ 56083 ∧ n9 + (fu * 8142 + 0) ≤ 343228) → K34 c d x4 x5 = some r → zW E X 8 k n9 Q 34 (pC E (pC E h0 x c) y d) [(0, .ref b), (1, .ref x), (2, .ref y), (3, .int x3), (4, .int x4), (5, .int x5)] []) {c : CS} {d : CS} {x5 : Int32} {x6 : Int32} {r : (CS × CS × Int32)} {k n9 : Nat} (hk : (k + (fu * 1357 + 32) ≤ 56083 ∧ n9 + (fu * 8142 + 192) ≤ 343228)) (hf : f_L_law_b145 n L sc x3 K34 c d x5 x6 = some r) : zW E X 8 k n9 Q 145 (pC E (pC E h0 x c) y d) [(0, .ref b), (1, .ref x), (2, .ref y), (3, .int x3), (5, .int x5), (6, .int x6)] [] := by
  obtain ⟨hk1, hk2⟩ := hk
  unfold f_L_law_b145 at hf
  refine z_aload_n C dL_law_145 1 rfl ?_
  refine z_aload_n C dL_law_146 2 rfl ?_
  refine z_iload C dL_law_147 5 rfl ?_
  refine z_bipush C (7 : Int32) dL_law_149 (by decide) ?_
  obtain ⟨c151, hf⟩ := chk_some hf
  refine z_idiv C dL_law_151 c151 ?_
  obtain ⟨q152, hq152, hf⟩ := bd_some hf
  refine z_callK (K := 32) C 155 [.ref x, .ref y, .int (x6 / (7 : Int32))] [] (ct_L_lays hap hst hq152) co_L_lays ml_L_192 st_L_lays ini_L ⟨by decide +kernel, by decide +kernel, by show _ = some 3; decide +kernel⟩ (by decide) (by decide) rfl (Nat.le_of_ble_eq_true rfl) ⟨by omega, by omega⟩ rfl dL_law_152 ?_
  refine z_if_eq C 162 dL_law_155 (by decide) (fun c155 => ?_) (fun c155 => ?_)
  · replace hf := ip c155 hf
    exact z_sub [0, 1, 2, 3, 4] rfl (w_L_law_b162 C hap hst hR1 hR2 G9 hEnd hK34 ⟨by omega, by omega⟩ hf)
  · replace hf := iN c155 hf
    refine z_iconst C (1 : Int32) dL_law_158 (by decide) ?_
    refine z_goto C 163 dL_law_159 (by decide) ?_
    exact z_sub [0, 1, 2, 3, 4] rfl (w_L_law_b163 C hap hst hR1 hR2 G9 hEnd hK34 ⟨by omega, by omega⟩ hf)
def f_L_law_h34 (n : Nat) (L : Nat) (sc : Nat → Int32) (x3 : Int32)  (K34 : CS → CS → Int32 → Int32 → Option (CS × CS × Int32)) (c : CS) (d : CS) (x4 : Int32) (x5 : Int32) : Option (CS × CS × Int32) :=
  if x3 ≤ x5 then (chk (x4 = 1) (some (c, d, x4))) else (if x4 = 0 then (chk (x4 = 1) (some (c, d, x4))) else ((f_L_cell L sc ((1 : Int32) + x5)).bind (fun q50 => (f_L_act n c q50).bind (fun q58 => chk (¬ (100000 : Int32) = 0) ((f_L_refuses n d (jrem q50 (100000 : Int32))).bind (fun q69 => if q69.2 = 0 then (f_L_law_b162 n L sc x3 K34 q58.1 q69.1 x5) else ((f_L_act n q69.1 q50).bind (fun q78 => if q78.2 = q58.2 then (chk (¬ (1000 : Int32) = 0) ((f_L_refuses n q78.1 (jrem q50 (1000 : Int32))).bind (fun q93 => if q93.2 = 0 then (f_L_law_b162 n L sc x3 K34 q58.1 q93.1 x5) else (chk (¬ (5000 : Int32) = 0) ((f_L_alike n q58.1 q93.1 (jrem q50 (5000 : Int32))).bind (fun q107 => if q107.2.2 = 0 then (f_L_law_b162 n L sc x3 K34 q107.1 q107.2.1 x5) else (chk (¬ (2 : Int32) = 0) (if (jrem x5 (2 : Int32)) = 0 then (chk (¬ (3 : Int32) = 0) ((f_L_holds n q107.1 (q50 / (3 : Int32))).bind (fun q125 => if q125.2 = 0 then (f_L_law_b162 n L sc x3 K34 q125.1 q107.2.1 x5) else (f_L_law_b145 n L sc x3 K34 q125.1 q107.2.1 x5 q50)))) else (chk (¬ (3 : Int32) = 0) ((f_L_holds n q107.2.1 (q50 / (3 : Int32))).bind (fun q139 => if q139.2 = 0 then (f_L_law_b162 n L sc x3 K34 q107.1 q139.1 x5) else (f_L_law_b145 n L sc x3 K34 q107.1 q139.1 x5 q50)))))))))))) else (f_L_law_b162 n L sc x3 K34 q58.1 q78.1 x5)))))))))
set_option maxRecDepth 100000 in
set_option maxHeartbeats 4000000 in
theorem w_L_law_h34 {E : zE} {X : zX} {h0 : Hp} {x y : Nat} {b : Nat} {Q : State → Prop} {n : Nat} {L : Nat} {sc : Nat → Int32} {x3 : Int32}  (C : zC E X RL cL_law 8 ret 19) (hap : x + 223 ≤ y ∨ y + 223 ≤ x) (hst : (xl X).stackTraces = false) (hR1 : 56083 ≤ (xR X).cells) (hR2 : 343228 ≤ (xR X).slots) (G9 : zG9 E X b L sc) (hEnd : ∀ (k n9 : Nat) (h : Hp) (lv : List (Nat × Value)), k ≤ 56083 → n9 ≤ 343228 → zW E X 8 k n9 Q 173 h lv [.int 1])  : ∀ (fu : Nat) (c : CS) (d : CS) (x4 : Int32) (x5 : Int32) (r : (CS × CS × Int32)), lo4 (f_L_law_h34 n L sc x3) fu c d x4 x5 = some r → ∀ k n9 : Nat, (k + (fu * 1357 + 0) ≤ 56083 ∧ n9 + (fu * 8142 + 0) ≤ 343228) → zW E X 8 k n9 Q 34 (pC E (pC E h0 x c) y d) [(0, .ref b), (1, .ref x), (2, .ref y), (3, .int x3), (4, .int x4), (5, .int x5)] [] := by
  refine lo4_indq (Z := fun (fu : Nat) (c : CS) (d : CS) (x4 : Int32) (x5 : Int32) (r : (CS × CS × Int32)) => ∀ k n9 : Nat, (k + (fu * 1357 + 0) ≤ 56083 ∧ n9 + (fu * 8142 + 0) ≤ 343228) → zW E X 8 k n9 Q 34 (pC E (pC E h0 x c) y d) [(0, .ref b), (1, .ref x), (2, .ref y), (3, .int x3), (4, .int x4), (5, .int x5)] []) ?_
  intro fu K34 hK0 c d x4 x5 r hf k n9 hk
  have hK34 : ∀ (c : CS) (d : CS) (x4 : Int32) (x5 : Int32) (r : (CS × CS × Int32)) (k n9 : Nat), (k + (fu * 1357 + 0) ≤ 56083 ∧ n9 + (fu * 8142 + 0) ≤ 343228) → K34 c d x4 x5 = some r → zW E X 8 k n9 Q 34 (pC E (pC E h0 x c) y d) [(0, .ref b), (1, .ref x), (2, .ref y), (3, .int x3), (4, .int x4), (5, .int x5)] [] := fun c d x4 x5 r k n9 hk hq => hK0 c d x4 x5 r hq k n9 hk
  clear hK0
  obtain ⟨hk1, hk2⟩ := hk
  unfold f_L_law_h34 at hf
  refine z_iload C dL_law_34 5 rfl ?_
  refine z_iload_n C dL_law_36 3 rfl ?_
  refine z_icmp_ge C 171 dL_law_37 (by decide) (fun c37 => ?_) (fun c37 => ?_)
  · replace hf := ip c37 hf
    refine z_iload C dL_law_171 4 rfl ?_
    obtain ⟨c173, hf⟩ := chk_some hf
    refine z_stk (congrArg (fun z => Value.int z :: []) c173) ?_
    exact hEnd _ _ _ _ (by omega) (by omega)
  · replace hf := iN c37 hf
    refine z_iload C dL_law_40 4 rfl ?_
    refine z_if_eq C 171 dL_law_42 (by decide) (fun c42 => ?_) (fun c42 => ?_)
    · replace hf := ip c42 hf
      refine z_iload C dL_law_171 4 rfl ?_
      obtain ⟨c173, hf⟩ := chk_some hf
      refine z_stk (congrArg (fun z => Value.int z :: []) c173) ?_
      exact hEnd _ _ _ _ (by omega) (by omega)
    · replace hf := iN c42 hf
      refine z_aload_n C dL_law_45 0 rfl ?_
      refine z_iconst C (1 : Int32) dL_law_46 (by decide) ?_
      refine z_iload C dL_law_47 5 rfl ?_
      refine z_iadd C dL_law_49 ?_
      obtain ⟨q50, hq50, hf⟩ := bd_some hf
      refine z_callCell C G9 53 ((1 : Int32) + x5) [] (ct_L_cell hq50) co_L_cell ml_L_173 st_L_cell ini_L ⟨by decide +kernel, by decide +kernel, by show _ = some 2; decide +kernel⟩ (by decide) (by decide) rfl (Nat.le_of_ble_eq_true rfl) ⟨by omega, by omega⟩ rfl dL_law_50 ?_
      refine z_istore (lv' := [(6, .int q50), (0, .ref b), (1, .ref x), (2, .ref y), (3, .int x3), (4, .int x4), (5, .int x5)]) C dL_law_53 (by decide) rfl ?_
      refine z_aload_n C dL_law_55 2 rfl ?_
      refine z_iload C dL_law_56 0 rfl ?_
      obtain ⟨q58, hq58, hf⟩ := bd_some hf
      refine z_heap (pC_sw hap) ?_
      refine z_callK (K := 88) C 61 [.ref x, .int q50] [] (ct_L_act hst hq58) co_L_act ml_L_177 st_L_act ini_L ⟨by decide +kernel, by decide +kernel, by show _ = some 2; decide +kernel⟩ (by decide) (by decide) rfl (Nat.le_of_ble_eq_true rfl) ⟨by omega, by omega⟩ rfl dL_law_58 ?_
      refine z_heap (pC_sw hap.symm) ?_
      refine z_istore (lv' := [(7, .int q58.2), (6, .int q50), (0, .ref b), (1, .ref x), (2, .ref y), (3, .int x3), (4, .int x4), (5, .int x5)]) C dL_law_61 (by decide) rfl ?_
      refine z_aload_n C dL_law_63 4 rfl ?_
      refine z_iload C dL_law_64 1 rfl ?_
      refine z_ldc C (100000 : Int32) dL_law_66 cn_L_180 ?_
      obtain ⟨c68, hf⟩ := chk_some hf
      refine z_irem C dL_law_68 c68 ?_
      obtain ⟨q69, hq69, hf⟩ := bd_some hf
      refine z_callK (K := 29) C 72 [.ref y, .int (jrem q50 (100000 : Int32))] [] (ct_L_refuses hst hq69) co_L_refuses ml_L_181 st_L_refuses ini_L ⟨by decide +kernel, by decide +kernel, by show _ = some 2; decide +kernel⟩ (by decide) (by decide) rfl (Nat.le_of_ble_eq_true rfl) ⟨by omega, by omega⟩ rfl dL_law_69 ?_
      refine z_if_eq C 162 dL_law_72 (by decide) (fun c72 => ?_) (fun c72 => ?_)
      · replace hf := ip c72 hf
        exact z_sub [2, 3, 4, 5, 7] rfl (w_L_law_b162 C hap hst hR1 hR2 G9 hEnd hK34 ⟨by omega, by omega⟩ hf)
      · replace hf := iN c72 hf
        refine z_aload_n C dL_law_75 4 rfl ?_
        refine z_iload C dL_law_76 1 rfl ?_
        obtain ⟨q78, hq78, hf⟩ := bd_some hf
        refine z_callK (K := 88) C 81 [.ref y, .int q50] [] (ct_L_act hst hq78) co_L_act ml_L_177 st_L_act ini_L ⟨by decide +kernel, by decide +kernel, by show _ = some 2; decide +kernel⟩ (by decide) (by decide) rfl (Nat.le_of_ble_eq_true rfl) ⟨by omega, by omega⟩ rfl dL_law_78 ?_
        refine z_iload C dL_law_81 0 rfl ?_
        refine z_icmp_ne C 162 dL_law_83 (by decide) (fun c83 => ?_) (fun c83 => ?_)
        · replace hf := iN c83 hf
          exact z_sub [2, 3, 4, 5, 7] rfl (w_L_law_b162 C hap hst hR1 hR2 G9 hEnd hK34 ⟨by omega, by omega⟩ hf)
        · replace hf := ip c83 hf
          refine z_aload_n C dL_law_86 4 rfl ?_
          refine z_iload C dL_law_87 1 rfl ?_
          refine z_sipush C (1000 : Int32) dL_law_89 (by decide) ?_
          obtain ⟨c92, hf⟩ := chk_some hf
          refine z_irem C dL_law_92 c92 ?_
          obtain ⟨q93, hq93, hf⟩ := bd_some hf
          refine z_callK (K := 29) C 96 [.ref y, .int (jrem q50 (1000 : Int32))] [] (ct_L_refuses hst hq93) co_L_refuses ml_L_181 st_L_refuses ini_L ⟨by decide +kernel, by decide +kernel, by show _ = some 2; decide +kernel⟩ (by decide) (by decide) rfl (Nat.le_of_ble_eq_true rfl) ⟨by omega, by omega⟩ rfl dL_law_93 ?_
          refine z_if_eq C 162 dL_law_96 (by decide) (fun c96 => ?_) (fun c96 => ?_)
          · replace hf := ip c96 hf
            exact z_sub [2, 3, 4, 5, 7] rfl (w_L_law_b162 C hap hst hR1 hR2 G9 hEnd hK34 ⟨by omega, by omega⟩ hf)
          · replace hf := iN c96 hf
            refine z_aload_n C dL_law_99 3 rfl ?_
            refine z_aload_n C dL_law_100 4 rfl ?_
            refine z_iload C dL_law_101 1 rfl ?_
            refine z_sipush C (5000 : Int32) dL_law_103 (by decide) ?_
            obtain ⟨c106, hf⟩ := chk_some hf
            refine z_irem C dL_law_106 c106 ?_
            obtain ⟨q107, hq107, hf⟩ := bd_some hf
            refine z_callK (K := 350) C 110 [.ref x, .ref y, .int (jrem q50 (5000 : Int32))] [] (ct_L_alike hap hst hq107) co_L_alike ml_L_185 st_L_alike ini_L ⟨by decide +kernel, by decide +kernel, by show _ = some 3; decide +kernel⟩ (by decide) (by decide) rfl (Nat.le_of_ble_eq_true rfl) ⟨by omega, by omega⟩ rfl dL_law_107 ?_
            refine z_if_eq C 162 dL_law_110 (by decide) (fun c110 => ?_) (fun c110 => ?_)
            · replace hf := ip c110 hf
              exact z_sub [2, 3, 4, 5, 7] rfl (w_L_law_b162 C hap hst hR1 hR2 G9 hEnd hK34 ⟨by omega, by omega⟩ hf)
            · replace hf := iN c110 hf
              refine z_iload C dL_law_113 7 rfl ?_
              refine z_iconst C (2 : Int32) dL_law_115 (by decide) ?_
              obtain ⟨c116, hf⟩ := chk_some hf
              refine z_irem C dL_law_116 c116 ?_
              refine z_if_ne C 134 dL_law_117 (by decide) (fun c117 => ?_) (fun c117 => ?_)
              · replace hf := iN c117 hf
                refine z_aload_n C dL_law_134 4 rfl ?_
                refine z_iload C dL_law_135 1 rfl ?_
                refine z_iconst C (3 : Int32) dL_law_137 (by decide) ?_
                obtain ⟨c138, hf⟩ := chk_some hf
                refine z_idiv C dL_law_138 c138 ?_
                obtain ⟨q139, hq139, hf⟩ := bd_some hf
                refine z_callK (K := 741) C 142 [.ref y, .int (q50 / (3 : Int32))] [] (ct_L_holds hst hq139) co_L_holds ml_L_189 st_L_holds ini_L ⟨by decide +kernel, by decide +kernel, by show _ = some 2; decide +kernel⟩ (by decide) (by decide) rfl (Nat.le_of_ble_eq_true rfl) ⟨by omega, by omega⟩ rfl dL_law_139 ?_
                refine z_if_eq C 162 dL_law_142 (by decide) (fun c142 => ?_) (fun c142 => ?_)
                · replace hf := ip c142 hf
                  exact z_sub [2, 3, 4, 5, 7] rfl (w_L_law_b162 C hap hst hR1 hR2 G9 hEnd hK34 ⟨by omega, by omega⟩ hf)
                · replace hf := iN c142 hf
                  exact z_sub [2, 3, 4, 5, 7, 1] rfl (w_L_law_b145 C hap hst hR1 hR2 G9 hEnd hK34 ⟨by omega, by omega⟩ hf)
              · replace hf := ip c117 hf
                refine z_aload_n C dL_law_120 3 rfl ?_
                refine z_iload C dL_law_121 1 rfl ?_
                refine z_iconst C (3 : Int32) dL_law_123 (by decide) ?_
                obtain ⟨c124, hf⟩ := chk_some hf
                refine z_idiv C dL_law_124 c124 ?_
                obtain ⟨q125, hq125, hf⟩ := bd_some hf
                refine z_heap (pC_sw hap) ?_
                refine z_callK (K := 741) C 128 [.ref x, .int (q50 / (3 : Int32))] [] (ct_L_holds hst hq125) co_L_holds ml_L_189 st_L_holds ini_L ⟨by decide +kernel, by decide +kernel, by show _ = some 2; decide +kernel⟩ (by decide) (by decide) rfl (Nat.le_of_ble_eq_true rfl) ⟨by omega, by omega⟩ rfl dL_law_125 ?_
                refine z_heap (pC_sw hap.symm) ?_
                refine z_if_eq C 162 dL_law_128 (by decide) (fun c128 => ?_) (fun c128 => ?_)
                · replace hf := ip c128 hf
                  exact z_sub [2, 3, 4, 5, 7] rfl (w_L_law_b162 C hap hst hR1 hR2 G9 hEnd hK34 ⟨by omega, by omega⟩ hf)
                · replace hf := iN c128 hf
                  refine z_goto C 145 dL_law_131 (by decide) ?_
                  exact z_sub [2, 3, 4, 5, 7, 1] rfl (w_L_law_b145 C hap hst hR1 hR2 G9 hEnd hK34 ⟨by omega, by omega⟩ hf)
def f_L_law (n : Nat) (L : Nat) (sc : Nat → Int32) (c : CS) (d : CS) : Option (CS × CS × Int32) :=
  (f_L_cell L sc (0 : Int32)).bind (fun q20 => chk (¬ (27 : Int32) = 0) (lo4 (f_L_law_h34 n L sc ((14 : Int32) + (jrem q20 (27 : Int32)))) 41 c d (1 : Int32) (0 : Int32)))
set_option maxRecDepth 100000 in
set_option maxHeartbeats 4000000 in
theorem law_body {E : zE} {X : zX} {h0 : Hp} {x y : Nat} {b : Nat} {Q : State → Prop} {n : Nat} {L : Nat} {sc : Nat → Int32} {c : CS} {d : CS} {r : (CS × CS × Int32)} (C : zC E X RL cL_law 8 ret 19) (hap : x + 223 ≤ y ∨ y + 223 ≤ x) (hst : (xl X).stackTraces = false) (hR1 : 56083 ≤ (xR X).cells) (hR2 : 343228 ≤ (xR X).slots) (G9 : zG9 E X b L sc) (hEnd : ∀ (k n9 : Nat) (h : Hp) (lv : List (Nat × Value)), k ≤ 56083 → n9 ≤ 343228 → zW E X 8 k n9 Q 173 h lv [.int 1]) (hf : f_L_law n L sc c d = some r) : zW E X 8 446 9406 Q 16 (pC E (pC E h0 x c) y d) [(2, .ref y), (1, .ref x), (0, .ref b)] [] := by
  obtain ⟨k, hk0⟩ : ∃ k : Nat, k = 446 := ⟨_, rfl⟩
  obtain ⟨n9, hn0⟩ : ∃ n9 : Nat, n9 = 9406 := ⟨_, rfl⟩
  rw [← hk0, ← hn0]
  unfold f_L_law at hf
  refine z_bipush C (14 : Int32) dL_law_16 (by decide) ?_
  refine z_aload_n C dL_law_18 2 rfl ?_
  refine z_iconst C (0 : Int32) dL_law_19 (by decide) ?_
  obtain ⟨q20, hq20, hf⟩ := bd_some hf
  refine z_callCell C G9 23 (0 : Int32) [.int (14 : Int32)] (ct_L_cell hq20) co_L_cell ml_L_173 st_L_cell ini_L ⟨by decide +kernel, by decide +kernel, by show _ = some 2; decide +kernel⟩ (by decide) (by decide) rfl (Nat.le_of_ble_eq_true rfl) ⟨by omega, by omega⟩ rfl dL_law_20 ?_
  refine z_bipush C (27 : Int32) dL_law_23 (by decide) ?_
  obtain ⟨c25, hf⟩ := chk_some hf
  refine z_irem C dL_law_25 c25 ?_
  refine z_iadd C dL_law_26 ?_
  refine z_istore_n (lv' := [(3, .int ((14 : Int32) + (jrem q20 (27 : Int32)))), (2, .ref y), (1, .ref x), (0, .ref b)]) C dL_law_27 (by decide) rfl ?_
  refine z_iconst C (1 : Int32) dL_law_28 (by decide) ?_
  refine z_istore (lv' := [(4, .int (1 : Int32)), (3, .int ((14 : Int32) + (jrem q20 (27 : Int32)))), (2, .ref y), (1, .ref x), (0, .ref b)]) C dL_law_29 (by decide) rfl ?_
  refine z_iconst C (0 : Int32) dL_law_31 (by decide) ?_
  refine z_istore (lv' := [(5, .int (0 : Int32)), (4, .int (1 : Int32)), (3, .int ((14 : Int32) + (jrem q20 (27 : Int32)))), (2, .ref y), (1, .ref x), (0, .ref b)]) C dL_law_32 (by decide) rfl ?_
  exact z_sub [5, 4, 3, 2, 1, 0] rfl (w_L_law_h34 C hap hst hR1 hR2 G9 hEnd 41 _ _ _ _ _ hf _ _ ⟨by omega, by omega⟩)
